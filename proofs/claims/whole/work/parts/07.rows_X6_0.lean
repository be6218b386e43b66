theorem dX6_init_0 : decode cX6_init 0 = .ok (.aload_n 0, 1) := by decide +kernel
theorem dX6_init_1 : decode cX6_init 1 = .ok (.invokespecial 1, 3) := by decide +kernel
theorem dX6_init_4 : decode cX6_init 4 = .ok (.aload_n 0, 1) := by decide +kernel
theorem dX6_init_5 : decode cX6_init 5 = .ok (.bipush 7, 2) := by decide +kernel
theorem dX6_init_7 : decode cX6_init 7 = .ok (.newarray .int, 2) := by decide +kernel
theorem dX6_init_9 : decode cX6_init 9 = .ok (.putfield 7, 3) := by decide +kernel
theorem dX6_init_12 : decode cX6_init 12 = .ok (.aload_n 0, 1) := by decide +kernel
theorem dX6_init_13 : decode cX6_init 13 = .ok (.bipush 100, 2) := by decide +kernel
theorem dX6_init_15 : decode cX6_init 15 = .ok (.putfield 13, 3) := by decide +kernel
theorem dX6_init_18 : decode cX6_init 18 = .ok (.aload_n 0, 1) := by decide +kernel
theorem dX6_init_19 : decode cX6_init 19 = .ok (.bipush 20, 2) := by decide +kernel
theorem dX6_init_21 : decode cX6_init 21 = .ok (.newarray .int, 2) := by decide +kernel
theorem dX6_init_23 : decode cX6_init 23 = .ok (.putfield 17, 3) := by decide +kernel
theorem dX6_init_26 : decode cX6_init 26 = .ok (.aload_n 0, 1) := by decide +kernel
theorem dX6_init_27 : decode cX6_init 27 = .ok (.bipush 48, 2) := by decide +kernel
theorem dX6_init_29 : decode cX6_init 29 = .ok (.newarray .int, 2) := by decide +kernel
theorem dX6_init_31 : decode cX6_init 31 = .ok (.putfield 20, 3) := by decide +kernel
theorem dX6_init_34 : decode cX6_init 34 = .ok (.aload_n 0, 1) := by decide +kernel
theorem dX6_init_35 : decode cX6_init 35 = .ok (.bipush 72, 2) := by decide +kernel
theorem dX6_init_37 : decode cX6_init 37 = .ok (.newarray .int, 2) := by decide +kernel
theorem dX6_init_39 : decode cX6_init 39 = .ok (.putfield 23, 3) := by decide +kernel
theorem dX6_init_42 : decode cX6_init 42 = .ok (.aload_n 0, 1) := by decide +kernel
theorem dX6_init_43 : decode cX6_init 43 = .ok (.bipush 20, 2) := by decide +kernel
theorem dX6_init_45 : decode cX6_init 45 = .ok (.newarray .int, 2) := by decide +kernel
theorem dX6_init_47 : decode cX6_init 47 = .ok (.putfield 26, 3) := by decide +kernel
theorem dX6_init_50 : decode cX6_init 50 = .ok (.aload_n 0, 1) := by decide +kernel
theorem dX6_init_51 : decode cX6_init 51 = .ok (.sipush 200, 3) := by decide +kernel
theorem dX6_init_54 : decode cX6_init 54 = .ok (.newarray .int, 2) := by decide +kernel
theorem dX6_init_56 : decode cX6_init 56 = .ok (.putfield 29, 3) := by decide +kernel
theorem dX6_init_59 : decode cX6_init 59 = .ok (.aload_n 0, 1) := by decide +kernel
theorem dX6_init_60 : decode cX6_init 60 = .ok (.sipush 200, 3) := by decide +kernel
theorem dX6_init_63 : decode cX6_init 63 = .ok (.newarray .int, 2) := by decide +kernel
theorem dX6_init_65 : decode cX6_init 65 = .ok (.putfield 32, 3) := by decide +kernel
theorem dX6_init_68 : decode cX6_init 68 = .ok (.aload_n 0, 1) := by decide +kernel
theorem dX6_init_69 : decode cX6_init 69 = .ok (.sipush 200, 3) := by decide +kernel
theorem dX6_init_72 : decode cX6_init 72 = .ok (.newarray .int, 2) := by decide +kernel
theorem dX6_init_74 : decode cX6_init 74 = .ok (.putfield 35, 3) := by decide +kernel
theorem dX6_init_77 : decode cX6_init 77 = .ok (.aload_n 0, 1) := by decide +kernel
theorem dX6_init_78 : decode cX6_init 78 = .ok (.bipush 9, 2) := by decide +kernel
theorem dX6_init_80 : decode cX6_init 80 = .ok (.newarray .int, 2) := by decide +kernel
theorem dX6_init_82 : decode cX6_init 82 = .ok (.putfield 38, 3) := by decide +kernel
theorem dX6_init_85 : decode cX6_init 85 = .ok (.aload_n 0, 1) := by decide +kernel
theorem dX6_init_86 : decode cX6_init 86 = .ok (.bipush 40, 2) := by decide +kernel
theorem dX6_init_88 : decode cX6_init 88 = .ok (.newarray .int, 2) := by decide +kernel
theorem dX6_init_90 : decode cX6_init 90 = .ok (.putfield 41, 3) := by decide +kernel
theorem dX6_init_93 : decode cX6_init 93 = .ok (.aload_n 0, 1) := by decide +kernel
theorem dX6_init_94 : decode cX6_init 94 = .ok (.iconst 3, 1) := by decide +kernel
theorem dX6_init_95 : decode cX6_init 95 = .ok (.newarray .boolean, 2) := by decide +kernel
theorem dX6_init_97 : decode cX6_init 97 = .ok (.putfield 44, 3) := by decide +kernel
theorem dX6_init_100 : decode cX6_init 100 = .ok (.aload_n 0, 1) := by decide +kernel
theorem dX6_init_101 : decode cX6_init 101 = .ok (.iconst 3, 1) := by decide +kernel
theorem dX6_init_102 : decode cX6_init 102 = .ok (.newarray .int, 2) := by decide +kernel
theorem dX6_init_104 : decode cX6_init 104 = .ok (.putfield 48, 3) := by decide +kernel
theorem dX6_init_107 : decode cX6_init 107 = .ok (.aload_n 0, 1) := by decide +kernel
theorem dX6_init_108 : decode cX6_init 108 = .ok (.bipush 120, 2) := by decide +kernel
theorem dX6_init_110 : decode cX6_init 110 = .ok (.newarray .int, 2) := by decide +kernel
theorem dX6_init_112 : decode cX6_init 112 = .ok (.putfield 51, 3) := by decide +kernel
theorem dX6_init_115 : decode cX6_init 115 = .ok (.aload_n 0, 1) := by decide +kernel
theorem dX6_init_116 : decode cX6_init 116 = .ok (.bipush 20, 2) := by decide +kernel
theorem dX6_init_118 : decode cX6_init 118 = .ok (.newarray .int, 2) := by decide +kernel
theorem dX6_init_120 : decode cX6_init 120 = .ok (.putfield 54, 3) := by decide +kernel
theorem dX6_init_123 : decode cX6_init 123 = .ok (.aload_n 0, 1) := by decide +kernel
theorem dX6_init_124 : decode cX6_init 124 = .ok (.bipush (-9), 2) := by decide +kernel
theorem dX6_init_126 : decode cX6_init 126 = .ok (.putfield 57, 3) := by decide +kernel
theorem dX6_init_129 : decode cX6_init 129 = .ok (.return_, 1) := by decide +kernel
theorem dX6_in_0 : decode cX6_in 0 = .ok (.lload_n 0, 1) := by decide +kernel
theorem dX6_in_1 : decode cX6_in 1 = .ok (.lload_n 2, 1) := by decide +kernel
theorem dX6_in_2 : decode cX6_in 2 = .ok (.lcmp, 1) := by decide +kernel
theorem dX6_in_3 : decode cX6_in 3 = .ok (.ifCond .lt 14, 3) := by decide +kernel
theorem dX6_in_6 : decode cX6_in 6 = .ok (.lload_n 0, 1) := by decide +kernel
theorem dX6_in_7 : decode cX6_in 7 = .ok (.lload 4, 2) := by decide +kernel
theorem dX6_in_9 : decode cX6_in 9 = .ok (.lcmp, 1) := by decide +kernel
theorem dX6_in_10 : decode cX6_in 10 = .ok (.ifCond .gt 7, 3) := by decide +kernel
theorem dX6_in_13 : decode cX6_in 13 = .ok (.iconst 1, 1) := by decide +kernel
theorem dX6_in_14 : decode cX6_in 14 = .ok (.goto 4, 3) := by decide +kernel
theorem dX6_in_17 : decode cX6_in 17 = .ok (.iconst 0, 1) := by decide +kernel
theorem dX6_in_18 : decode cX6_in 18 = .ok (.ireturn, 1) := by decide +kernel
theorem dX6_common_0 : decode cX6_common 0 = .ok (.lload_n 0, 1) := by decide +kernel
theorem dX6_common_1 : decode cX6_common 1 = .ok (.lconst 0, 1) := by decide +kernel
theorem dX6_common_2 : decode cX6_common 2 = .ok (.lcmp, 1) := by decide +kernel
theorem dX6_common_3 : decode cX6_common 3 = .ok (.ifCond .ge 8, 3) := by decide +kernel
theorem dX6_common_6 : decode cX6_common 6 = .ok (.lload_n 0, 1) := by decide +kernel
theorem dX6_common_7 : decode cX6_common 7 = .ok (.lneg, 1) := by decide +kernel
theorem dX6_common_8 : decode cX6_common 8 = .ok (.goto 4, 3) := by decide +kernel
theorem dX6_common_11 : decode cX6_common 11 = .ok (.lload_n 0, 1) := by decide +kernel
theorem dX6_common_12 : decode cX6_common 12 = .ok (.lstore 4, 2) := by decide +kernel
theorem dX6_common_14 : decode cX6_common 14 = .ok (.lload_n 2, 1) := by decide +kernel
theorem dX6_common_15 : decode cX6_common 15 = .ok (.lconst 0, 1) := by decide +kernel
theorem dX6_common_16 : decode cX6_common 16 = .ok (.lcmp, 1) := by decide +kernel
theorem dX6_common_17 : decode cX6_common 17 = .ok (.ifCond .ge 8, 3) := by decide +kernel
theorem dX6_common_20 : decode cX6_common 20 = .ok (.lload_n 2, 1) := by decide +kernel
theorem dX6_common_21 : decode cX6_common 21 = .ok (.lneg, 1) := by decide +kernel
theorem dX6_common_22 : decode cX6_common 22 = .ok (.goto 4, 3) := by decide +kernel
theorem dX6_common_25 : decode cX6_common 25 = .ok (.lload_n 2, 1) := by decide +kernel
theorem dX6_common_26 : decode cX6_common 26 = .ok (.lstore 6, 2) := by decide +kernel
theorem dX6_common_28 : decode cX6_common 28 = .ok (.lload 6, 2) := by decide +kernel
theorem dX6_common_30 : decode cX6_common 30 = .ok (.lconst 0, 1) := by decide +kernel
theorem dX6_common_31 : decode cX6_common 31 = .ok (.lcmp, 1) := by decide +kernel
theorem dX6_common_32 : decode cX6_common 32 = .ok (.ifCond .eq 21, 3) := by decide +kernel
theorem dX6_common_35 : decode cX6_common 35 = .ok (.lload 4, 2) := by decide +kernel
theorem dX6_common_37 : decode cX6_common 37 = .ok (.lload 6, 2) := by decide +kernel
theorem dX6_common_39 : decode cX6_common 39 = .ok (.lrem, 1) := by decide +kernel
theorem dX6_common_40 : decode cX6_common 40 = .ok (.lstore 8, 2) := by decide +kernel
theorem dX6_common_42 : decode cX6_common 42 = .ok (.lload 6, 2) := by decide +kernel
theorem dX6_common_44 : decode cX6_common 44 = .ok (.lstore 4, 2) := by decide +kernel
theorem dX6_common_46 : decode cX6_common 46 = .ok (.lload 8, 2) := by decide +kernel
theorem dX6_common_48 : decode cX6_common 48 = .ok (.lstore 6, 2) := by decide +kernel
theorem dX6_common_50 : decode cX6_common 50 = .ok (.goto (-22), 3) := by decide +kernel
theorem dX6_common_53 : decode cX6_common 53 = .ok (.lload 4, 2) := by decide +kernel
theorem dX6_common_55 : decode cX6_common 55 = .ok (.lreturn, 1) := by decide +kernel
set_option maxRecDepth 20000 in
theorem ggX6_part_X6_common : GoodIn wsX6_part wsX6_common := goodIn_r _ [4] (by decide +kernel) (by decide +kernel)
set_option maxRecDepth 20000 in
theorem gX6_part_X6_common : GoodIn wsX6_part (va_wsS RX6 60 yX6_common wsX6_common) := goodIn_app (goodIn_of _ (by decide +kernel)) ggX6_part_X6_common
theorem dX6_part_0 : decode cX6_part 0 = .ok (.lload_n 0, 1) := by decide +kernel
theorem dX6_part_1 : decode cX6_part 1 = .ok (.lload_n 2, 1) := by decide +kernel
theorem dX6_part_2 : decode cX6_part 2 = .ok (.invokestatic 60, 3) := by decide +kernel
theorem dX6_part_5 : decode cX6_part 5 = .ok (.lstore 5, 2) := by decide +kernel
theorem dX6_part_7 : decode cX6_part 7 = .ok (.iload 4, 2) := by decide +kernel
theorem dX6_part_9 : decode cX6_part 9 = .ok (.ifCond .ne 10, 3) := by decide +kernel
theorem dX6_part_12 : decode cX6_part 12 = .ok (.lload_n 0, 1) := by decide +kernel
theorem dX6_part_13 : decode cX6_part 13 = .ok (.lload 5, 2) := by decide +kernel
theorem dX6_part_15 : decode cX6_part 15 = .ok (.ldiv, 1) := by decide +kernel
theorem dX6_part_16 : decode cX6_part 16 = .ok (.goto 7, 3) := by decide +kernel
theorem dX6_part_19 : decode cX6_part 19 = .ok (.lload_n 2, 1) := by decide +kernel
theorem dX6_part_20 : decode cX6_part 20 = .ok (.lload 5, 2) := by decide +kernel
theorem dX6_part_22 : decode cX6_part 22 = .ok (.ldiv, 1) := by decide +kernel
theorem dX6_part_23 : decode cX6_part 23 = .ok (.lreturn, 1) := by decide +kernel
theorem dX6_no_0 : decode cX6_no 0 = .ok (.iload_n 1, 1) := by decide +kernel
theorem dX6_no_1 : decode cX6_no 1 = .ok (.bipush (-6), 2) := by decide +kernel
theorem dX6_no_3 : decode cX6_no 3 = .ok (.if_icmp .lt 14, 3) := by decide +kernel
theorem dX6_no_6 : decode cX6_no 6 = .ok (.aload_n 0, 1) := by decide +kernel
theorem dX6_no_7 : decode cX6_no 7 = .ok (.getfield 7, 3) := by decide +kernel
theorem dX6_no_10 : decode cX6_no 10 = .ok (.iload_n 1, 1) := by decide +kernel
theorem dX6_no_11 : decode cX6_no 11 = .ok (.ineg, 1) := by decide +kernel
theorem dX6_no_12 : decode cX6_no 12 = .ok (.dup2, 1) := by decide +kernel
theorem dX6_no_13 : decode cX6_no 13 = .ok (.iaload, 1) := by decide +kernel
theorem dX6_no_14 : decode cX6_no 14 = .ok (.iconst 1, 1) := by decide +kernel
theorem dX6_no_15 : decode cX6_no 15 = .ok (.iadd, 1) := by decide +kernel
theorem dX6_no_16 : decode cX6_no 16 = .ok (.iastore, 1) := by decide +kernel
theorem dX6_no_17 : decode cX6_no 17 = .ok (.iload_n 1, 1) := by decide +kernel
theorem dX6_no_18 : decode cX6_no 18 = .ok (.ireturn, 1) := by decide +kernel
set_option maxRecDepth 20000 in
theorem ggX6_noLong_X6_no : GoodIn wsX6_noLong wsX6_no := goodIn_r _ [6, 7, 8, 9, 10, 11, 12, 13, 14, 15, 16, 17, 18, 19, 20, 21, 22, 23, 24, 25, 26, 27, 28, 29] (by decide +kernel) (by decide +kernel)
set_option maxRecDepth 20000 in
theorem gX6_noLong_X6_no : GoodIn wsX6_noLong (wsV RX6 66 RX6 yX6_no wsX6_no) := goodIn_app (goodIn_of _ (by decide +kernel)) ggX6_noLong_X6_no
theorem dX6_noLong_0 : decode cX6_noLong 0 = .ok (.ldc2_w 64, 3) := by decide +kernel
theorem dX6_noLong_3 : decode cX6_noLong 3 = .ok (.aload_n 0, 1) := by decide +kernel
theorem dX6_noLong_4 : decode cX6_noLong 4 = .ok (.iload_n 1, 1) := by decide +kernel
theorem dX6_noLong_5 : decode cX6_noLong 5 = .ok (.invokevirtual 66, 3) := by decide +kernel
theorem dX6_noLong_8 : decode cX6_noLong 8 = .ok (.i2l, 1) := by decide +kernel
theorem dX6_noLong_9 : decode cX6_noLong 9 = .ok (.lsub, 1) := by decide +kernel
theorem dX6_noLong_10 : decode cX6_noLong 10 = .ok (.lreturn, 1) := by decide +kernel
theorem dX6_range_0 : decode cX6_range 0 = .ok (.iload_n 0, 1) := by decide +kernel
theorem dX6_range_1 : decode cX6_range 1 = .ok (.iload_n 1, 1) := by decide +kernel
theorem dX6_range_2 : decode cX6_range 2 = .ok (.if_icmp .ge 8, 3) := by decide +kernel
theorem dX6_range_5 : decode cX6_range 5 = .ok (.bipush (-4), 2) := by decide +kernel
theorem dX6_range_7 : decode cX6_range 7 = .ok (.goto 14, 3) := by decide +kernel
theorem dX6_range_10 : decode cX6_range 10 = .ok (.iload_n 0, 1) := by decide +kernel
theorem dX6_range_11 : decode cX6_range 11 = .ok (.iload_n 2, 1) := by decide +kernel
theorem dX6_range_12 : decode cX6_range 12 = .ok (.if_icmp .le 8, 3) := by decide +kernel
theorem dX6_range_15 : decode cX6_range 15 = .ok (.bipush (-6), 2) := by decide +kernel
theorem dX6_range_17 : decode cX6_range 17 = .ok (.goto 4, 3) := by decide +kernel
theorem dX6_range_20 : decode cX6_range 20 = .ok (.iconst 0, 1) := by decide +kernel
theorem dX6_range_21 : decode cX6_range 21 = .ok (.ireturn, 1) := by decide +kernel
set_option maxRecDepth 20000 in
theorem ggX6_isWalker_X6_in : GoodIn wsX6_isWalker wsX6_in := goodIn_r _ [5] (by decide +kernel) (by decide +kernel)
set_option maxRecDepth 20000 in
theorem gX6_isWalker_X6_in : GoodIn wsX6_isWalker (va_wsS RX6 73 yX6_in wsX6_in) := goodIn_app (goodIn_of _ (by decide +kernel)) ggX6_isWalker_X6_in
theorem dX6_isWalker_0 : decode cX6_isWalker 0 = .ok (.iload_n 1, 1) := by decide +kernel
theorem dX6_isWalker_1 : decode cX6_isWalker 1 = .ok (.i2l, 1) := by decide +kernel
theorem dX6_isWalker_2 : decode cX6_isWalker 2 = .ok (.lconst 0, 1) := by decide +kernel
theorem dX6_isWalker_3 : decode cX6_isWalker 3 = .ok (.aload_n 0, 1) := by decide +kernel
theorem dX6_isWalker_4 : decode cX6_isWalker 4 = .ok (.getfield 70, 3) := by decide +kernel
theorem dX6_isWalker_7 : decode cX6_isWalker 7 = .ok (.iconst 1, 1) := by decide +kernel
theorem dX6_isWalker_8 : decode cX6_isWalker 8 = .ok (.isub, 1) := by decide +kernel
theorem dX6_isWalker_9 : decode cX6_isWalker 9 = .ok (.i2l, 1) := by decide +kernel
theorem dX6_isWalker_10 : decode cX6_isWalker 10 = .ok (.invokestatic 73, 3) := by decide +kernel
theorem dX6_isWalker_13 : decode cX6_isWalker 13 = .ok (.ireturn, 1) := by decide +kernel
theorem dX6_at_0 : decode cX6_at 0 = .ok (.aload_n 0, 1) := by decide +kernel
theorem dX6_at_1 : decode cX6_at 1 = .ok (.getfield 17, 3) := by decide +kernel
theorem dX6_at_4 : decode cX6_at 4 = .ok (.iconst 4, 1) := by decide +kernel
theorem dX6_at_5 : decode cX6_at 5 = .ok (.iload_n 1, 1) := by decide +kernel
theorem dX6_at_6 : decode cX6_at 6 = .ok (.imul, 1) := by decide +kernel
theorem dX6_at_7 : decode cX6_at 7 = .ok (.iload_n 2, 1) := by decide +kernel
theorem dX6_at_8 : decode cX6_at 8 = .ok (.iadd, 1) := by decide +kernel
theorem dX6_at_9 : decode cX6_at 9 = .ok (.iaload, 1) := by decide +kernel
theorem dX6_at_10 : decode cX6_at 10 = .ok (.ireturn, 1) := by decide +kernel
theorem dX6_straight_0 : decode cX6_straight 0 = .ok (.lload_n 2, 1) := by decide +kernel
theorem dX6_straight_1 : decode cX6_straight 1 = .ok (.lload 4, 2) := by decide +kernel
theorem dX6_straight_3 : decode cX6_straight 3 = .ok (.lload_n 0, 1) := by decide +kernel
theorem dX6_straight_4 : decode cX6_straight 4 = .ok (.lmul, 1) := by decide +kernel
theorem dX6_straight_5 : decode cX6_straight 5 = .ok (.ladd, 1) := by decide +kernel
theorem dX6_straight_6 : decode cX6_straight 6 = .ok (.lreturn, 1) := by decide +kernel
set_option maxRecDepth 20000 in
theorem ggX6_placeBy_X6_straight : GoodIn wsX6_placeBy wsX6_straight := goodIn_r _ [5] (by decide +kernel) (by decide +kernel)
set_option maxRecDepth 20000 in
theorem gX6_placeBy_X6_straight : GoodIn wsX6_placeBy (va_wsS RX6 77 yX6_straight wsX6_straight) := goodIn_app (goodIn_of _ (by decide +kernel)) ggX6_placeBy_X6_straight
theorem dX6_placeBy_0 : decode cX6_placeBy 0 = .ok (.iload_n 1, 1) := by decide +kernel
theorem dX6_placeBy_1 : decode cX6_placeBy 1 = .ok (.tableswitch 150 0 4 #[35, 50, 69, 85, 108], 35) := by decide +kernel
theorem dX6_placeBy_36 : decode cX6_placeBy 36 = .ok (.iload_n 2, 1) := by decide +kernel
theorem dX6_placeBy_37 : decode cX6_placeBy 37 = .ok (.i2l, 1) := by decide +kernel
theorem dX6_placeBy_38 : decode cX6_placeBy 38 = .ok (.iload_n 3, 1) := by decide +kernel
theorem dX6_placeBy_39 : decode cX6_placeBy 39 = .ok (.i2l, 1) := by decide +kernel
theorem dX6_placeBy_40 : decode cX6_placeBy 40 = .ok (.iload 5, 2) := by decide +kernel
theorem dX6_placeBy_42 : decode cX6_placeBy 42 = .ok (.i2l, 1) := by decide +kernel
theorem dX6_placeBy_43 : decode cX6_placeBy 43 = .ok (.invokestatic 77, 3) := by decide +kernel
theorem dX6_placeBy_46 : decode cX6_placeBy 46 = .ok (.lstore 6, 2) := by decide +kernel
theorem dX6_placeBy_48 : decode cX6_placeBy 48 = .ok (.goto 127, 3) := by decide +kernel
theorem dX6_placeBy_51 : decode cX6_placeBy 51 = .ok (.iload_n 2, 1) := by decide +kernel
theorem dX6_placeBy_52 : decode cX6_placeBy 52 = .ok (.i2l, 1) := by decide +kernel
theorem dX6_placeBy_53 : decode cX6_placeBy 53 = .ok (.iload_n 3, 1) := by decide +kernel
theorem dX6_placeBy_54 : decode cX6_placeBy 54 = .ok (.i2l, 1) := by decide +kernel
theorem dX6_placeBy_55 : decode cX6_placeBy 55 = .ok (.iload 5, 2) := by decide +kernel
theorem dX6_placeBy_57 : decode cX6_placeBy 57 = .ok (.i2l, 1) := by decide +kernel
theorem dX6_placeBy_58 : decode cX6_placeBy 58 = .ok (.iload 5, 2) := by decide +kernel
theorem dX6_placeBy_60 : decode cX6_placeBy 60 = .ok (.i2l, 1) := by decide +kernel
theorem dX6_placeBy_61 : decode cX6_placeBy 61 = .ok (.lmul, 1) := by decide +kernel
theorem dX6_placeBy_62 : decode cX6_placeBy 62 = .ok (.invokestatic 77, 3) := by decide +kernel
theorem dX6_placeBy_65 : decode cX6_placeBy 65 = .ok (.lstore 6, 2) := by decide +kernel
theorem dX6_placeBy_67 : decode cX6_placeBy 67 = .ok (.goto 108, 3) := by decide +kernel
theorem dX6_placeBy_70 : decode cX6_placeBy 70 = .ok (.iload_n 2, 1) := by decide +kernel
theorem dX6_placeBy_71 : decode cX6_placeBy 71 = .ok (.i2l, 1) := by decide +kernel
theorem dX6_placeBy_72 : decode cX6_placeBy 72 = .ok (.iload_n 3, 1) := by decide +kernel
theorem dX6_placeBy_73 : decode cX6_placeBy 73 = .ok (.i2l, 1) := by decide +kernel
theorem dX6_placeBy_74 : decode cX6_placeBy 74 = .ok (.iload 5, 2) := by decide +kernel
theorem dX6_placeBy_76 : decode cX6_placeBy 76 = .ok (.ineg, 1) := by decide +kernel
theorem dX6_placeBy_77 : decode cX6_placeBy 77 = .ok (.i2l, 1) := by decide +kernel
theorem dX6_placeBy_78 : decode cX6_placeBy 78 = .ok (.invokestatic 77, 3) := by decide +kernel
theorem dX6_placeBy_81 : decode cX6_placeBy 81 = .ok (.lstore 6, 2) := by decide +kernel
theorem dX6_placeBy_83 : decode cX6_placeBy 83 = .ok (.goto 92, 3) := by decide +kernel
theorem dX6_placeBy_86 : decode cX6_placeBy 86 = .ok (.iload_n 2, 1) := by decide +kernel
theorem dX6_placeBy_87 : decode cX6_placeBy 87 = .ok (.i2l, 1) := by decide +kernel
theorem dX6_placeBy_88 : decode cX6_placeBy 88 = .ok (.iload_n 3, 1) := by decide +kernel
theorem dX6_placeBy_89 : decode cX6_placeBy 89 = .ok (.i2l, 1) := by decide +kernel
theorem dX6_placeBy_90 : decode cX6_placeBy 90 = .ok (.iload 5, 2) := by decide +kernel
theorem dX6_placeBy_92 : decode cX6_placeBy 92 = .ok (.iload 5, 2) := by decide +kernel
theorem dX6_placeBy_94 : decode cX6_placeBy 94 = .ok (.iload 4, 2) := by decide +kernel
theorem dX6_placeBy_96 : decode cX6_placeBy 96 = .ok (.iconst 1, 1) := by decide +kernel
theorem dX6_placeBy_97 : decode cX6_placeBy 97 = .ok (.iadd, 1) := by decide +kernel
theorem dX6_placeBy_98 : decode cX6_placeBy 98 = .ok (.idiv, 1) := by decide +kernel
theorem dX6_placeBy_99 : decode cX6_placeBy 99 = .ok (.iadd, 1) := by decide +kernel
theorem dX6_placeBy_100 : decode cX6_placeBy 100 = .ok (.i2l, 1) := by decide +kernel
theorem dX6_placeBy_101 : decode cX6_placeBy 101 = .ok (.invokestatic 77, 3) := by decide +kernel
theorem dX6_placeBy_104 : decode cX6_placeBy 104 = .ok (.lstore 6, 2) := by decide +kernel
theorem dX6_placeBy_106 : decode cX6_placeBy 106 = .ok (.goto 69, 3) := by decide +kernel
theorem dX6_placeBy_109 : decode cX6_placeBy 109 = .ok (.iload 5, 2) := by decide +kernel
theorem dX6_placeBy_111 : decode cX6_placeBy 111 = .ok (.iconst 2, 1) := by decide +kernel
theorem dX6_placeBy_112 : decode cX6_placeBy 112 = .ok (.irem, 1) := by decide +kernel
theorem dX6_placeBy_113 : decode cX6_placeBy 113 = .ok (.ifCond .ne 19, 3) := by decide +kernel
theorem dX6_placeBy_116 : decode cX6_placeBy 116 = .ok (.iload_n 2, 1) := by decide +kernel
theorem dX6_placeBy_117 : decode cX6_placeBy 117 = .ok (.i2l, 1) := by decide +kernel
theorem dX6_placeBy_118 : decode cX6_placeBy 118 = .ok (.iload_n 3, 1) := by decide +kernel
theorem dX6_placeBy_119 : decode cX6_placeBy 119 = .ok (.i2l, 1) := by decide +kernel
theorem dX6_placeBy_120 : decode cX6_placeBy 120 = .ok (.iload 5, 2) := by decide +kernel
theorem dX6_placeBy_122 : decode cX6_placeBy 122 = .ok (.iconst 2, 1) := by decide +kernel
theorem dX6_placeBy_123 : decode cX6_placeBy 123 = .ok (.idiv, 1) := by decide +kernel
theorem dX6_placeBy_124 : decode cX6_placeBy 124 = .ok (.ineg, 1) := by decide +kernel
theorem dX6_placeBy_125 : decode cX6_placeBy 125 = .ok (.i2l, 1) := by decide +kernel
theorem dX6_placeBy_126 : decode cX6_placeBy 126 = .ok (.invokestatic 77, 3) := by decide +kernel
theorem dX6_placeBy_129 : decode cX6_placeBy 129 = .ok (.goto 17, 3) := by decide +kernel
theorem dX6_placeBy_132 : decode cX6_placeBy 132 = .ok (.iload_n 2, 1) := by decide +kernel
theorem dX6_placeBy_133 : decode cX6_placeBy 133 = .ok (.i2l, 1) := by decide +kernel
theorem dX6_placeBy_134 : decode cX6_placeBy 134 = .ok (.iload_n 3, 1) := by decide +kernel
theorem dX6_placeBy_135 : decode cX6_placeBy 135 = .ok (.i2l, 1) := by decide +kernel
theorem dX6_placeBy_136 : decode cX6_placeBy 136 = .ok (.iload 5, 2) := by decide +kernel
theorem dX6_placeBy_138 : decode cX6_placeBy 138 = .ok (.iconst 1, 1) := by decide +kernel
theorem dX6_placeBy_139 : decode cX6_placeBy 139 = .ok (.iadd, 1) := by decide +kernel
theorem dX6_placeBy_140 : decode cX6_placeBy 140 = .ok (.iconst 2, 1) := by decide +kernel
theorem dX6_placeBy_141 : decode cX6_placeBy 141 = .ok (.idiv, 1) := by decide +kernel
theorem dX6_placeBy_142 : decode cX6_placeBy 142 = .ok (.i2l, 1) := by decide +kernel
theorem dX6_placeBy_143 : decode cX6_placeBy 143 = .ok (.invokestatic 77, 3) := by decide +kernel
theorem dX6_placeBy_146 : decode cX6_placeBy 146 = .ok (.lstore 6, 2) := by decide +kernel
theorem dX6_placeBy_148 : decode cX6_placeBy 148 = .ok (.goto 27, 3) := by decide +kernel
theorem dX6_placeBy_151 : decode cX6_placeBy 151 = .ok (.iload_n 2, 1) := by decide +kernel
theorem dX6_placeBy_152 : decode cX6_placeBy 152 = .ok (.i2l, 1) := by decide +kernel
theorem dX6_placeBy_153 : decode cX6_placeBy 153 = .ok (.iload_n 3, 1) := by decide +kernel
theorem dX6_placeBy_154 : decode cX6_placeBy 154 = .ok (.i2l, 1) := by decide +kernel
theorem dX6_placeBy_155 : decode cX6_placeBy 155 = .ok (.iload 5, 2) := by decide +kernel
theorem dX6_placeBy_157 : decode cX6_placeBy 157 = .ok (.i2l, 1) := by decide +kernel
theorem dX6_placeBy_158 : decode cX6_placeBy 158 = .ok (.iload 5, 2) := by decide +kernel
theorem dX6_placeBy_160 : decode cX6_placeBy 160 = .ok (.i2l, 1) := by decide +kernel
theorem dX6_placeBy_161 : decode cX6_placeBy 161 = .ok (.lmul, 1) := by decide +kernel
theorem dX6_placeBy_162 : decode cX6_placeBy 162 = .ok (.invokestatic 77, 3) := by decide +kernel
theorem dX6_placeBy_165 : decode cX6_placeBy 165 = .ok (.iload 4, 2) := by decide +kernel
theorem dX6_placeBy_167 : decode cX6_placeBy 167 = .ok (.i2l, 1) := by decide +kernel
theorem dX6_placeBy_168 : decode cX6_placeBy 168 = .ok (.iload 5, 2) := by decide +kernel
theorem dX6_placeBy_170 : decode cX6_placeBy 170 = .ok (.i2l, 1) := by decide +kernel
theorem dX6_placeBy_171 : decode cX6_placeBy 171 = .ok (.lmul, 1) := by decide +kernel
theorem dX6_placeBy_172 : decode cX6_placeBy 172 = .ok (.ladd, 1) := by decide +kernel
theorem dX6_placeBy_173 : decode cX6_placeBy 173 = .ok (.lstore 6, 2) := by decide +kernel
theorem dX6_placeBy_175 : decode cX6_placeBy 175 = .ok (.lload 6, 2) := by decide +kernel
theorem dX6_placeBy_177 : decode cX6_placeBy 177 = .ok (.aload_n 0, 1) := by decide +kernel
theorem dX6_placeBy_178 : decode cX6_placeBy 178 = .ok (.getfield 13, 3) := by decide +kernel
theorem dX6_placeBy_181 : decode cX6_placeBy 181 = .ok (.i2l, 1) := by decide +kernel
theorem dX6_placeBy_182 : decode cX6_placeBy 182 = .ok (.lrem, 1) := by decide +kernel
theorem dX6_placeBy_183 : decode cX6_placeBy 183 = .ok (.lstore 6, 2) := by decide +kernel
theorem dX6_placeBy_185 : decode cX6_placeBy 185 = .ok (.lload 6, 2) := by decide +kernel
theorem dX6_placeBy_187 : decode cX6_placeBy 187 = .ok (.lconst 0, 1) := by decide +kernel
theorem dX6_placeBy_188 : decode cX6_placeBy 188 = .ok (.lcmp, 1) := by decide +kernel
theorem dX6_placeBy_189 : decode cX6_placeBy 189 = .ok (.ifCond .ge 14, 3) := by decide +kernel
theorem dX6_placeBy_192 : decode cX6_placeBy 192 = .ok (.lload 6, 2) := by decide +kernel
theorem dX6_placeBy_194 : decode cX6_placeBy 194 = .ok (.aload_n 0, 1) := by decide +kernel
theorem dX6_placeBy_195 : decode cX6_placeBy 195 = .ok (.getfield 13, 3) := by decide +kernel
theorem dX6_placeBy_198 : decode cX6_placeBy 198 = .ok (.i2l, 1) := by decide +kernel
theorem dX6_placeBy_199 : decode cX6_placeBy 199 = .ok (.ladd, 1) := by decide +kernel
theorem dX6_placeBy_200 : decode cX6_placeBy 200 = .ok (.goto 5, 3) := by decide +kernel
theorem dX6_placeBy_203 : decode cX6_placeBy 203 = .ok (.lload 6, 2) := by decide +kernel
theorem dX6_placeBy_205 : decode cX6_placeBy 205 = .ok (.l2i, 1) := by decide +kernel
theorem dX6_placeBy_206 : decode cX6_placeBy 206 = .ok (.ireturn, 1) := by decide +kernel
set_option maxRecDepth 20000 in
theorem ggX6_placeOf_X6_at : GoodIn wsX6_placeOf wsX6_at := goodIn_r _ [5, 6, 15, 16, 17, 18, 19, 20, 21, 22, 23, 24, 25, 26, 27, 28, 29, 30, 31, 32, 33, 34, 35, 36] (by decide +kernel) (by decide +kernel)
set_option maxRecDepth 20000 in
theorem gX6_placeOf_X6_at : GoodIn wsX6_placeOf (wsV RX6 81 RX6 yX6_at wsX6_at) := goodIn_app (goodIn_of _ (by decide +kernel)) ggX6_placeOf_X6_at
set_option maxRecDepth 20000 in
theorem ggX6_placeOf_X6_placeBy : GoodIn wsX6_placeOf wsX6_placeBy := goodIn_r _ [10, 11, 12, 13, 4, 14, 15, 16, 17, 18, 19, 20, 21, 22, 23, 24, 25, 26, 27, 28, 29, 30, 31, 32, 33, 34, 35, 36] (by decide +kernel) (by decide +kernel)
set_option maxRecDepth 20000 in
theorem gX6_placeOf_X6_placeBy : GoodIn wsX6_placeOf (wsV RX6 85 RX6 yX6_placeBy wsX6_placeBy) := goodIn_app (goodIn_of _ (by decide +kernel)) ggX6_placeOf_X6_placeBy
theorem dX6_placeOf_0 : decode cX6_placeOf 0 = .ok (.aload_n 0, 1) := by decide +kernel
theorem dX6_placeOf_1 : decode cX6_placeOf 1 = .ok (.aload_n 0, 1) := by decide +kernel
theorem dX6_placeOf_2 : decode cX6_placeOf 2 = .ok (.iload_n 1, 1) := by decide +kernel
theorem dX6_placeOf_3 : decode cX6_placeOf 3 = .ok (.iconst 0, 1) := by decide +kernel
theorem dX6_placeOf_4 : decode cX6_placeOf 4 = .ok (.invokevirtual 81, 3) := by decide +kernel
theorem dX6_placeOf_7 : decode cX6_placeOf 7 = .ok (.aload_n 0, 1) := by decide +kernel
theorem dX6_placeOf_8 : decode cX6_placeOf 8 = .ok (.iload_n 1, 1) := by decide +kernel
theorem dX6_placeOf_9 : decode cX6_placeOf 9 = .ok (.iconst 1, 1) := by decide +kernel
theorem dX6_placeOf_10 : decode cX6_placeOf 10 = .ok (.invokevirtual 81, 3) := by decide +kernel
theorem dX6_placeOf_13 : decode cX6_placeOf 13 = .ok (.aload_n 0, 1) := by decide +kernel
theorem dX6_placeOf_14 : decode cX6_placeOf 14 = .ok (.iload_n 1, 1) := by decide +kernel
theorem dX6_placeOf_15 : decode cX6_placeOf 15 = .ok (.iconst 2, 1) := by decide +kernel
theorem dX6_placeOf_16 : decode cX6_placeOf 16 = .ok (.invokevirtual 81, 3) := by decide +kernel
theorem dX6_placeOf_19 : decode cX6_placeOf 19 = .ok (.aload_n 0, 1) := by decide +kernel
theorem dX6_placeOf_20 : decode cX6_placeOf 20 = .ok (.iload_n 1, 1) := by decide +kernel
theorem dX6_placeOf_21 : decode cX6_placeOf 21 = .ok (.iconst 3, 1) := by decide +kernel
theorem dX6_placeOf_22 : decode cX6_placeOf 22 = .ok (.invokevirtual 81, 3) := by decide +kernel
theorem dX6_placeOf_25 : decode cX6_placeOf 25 = .ok (.iload_n 2, 1) := by decide +kernel
theorem dX6_placeOf_26 : decode cX6_placeOf 26 = .ok (.invokevirtual 85, 3) := by decide +kernel
theorem dX6_placeOf_29 : decode cX6_placeOf 29 = .ok (.ireturn, 1) := by decide +kernel
theorem dX6_most_0 : decode cX6_most 0 = .ok (.iload_n 0, 1) := by decide +kernel
theorem dX6_most_1 : decode cX6_most 1 = .ok (.ifCond .ne 7, 3) := by decide +kernel
theorem dX6_most_4 : decode cX6_most 4 = .ok (.iconst 5, 1) := by decide +kernel
theorem dX6_most_5 : decode cX6_most 5 = .ok (.goto 16, 3) := by decide +kernel
theorem dX6_most_8 : decode cX6_most 8 = .ok (.iload_n 0, 1) := by decide +kernel
theorem dX6_most_9 : decode cX6_most 9 = .ok (.iconst 3, 1) := by decide +kernel
theorem dX6_most_10 : decode cX6_most 10 = .ok (.if_icmp .ne 8, 3) := by decide +kernel
theorem dX6_most_13 : decode cX6_most 13 = .ok (.bipush 9, 2) := by decide +kernel
theorem dX6_most_15 : decode cX6_most 15 = .ok (.goto 6, 3) := by decide +kernel
theorem dX6_most_18 : decode cX6_most 18 = .ok (.iload_n 1, 1) := by decide +kernel
theorem dX6_most_19 : decode cX6_most 19 = .ok (.iconst 1, 1) := by decide +kernel
theorem dX6_most_20 : decode cX6_most 20 = .ok (.isub, 1) := by decide +kernel
theorem dX6_most_21 : decode cX6_most 21 = .ok (.ireturn, 1) := by decide +kernel
set_option maxRecDepth 20000 in
theorem ggX6_change_X6_isWalker : GoodIn wsX6_change wsX6_isWalker := goodIn_r _ [10, 11, 12, 13, 9, 14, 30, 31, 32, 33, 34, 35, 36, 37, 38, 39, 40, 41, 42, 43, 44, 45, 46, 47, 48, 49, 50, 51] (by decide +kernel) (by decide +kernel)
set_option maxRecDepth 20000 in
theorem gX6_change_X6_isWalker : GoodIn wsX6_change (wsV RX6 89 RX6 yX6_isWalker wsX6_isWalker) := goodIn_app (goodIn_of _ (by decide +kernel)) ggX6_change_X6_isWalker
set_option maxRecDepth 20000 in
theorem ggX6_change_X6_no : GoodIn wsX6_change wsX6_no := goodIn_r _ [18, 19, 30, 31, 32, 33, 34, 35, 36, 37, 38, 39, 40, 41, 42, 43, 44, 45, 46, 47, 48, 49, 50, 51] (by decide +kernel) (by decide +kernel)
set_option maxRecDepth 20000 in
theorem gX6_change_X6_no : GoodIn wsX6_change (wsV RX6 66 RX6 yX6_no wsX6_no) := goodIn_app (goodIn_of _ (by decide +kernel)) ggX6_change_X6_no
set_option maxRecDepth 20000 in
theorem ggX6_change_X6_in : GoodIn wsX6_change wsX6_in := goodIn_r _ [14] (by decide +kernel) (by decide +kernel)
set_option maxRecDepth 20000 in
theorem gX6_change_X6_in : GoodIn wsX6_change (va_wsS RX6 73 yX6_in wsX6_in) := goodIn_app (goodIn_of _ (by decide +kernel)) ggX6_change_X6_in
set_option maxRecDepth 20000 in
theorem ggX6_change_X6_most : GoodIn wsX6_change wsX6_most := goodIn_r _ [22] (by decide +kernel) (by decide +kernel)
set_option maxRecDepth 20000 in
theorem gX6_change_X6_most : GoodIn wsX6_change (va_wsS RX6 95 yX6_most wsX6_most) := goodIn_app (goodIn_of _ (by decide +kernel)) ggX6_change_X6_most
set_option maxRecDepth 20000 in
theorem ggX6_change_X6_range : GoodIn wsX6_change wsX6_range := goodIn_r _ [25] (by decide +kernel) (by decide +kernel)
set_option maxRecDepth 20000 in
theorem gX6_change_X6_range : GoodIn wsX6_change (va_wsS RX6 98 yX6_range wsX6_range) := goodIn_app (goodIn_of _ (by decide +kernel)) ggX6_change_X6_range
set_option maxRecDepth 20000 in
theorem ggX6_change_X6_at : GoodIn wsX6_change wsX6_at := goodIn_r _ [29, 5, 30, 31, 32, 33, 34, 35, 36, 37, 38, 39, 40, 41, 42, 43, 44, 45, 46, 47, 48, 49, 50, 51] (by decide +kernel) (by decide +kernel)
set_option maxRecDepth 20000 in
theorem gX6_change_X6_at : GoodIn wsX6_change (wsV RX6 81 RX6 yX6_at wsX6_at) := goodIn_app (goodIn_of _ (by decide +kernel)) ggX6_change_X6_at
theorem dX6_change_0 : decode cX6_change 0 = .ok (.aload_n 0, 1) := by decide +kernel
theorem dX6_change_1 : decode cX6_change 1 = .ok (.iload_n 1, 1) := by decide +kernel
theorem dX6_change_2 : decode cX6_change 2 = .ok (.invokevirtual 89, 3) := by decide +kernel
theorem dX6_change_5 : decode cX6_change 5 = .ok (.ifCond .ne 9, 3) := by decide +kernel
theorem dX6_change_8 : decode cX6_change 8 = .ok (.aload_n 0, 1) := by decide +kernel
theorem dX6_change_9 : decode cX6_change 9 = .ok (.iconst (-1), 1) := by decide +kernel
theorem dX6_change_10 : decode cX6_change 10 = .ok (.invokevirtual 66, 3) := by decide +kernel
theorem dX6_change_13 : decode cX6_change 13 = .ok (.ireturn, 1) := by decide +kernel
theorem dX6_change_14 : decode cX6_change 14 = .ok (.iload_n 2, 1) := by decide +kernel
theorem dX6_change_15 : decode cX6_change 15 = .ok (.i2l, 1) := by decide +kernel
theorem dX6_change_16 : decode cX6_change 16 = .ok (.lconst 0, 1) := by decide +kernel
theorem dX6_change_17 : decode cX6_change 17 = .ok (.ldc2_w 93, 3) := by decide +kernel
theorem dX6_change_20 : decode cX6_change 20 = .ok (.invokestatic 73, 3) := by decide +kernel
theorem dX6_change_23 : decode cX6_change 23 = .ok (.ifCond .ne 10, 3) := by decide +kernel
theorem dX6_change_26 : decode cX6_change 26 = .ok (.aload_n 0, 1) := by decide +kernel
theorem dX6_change_27 : decode cX6_change 27 = .ok (.bipush (-2), 2) := by decide +kernel
theorem dX6_change_29 : decode cX6_change 29 = .ok (.invokevirtual 66, 3) := by decide +kernel
theorem dX6_change_32 : decode cX6_change 32 = .ok (.ireturn, 1) := by decide +kernel
theorem dX6_change_33 : decode cX6_change 33 = .ok (.iload_n 3, 1) := by decide +kernel
theorem dX6_change_34 : decode cX6_change 34 = .ok (.iconst 0, 1) := by decide +kernel
theorem dX6_change_35 : decode cX6_change 35 = .ok (.iload_n 2, 1) := by decide +kernel
theorem dX6_change_36 : decode cX6_change 36 = .ok (.aload_n 0, 1) := by decide +kernel
theorem dX6_change_37 : decode cX6_change 37 = .ok (.getfield 13, 3) := by decide +kernel
theorem dX6_change_40 : decode cX6_change 40 = .ok (.invokestatic 95, 3) := by decide +kernel
theorem dX6_change_43 : decode cX6_change 43 = .ok (.invokestatic 98, 3) := by decide +kernel
theorem dX6_change_46 : decode cX6_change 46 = .ok (.istore 4, 2) := by decide +kernel
theorem dX6_change_48 : decode cX6_change 48 = .ok (.iload 4, 2) := by decide +kernel
theorem dX6_change_50 : decode cX6_change 50 = .ok (.ifCond .eq 10, 3) := by decide +kernel
theorem dX6_change_53 : decode cX6_change 53 = .ok (.aload_n 0, 1) := by decide +kernel
theorem dX6_change_54 : decode cX6_change 54 = .ok (.iload 4, 2) := by decide +kernel
theorem dX6_change_56 : decode cX6_change 56 = .ok (.invokevirtual 66, 3) := by decide +kernel
theorem dX6_change_59 : decode cX6_change 59 = .ok (.ireturn, 1) := by decide +kernel
theorem dX6_change_60 : decode cX6_change 60 = .ok (.aload_n 0, 1) := by decide +kernel
theorem dX6_change_61 : decode cX6_change 61 = .ok (.getfield 102, 3) := by decide +kernel
theorem dX6_change_64 : decode cX6_change 64 = .ok (.bipush 16, 2) := by decide +kernel
theorem dX6_change_66 : decode cX6_change 66 = .ok (.if_icmp .ne 45, 3) := by decide +kernel
theorem dX6_change_69 : decode cX6_change 69 = .ok (.iconst 0, 1) := by decide +kernel
theorem dX6_change_70 : decode cX6_change 70 = .ok (.istore 5, 2) := by decide +kernel
theorem dX6_change_72 : decode cX6_change 72 = .ok (.iload 5, 2) := by decide +kernel
theorem dX6_change_74 : decode cX6_change 74 = .ok (.bipush 45, 2) := by decide +kernel
theorem dX6_change_76 : decode cX6_change 76 = .ok (.if_icmp .ge 25, 3) := by decide +kernel
theorem dX6_change_79 : decode cX6_change 79 = .ok (.aload_n 0, 1) := by decide +kernel
theorem dX6_change_80 : decode cX6_change 80 = .ok (.getfield 20, 3) := by decide +kernel
theorem dX6_change_83 : decode cX6_change 83 = .ok (.iload 5, 2) := by decide +kernel
theorem dX6_change_85 : decode cX6_change 85 = .ok (.aload_n 0, 1) := by decide +kernel
theorem dX6_change_86 : decode cX6_change 86 = .ok (.getfield 20, 3) := by decide +kernel
theorem dX6_change_89 : decode cX6_change 89 = .ok (.iload 5, 2) := by decide +kernel
theorem dX6_change_91 : decode cX6_change 91 = .ok (.iconst 3, 1) := by decide +kernel
theorem dX6_change_92 : decode cX6_change 92 = .ok (.iadd, 1) := by decide +kernel
theorem dX6_change_93 : decode cX6_change 93 = .ok (.iaload, 1) := by decide +kernel
theorem dX6_change_94 : decode cX6_change 94 = .ok (.iastore, 1) := by decide +kernel
theorem dX6_change_95 : decode cX6_change 95 = .ok (.iinc 5 1, 3) := by decide +kernel
theorem dX6_change_98 : decode cX6_change 98 = .ok (.goto (-26), 3) := by decide +kernel
theorem dX6_change_101 : decode cX6_change 101 = .ok (.aload_n 0, 1) := by decide +kernel
theorem dX6_change_102 : decode cX6_change 102 = .ok (.dup, 1) := by decide +kernel
theorem dX6_change_103 : decode cX6_change 103 = .ok (.getfield 102, 3) := by decide +kernel
theorem dX6_change_106 : decode cX6_change 106 = .ok (.iconst 1, 1) := by decide +kernel
theorem dX6_change_107 : decode cX6_change 107 = .ok (.isub, 1) := by decide +kernel
theorem dX6_change_108 : decode cX6_change 108 = .ok (.putfield 102, 3) := by decide +kernel
theorem dX6_change_111 : decode cX6_change 111 = .ok (.aload_n 0, 1) := by decide +kernel
theorem dX6_change_112 : decode cX6_change 112 = .ok (.iload_n 1, 1) := by decide +kernel
theorem dX6_change_113 : decode cX6_change 113 = .ok (.iload_n 2, 1) := by decide +kernel
theorem dX6_change_114 : decode cX6_change 114 = .ok (.invokevirtual 81, 3) := by decide +kernel
theorem dX6_change_117 : decode cX6_change 117 = .ok (.istore 5, 2) := by decide +kernel
theorem dX6_change_119 : decode cX6_change 119 = .ok (.aload_n 0, 1) := by decide +kernel
theorem dX6_change_120 : decode cX6_change 120 = .ok (.getfield 20, 3) := by decide +kernel
theorem dX6_change_123 : decode cX6_change 123 = .ok (.iconst 3, 1) := by decide +kernel
theorem dX6_change_124 : decode cX6_change 124 = .ok (.aload_n 0, 1) := by decide +kernel
theorem dX6_change_125 : decode cX6_change 125 = .ok (.getfield 102, 3) := by decide +kernel
theorem dX6_change_128 : decode cX6_change 128 = .ok (.imul, 1) := by decide +kernel
theorem dX6_change_129 : decode cX6_change 129 = .ok (.iload_n 1, 1) := by decide +kernel
theorem dX6_change_130 : decode cX6_change 130 = .ok (.iastore, 1) := by decide +kernel
theorem dX6_change_131 : decode cX6_change 131 = .ok (.aload_n 0, 1) := by decide +kernel
theorem dX6_change_132 : decode cX6_change 132 = .ok (.getfield 20, 3) := by decide +kernel
theorem dX6_change_135 : decode cX6_change 135 = .ok (.iconst 3, 1) := by decide +kernel
theorem dX6_change_136 : decode cX6_change 136 = .ok (.aload_n 0, 1) := by decide +kernel
theorem dX6_change_137 : decode cX6_change 137 = .ok (.getfield 102, 3) := by decide +kernel
theorem dX6_change_140 : decode cX6_change 140 = .ok (.imul, 1) := by decide +kernel
theorem dX6_change_141 : decode cX6_change 141 = .ok (.iconst 1, 1) := by decide +kernel
theorem dX6_change_142 : decode cX6_change 142 = .ok (.iadd, 1) := by decide +kernel
theorem dX6_change_143 : decode cX6_change 143 = .ok (.iload_n 2, 1) := by decide +kernel
theorem dX6_change_144 : decode cX6_change 144 = .ok (.iastore, 1) := by decide +kernel
theorem dX6_change_145 : decode cX6_change 145 = .ok (.aload_n 0, 1) := by decide +kernel
theorem dX6_change_146 : decode cX6_change 146 = .ok (.getfield 20, 3) := by decide +kernel
theorem dX6_change_149 : decode cX6_change 149 = .ok (.iconst 3, 1) := by decide +kernel
theorem dX6_change_150 : decode cX6_change 150 = .ok (.aload_n 0, 1) := by decide +kernel
theorem dX6_change_151 : decode cX6_change 151 = .ok (.getfield 102, 3) := by decide +kernel
theorem dX6_change_154 : decode cX6_change 154 = .ok (.imul, 1) := by decide +kernel
theorem dX6_change_155 : decode cX6_change 155 = .ok (.iconst 2, 1) := by decide +kernel
theorem dX6_change_156 : decode cX6_change 156 = .ok (.iadd, 1) := by decide +kernel
theorem dX6_change_157 : decode cX6_change 157 = .ok (.iload 5, 2) := by decide +kernel
theorem dX6_change_159 : decode cX6_change 159 = .ok (.iastore, 1) := by decide +kernel
theorem dX6_change_160 : decode cX6_change 160 = .ok (.aload_n 0, 1) := by decide +kernel
theorem dX6_change_161 : decode cX6_change 161 = .ok (.dup, 1) := by decide +kernel
theorem dX6_change_162 : decode cX6_change 162 = .ok (.getfield 102, 3) := by decide +kernel
theorem dX6_change_165 : decode cX6_change 165 = .ok (.iconst 1, 1) := by decide +kernel
theorem dX6_change_166 : decode cX6_change 166 = .ok (.iadd, 1) := by decide +kernel
theorem dX6_change_167 : decode cX6_change 167 = .ok (.putfield 102, 3) := by decide +kernel
theorem dX6_change_170 : decode cX6_change 170 = .ok (.aload_n 0, 1) := by decide +kernel
theorem dX6_change_171 : decode cX6_change 171 = .ok (.getfield 17, 3) := by decide +kernel
theorem dX6_change_174 : decode cX6_change 174 = .ok (.iconst 4, 1) := by decide +kernel
theorem dX6_change_175 : decode cX6_change 175 = .ok (.iload_n 1, 1) := by decide +kernel
theorem dX6_change_176 : decode cX6_change 176 = .ok (.imul, 1) := by decide +kernel
theorem dX6_change_177 : decode cX6_change 177 = .ok (.iload_n 2, 1) := by decide +kernel
theorem dX6_change_178 : decode cX6_change 178 = .ok (.iadd, 1) := by decide +kernel
theorem dX6_change_179 : decode cX6_change 179 = .ok (.iload_n 3, 1) := by decide +kernel
theorem dX6_change_180 : decode cX6_change 180 = .ok (.iastore, 1) := by decide +kernel
theorem dX6_change_181 : decode cX6_change 181 = .ok (.iload 5, 2) := by decide +kernel
theorem dX6_change_183 : decode cX6_change 183 = .ok (.ireturn, 1) := by decide +kernel
set_option maxRecDepth 20000 in
theorem ggX6_undo_X6_no : GoodIn wsX6_undo wsX6_no := goodIn_r _ [8, 9, 10, 11, 12, 13, 14, 15, 16, 17, 18, 19, 20, 21, 22, 23, 24, 25, 26, 27, 28, 29, 30, 31] (by decide +kernel) (by decide +kernel)
set_option maxRecDepth 20000 in
theorem gX6_undo_X6_no : GoodIn wsX6_undo (wsV RX6 66 RX6 yX6_no wsX6_no) := goodIn_app (goodIn_of _ (by decide +kernel)) ggX6_undo_X6_no
theorem dX6_undo_0 : decode cX6_undo 0 = .ok (.aload_n 0, 1) := by decide +kernel
theorem dX6_undo_1 : decode cX6_undo 1 = .ok (.getfield 102, 3) := by decide +kernel
theorem dX6_undo_4 : decode cX6_undo 4 = .ok (.ifCond .ne 10, 3) := by decide +kernel
theorem dX6_undo_7 : decode cX6_undo 7 = .ok (.aload_n 0, 1) := by decide +kernel
theorem dX6_undo_8 : decode cX6_undo 8 = .ok (.bipush (-3), 2) := by decide +kernel
theorem dX6_undo_10 : decode cX6_undo 10 = .ok (.invokevirtual 66, 3) := by decide +kernel
theorem dX6_undo_13 : decode cX6_undo 13 = .ok (.ireturn, 1) := by decide +kernel
theorem dX6_undo_14 : decode cX6_undo 14 = .ok (.aload_n 0, 1) := by decide +kernel
theorem dX6_undo_15 : decode cX6_undo 15 = .ok (.dup, 1) := by decide +kernel
theorem dX6_undo_16 : decode cX6_undo 16 = .ok (.getfield 102, 3) := by decide +kernel
theorem dX6_undo_19 : decode cX6_undo 19 = .ok (.iconst 1, 1) := by decide +kernel
theorem dX6_undo_20 : decode cX6_undo 20 = .ok (.isub, 1) := by decide +kernel
theorem dX6_undo_21 : decode cX6_undo 21 = .ok (.putfield 102, 3) := by decide +kernel
theorem dX6_undo_24 : decode cX6_undo 24 = .ok (.aload_n 0, 1) := by decide +kernel
theorem dX6_undo_25 : decode cX6_undo 25 = .ok (.getfield 17, 3) := by decide +kernel
theorem dX6_undo_28 : decode cX6_undo 28 = .ok (.iconst 4, 1) := by decide +kernel
theorem dX6_undo_29 : decode cX6_undo 29 = .ok (.aload_n 0, 1) := by decide +kernel
theorem dX6_undo_30 : decode cX6_undo 30 = .ok (.getfield 20, 3) := by decide +kernel
theorem dX6_undo_33 : decode cX6_undo 33 = .ok (.iconst 3, 1) := by decide +kernel
theorem dX6_undo_34 : decode cX6_undo 34 = .ok (.aload_n 0, 1) := by decide +kernel
theorem dX6_undo_35 : decode cX6_undo 35 = .ok (.getfield 102, 3) := by decide +kernel
theorem dX6_undo_38 : decode cX6_undo 38 = .ok (.imul, 1) := by decide +kernel
theorem dX6_undo_39 : decode cX6_undo 39 = .ok (.iaload, 1) := by decide +kernel
theorem dX6_undo_40 : decode cX6_undo 40 = .ok (.imul, 1) := by decide +kernel
theorem dX6_undo_41 : decode cX6_undo 41 = .ok (.aload_n 0, 1) := by decide +kernel
theorem dX6_undo_42 : decode cX6_undo 42 = .ok (.getfield 20, 3) := by decide +kernel
theorem dX6_undo_45 : decode cX6_undo 45 = .ok (.iconst 3, 1) := by decide +kernel
theorem dX6_undo_46 : decode cX6_undo 46 = .ok (.aload_n 0, 1) := by decide +kernel
theorem dX6_undo_47 : decode cX6_undo 47 = .ok (.getfield 102, 3) := by decide +kernel
theorem dX6_undo_50 : decode cX6_undo 50 = .ok (.imul, 1) := by decide +kernel
theorem dX6_undo_51 : decode cX6_undo 51 = .ok (.iconst 1, 1) := by decide +kernel
theorem dX6_undo_52 : decode cX6_undo 52 = .ok (.iadd, 1) := by decide +kernel
theorem dX6_undo_53 : decode cX6_undo 53 = .ok (.iaload, 1) := by decide +kernel
theorem dX6_undo_54 : decode cX6_undo 54 = .ok (.iadd, 1) := by decide +kernel
theorem dX6_undo_55 : decode cX6_undo 55 = .ok (.aload_n 0, 1) := by decide +kernel
theorem dX6_undo_56 : decode cX6_undo 56 = .ok (.getfield 20, 3) := by decide +kernel
theorem dX6_undo_59 : decode cX6_undo 59 = .ok (.iconst 3, 1) := by decide +kernel
theorem dX6_undo_60 : decode cX6_undo 60 = .ok (.aload_n 0, 1) := by decide +kernel
theorem dX6_undo_61 : decode cX6_undo 61 = .ok (.getfield 102, 3) := by decide +kernel
theorem dX6_undo_64 : decode cX6_undo 64 = .ok (.imul, 1) := by decide +kernel
theorem dX6_undo_65 : decode cX6_undo 65 = .ok (.iconst 2, 1) := by decide +kernel
theorem dX6_undo_66 : decode cX6_undo 66 = .ok (.iadd, 1) := by decide +kernel
theorem dX6_undo_67 : decode cX6_undo 67 = .ok (.iaload, 1) := by decide +kernel
theorem dX6_undo_68 : decode cX6_undo 68 = .ok (.iastore, 1) := by decide +kernel
theorem dX6_undo_69 : decode cX6_undo 69 = .ok (.aload_n 0, 1) := by decide +kernel
theorem dX6_undo_70 : decode cX6_undo 70 = .ok (.getfield 102, 3) := by decide +kernel
theorem dX6_undo_73 : decode cX6_undo 73 = .ok (.ireturn, 1) := by decide +kernel
set_option maxRecDepth 20000 in
theorem ggX6_circle_X6_range : GoodIn wsX6_circle wsX6_range := goodIn_r _ [7] (by decide +kernel) (by decide +kernel)
set_option maxRecDepth 20000 in
theorem gX6_circle_X6_range : GoodIn wsX6_circle (va_wsS RX6 98 yX6_range wsX6_range) := goodIn_app (goodIn_of _ (by decide +kernel)) ggX6_circle_X6_range
set_option maxRecDepth 20000 in
theorem ggX6_circle_X6_no : GoodIn wsX6_circle wsX6_no := goodIn_r _ [11, 12, 18, 19, 20, 21, 22, 23, 24, 25, 26, 27, 28, 29, 30, 31, 32, 33, 34, 35, 36, 37, 38, 39] (by decide +kernel) (by decide +kernel)
set_option maxRecDepth 20000 in
theorem gX6_circle_X6_no : GoodIn wsX6_circle (wsV RX6 66 RX6 yX6_no wsX6_no) := goodIn_app (goodIn_of _ (by decide +kernel)) ggX6_circle_X6_no
set_option maxRecDepth 20000 in
theorem ggX6_circle_X6_at : GoodIn wsX6_circle wsX6_at := goodIn_r _ [16, 17, 18, 19, 20, 21, 22, 23, 24, 25, 26, 27, 28, 29, 30, 31, 32, 33, 34, 35, 36, 37, 38, 39] (by decide +kernel) (by decide +kernel)
set_option maxRecDepth 20000 in
theorem gX6_circle_X6_at : GoodIn wsX6_circle (wsV RX6 81 RX6 yX6_at wsX6_at) := goodIn_app (goodIn_of _ (by decide +kernel)) ggX6_circle_X6_at
theorem dX6_circle_0 : decode cX6_circle 0 = .ok (.iload_n 1, 1) := by decide +kernel
theorem dX6_circle_1 : decode cX6_circle 1 = .ok (.iconst 2, 1) := by decide +kernel
theorem dX6_circle_2 : decode cX6_circle 2 = .ok (.sipush 2000, 3) := by decide +kernel
theorem dX6_circle_5 : decode cX6_circle 5 = .ok (.invokestatic 98, 3) := by decide +kernel
theorem dX6_circle_8 : decode cX6_circle 8 = .ok (.istore_n 2, 1) := by decide +kernel
theorem dX6_circle_9 : decode cX6_circle 9 = .ok (.iload_n 2, 1) := by decide +kernel
theorem dX6_circle_10 : decode cX6_circle 10 = .ok (.ifCond .eq 9, 3) := by decide +kernel
theorem dX6_circle_13 : decode cX6_circle 13 = .ok (.aload_n 0, 1) := by decide +kernel
theorem dX6_circle_14 : decode cX6_circle 14 = .ok (.iload_n 2, 1) := by decide +kernel
theorem dX6_circle_15 : decode cX6_circle 15 = .ok (.invokevirtual 66, 3) := by decide +kernel
theorem dX6_circle_18 : decode cX6_circle 18 = .ok (.ireturn, 1) := by decide +kernel
theorem dX6_circle_19 : decode cX6_circle 19 = .ok (.iconst 0, 1) := by decide +kernel
theorem dX6_circle_20 : decode cX6_circle 20 = .ok (.istore_n 3, 1) := by decide +kernel
theorem dX6_circle_21 : decode cX6_circle 21 = .ok (.iload_n 3, 1) := by decide +kernel
theorem dX6_circle_22 : decode cX6_circle 22 = .ok (.aload_n 0, 1) := by decide +kernel
theorem dX6_circle_23 : decode cX6_circle 23 = .ok (.getfield 70, 3) := by decide +kernel
theorem dX6_circle_26 : decode cX6_circle 26 = .ok (.if_icmp .ge 36, 3) := by decide +kernel
theorem dX6_circle_29 : decode cX6_circle 29 = .ok (.aload_n 0, 1) := by decide +kernel
theorem dX6_circle_30 : decode cX6_circle 30 = .ok (.iload_n 3, 1) := by decide +kernel
theorem dX6_circle_31 : decode cX6_circle 31 = .ok (.iconst 1, 1) := by decide +kernel
theorem dX6_circle_32 : decode cX6_circle 32 = .ok (.invokevirtual 81, 3) := by decide +kernel
theorem dX6_circle_35 : decode cX6_circle 35 = .ok (.iload_n 1, 1) := by decide +kernel
theorem dX6_circle_36 : decode cX6_circle 36 = .ok (.if_icmp .ge 13, 3) := by decide +kernel
theorem dX6_circle_39 : decode cX6_circle 39 = .ok (.aload_n 0, 1) := by decide +kernel
theorem dX6_circle_40 : decode cX6_circle 40 = .ok (.iload_n 3, 1) := by decide +kernel
theorem dX6_circle_41 : decode cX6_circle 41 = .ok (.iconst 2, 1) := by decide +kernel
theorem dX6_circle_42 : decode cX6_circle 42 = .ok (.invokevirtual 81, 3) := by decide +kernel
theorem dX6_circle_45 : decode cX6_circle 45 = .ok (.iload_n 1, 1) := by decide +kernel
theorem dX6_circle_46 : decode cX6_circle 46 = .ok (.if_icmp .lt 10, 3) := by decide +kernel
theorem dX6_circle_49 : decode cX6_circle 49 = .ok (.aload_n 0, 1) := by decide +kernel
theorem dX6_circle_50 : decode cX6_circle 50 = .ok (.bipush (-3), 2) := by decide +kernel
theorem dX6_circle_52 : decode cX6_circle 52 = .ok (.invokevirtual 66, 3) := by decide +kernel
theorem dX6_circle_55 : decode cX6_circle 55 = .ok (.ireturn, 1) := by decide +kernel
theorem dX6_circle_56 : decode cX6_circle 56 = .ok (.iinc 3 1, 3) := by decide +kernel
theorem dX6_circle_59 : decode cX6_circle 59 = .ok (.goto (-38), 3) := by decide +kernel
theorem dX6_circle_62 : decode cX6_circle 62 = .ok (.aload_n 0, 1) := by decide +kernel
theorem dX6_circle_63 : decode cX6_circle 63 = .ok (.getfield 13, 3) := by decide +kernel
theorem dX6_circle_66 : decode cX6_circle 66 = .ok (.istore_n 3, 1) := by decide +kernel
theorem dX6_circle_67 : decode cX6_circle 67 = .ok (.aload_n 0, 1) := by decide +kernel
theorem dX6_circle_68 : decode cX6_circle 68 = .ok (.iload_n 1, 1) := by decide +kernel
theorem dX6_circle_69 : decode cX6_circle 69 = .ok (.putfield 13, 3) := by decide +kernel
theorem dX6_circle_72 : decode cX6_circle 72 = .ok (.aload_n 0, 1) := by decide +kernel
theorem dX6_circle_73 : decode cX6_circle 73 = .ok (.iconst 0, 1) := by decide +kernel
theorem dX6_circle_74 : decode cX6_circle 74 = .ok (.putfield 102, 3) := by decide +kernel
theorem dX6_circle_77 : decode cX6_circle 77 = .ok (.iload_n 3, 1) := by decide +kernel
theorem dX6_circle_78 : decode cX6_circle 78 = .ok (.ireturn, 1) := by decide +kernel
set_option maxRecDepth 20000 in
theorem ggX6_walker_X6_in : GoodIn wsX6_walker wsX6_in := goodIn_r _ [8] (by decide +kernel) (by decide +kernel)
set_option maxRecDepth 20000 in
theorem gX6_walker_X6_in : GoodIn wsX6_walker (va_wsS RX6 73 yX6_in wsX6_in) := goodIn_app (goodIn_of _ (by decide +kernel)) ggX6_walker_X6_in
set_option maxRecDepth 20000 in
theorem ggX6_walker_X6_no : GoodIn wsX6_walker wsX6_no := goodIn_r _ [12, 13, 19, 20, 21, 22, 23, 24, 25, 26, 27, 28, 29, 30, 31, 32, 33, 34, 35, 36, 37, 38, 39, 40] (by decide +kernel) (by decide +kernel)
set_option maxRecDepth 20000 in
theorem gX6_walker_X6_no : GoodIn wsX6_walker (wsV RX6 66 RX6 yX6_no wsX6_no) := goodIn_app (goodIn_of _ (by decide +kernel)) ggX6_walker_X6_no
set_option maxRecDepth 20000 in
theorem ggX6_walker_X6_comes : GoodIn wsX6_walker wsX6_comes := goodIn_r _ [17, 18, 3, 19, 20, 21, 22, 23, 24, 25, 26, 27, 28, 29, 30, 31, 32, 33, 34, 35, 36, 37, 38, 39, 40] (by decide +kernel) (by decide +kernel)
set_option maxRecDepth 20000 in
theorem gX6_walker_X6_comes : GoodIn wsX6_walker (wsV RX6 107 RX6 yX6_comes wsX6_comes) := goodIn_app (goodIn_of _ (by decide +kernel)) ggX6_walker_X6_comes
theorem dX6_walker_0 : decode cX6_walker 0 = .ok (.iload_n 1, 1) := by decide +kernel
theorem dX6_walker_1 : decode cX6_walker 1 = .ok (.i2l, 1) := by decide +kernel
theorem dX6_walker_2 : decode cX6_walker 2 = .ok (.lconst 0, 1) := by decide +kernel
theorem dX6_walker_3 : decode cX6_walker 3 = .ok (.ldc2_w 105, 3) := by decide +kernel
theorem dX6_walker_6 : decode cX6_walker 6 = .ok (.invokestatic 73, 3) := by decide +kernel
theorem dX6_walker_9 : decode cX6_walker 9 = .ok (.ifCond .ne 10, 3) := by decide +kernel
theorem dX6_walker_12 : decode cX6_walker 12 = .ok (.aload_n 0, 1) := by decide +kernel
theorem dX6_walker_13 : decode cX6_walker 13 = .ok (.bipush (-2), 2) := by decide +kernel
theorem dX6_walker_15 : decode cX6_walker 15 = .ok (.invokevirtual 66, 3) := by decide +kernel
theorem dX6_walker_18 : decode cX6_walker 18 = .ok (.ireturn, 1) := by decide +kernel
theorem dX6_walker_19 : decode cX6_walker 19 = .ok (.iload_n 2, 1) := by decide +kernel
theorem dX6_walker_20 : decode cX6_walker 20 = .ok (.ifCond .lt 12, 3) := by decide +kernel
theorem dX6_walker_23 : decode cX6_walker 23 = .ok (.iload_n 3, 1) := by decide +kernel
theorem dX6_walker_24 : decode cX6_walker 24 = .ok (.ifCond .lt 8, 3) := by decide +kernel
theorem dX6_walker_27 : decode cX6_walker 27 = .ok (.iload 4, 2) := by decide +kernel
theorem dX6_walker_29 : decode cX6_walker 29 = .ok (.ifCond .ge 10, 3) := by decide +kernel
theorem dX6_walker_32 : decode cX6_walker 32 = .ok (.aload_n 0, 1) := by decide +kernel
theorem dX6_walker_33 : decode cX6_walker 33 = .ok (.bipush (-4), 2) := by decide +kernel
theorem dX6_walker_35 : decode cX6_walker 35 = .ok (.invokevirtual 66, 3) := by decide +kernel
theorem dX6_walker_38 : decode cX6_walker 38 = .ok (.ireturn, 1) := by decide +kernel
theorem dX6_walker_39 : decode cX6_walker 39 = .ok (.iload_n 2, 1) := by decide +kernel
theorem dX6_walker_40 : decode cX6_walker 40 = .ok (.aload_n 0, 1) := by decide +kernel
theorem dX6_walker_41 : decode cX6_walker 41 = .ok (.getfield 13, 3) := by decide +kernel
theorem dX6_walker_44 : decode cX6_walker 44 = .ok (.if_icmp .ge 26, 3) := by decide +kernel
theorem dX6_walker_47 : decode cX6_walker 47 = .ok (.iload_n 3, 1) := by decide +kernel
theorem dX6_walker_48 : decode cX6_walker 48 = .ok (.aload_n 0, 1) := by decide +kernel
theorem dX6_walker_49 : decode cX6_walker 49 = .ok (.getfield 13, 3) := by decide +kernel
theorem dX6_walker_52 : decode cX6_walker 52 = .ok (.if_icmp .ge 18, 3) := by decide +kernel
theorem dX6_walker_55 : decode cX6_walker 55 = .ok (.iload 4, 2) := by decide +kernel
theorem dX6_walker_57 : decode cX6_walker 57 = .ok (.bipush 9, 2) := by decide +kernel
theorem dX6_walker_59 : decode cX6_walker 59 = .ok (.if_icmp .gt 11, 3) := by decide +kernel
theorem dX6_walker_62 : decode cX6_walker 62 = .ok (.aload_n 0, 1) := by decide +kernel
theorem dX6_walker_63 : decode cX6_walker 63 = .ok (.getfield 70, 3) := by decide +kernel
theorem dX6_walker_66 : decode cX6_walker 66 = .ok (.iconst 5, 1) := by decide +kernel
theorem dX6_walker_67 : decode cX6_walker 67 = .ok (.if_icmp .ne 10, 3) := by decide +kernel
theorem dX6_walker_70 : decode cX6_walker 70 = .ok (.aload_n 0, 1) := by decide +kernel
theorem dX6_walker_71 : decode cX6_walker 71 = .ok (.bipush (-6), 2) := by decide +kernel
theorem dX6_walker_73 : decode cX6_walker 73 = .ok (.invokevirtual 66, 3) := by decide +kernel
theorem dX6_walker_76 : decode cX6_walker 76 = .ok (.ireturn, 1) := by decide +kernel
theorem dX6_walker_77 : decode cX6_walker 77 = .ok (.aload_n 0, 1) := by decide +kernel
theorem dX6_walker_78 : decode cX6_walker 78 = .ok (.iload_n 1, 1) := by decide +kernel
theorem dX6_walker_79 : decode cX6_walker 79 = .ok (.iload_n 2, 1) := by decide +kernel
theorem dX6_walker_80 : decode cX6_walker 80 = .ok (.iload_n 3, 1) := by decide +kernel
theorem dX6_walker_81 : decode cX6_walker 81 = .ok (.iload 4, 2) := by decide +kernel
theorem dX6_walker_83 : decode cX6_walker 83 = .ok (.invokevirtual 107, 3) := by decide +kernel
theorem dX6_walker_86 : decode cX6_walker 86 = .ok (.aload_n 0, 1) := by decide +kernel
theorem dX6_walker_87 : decode cX6_walker 87 = .ok (.iconst 0, 1) := by decide +kernel
theorem dX6_walker_88 : decode cX6_walker 88 = .ok (.putfield 102, 3) := by decide +kernel
theorem dX6_walker_91 : decode cX6_walker 91 = .ok (.aload_n 0, 1) := by decide +kernel
theorem dX6_walker_92 : decode cX6_walker 92 = .ok (.getfield 70, 3) := by decide +kernel
theorem dX6_walker_95 : decode cX6_walker 95 = .ok (.iconst 1, 1) := by decide +kernel
theorem dX6_walker_96 : decode cX6_walker 96 = .ok (.isub, 1) := by decide +kernel
theorem dX6_walker_97 : decode cX6_walker 97 = .ok (.ireturn, 1) := by decide +kernel
theorem dX6_comes_0 : decode cX6_comes 0 = .ok (.aload_n 0, 1) := by decide +kernel
theorem dX6_comes_1 : decode cX6_comes 1 = .ok (.getfield 17, 3) := by decide +kernel
theorem dX6_comes_4 : decode cX6_comes 4 = .ok (.iconst 4, 1) := by decide +kernel
theorem dX6_comes_5 : decode cX6_comes 5 = .ok (.aload_n 0, 1) := by decide +kernel
theorem dX6_comes_6 : decode cX6_comes 6 = .ok (.getfield 70, 3) := by decide +kernel
theorem dX6_comes_9 : decode cX6_comes 9 = .ok (.imul, 1) := by decide +kernel
theorem dX6_comes_10 : decode cX6_comes 10 = .ok (.iload_n 1, 1) := by decide +kernel
theorem dX6_comes_11 : decode cX6_comes 11 = .ok (.iastore, 1) := by decide +kernel
theorem dX6_comes_12 : decode cX6_comes 12 = .ok (.aload_n 0, 1) := by decide +kernel
theorem dX6_comes_13 : decode cX6_comes 13 = .ok (.getfield 17, 3) := by decide +kernel
theorem dX6_comes_16 : decode cX6_comes 16 = .ok (.iconst 4, 1) := by decide +kernel
theorem dX6_comes_17 : decode cX6_comes 17 = .ok (.aload_n 0, 1) := by decide +kernel
theorem dX6_comes_18 : decode cX6_comes 18 = .ok (.getfield 70, 3) := by decide +kernel
theorem dX6_comes_21 : decode cX6_comes 21 = .ok (.imul, 1) := by decide +kernel
theorem dX6_comes_22 : decode cX6_comes 22 = .ok (.iconst 1, 1) := by decide +kernel
theorem dX6_comes_23 : decode cX6_comes 23 = .ok (.iadd, 1) := by decide +kernel
theorem dX6_comes_24 : decode cX6_comes 24 = .ok (.iload_n 2, 1) := by decide +kernel
theorem dX6_comes_25 : decode cX6_comes 25 = .ok (.iastore, 1) := by decide +kernel
theorem dX6_comes_26 : decode cX6_comes 26 = .ok (.aload_n 0, 1) := by decide +kernel
theorem dX6_comes_27 : decode cX6_comes 27 = .ok (.getfield 17, 3) := by decide +kernel
theorem dX6_comes_30 : decode cX6_comes 30 = .ok (.iconst 4, 1) := by decide +kernel
theorem dX6_comes_31 : decode cX6_comes 31 = .ok (.aload_n 0, 1) := by decide +kernel
theorem dX6_comes_32 : decode cX6_comes 32 = .ok (.getfield 70, 3) := by decide +kernel
theorem dX6_comes_35 : decode cX6_comes 35 = .ok (.imul, 1) := by decide +kernel
theorem dX6_comes_36 : decode cX6_comes 36 = .ok (.iconst 2, 1) := by decide +kernel
theorem dX6_comes_37 : decode cX6_comes 37 = .ok (.iadd, 1) := by decide +kernel
theorem dX6_comes_38 : decode cX6_comes 38 = .ok (.iload_n 3, 1) := by decide +kernel
theorem dX6_comes_39 : decode cX6_comes 39 = .ok (.iastore, 1) := by decide +kernel
theorem dX6_comes_40 : decode cX6_comes 40 = .ok (.aload_n 0, 1) := by decide +kernel
theorem dX6_comes_41 : decode cX6_comes 41 = .ok (.getfield 17, 3) := by decide +kernel
theorem dX6_comes_44 : decode cX6_comes 44 = .ok (.iconst 4, 1) := by decide +kernel
theorem dX6_comes_45 : decode cX6_comes 45 = .ok (.aload_n 0, 1) := by decide +kernel
theorem dX6_comes_46 : decode cX6_comes 46 = .ok (.getfield 70, 3) := by decide +kernel
theorem dX6_comes_49 : decode cX6_comes 49 = .ok (.imul, 1) := by decide +kernel
theorem dX6_comes_50 : decode cX6_comes 50 = .ok (.iconst 3, 1) := by decide +kernel
theorem dX6_comes_51 : decode cX6_comes 51 = .ok (.iadd, 1) := by decide +kernel
theorem dX6_comes_52 : decode cX6_comes 52 = .ok (.iload 4, 2) := by decide +kernel
theorem dX6_comes_54 : decode cX6_comes 54 = .ok (.iastore, 1) := by decide +kernel
theorem dX6_comes_55 : decode cX6_comes 55 = .ok (.aload_n 0, 1) := by decide +kernel
theorem dX6_comes_56 : decode cX6_comes 56 = .ok (.dup, 1) := by decide +kernel
theorem dX6_comes_57 : decode cX6_comes 57 = .ok (.getfield 70, 3) := by decide +kernel
theorem dX6_comes_60 : decode cX6_comes 60 = .ok (.iconst 1, 1) := by decide +kernel
theorem dX6_comes_61 : decode cX6_comes 61 = .ok (.iadd, 1) := by decide +kernel
theorem dX6_comes_62 : decode cX6_comes 62 = .ok (.putfield 70, 3) := by decide +kernel
theorem dX6_comes_65 : decode cX6_comes 65 = .ok (.return_, 1) := by decide +kernel
set_option maxRecDepth 20000 in
theorem ggX6_drop_X6_no : GoodIn wsX6_drop wsX6_no := goodIn_r _ [7, 8, 9, 10, 11, 12, 13, 14, 15, 16, 17, 18, 19, 20, 21, 22, 23, 24, 25, 26, 27, 28, 29, 30] (by decide +kernel) (by decide +kernel)
set_option maxRecDepth 20000 in
theorem gX6_drop_X6_no : GoodIn wsX6_drop (wsV RX6 66 RX6 yX6_no wsX6_no) := goodIn_app (goodIn_of _ (by decide +kernel)) ggX6_drop_X6_no
theorem dX6_drop_0 : decode cX6_drop 0 = .ok (.aload_n 0, 1) := by decide +kernel
theorem dX6_drop_1 : decode cX6_drop 1 = .ok (.getfield 70, 3) := by decide +kernel
theorem dX6_drop_4 : decode cX6_drop 4 = .ok (.ifCond .ne 10, 3) := by decide +kernel
theorem dX6_drop_7 : decode cX6_drop 7 = .ok (.aload_n 0, 1) := by decide +kernel
theorem dX6_drop_8 : decode cX6_drop 8 = .ok (.bipush (-3), 2) := by decide +kernel
theorem dX6_drop_10 : decode cX6_drop 10 = .ok (.invokevirtual 66, 3) := by decide +kernel
theorem dX6_drop_13 : decode cX6_drop 13 = .ok (.ireturn, 1) := by decide +kernel
theorem dX6_drop_14 : decode cX6_drop 14 = .ok (.aload_n 0, 1) := by decide +kernel
theorem dX6_drop_15 : decode cX6_drop 15 = .ok (.dup, 1) := by decide +kernel
theorem dX6_drop_16 : decode cX6_drop 16 = .ok (.getfield 70, 3) := by decide +kernel
theorem dX6_drop_19 : decode cX6_drop 19 = .ok (.iconst 1, 1) := by decide +kernel
theorem dX6_drop_20 : decode cX6_drop 20 = .ok (.isub, 1) := by decide +kernel
theorem dX6_drop_21 : decode cX6_drop 21 = .ok (.putfield 70, 3) := by decide +kernel
theorem dX6_drop_24 : decode cX6_drop 24 = .ok (.aload_n 0, 1) := by decide +kernel
theorem dX6_drop_25 : decode cX6_drop 25 = .ok (.iconst 0, 1) := by decide +kernel
theorem dX6_drop_26 : decode cX6_drop 26 = .ok (.putfield 102, 3) := by decide +kernel
theorem dX6_drop_29 : decode cX6_drop 29 = .ok (.aload_n 0, 1) := by decide +kernel
theorem dX6_drop_30 : decode cX6_drop 30 = .ok (.getfield 70, 3) := by decide +kernel
theorem dX6_drop_33 : decode cX6_drop 33 = .ok (.ireturn, 1) := by decide +kernel
set_option maxRecDepth 20000 in
theorem ggX6_returnOf_X6_placeOf : GoodIn wsX6_returnOf wsX6_placeOf := goodIn_r _ [5, 6, 7, 8, 4, 9, 10, 11, 12, 13, 14, 15, 16, 17, 18, 19, 20, 21, 22, 23, 24, 25, 26, 27, 28, 29, 30, 31, 32, 33, 34, 35, 36, 37, 38, 39, 40] (by decide +kernel) (by decide +kernel)
set_option maxRecDepth 20000 in
theorem gX6_returnOf_X6_placeOf : GoodIn wsX6_returnOf (wsV RX6 111 RX6 yX6_placeOf wsX6_placeOf) := goodIn_app (goodIn_of _ (by decide +kernel)) ggX6_returnOf_X6_placeOf
set_option maxRecDepth 20000 in
theorem ggX6_returnOf_X6_at : GoodIn wsX6_returnOf wsX6_at := goodIn_r _ [9, 10, 19, 20, 21, 22, 23, 24, 25, 26, 27, 28, 29, 30, 31, 32, 33, 34, 35, 36, 37, 38, 39, 40] (by decide +kernel) (by decide +kernel)
set_option maxRecDepth 20000 in
theorem gX6_returnOf_X6_at : GoodIn wsX6_returnOf (wsV RX6 81 RX6 yX6_at wsX6_at) := goodIn_app (goodIn_of _ (by decide +kernel)) ggX6_returnOf_X6_at
theorem dX6_returnOf_0 : decode cX6_returnOf 0 = .ok (.iconst 1, 1) := by decide +kernel
theorem dX6_returnOf_1 : decode cX6_returnOf 1 = .ok (.istore_n 2, 1) := by decide +kernel
theorem dX6_returnOf_2 : decode cX6_returnOf 2 = .ok (.iload_n 2, 1) := by decide +kernel
theorem dX6_returnOf_3 : decode cX6_returnOf 3 = .ok (.sipush 2000, 3) := by decide +kernel
theorem dX6_returnOf_6 : decode cX6_returnOf 6 = .ok (.if_icmp .gt 26, 3) := by decide +kernel
theorem dX6_returnOf_9 : decode cX6_returnOf 9 = .ok (.aload_n 0, 1) := by decide +kernel
theorem dX6_returnOf_10 : decode cX6_returnOf 10 = .ok (.iload_n 1, 1) := by decide +kernel
theorem dX6_returnOf_11 : decode cX6_returnOf 11 = .ok (.iload_n 2, 1) := by decide +kernel
theorem dX6_returnOf_12 : decode cX6_returnOf 12 = .ok (.invokevirtual 111, 3) := by decide +kernel
theorem dX6_returnOf_15 : decode cX6_returnOf 15 = .ok (.aload_n 0, 1) := by decide +kernel
theorem dX6_returnOf_16 : decode cX6_returnOf 16 = .ok (.iload_n 1, 1) := by decide +kernel
theorem dX6_returnOf_17 : decode cX6_returnOf 17 = .ok (.iconst 2, 1) := by decide +kernel
theorem dX6_returnOf_18 : decode cX6_returnOf 18 = .ok (.invokevirtual 81, 3) := by decide +kernel
theorem dX6_returnOf_21 : decode cX6_returnOf 21 = .ok (.if_icmp .ne 5, 3) := by decide +kernel
theorem dX6_returnOf_24 : decode cX6_returnOf 24 = .ok (.iload_n 2, 1) := by decide +kernel
theorem dX6_returnOf_25 : decode cX6_returnOf 25 = .ok (.ireturn, 1) := by decide +kernel
theorem dX6_returnOf_26 : decode cX6_returnOf 26 = .ok (.iinc 2 1, 3) := by decide +kernel
theorem dX6_returnOf_29 : decode cX6_returnOf 29 = .ok (.goto (-27), 3) := by decide +kernel
theorem dX6_returnOf_32 : decode cX6_returnOf 32 = .ok (.bipush (-9), 2) := by decide +kernel
theorem dX6_returnOf_34 : decode cX6_returnOf 34 = .ok (.ireturn, 1) := by decide +kernel
set_option maxRecDepth 20000 in
theorem ggX6_of_X6_isWalker : GoodIn wsX6_of wsX6_isWalker := goodIn_r _ [6, 7, 8, 9, 5, 10, 37, 38, 39, 40, 41, 42, 43, 44, 45, 46, 47, 48, 49, 50, 51, 52, 53, 54, 55, 56, 57, 58] (by decide +kernel) (by decide +kernel)
set_option maxRecDepth 20000 in
theorem gX6_of_X6_isWalker : GoodIn wsX6_of (wsV RX6 89 RX6 yX6_isWalker wsX6_isWalker) := goodIn_app (goodIn_of _ (by decide +kernel)) ggX6_of_X6_isWalker
set_option maxRecDepth 20000 in
theorem ggX6_of_X6_no : GoodIn wsX6_of wsX6_no := goodIn_r _ [14, 15, 37, 38, 39, 40, 41, 42, 43, 44, 45, 46, 47, 48, 49, 50, 51, 52, 53, 54, 55, 56, 57, 58] (by decide +kernel) (by decide +kernel)
set_option maxRecDepth 20000 in
theorem gX6_of_X6_no : GoodIn wsX6_of (wsV RX6 66 RX6 yX6_no wsX6_no) := goodIn_app (goodIn_of _ (by decide +kernel)) ggX6_of_X6_no
set_option maxRecDepth 20000 in
theorem ggX6_of_X6_in : GoodIn wsX6_of wsX6_in := goodIn_r _ [10] (by decide +kernel) (by decide +kernel)
set_option maxRecDepth 20000 in
theorem gX6_of_X6_in : GoodIn wsX6_of (va_wsS RX6 73 yX6_in wsX6_in) := goodIn_app (goodIn_of _ (by decide +kernel)) ggX6_of_X6_in
set_option maxRecDepth 20000 in
theorem ggX6_of_X6_at : GoodIn wsX6_of wsX6_at := goodIn_r _ [19, 20, 37, 38, 39, 40, 41, 42, 43, 44, 45, 46, 47, 48, 49, 50, 51, 52, 53, 54, 55, 56, 57, 58] (by decide +kernel) (by decide +kernel)
set_option maxRecDepth 20000 in
theorem gX6_of_X6_at : GoodIn wsX6_of (wsV RX6 81 RX6 yX6_at wsX6_at) := goodIn_app (goodIn_of _ (by decide +kernel)) ggX6_of_X6_at
set_option maxRecDepth 20000 in
theorem ggX6_of_X6_returnOf : GoodIn wsX6_of wsX6_returnOf := goodIn_r _ [24, 25, 26, 27, 5, 28, 16, 17, 18, 19, 20, 29, 30, 31, 32, 33, 34, 35, 36, 37, 38, 39, 40, 41, 42, 43, 44, 45, 46, 47, 48, 49, 50, 51, 52, 53, 54, 55, 56, 57, 58] (by decide +kernel) (by decide +kernel)
set_option maxRecDepth 20000 in
theorem gX6_of_X6_returnOf : GoodIn wsX6_of (wsV RX6 116 RX6 yX6_returnOf wsX6_returnOf) := goodIn_app (goodIn_of _ (by decide +kernel)) ggX6_of_X6_returnOf
theorem dX6_of_0 : decode cX6_of 0 = .ok (.aload_n 0, 1) := by decide +kernel
theorem dX6_of_1 : decode cX6_of 1 = .ok (.iload_n 1, 1) := by decide +kernel
theorem dX6_of_2 : decode cX6_of 2 = .ok (.invokevirtual 89, 3) := by decide +kernel
theorem dX6_of_5 : decode cX6_of 5 = .ok (.ifCond .ne 9, 3) := by decide +kernel
theorem dX6_of_8 : decode cX6_of 8 = .ok (.aload_n 0, 1) := by decide +kernel
theorem dX6_of_9 : decode cX6_of 9 = .ok (.iconst (-1), 1) := by decide +kernel
theorem dX6_of_10 : decode cX6_of 10 = .ok (.invokevirtual 66, 3) := by decide +kernel
theorem dX6_of_13 : decode cX6_of 13 = .ok (.ireturn, 1) := by decide +kernel
theorem dX6_of_14 : decode cX6_of 14 = .ok (.iload_n 2, 1) := by decide +kernel
theorem dX6_of_15 : decode cX6_of 15 = .ok (.i2l, 1) := by decide +kernel
theorem dX6_of_16 : decode cX6_of 16 = .ok (.lconst 0, 1) := by decide +kernel
theorem dX6_of_17 : decode cX6_of 17 = .ok (.ldc2_w 114, 3) := by decide +kernel
theorem dX6_of_20 : decode cX6_of 20 = .ok (.invokestatic 73, 3) := by decide +kernel
theorem dX6_of_23 : decode cX6_of 23 = .ok (.ifCond .ne 10, 3) := by decide +kernel
theorem dX6_of_26 : decode cX6_of 26 = .ok (.aload_n 0, 1) := by decide +kernel
theorem dX6_of_27 : decode cX6_of 27 = .ok (.bipush (-2), 2) := by decide +kernel
theorem dX6_of_29 : decode cX6_of 29 = .ok (.invokevirtual 66, 3) := by decide +kernel
theorem dX6_of_32 : decode cX6_of 32 = .ok (.ireturn, 1) := by decide +kernel
theorem dX6_of_33 : decode cX6_of 33 = .ok (.iload_n 2, 1) := by decide +kernel
theorem dX6_of_34 : decode cX6_of 34 = .ok (.iconst 4, 1) := by decide +kernel
theorem dX6_of_35 : decode cX6_of 35 = .ok (.if_icmp .ge 12, 3) := by decide +kernel
theorem dX6_of_38 : decode cX6_of 38 = .ok (.aload_n 0, 1) := by decide +kernel
theorem dX6_of_39 : decode cX6_of 39 = .ok (.iload_n 1, 1) := by decide +kernel
theorem dX6_of_40 : decode cX6_of 40 = .ok (.iload_n 2, 1) := by decide +kernel
theorem dX6_of_41 : decode cX6_of 41 = .ok (.invokevirtual 81, 3) := by decide +kernel
theorem dX6_of_44 : decode cX6_of 44 = .ok (.goto 8, 3) := by decide +kernel
theorem dX6_of_47 : decode cX6_of 47 = .ok (.aload_n 0, 1) := by decide +kernel
theorem dX6_of_48 : decode cX6_of 48 = .ok (.iload_n 1, 1) := by decide +kernel
theorem dX6_of_49 : decode cX6_of 49 = .ok (.invokevirtual 116, 3) := by decide +kernel
theorem dX6_of_52 : decode cX6_of 52 = .ok (.ireturn, 1) := by decide +kernel
theorem dX6_over_0 : decode cX6_over 0 = .ok (.iload_n 0, 1) := by decide +kernel
theorem dX6_over_1 : decode cX6_over 1 = .ok (.ifCond .ne 7, 3) := by decide +kernel
theorem dX6_over_4 : decode cX6_over 4 = .ok (.iconst (-1), 1) := by decide +kernel
theorem dX6_over_5 : decode cX6_over 5 = .ok (.goto 22, 3) := by decide +kernel
theorem dX6_over_8 : decode cX6_over 8 = .ok (.iload_n 0, 1) := by decide +kernel
theorem dX6_over_9 : decode cX6_over 9 = .ok (.iconst 4, 1) := by decide +kernel
theorem dX6_over_10 : decode cX6_over 10 = .ok (.if_icmp .ne 7, 3) := by decide +kernel
theorem dX6_over_13 : decode cX6_over 13 = .ok (.iconst 2, 1) := by decide +kernel
theorem dX6_over_14 : decode cX6_over 14 = .ok (.goto 13, 3) := by decide +kernel
theorem dX6_over_17 : decode cX6_over 17 = .ok (.iload_n 0, 1) := by decide +kernel
theorem dX6_over_18 : decode cX6_over 18 = .ok (.iconst 5, 1) := by decide +kernel
theorem dX6_over_19 : decode cX6_over 19 = .ok (.if_icmp .ne 7, 3) := by decide +kernel
theorem dX6_over_22 : decode cX6_over 22 = .ok (.iconst 1, 1) := by decide +kernel
theorem dX6_over_23 : decode cX6_over 23 = .ok (.goto 4, 3) := by decide +kernel
theorem dX6_over_26 : decode cX6_over 26 = .ok (.iconst 0, 1) := by decide +kernel
theorem dX6_over_27 : decode cX6_over 27 = .ok (.ireturn, 1) := by decide +kernel
set_option maxRecDepth 20000 in
theorem ggX6_taken_X6_isWalker : GoodIn wsX6_taken wsX6_isWalker := goodIn_r _ [6, 7, 8, 9, 5, 10, 24, 25, 26, 27, 28, 29, 30, 31, 32, 33, 34, 35, 36, 37, 38, 39, 40, 41, 42, 43, 44, 45] (by decide +kernel) (by decide +kernel)
set_option maxRecDepth 20000 in
theorem gX6_taken_X6_isWalker : GoodIn wsX6_taken (wsV RX6 89 RX6 yX6_isWalker wsX6_isWalker) := goodIn_app (goodIn_of _ (by decide +kernel)) ggX6_taken_X6_isWalker
set_option maxRecDepth 20000 in
theorem ggX6_taken_X6_no : GoodIn wsX6_taken wsX6_no := goodIn_r _ [14, 15, 24, 25, 26, 27, 28, 29, 30, 31, 32, 33, 34, 35, 36, 37, 38, 39, 40, 41, 42, 43, 44, 45] (by decide +kernel) (by decide +kernel)
set_option maxRecDepth 20000 in
theorem gX6_taken_X6_no : GoodIn wsX6_taken (wsV RX6 66 RX6 yX6_no wsX6_no) := goodIn_app (goodIn_of _ (by decide +kernel)) ggX6_taken_X6_no
set_option maxRecDepth 20000 in
theorem ggX6_taken_X6_in : GoodIn wsX6_taken wsX6_in := goodIn_r _ [10] (by decide +kernel) (by decide +kernel)
set_option maxRecDepth 20000 in
theorem gX6_taken_X6_in : GoodIn wsX6_taken (va_wsS RX6 73 yX6_in wsX6_in) := goodIn_app (goodIn_of _ (by decide +kernel)) ggX6_taken_X6_in
set_option maxRecDepth 20000 in
theorem ggX6_taken_X6_at : GoodIn wsX6_taken wsX6_at := goodIn_r _ [19, 20, 24, 25, 26, 27, 28, 29, 30, 31, 32, 33, 34, 35, 36, 37, 38, 39, 40, 41, 42, 43, 44, 45] (by decide +kernel) (by decide +kernel)
set_option maxRecDepth 20000 in
theorem gX6_taken_X6_at : GoodIn wsX6_taken (wsV RX6 81 RX6 yX6_at wsX6_at) := goodIn_app (goodIn_of _ (by decide +kernel)) ggX6_taken_X6_at
set_option maxRecDepth 20000 in
theorem ggX6_taken_X6_over : GoodIn wsX6_taken wsX6_over := goodIn_r _ [23] (by decide +kernel) (by decide +kernel)
set_option maxRecDepth 20000 in
theorem gX6_taken_X6_over : GoodIn wsX6_taken (va_wsS RX6 119 yX6_over wsX6_over) := goodIn_app (goodIn_of _ (by decide +kernel)) ggX6_taken_X6_over
theorem dX6_taken_0 : decode cX6_taken 0 = .ok (.aload_n 0, 1) := by decide +kernel
theorem dX6_taken_1 : decode cX6_taken 1 = .ok (.iload_n 1, 1) := by decide +kernel
theorem dX6_taken_2 : decode cX6_taken 2 = .ok (.invokevirtual 89, 3) := by decide +kernel
theorem dX6_taken_5 : decode cX6_taken 5 = .ok (.ifCond .ne 9, 3) := by decide +kernel
theorem dX6_taken_8 : decode cX6_taken 8 = .ok (.aload_n 0, 1) := by decide +kernel
theorem dX6_taken_9 : decode cX6_taken 9 = .ok (.iconst (-1), 1) := by decide +kernel
theorem dX6_taken_10 : decode cX6_taken 10 = .ok (.invokevirtual 66, 3) := by decide +kernel
theorem dX6_taken_13 : decode cX6_taken 13 = .ok (.ireturn, 1) := by decide +kernel
theorem dX6_taken_14 : decode cX6_taken 14 = .ok (.iload_n 2, 1) := by decide +kernel
theorem dX6_taken_15 : decode cX6_taken 15 = .ok (.i2l, 1) := by decide +kernel
theorem dX6_taken_16 : decode cX6_taken 16 = .ok (.lconst 0, 1) := by decide +kernel
theorem dX6_taken_17 : decode cX6_taken 17 = .ok (.ldc2_w 105, 3) := by decide +kernel
theorem dX6_taken_20 : decode cX6_taken 20 = .ok (.invokestatic 73, 3) := by decide +kernel
theorem dX6_taken_23 : decode cX6_taken 23 = .ok (.ifCond .ne 10, 3) := by decide +kernel
theorem dX6_taken_26 : decode cX6_taken 26 = .ok (.aload_n 0, 1) := by decide +kernel
theorem dX6_taken_27 : decode cX6_taken 27 = .ok (.bipush (-2), 2) := by decide +kernel
theorem dX6_taken_29 : decode cX6_taken 29 = .ok (.invokevirtual 66, 3) := by decide +kernel
theorem dX6_taken_32 : decode cX6_taken 32 = .ok (.ireturn, 1) := by decide +kernel
theorem dX6_taken_33 : decode cX6_taken 33 = .ok (.aload_n 0, 1) := by decide +kernel
theorem dX6_taken_34 : decode cX6_taken 34 = .ok (.iload_n 1, 1) := by decide +kernel
theorem dX6_taken_35 : decode cX6_taken 35 = .ok (.iconst 0, 1) := by decide +kernel
theorem dX6_taken_36 : decode cX6_taken 36 = .ok (.invokevirtual 81, 3) := by decide +kernel
theorem dX6_taken_39 : decode cX6_taken 39 = .ok (.istore_n 3, 1) := by decide +kernel
theorem dX6_taken_40 : decode cX6_taken 40 = .ok (.iload_n 3, 1) := by decide +kernel
theorem dX6_taken_41 : decode cX6_taken 41 = .ok (.ifCond .lt 23, 3) := by decide +kernel
theorem dX6_taken_44 : decode cX6_taken 44 = .ok (.iload_n 3, 1) := by decide +kernel
theorem dX6_taken_45 : decode cX6_taken 45 = .ok (.iload_n 2, 1) := by decide +kernel
theorem dX6_taken_46 : decode cX6_taken 46 = .ok (.if_icmp .ne 10, 3) := by decide +kernel
theorem dX6_taken_49 : decode cX6_taken 49 = .ok (.aload_n 0, 1) := by decide +kernel
theorem dX6_taken_50 : decode cX6_taken 50 = .ok (.iload_n 1, 1) := by decide +kernel
theorem dX6_taken_51 : decode cX6_taken 51 = .ok (.iconst 0, 1) := by decide +kernel
theorem dX6_taken_52 : decode cX6_taken 52 = .ok (.invokevirtual 81, 3) := by decide +kernel
theorem dX6_taken_55 : decode cX6_taken 55 = .ok (.ireturn, 1) := by decide +kernel
theorem dX6_taken_56 : decode cX6_taken 56 = .ok (.iload_n 3, 1) := by decide +kernel
theorem dX6_taken_57 : decode cX6_taken 57 = .ok (.invokestatic 119, 3) := by decide +kernel
theorem dX6_taken_60 : decode cX6_taken 60 = .ok (.istore_n 3, 1) := by decide +kernel
theorem dX6_taken_61 : decode cX6_taken 61 = .ok (.goto (-21), 3) := by decide +kernel
theorem dX6_taken_64 : decode cX6_taken 64 = .ok (.bipush (-16), 2) := by decide +kernel
theorem dX6_taken_66 : decode cX6_taken 66 = .ok (.ireturn, 1) := by decide +kernel
set_option maxRecDepth 20000 in
theorem ggX6_place_X6_isWalker : GoodIn wsX6_place wsX6_isWalker := goodIn_r _ [5, 6, 7, 8, 4, 9, 35, 36, 37, 38, 39, 40, 41, 42, 43, 44, 45, 46, 47, 48, 49, 50, 51, 52, 53, 54, 55, 56] (by decide +kernel) (by decide +kernel)
set_option maxRecDepth 20000 in
theorem gX6_place_X6_isWalker : GoodIn wsX6_place (wsV RX6 89 RX6 yX6_isWalker wsX6_isWalker) := goodIn_app (goodIn_of _ (by decide +kernel)) ggX6_place_X6_isWalker
set_option maxRecDepth 20000 in
theorem ggX6_place_X6_no : GoodIn wsX6_place wsX6_no := goodIn_r _ [13, 14, 35, 36, 37, 38, 39, 40, 41, 42, 43, 44, 45, 46, 47, 48, 49, 50, 51, 52, 53, 54, 55, 56] (by decide +kernel) (by decide +kernel)
set_option maxRecDepth 20000 in
theorem gX6_place_X6_no : GoodIn wsX6_place (wsV RX6 66 RX6 yX6_no wsX6_no) := goodIn_app (goodIn_of _ (by decide +kernel)) ggX6_place_X6_no
set_option maxRecDepth 20000 in
theorem ggX6_place_X6_range : GoodIn wsX6_place wsX6_range := goodIn_r _ [17] (by decide +kernel) (by decide +kernel)
set_option maxRecDepth 20000 in
theorem gX6_place_X6_range : GoodIn wsX6_place (va_wsS RX6 98 yX6_range wsX6_range) := goodIn_app (goodIn_of _ (by decide +kernel)) ggX6_place_X6_range
set_option maxRecDepth 20000 in
theorem ggX6_place_X6_placeOf : GoodIn wsX6_place wsX6_placeOf := goodIn_r _ [21, 22, 23, 24, 4, 25, 26, 27, 28, 29, 30, 31, 32, 33, 34, 35, 36, 37, 38, 39, 40, 41, 42, 43, 44, 45, 46, 47, 48, 49, 50, 51, 52, 53, 54, 55, 56] (by decide +kernel) (by decide +kernel)
set_option maxRecDepth 20000 in
theorem gX6_place_X6_placeOf : GoodIn wsX6_place (wsV RX6 111 RX6 yX6_placeOf wsX6_placeOf) := goodIn_app (goodIn_of _ (by decide +kernel)) ggX6_place_X6_placeOf
theorem dX6_place_0 : decode cX6_place 0 = .ok (.aload_n 0, 1) := by decide +kernel
theorem dX6_place_1 : decode cX6_place 1 = .ok (.iload_n 1, 1) := by decide +kernel
theorem dX6_place_2 : decode cX6_place 2 = .ok (.invokevirtual 89, 3) := by decide +kernel
theorem dX6_place_5 : decode cX6_place 5 = .ok (.ifCond .ne 9, 3) := by decide +kernel
theorem dX6_place_8 : decode cX6_place 8 = .ok (.aload_n 0, 1) := by decide +kernel
theorem dX6_place_9 : decode cX6_place 9 = .ok (.iconst (-1), 1) := by decide +kernel
theorem dX6_place_10 : decode cX6_place 10 = .ok (.invokevirtual 66, 3) := by decide +kernel
theorem dX6_place_13 : decode cX6_place 13 = .ok (.ireturn, 1) := by decide +kernel
theorem dX6_place_14 : decode cX6_place 14 = .ok (.iload_n 2, 1) := by decide +kernel
theorem dX6_place_15 : decode cX6_place 15 = .ok (.iconst 0, 1) := by decide +kernel
theorem dX6_place_16 : decode cX6_place 16 = .ok (.sipush 4000, 3) := by decide +kernel
theorem dX6_place_19 : decode cX6_place 19 = .ok (.invokestatic 98, 3) := by decide +kernel
theorem dX6_place_22 : decode cX6_place 22 = .ok (.istore_n 3, 1) := by decide +kernel
theorem dX6_place_23 : decode cX6_place 23 = .ok (.iload_n 3, 1) := by decide +kernel
theorem dX6_place_24 : decode cX6_place 24 = .ok (.ifCond .eq 11, 3) := by decide +kernel
theorem dX6_place_27 : decode cX6_place 27 = .ok (.aload_n 0, 1) := by decide +kernel
theorem dX6_place_28 : decode cX6_place 28 = .ok (.iload_n 3, 1) := by decide +kernel
theorem dX6_place_29 : decode cX6_place 29 = .ok (.invokevirtual 66, 3) := by decide +kernel
theorem dX6_place_32 : decode cX6_place 32 = .ok (.goto 9, 3) := by decide +kernel
theorem dX6_place_35 : decode cX6_place 35 = .ok (.aload_n 0, 1) := by decide +kernel
theorem dX6_place_36 : decode cX6_place 36 = .ok (.iload_n 1, 1) := by decide +kernel
theorem dX6_place_37 : decode cX6_place 37 = .ok (.iload_n 2, 1) := by decide +kernel
theorem dX6_place_38 : decode cX6_place 38 = .ok (.invokevirtual 111, 3) := by decide +kernel
theorem dX6_place_41 : decode cX6_place 41 = .ok (.ireturn, 1) := by decide +kernel
set_option maxRecDepth 20000 in
theorem ggX6_letter_X6_range : GoodIn wsX6_letter wsX6_range := goodIn_r _ [6] (by decide +kernel) (by decide +kernel)
set_option maxRecDepth 20000 in
theorem gX6_letter_X6_range : GoodIn wsX6_letter (va_wsS RX6 98 yX6_range wsX6_range) := goodIn_app (goodIn_of _ (by decide +kernel)) ggX6_letter_X6_range
set_option maxRecDepth 20000 in
theorem ggX6_letter_X6_no : GoodIn wsX6_letter wsX6_no := goodIn_r _ [10, 11, 12, 13, 14, 15, 16, 17, 18, 19, 20, 21, 22, 23, 24, 25, 26, 27, 28, 29, 30, 31, 32, 33] (by decide +kernel) (by decide +kernel)
set_option maxRecDepth 20000 in
theorem gX6_letter_X6_no : GoodIn wsX6_letter (wsV RX6 66 RX6 yX6_no wsX6_no) := goodIn_app (goodIn_of _ (by decide +kernel)) ggX6_letter_X6_no
theorem dX6_letter_0 : decode cX6_letter 0 = .ok (.iload_n 1, 1) := by decide +kernel
theorem dX6_letter_1 : decode cX6_letter 1 = .ok (.iconst 0, 1) := by decide +kernel
theorem dX6_letter_2 : decode cX6_letter 2 = .ok (.sipush 255, 3) := by decide +kernel
theorem dX6_letter_5 : decode cX6_letter 5 = .ok (.invokestatic 98, 3) := by decide +kernel
theorem dX6_letter_8 : decode cX6_letter 8 = .ok (.istore_n 2, 1) := by decide +kernel
theorem dX6_letter_9 : decode cX6_letter 9 = .ok (.iload_n 2, 1) := by decide +kernel
theorem dX6_letter_10 : decode cX6_letter 10 = .ok (.ifCond .eq 9, 3) := by decide +kernel
theorem dX6_letter_13 : decode cX6_letter 13 = .ok (.aload_n 0, 1) := by decide +kernel
theorem dX6_letter_14 : decode cX6_letter 14 = .ok (.iload_n 2, 1) := by decide +kernel
theorem dX6_letter_15 : decode cX6_letter 15 = .ok (.invokevirtual 66, 3) := by decide +kernel
theorem dX6_letter_18 : decode cX6_letter 18 = .ok (.ireturn, 1) := by decide +kernel
theorem dX6_letter_19 : decode cX6_letter 19 = .ok (.aload_n 0, 1) := by decide +kernel
theorem dX6_letter_20 : decode cX6_letter 20 = .ok (.getfield 122, 3) := by decide +kernel
theorem dX6_letter_23 : decode cX6_letter 23 = .ok (.bipush 72, 2) := by decide +kernel
theorem dX6_letter_25 : decode cX6_letter 25 = .ok (.if_icmp .ne 10, 3) := by decide +kernel
theorem dX6_letter_28 : decode cX6_letter 28 = .ok (.aload_n 0, 1) := by decide +kernel
theorem dX6_letter_29 : decode cX6_letter 29 = .ok (.bipush (-6), 2) := by decide +kernel
theorem dX6_letter_31 : decode cX6_letter 31 = .ok (.invokevirtual 66, 3) := by decide +kernel
theorem dX6_letter_34 : decode cX6_letter 34 = .ok (.ireturn, 1) := by decide +kernel
theorem dX6_letter_35 : decode cX6_letter 35 = .ok (.aload_n 0, 1) := by decide +kernel
theorem dX6_letter_36 : decode cX6_letter 36 = .ok (.getfield 23, 3) := by decide +kernel
theorem dX6_letter_39 : decode cX6_letter 39 = .ok (.aload_n 0, 1) := by decide +kernel
theorem dX6_letter_40 : decode cX6_letter 40 = .ok (.getfield 122, 3) := by decide +kernel
theorem dX6_letter_43 : decode cX6_letter 43 = .ok (.iload_n 1, 1) := by decide +kernel
theorem dX6_letter_44 : decode cX6_letter 44 = .ok (.iastore, 1) := by decide +kernel
theorem dX6_letter_45 : decode cX6_letter 45 = .ok (.aload_n 0, 1) := by decide +kernel
theorem dX6_letter_46 : decode cX6_letter 46 = .ok (.dup, 1) := by decide +kernel
theorem dX6_letter_47 : decode cX6_letter 47 = .ok (.getfield 122, 3) := by decide +kernel
theorem dX6_letter_50 : decode cX6_letter 50 = .ok (.iconst 1, 1) := by decide +kernel
theorem dX6_letter_51 : decode cX6_letter 51 = .ok (.iadd, 1) := by decide +kernel
theorem dX6_letter_52 : decode cX6_letter 52 = .ok (.putfield 122, 3) := by decide +kernel
theorem dX6_letter_55 : decode cX6_letter 55 = .ok (.aload_n 0, 1) := by decide +kernel
theorem dX6_letter_56 : decode cX6_letter 56 = .ok (.getfield 122, 3) := by decide +kernel
theorem dX6_letter_59 : decode cX6_letter 59 = .ok (.ireturn, 1) := by decide +kernel
theorem dX6_digits_0 : decode cX6_digits 0 = .ok (.iload_n 0, 1) := by decide +kernel
theorem dX6_digits_1 : decode cX6_digits 1 = .ok (.bipush 99, 2) := by decide +kernel
theorem dX6_digits_3 : decode cX6_digits 3 = .ok (.if_icmp .ne 7, 3) := by decide +kernel
theorem dX6_digits_6 : decode cX6_digits 6 = .ok (.iconst 4, 1) := by decide +kernel
theorem dX6_digits_7 : decode cX6_digits 7 = .ok (.goto 35, 3) := by decide +kernel
theorem dX6_digits_10 : decode cX6_digits 10 = .ok (.iload_n 0, 1) := by decide +kernel
theorem dX6_digits_11 : decode cX6_digits 11 = .ok (.bipush 119, 2) := by decide +kernel
theorem dX6_digits_13 : decode cX6_digits 13 = .ok (.if_icmp .ne 8, 3) := by decide +kernel
theorem dX6_digits_16 : decode cX6_digits 16 = .ok (.bipush 10, 2) := by decide +kernel
theorem dX6_digits_18 : decode cX6_digits 18 = .ok (.goto 24, 3) := by decide +kernel
theorem dX6_digits_21 : decode cX6_digits 21 = .ok (.iload_n 0, 1) := by decide +kernel
theorem dX6_digits_22 : decode cX6_digits 22 = .ok (.bipush 115, 2) := by decide +kernel
theorem dX6_digits_24 : decode cX6_digits 24 = .ok (.if_icmp .ne 7, 3) := by decide +kernel
theorem dX6_digits_27 : decode cX6_digits 27 = .ok (.iconst 5, 1) := by decide +kernel
theorem dX6_digits_28 : decode cX6_digits 28 = .ok (.goto 14, 3) := by decide +kernel
theorem dX6_digits_31 : decode cX6_digits 31 = .ok (.iload_n 0, 1) := by decide +kernel
theorem dX6_digits_32 : decode cX6_digits 32 = .ok (.bipush 120, 2) := by decide +kernel
theorem dX6_digits_34 : decode cX6_digits 34 = .ok (.if_icmp .ne 7, 3) := by decide +kernel
theorem dX6_digits_37 : decode cX6_digits 37 = .ok (.iconst 1, 1) := by decide +kernel
theorem dX6_digits_38 : decode cX6_digits 38 = .ok (.goto 4, 3) := by decide +kernel
theorem dX6_digits_41 : decode cX6_digits 41 = .ok (.iconst (-1), 1) := by decide +kernel
theorem dX6_digits_42 : decode cX6_digits 42 = .ok (.ireturn, 1) := by decide +kernel
theorem dX6_numberAt_0 : decode cX6_numberAt 0 = .ok (.iconst 0, 1) := by decide +kernel
theorem dX6_numberAt_1 : decode cX6_numberAt 1 = .ok (.istore_n 3, 1) := by decide +kernel
theorem dX6_numberAt_2 : decode cX6_numberAt 2 = .ok (.iconst 0, 1) := by decide +kernel
theorem dX6_numberAt_3 : decode cX6_numberAt 3 = .ok (.istore 4, 2) := by decide +kernel
theorem dX6_numberAt_5 : decode cX6_numberAt 5 = .ok (.iload 4, 2) := by decide +kernel
theorem dX6_numberAt_7 : decode cX6_numberAt 7 = .ok (.iload_n 2, 1) := by decide +kernel
theorem dX6_numberAt_8 : decode cX6_numberAt 8 = .ok (.if_icmp .ge 27, 3) := by decide +kernel
theorem dX6_numberAt_11 : decode cX6_numberAt 11 = .ok (.bipush 10, 2) := by decide +kernel
theorem dX6_numberAt_13 : decode cX6_numberAt 13 = .ok (.iload_n 3, 1) := by decide +kernel
theorem dX6_numberAt_14 : decode cX6_numberAt 14 = .ok (.imul, 1) := by decide +kernel
theorem dX6_numberAt_15 : decode cX6_numberAt 15 = .ok (.aload_n 0, 1) := by decide +kernel
theorem dX6_numberAt_16 : decode cX6_numberAt 16 = .ok (.getfield 23, 3) := by decide +kernel
theorem dX6_numberAt_19 : decode cX6_numberAt 19 = .ok (.iload_n 1, 1) := by decide +kernel
theorem dX6_numberAt_20 : decode cX6_numberAt 20 = .ok (.iload 4, 2) := by decide +kernel
theorem dX6_numberAt_22 : decode cX6_numberAt 22 = .ok (.iadd, 1) := by decide +kernel
theorem dX6_numberAt_23 : decode cX6_numberAt 23 = .ok (.iaload, 1) := by decide +kernel
theorem dX6_numberAt_24 : decode cX6_numberAt 24 = .ok (.iadd, 1) := by decide +kernel
theorem dX6_numberAt_25 : decode cX6_numberAt 25 = .ok (.bipush 48, 2) := by decide +kernel
theorem dX6_numberAt_27 : decode cX6_numberAt 27 = .ok (.isub, 1) := by decide +kernel
theorem dX6_numberAt_28 : decode cX6_numberAt 28 = .ok (.istore_n 3, 1) := by decide +kernel
theorem dX6_numberAt_29 : decode cX6_numberAt 29 = .ok (.iinc 4 1, 3) := by decide +kernel
theorem dX6_numberAt_32 : decode cX6_numberAt 32 = .ok (.goto (-27), 3) := by decide +kernel
theorem dX6_numberAt_35 : decode cX6_numberAt 35 = .ok (.iload_n 3, 1) := by decide +kernel
theorem dX6_numberAt_36 : decode cX6_numberAt 36 = .ok (.ireturn, 1) := by decide +kernel
set_option maxRecDepth 20000 in
theorem ggX6_wrongLetter_X6_digits : GoodIn wsX6_wrongLetter wsX6_digits := goodIn_r _ [8] (by decide +kernel) (by decide +kernel)
set_option maxRecDepth 20000 in
theorem gX6_wrongLetter_X6_digits : GoodIn wsX6_wrongLetter (va_wsS RX6 125 yX6_digits wsX6_digits) := goodIn_app (goodIn_of _ (by decide +kernel)) ggX6_wrongLetter_X6_digits
set_option maxRecDepth 20000 in
theorem ggX6_wrongLetter_X6_in : GoodIn wsX6_wrongLetter wsX6_in := goodIn_r _ [11] (by decide +kernel) (by decide +kernel)
set_option maxRecDepth 20000 in
theorem gX6_wrongLetter_X6_in : GoodIn wsX6_wrongLetter (va_wsS RX6 73 yX6_in wsX6_in) := goodIn_app (goodIn_of _ (by decide +kernel)) ggX6_wrongLetter_X6_in
theorem dX6_wrongLetter_0 : decode cX6_wrongLetter 0 = .ok (.iconst 0, 1) := by decide +kernel
theorem dX6_wrongLetter_1 : decode cX6_wrongLetter 1 = .ok (.istore_n 1, 1) := by decide +kernel
theorem dX6_wrongLetter_2 : decode cX6_wrongLetter 2 = .ok (.iload_n 1, 1) := by decide +kernel
theorem dX6_wrongLetter_3 : decode cX6_wrongLetter 3 = .ok (.aload_n 0, 1) := by decide +kernel
theorem dX6_wrongLetter_4 : decode cX6_wrongLetter 4 = .ok (.getfield 122, 3) := by decide +kernel
theorem dX6_wrongLetter_7 : decode cX6_wrongLetter 7 = .ok (.if_icmp .lt 7, 3) := by decide +kernel
theorem dX6_wrongLetter_10 : decode cX6_wrongLetter 10 = .ok (.iload_n 1, 1) := by decide +kernel
theorem dX6_wrongLetter_11 : decode cX6_wrongLetter 11 = .ok (.ifCond .ne 110, 3) := by decide +kernel
theorem dX6_wrongLetter_14 : decode cX6_wrongLetter 14 = .ok (.iload_n 1, 1) := by decide +kernel
theorem dX6_wrongLetter_15 : decode cX6_wrongLetter 15 = .ok (.aload_n 0, 1) := by decide +kernel
theorem dX6_wrongLetter_16 : decode cX6_wrongLetter 16 = .ok (.getfield 122, 3) := by decide +kernel
theorem dX6_wrongLetter_19 : decode cX6_wrongLetter 19 = .ok (.if_icmp .eq 15, 3) := by decide +kernel
theorem dX6_wrongLetter_22 : decode cX6_wrongLetter 22 = .ok (.aload_n 0, 1) := by decide +kernel
theorem dX6_wrongLetter_23 : decode cX6_wrongLetter 23 = .ok (.getfield 23, 3) := by decide +kernel
theorem dX6_wrongLetter_26 : decode cX6_wrongLetter 26 = .ok (.iload_n 1, 1) := by decide +kernel
theorem dX6_wrongLetter_27 : decode cX6_wrongLetter 27 = .ok (.iaload, 1) := by decide +kernel
theorem dX6_wrongLetter_28 : decode cX6_wrongLetter 28 = .ok (.invokestatic 125, 3) := by decide +kernel
theorem dX6_wrongLetter_31 : decode cX6_wrongLetter 31 = .ok (.ifCond .ge 5, 3) := by decide +kernel
theorem dX6_wrongLetter_34 : decode cX6_wrongLetter 34 = .ok (.iload_n 1, 1) := by decide +kernel
theorem dX6_wrongLetter_35 : decode cX6_wrongLetter 35 = .ok (.ireturn, 1) := by decide +kernel
theorem dX6_wrongLetter_36 : decode cX6_wrongLetter 36 = .ok (.aload_n 0, 1) := by decide +kernel
theorem dX6_wrongLetter_37 : decode cX6_wrongLetter 37 = .ok (.getfield 23, 3) := by decide +kernel
theorem dX6_wrongLetter_40 : decode cX6_wrongLetter 40 = .ok (.iload_n 1, 1) := by decide +kernel
theorem dX6_wrongLetter_41 : decode cX6_wrongLetter 41 = .ok (.iaload, 1) := by decide +kernel
theorem dX6_wrongLetter_42 : decode cX6_wrongLetter 42 = .ok (.invokestatic 125, 3) := by decide +kernel
theorem dX6_wrongLetter_45 : decode cX6_wrongLetter 45 = .ok (.istore_n 2, 1) := by decide +kernel
theorem dX6_wrongLetter_46 : decode cX6_wrongLetter 46 = .ok (.iinc 1 1, 3) := by decide +kernel
theorem dX6_wrongLetter_49 : decode cX6_wrongLetter 49 = .ok (.iconst 0, 1) := by decide +kernel
theorem dX6_wrongLetter_50 : decode cX6_wrongLetter 50 = .ok (.istore_n 3, 1) := by decide +kernel
theorem dX6_wrongLetter_51 : decode cX6_wrongLetter 51 = .ok (.iload_n 3, 1) := by decide +kernel
theorem dX6_wrongLetter_52 : decode cX6_wrongLetter 52 = .ok (.iload_n 2, 1) := by decide +kernel
theorem dX6_wrongLetter_53 : decode cX6_wrongLetter 53 = .ok (.if_icmp .ge 41, 3) := by decide +kernel
theorem dX6_wrongLetter_56 : decode cX6_wrongLetter 56 = .ok (.iload_n 1, 1) := by decide +kernel
theorem dX6_wrongLetter_57 : decode cX6_wrongLetter 57 = .ok (.aload_n 0, 1) := by decide +kernel
theorem dX6_wrongLetter_58 : decode cX6_wrongLetter 58 = .ok (.getfield 122, 3) := by decide +kernel
theorem dX6_wrongLetter_61 : decode cX6_wrongLetter 61 = .ok (.if_icmp .eq 22, 3) := by decide +kernel
theorem dX6_wrongLetter_64 : decode cX6_wrongLetter 64 = .ok (.aload_n 0, 1) := by decide +kernel
theorem dX6_wrongLetter_65 : decode cX6_wrongLetter 65 = .ok (.getfield 23, 3) := by decide +kernel
theorem dX6_wrongLetter_68 : decode cX6_wrongLetter 68 = .ok (.iload_n 1, 1) := by decide +kernel
theorem dX6_wrongLetter_69 : decode cX6_wrongLetter 69 = .ok (.iaload, 1) := by decide +kernel
theorem dX6_wrongLetter_70 : decode cX6_wrongLetter 70 = .ok (.i2l, 1) := by decide +kernel
theorem dX6_wrongLetter_71 : decode cX6_wrongLetter 71 = .ok (.ldc2_w 128, 3) := by decide +kernel
theorem dX6_wrongLetter_74 : decode cX6_wrongLetter 74 = .ok (.ldc2_w 130, 3) := by decide +kernel
theorem dX6_wrongLetter_77 : decode cX6_wrongLetter 77 = .ok (.invokestatic 73, 3) := by decide +kernel
theorem dX6_wrongLetter_80 : decode cX6_wrongLetter 80 = .ok (.ifCond .ne 5, 3) := by decide +kernel
theorem dX6_wrongLetter_83 : decode cX6_wrongLetter 83 = .ok (.iload_n 1, 1) := by decide +kernel
theorem dX6_wrongLetter_84 : decode cX6_wrongLetter 84 = .ok (.ireturn, 1) := by decide +kernel
theorem dX6_wrongLetter_85 : decode cX6_wrongLetter 85 = .ok (.iinc 1 1, 3) := by decide +kernel
theorem dX6_wrongLetter_88 : decode cX6_wrongLetter 88 = .ok (.iinc 3 1, 3) := by decide +kernel
theorem dX6_wrongLetter_91 : decode cX6_wrongLetter 91 = .ok (.goto (-40), 3) := by decide +kernel
theorem dX6_wrongLetter_94 : decode cX6_wrongLetter 94 = .ok (.iload_n 1, 1) := by decide +kernel
theorem dX6_wrongLetter_95 : decode cX6_wrongLetter 95 = .ok (.aload_n 0, 1) := by decide +kernel
theorem dX6_wrongLetter_96 : decode cX6_wrongLetter 96 = .ok (.getfield 122, 3) := by decide +kernel
theorem dX6_wrongLetter_99 : decode cX6_wrongLetter 99 = .ok (.if_icmp .eq 14, 3) := by decide +kernel
theorem dX6_wrongLetter_102 : decode cX6_wrongLetter 102 = .ok (.aload_n 0, 1) := by decide +kernel
theorem dX6_wrongLetter_103 : decode cX6_wrongLetter 103 = .ok (.getfield 23, 3) := by decide +kernel
theorem dX6_wrongLetter_106 : decode cX6_wrongLetter 106 = .ok (.iload_n 1, 1) := by decide +kernel
theorem dX6_wrongLetter_107 : decode cX6_wrongLetter 107 = .ok (.iaload, 1) := by decide +kernel
theorem dX6_wrongLetter_108 : decode cX6_wrongLetter 108 = .ok (.bipush 59, 2) := by decide +kernel
theorem dX6_wrongLetter_110 : decode cX6_wrongLetter 110 = .ok (.if_icmp .eq 5, 3) := by decide +kernel
theorem dX6_wrongLetter_113 : decode cX6_wrongLetter 113 = .ok (.iload_n 1, 1) := by decide +kernel
theorem dX6_wrongLetter_114 : decode cX6_wrongLetter 114 = .ok (.ireturn, 1) := by decide +kernel
theorem dX6_wrongLetter_115 : decode cX6_wrongLetter 115 = .ok (.iinc 1 1, 3) := by decide +kernel
theorem dX6_wrongLetter_118 : decode cX6_wrongLetter 118 = .ok (.goto (-116), 3) := by decide +kernel
theorem dX6_wrongLetter_121 : decode cX6_wrongLetter 121 = .ok (.bipush (-9), 2) := by decide +kernel
theorem dX6_wrongLetter_123 : decode cX6_wrongLetter 123 = .ok (.ireturn, 1) := by decide +kernel
set_option maxRecDepth 20000 in
theorem ggX6_can_X6_numberAt : GoodIn wsX6_can wsX6_numberAt := goodIn_r _ [11, 1, 27, 28, 29, 30, 31, 32, 33, 34, 35, 36, 37, 38, 39, 40, 41, 42, 43, 44, 45, 46, 47, 48] (by decide +kernel) (by decide +kernel)
set_option maxRecDepth 20000 in
theorem gX6_can_X6_numberAt : GoodIn wsX6_can (wsV RX6 132 RX6 yX6_numberAt wsX6_numberAt) := goodIn_app (goodIn_of _ (by decide +kernel)) ggX6_can_X6_numberAt
set_option maxRecDepth 20000 in
theorem ggX6_can_X6_in : GoodIn wsX6_can wsX6_in := goodIn_r _ [14] (by decide +kernel) (by decide +kernel)
set_option maxRecDepth 20000 in
theorem gX6_can_X6_in : GoodIn wsX6_can (va_wsS RX6 73 yX6_in wsX6_in) := goodIn_app (goodIn_of _ (by decide +kernel)) ggX6_can_X6_in
set_option maxRecDepth 20000 in
theorem ggX6_can_X6_at : GoodIn wsX6_can wsX6_at := goodIn_r _ [18, 6, 27, 28, 29, 30, 31, 32, 33, 34, 35, 36, 37, 38, 39, 40, 41, 42, 43, 44, 45, 46, 47, 48] (by decide +kernel) (by decide +kernel)
set_option maxRecDepth 20000 in
theorem gX6_can_X6_at : GoodIn wsX6_can (wsV RX6 81 RX6 yX6_at wsX6_at) := goodIn_app (goodIn_of _ (by decide +kernel)) ggX6_can_X6_at
set_option maxRecDepth 20000 in
theorem ggX6_can_X6_comes : GoodIn wsX6_can wsX6_comes := goodIn_r _ [22, 6, 4, 27, 28, 29, 30, 31, 32, 33, 34, 35, 36, 37, 38, 39, 40, 41, 42, 43, 44, 45, 46, 47, 48] (by decide +kernel) (by decide +kernel)
set_option maxRecDepth 20000 in
theorem gX6_can_X6_comes : GoodIn wsX6_can (wsV RX6 107 RX6 yX6_comes wsX6_comes) := goodIn_app (goodIn_of _ (by decide +kernel)) ggX6_can_X6_comes
set_option maxRecDepth 20000 in
theorem ggX6_can_X6_isWalker : GoodIn wsX6_can wsX6_isWalker := goodIn_r _ [26, 4, 12, 13, 10, 14, 27, 28, 29, 30, 31, 32, 33, 34, 35, 36, 37, 38, 39, 40, 41, 42, 43, 44, 45, 46, 47, 48] (by decide +kernel) (by decide +kernel)
set_option maxRecDepth 20000 in
theorem gX6_can_X6_isWalker : GoodIn wsX6_can (wsV RX6 89 RX6 yX6_isWalker wsX6_isWalker) := goodIn_app (goodIn_of _ (by decide +kernel)) ggX6_can_X6_isWalker
theorem dX6_can_0 : decode cX6_can 0 = .ok (.aload_n 0, 1) := by decide +kernel
theorem dX6_can_1 : decode cX6_can 1 = .ok (.getfield 23, 3) := by decide +kernel
theorem dX6_can_4 : decode cX6_can 4 = .ok (.iload_n 1, 1) := by decide +kernel
theorem dX6_can_5 : decode cX6_can 5 = .ok (.iaload, 1) := by decide +kernel
theorem dX6_can_6 : decode cX6_can 6 = .ok (.lookupswitch 247 #[(99, 34), (115, 188), (119, 104)], 34) := by decide +kernel
theorem dX6_can_40 : decode cX6_can 40 = .ok (.aload_n 0, 1) := by decide +kernel
theorem dX6_can_41 : decode cX6_can 41 = .ok (.iload_n 1, 1) := by decide +kernel
theorem dX6_can_42 : decode cX6_can 42 = .ok (.iconst 1, 1) := by decide +kernel
theorem dX6_can_43 : decode cX6_can 43 = .ok (.iadd, 1) := by decide +kernel
theorem dX6_can_44 : decode cX6_can 44 = .ok (.iconst 4, 1) := by decide +kernel
theorem dX6_can_45 : decode cX6_can 45 = .ok (.invokevirtual 132, 3) := by decide +kernel
theorem dX6_can_48 : decode cX6_can 48 = .ok (.istore_n 2, 1) := by decide +kernel
theorem dX6_can_49 : decode cX6_can 49 = .ok (.iload_n 2, 1) := by decide +kernel
theorem dX6_can_50 : decode cX6_can 50 = .ok (.i2l, 1) := by decide +kernel
theorem dX6_can_51 : decode cX6_can 51 = .ok (.ldc2_w 135, 3) := by decide +kernel
theorem dX6_can_54 : decode cX6_can 54 = .ok (.ldc2_w 137, 3) := by decide +kernel
theorem dX6_can_57 : decode cX6_can 57 = .ok (.invokestatic 73, 3) := by decide +kernel
theorem dX6_can_60 : decode cX6_can 60 = .ok (.ifCond .ne 5, 3) := by decide +kernel
theorem dX6_can_63 : decode cX6_can 63 = .ok (.iconst 0, 1) := by decide +kernel
theorem dX6_can_64 : decode cX6_can 64 = .ok (.ireturn, 1) := by decide +kernel
theorem dX6_can_65 : decode cX6_can 65 = .ok (.iconst 0, 1) := by decide +kernel
theorem dX6_can_66 : decode cX6_can 66 = .ok (.istore_n 3, 1) := by decide +kernel
theorem dX6_can_67 : decode cX6_can 67 = .ok (.iload_n 3, 1) := by decide +kernel
theorem dX6_can_68 : decode cX6_can 68 = .ok (.aload_n 0, 1) := by decide +kernel
theorem dX6_can_69 : decode cX6_can 69 = .ok (.getfield 70, 3) := by decide +kernel
theorem dX6_can_72 : decode cX6_can 72 = .ok (.if_icmp .ge 31, 3) := by decide +kernel
theorem dX6_can_75 : decode cX6_can 75 = .ok (.aload_n 0, 1) := by decide +kernel
theorem dX6_can_76 : decode cX6_can 76 = .ok (.iload_n 3, 1) := by decide +kernel
theorem dX6_can_77 : decode cX6_can 77 = .ok (.iconst 1, 1) := by decide +kernel
theorem dX6_can_78 : decode cX6_can 78 = .ok (.invokevirtual 81, 3) := by decide +kernel
theorem dX6_can_81 : decode cX6_can 81 = .ok (.iload_n 2, 1) := by decide +kernel
theorem dX6_can_82 : decode cX6_can 82 = .ok (.if_icmp .ge 13, 3) := by decide +kernel
theorem dX6_can_85 : decode cX6_can 85 = .ok (.aload_n 0, 1) := by decide +kernel
theorem dX6_can_86 : decode cX6_can 86 = .ok (.iload_n 3, 1) := by decide +kernel
theorem dX6_can_87 : decode cX6_can 87 = .ok (.iconst 2, 1) := by decide +kernel
theorem dX6_can_88 : decode cX6_can 88 = .ok (.invokevirtual 81, 3) := by decide +kernel
theorem dX6_can_91 : decode cX6_can 91 = .ok (.iload_n 2, 1) := by decide +kernel
theorem dX6_can_92 : decode cX6_can 92 = .ok (.if_icmp .lt 5, 3) := by decide +kernel
theorem dX6_can_95 : decode cX6_can 95 = .ok (.iconst 0, 1) := by decide +kernel
theorem dX6_can_96 : decode cX6_can 96 = .ok (.ireturn, 1) := by decide +kernel
theorem dX6_can_97 : decode cX6_can 97 = .ok (.iinc 3 1, 3) := by decide +kernel
theorem dX6_can_100 : decode cX6_can 100 = .ok (.goto (-33), 3) := by decide +kernel
theorem dX6_can_103 : decode cX6_can 103 = .ok (.aload_n 0, 1) := by decide +kernel
theorem dX6_can_104 : decode cX6_can 104 = .ok (.iload_n 2, 1) := by decide +kernel
theorem dX6_can_105 : decode cX6_can 105 = .ok (.putfield 13, 3) := by decide +kernel
theorem dX6_can_108 : decode cX6_can 108 = .ok (.iconst 1, 1) := by decide +kernel
theorem dX6_can_109 : decode cX6_can 109 = .ok (.ireturn, 1) := by decide +kernel
theorem dX6_can_110 : decode cX6_can 110 = .ok (.aload_n 0, 1) := by decide +kernel
theorem dX6_can_111 : decode cX6_can 111 = .ok (.iload_n 1, 1) := by decide +kernel
theorem dX6_can_112 : decode cX6_can 112 = .ok (.iconst 1, 1) := by decide +kernel
theorem dX6_can_113 : decode cX6_can 113 = .ok (.iadd, 1) := by decide +kernel
theorem dX6_can_114 : decode cX6_can 114 = .ok (.iconst 1, 1) := by decide +kernel
theorem dX6_can_115 : decode cX6_can 115 = .ok (.invokevirtual 132, 3) := by decide +kernel
theorem dX6_can_118 : decode cX6_can 118 = .ok (.istore_n 3, 1) := by decide +kernel
theorem dX6_can_119 : decode cX6_can 119 = .ok (.aload_n 0, 1) := by decide +kernel
theorem dX6_can_120 : decode cX6_can 120 = .ok (.iload_n 1, 1) := by decide +kernel
theorem dX6_can_121 : decode cX6_can 121 = .ok (.iconst 2, 1) := by decide +kernel
theorem dX6_can_122 : decode cX6_can 122 = .ok (.iadd, 1) := by decide +kernel
theorem dX6_can_123 : decode cX6_can 123 = .ok (.iconst 4, 1) := by decide +kernel
theorem dX6_can_124 : decode cX6_can 124 = .ok (.invokevirtual 132, 3) := by decide +kernel
theorem dX6_can_127 : decode cX6_can 127 = .ok (.istore 4, 2) := by decide +kernel
theorem dX6_can_129 : decode cX6_can 129 = .ok (.aload_n 0, 1) := by decide +kernel
theorem dX6_can_130 : decode cX6_can 130 = .ok (.iload_n 1, 1) := by decide +kernel
theorem dX6_can_131 : decode cX6_can 131 = .ok (.bipush 6, 2) := by decide +kernel
theorem dX6_can_133 : decode cX6_can 133 = .ok (.iadd, 1) := by decide +kernel
theorem dX6_can_134 : decode cX6_can 134 = .ok (.iconst 4, 1) := by decide +kernel
theorem dX6_can_135 : decode cX6_can 135 = .ok (.invokevirtual 132, 3) := by decide +kernel
theorem dX6_can_138 : decode cX6_can 138 = .ok (.istore 5, 2) := by decide +kernel
theorem dX6_can_140 : decode cX6_can 140 = .ok (.iload_n 3, 1) := by decide +kernel
theorem dX6_can_141 : decode cX6_can 141 = .ok (.bipush 6, 2) := by decide +kernel
theorem dX6_can_143 : decode cX6_can 143 = .ok (.if_icmp .ge 29, 3) := by decide +kernel
theorem dX6_can_146 : decode cX6_can 146 = .ok (.iload 4, 2) := by decide +kernel
theorem dX6_can_148 : decode cX6_can 148 = .ok (.aload_n 0, 1) := by decide +kernel
theorem dX6_can_149 : decode cX6_can 149 = .ok (.getfield 13, 3) := by decide +kernel
theorem dX6_can_152 : decode cX6_can 152 = .ok (.if_icmp .ge 20, 3) := by decide +kernel
theorem dX6_can_155 : decode cX6_can 155 = .ok (.iload 5, 2) := by decide +kernel
theorem dX6_can_157 : decode cX6_can 157 = .ok (.aload_n 0, 1) := by decide +kernel
theorem dX6_can_158 : decode cX6_can 158 = .ok (.getfield 13, 3) := by decide +kernel
theorem dX6_can_161 : decode cX6_can 161 = .ok (.if_icmp .ge 11, 3) := by decide +kernel
theorem dX6_can_164 : decode cX6_can 164 = .ok (.aload_n 0, 1) := by decide +kernel
theorem dX6_can_165 : decode cX6_can 165 = .ok (.getfield 70, 3) := by decide +kernel
theorem dX6_can_168 : decode cX6_can 168 = .ok (.iconst 5, 1) := by decide +kernel
theorem dX6_can_169 : decode cX6_can 169 = .ok (.if_icmp .ne 5, 3) := by decide +kernel
theorem dX6_can_172 : decode cX6_can 172 = .ok (.iconst 0, 1) := by decide +kernel
theorem dX6_can_173 : decode cX6_can 173 = .ok (.ireturn, 1) := by decide +kernel
theorem dX6_can_174 : decode cX6_can 174 = .ok (.aload_n 0, 1) := by decide +kernel
theorem dX6_can_175 : decode cX6_can 175 = .ok (.iload_n 3, 1) := by decide +kernel
theorem dX6_can_176 : decode cX6_can 176 = .ok (.iload 4, 2) := by decide +kernel
theorem dX6_can_178 : decode cX6_can 178 = .ok (.iload 5, 2) := by decide +kernel
theorem dX6_can_180 : decode cX6_can 180 = .ok (.aload_n 0, 1) := by decide +kernel
theorem dX6_can_181 : decode cX6_can 181 = .ok (.iload_n 1, 1) := by decide +kernel
theorem dX6_can_182 : decode cX6_can 182 = .ok (.bipush 10, 2) := by decide +kernel
theorem dX6_can_184 : decode cX6_can 184 = .ok (.iadd, 1) := by decide +kernel
theorem dX6_can_185 : decode cX6_can 185 = .ok (.iconst 1, 1) := by decide +kernel
theorem dX6_can_186 : decode cX6_can 186 = .ok (.invokevirtual 132, 3) := by decide +kernel
theorem dX6_can_189 : decode cX6_can 189 = .ok (.invokevirtual 107, 3) := by decide +kernel
theorem dX6_can_192 : decode cX6_can 192 = .ok (.iconst 1, 1) := by decide +kernel
theorem dX6_can_193 : decode cX6_can 193 = .ok (.ireturn, 1) := by decide +kernel
theorem dX6_can_194 : decode cX6_can 194 = .ok (.aload_n 0, 1) := by decide +kernel
theorem dX6_can_195 : decode cX6_can 195 = .ok (.aload_n 0, 1) := by decide +kernel
theorem dX6_can_196 : decode cX6_can 196 = .ok (.iload_n 1, 1) := by decide +kernel
theorem dX6_can_197 : decode cX6_can 197 = .ok (.iconst 1, 1) := by decide +kernel
theorem dX6_can_198 : decode cX6_can 198 = .ok (.iadd, 1) := by decide +kernel
theorem dX6_can_199 : decode cX6_can 199 = .ok (.iconst 1, 1) := by decide +kernel
theorem dX6_can_200 : decode cX6_can 200 = .ok (.invokevirtual 132, 3) := by decide +kernel
theorem dX6_can_203 : decode cX6_can 203 = .ok (.invokevirtual 89, 3) := by decide +kernel
theorem dX6_can_206 : decode cX6_can 206 = .ok (.ifCond .eq 18, 3) := by decide +kernel
theorem dX6_can_209 : decode cX6_can 209 = .ok (.aload_n 0, 1) := by decide +kernel
theorem dX6_can_210 : decode cX6_can 210 = .ok (.iload_n 1, 1) := by decide +kernel
theorem dX6_can_211 : decode cX6_can 211 = .ok (.iconst 2, 1) := by decide +kernel
theorem dX6_can_212 : decode cX6_can 212 = .ok (.iadd, 1) := by decide +kernel
theorem dX6_can_213 : decode cX6_can 213 = .ok (.iconst 4, 1) := by decide +kernel
theorem dX6_can_214 : decode cX6_can 214 = .ok (.invokevirtual 132, 3) := by decide +kernel
theorem dX6_can_217 : decode cX6_can 217 = .ok (.aload_n 0, 1) := by decide +kernel
theorem dX6_can_218 : decode cX6_can 218 = .ok (.getfield 13, 3) := by decide +kernel
theorem dX6_can_221 : decode cX6_can 221 = .ok (.if_icmp .lt 5, 3) := by decide +kernel
theorem dX6_can_224 : decode cX6_can 224 = .ok (.iconst 0, 1) := by decide +kernel
theorem dX6_can_225 : decode cX6_can 225 = .ok (.ireturn, 1) := by decide +kernel
theorem dX6_can_226 : decode cX6_can 226 = .ok (.aload_n 0, 1) := by decide +kernel
theorem dX6_can_227 : decode cX6_can 227 = .ok (.getfield 17, 3) := by decide +kernel
theorem dX6_can_230 : decode cX6_can 230 = .ok (.iconst 4, 1) := by decide +kernel
theorem dX6_can_231 : decode cX6_can 231 = .ok (.aload_n 0, 1) := by decide +kernel
theorem dX6_can_232 : decode cX6_can 232 = .ok (.iload_n 1, 1) := by decide +kernel
theorem dX6_can_233 : decode cX6_can 233 = .ok (.iconst 1, 1) := by decide +kernel
theorem dX6_can_234 : decode cX6_can 234 = .ok (.iadd, 1) := by decide +kernel
theorem dX6_can_235 : decode cX6_can 235 = .ok (.iconst 1, 1) := by decide +kernel
theorem dX6_can_236 : decode cX6_can 236 = .ok (.invokevirtual 132, 3) := by decide +kernel
theorem dX6_can_239 : decode cX6_can 239 = .ok (.imul, 1) := by decide +kernel
theorem dX6_can_240 : decode cX6_can 240 = .ok (.iconst 1, 1) := by decide +kernel
theorem dX6_can_241 : decode cX6_can 241 = .ok (.iadd, 1) := by decide +kernel
theorem dX6_can_242 : decode cX6_can 242 = .ok (.aload_n 0, 1) := by decide +kernel
theorem dX6_can_243 : decode cX6_can 243 = .ok (.iload_n 1, 1) := by decide +kernel
theorem dX6_can_244 : decode cX6_can 244 = .ok (.iconst 2, 1) := by decide +kernel
theorem dX6_can_245 : decode cX6_can 245 = .ok (.iadd, 1) := by decide +kernel
theorem dX6_can_246 : decode cX6_can 246 = .ok (.iconst 4, 1) := by decide +kernel
theorem dX6_can_247 : decode cX6_can 247 = .ok (.invokevirtual 132, 3) := by decide +kernel
theorem dX6_can_250 : decode cX6_can 250 = .ok (.iastore, 1) := by decide +kernel
theorem dX6_can_251 : decode cX6_can 251 = .ok (.iconst 1, 1) := by decide +kernel
theorem dX6_can_252 : decode cX6_can 252 = .ok (.ireturn, 1) := by decide +kernel
theorem dX6_can_253 : decode cX6_can 253 = .ok (.aload_n 0, 1) := by decide +kernel
theorem dX6_can_254 : decode cX6_can 254 = .ok (.iload_n 1, 1) := by decide +kernel
theorem dX6_can_255 : decode cX6_can 255 = .ok (.iconst 1, 1) := by decide +kernel
theorem dX6_can_256 : decode cX6_can 256 = .ok (.iadd, 1) := by decide +kernel
theorem dX6_can_257 : decode cX6_can 257 = .ok (.iconst 1, 1) := by decide +kernel
theorem dX6_can_258 : decode cX6_can 258 = .ok (.invokevirtual 132, 3) := by decide +kernel
theorem dX6_can_261 : decode cX6_can 261 = .ok (.istore 6, 2) := by decide +kernel
theorem dX6_can_263 : decode cX6_can 263 = .ok (.aload_n 0, 1) := by decide +kernel
theorem dX6_can_264 : decode cX6_can 264 = .ok (.iload 6, 2) := by decide +kernel
theorem dX6_can_266 : decode cX6_can 266 = .ok (.invokevirtual 89, 3) := by decide +kernel
theorem dX6_can_269 : decode cX6_can 269 = .ok (.ifCond .ne 5, 3) := by decide +kernel
theorem dX6_can_272 : decode cX6_can 272 = .ok (.iconst 0, 1) := by decide +kernel
theorem dX6_can_273 : decode cX6_can 273 = .ok (.ireturn, 1) := by decide +kernel
theorem dX6_can_274 : decode cX6_can 274 = .ok (.aload_n 0, 1) := by decide +kernel
theorem dX6_can_275 : decode cX6_can 275 = .ok (.dup, 1) := by decide +kernel
theorem dX6_can_276 : decode cX6_can 276 = .ok (.getfield 70, 3) := by decide +kernel
theorem dX6_can_279 : decode cX6_can 279 = .ok (.iconst 1, 1) := by decide +kernel
theorem dX6_can_280 : decode cX6_can 280 = .ok (.isub, 1) := by decide +kernel
theorem dX6_can_281 : decode cX6_can 281 = .ok (.putfield 70, 3) := by decide +kernel
theorem dX6_can_284 : decode cX6_can 284 = .ok (.iconst 4, 1) := by decide +kernel
theorem dX6_can_285 : decode cX6_can 285 = .ok (.iload 6, 2) := by decide +kernel
theorem dX6_can_287 : decode cX6_can 287 = .ok (.imul, 1) := by decide +kernel
theorem dX6_can_288 : decode cX6_can 288 = .ok (.istore 7, 2) := by decide +kernel
theorem dX6_can_290 : decode cX6_can 290 = .ok (.iload 7, 2) := by decide +kernel
theorem dX6_can_292 : decode cX6_can 292 = .ok (.iconst 4, 1) := by decide +kernel
theorem dX6_can_293 : decode cX6_can 293 = .ok (.aload_n 0, 1) := by decide +kernel
theorem dX6_can_294 : decode cX6_can 294 = .ok (.getfield 70, 3) := by decide +kernel
theorem dX6_can_297 : decode cX6_can 297 = .ok (.imul, 1) := by decide +kernel
theorem dX6_can_298 : decode cX6_can 298 = .ok (.if_icmp .ge 25, 3) := by decide +kernel
theorem dX6_can_301 : decode cX6_can 301 = .ok (.aload_n 0, 1) := by decide +kernel
theorem dX6_can_302 : decode cX6_can 302 = .ok (.getfield 17, 3) := by decide +kernel
theorem dX6_can_305 : decode cX6_can 305 = .ok (.iload 7, 2) := by decide +kernel
theorem dX6_can_307 : decode cX6_can 307 = .ok (.aload_n 0, 1) := by decide +kernel
theorem dX6_can_308 : decode cX6_can 308 = .ok (.getfield 17, 3) := by decide +kernel
theorem dX6_can_311 : decode cX6_can 311 = .ok (.iload 7, 2) := by decide +kernel
theorem dX6_can_313 : decode cX6_can 313 = .ok (.iconst 4, 1) := by decide +kernel
theorem dX6_can_314 : decode cX6_can 314 = .ok (.iadd, 1) := by decide +kernel
theorem dX6_can_315 : decode cX6_can 315 = .ok (.iaload, 1) := by decide +kernel
theorem dX6_can_316 : decode cX6_can 316 = .ok (.iastore, 1) := by decide +kernel
theorem dX6_can_317 : decode cX6_can 317 = .ok (.iinc 7 1, 3) := by decide +kernel
theorem dX6_can_320 : decode cX6_can 320 = .ok (.goto (-30), 3) := by decide +kernel
theorem dX6_can_323 : decode cX6_can 323 = .ok (.iconst 1, 1) := by decide +kernel
theorem dX6_can_324 : decode cX6_can 324 = .ok (.ireturn, 1) := by decide +kernel
set_option maxRecDepth 20000 in
theorem ggX6_walk_X6_wrongLetter : GoodIn wsX6_walk wsX6_wrongLetter := goodIn_r _ [12, 1, 6, 13, 14, 15, 16, 11, 17, 18, 19, 20, 43, 44, 45, 46, 47, 48, 49, 50, 51, 52, 53, 54, 55, 56, 57, 58, 59, 60, 61, 62, 63, 64] (by decide +kernel) (by decide +kernel)
set_option maxRecDepth 20000 in
theorem gX6_walk_X6_wrongLetter : GoodIn wsX6_walk (wsV RX6 139 RX6 yX6_wrongLetter wsX6_wrongLetter) := goodIn_app (goodIn_of _ (by decide +kernel)) ggX6_walk_X6_wrongLetter
set_option maxRecDepth 20000 in
theorem ggX6_walk_X6_can : GoodIn wsX6_walk wsX6_can := goodIn_r _ [24, 6, 25, 26, 3, 2, 5, 27, 28, 29, 11, 30, 18, 19, 20, 31, 32, 33, 34, 35, 36, 37, 38, 39, 40, 41, 42, 43, 44, 45, 46, 47, 48, 49, 50, 51, 52, 53, 54, 55, 56, 57, 58, 59, 60, 61, 62, 63, 64] (by decide +kernel) (by decide +kernel)
set_option maxRecDepth 20000 in
theorem gX6_walk_X6_can : GoodIn wsX6_walk (wsV RX6 143 RX6 yX6_can wsX6_can) := goodIn_app (goodIn_of _ (by decide +kernel)) ggX6_walk_X6_can
set_option maxRecDepth 20000 in
theorem ggX6_walk_X6_digits : GoodIn wsX6_walk wsX6_digits := goodIn_r _ [17] (by decide +kernel) (by decide +kernel)
set_option maxRecDepth 20000 in
theorem gX6_walk_X6_digits : GoodIn wsX6_walk (va_wsS RX6 125 yX6_digits wsX6_digits) := goodIn_app (goodIn_of _ (by decide +kernel)) ggX6_walk_X6_digits
theorem dX6_walk_0 : decode cX6_walk 0 = .ok (.aload_n 0, 1) := by decide +kernel
theorem dX6_walk_1 : decode cX6_walk 1 = .ok (.invokevirtual 139, 3) := by decide +kernel
theorem dX6_walk_4 : decode cX6_walk 4 = .ok (.istore_n 1, 1) := by decide +kernel
theorem dX6_walk_5 : decode cX6_walk 5 = .ok (.iload_n 1, 1) := by decide +kernel
theorem dX6_walk_6 : decode cX6_walk 6 = .ok (.bipush (-9), 2) := by decide +kernel
theorem dX6_walk_8 : decode cX6_walk 8 = .ok (.if_icmp .eq 14, 3) := by decide +kernel
theorem dX6_walk_11 : decode cX6_walk 11 = .ok (.aload_n 0, 1) := by decide +kernel
theorem dX6_walk_12 : decode cX6_walk 12 = .ok (.iconst 0, 1) := by decide +kernel
theorem dX6_walk_13 : decode cX6_walk 13 = .ok (.putfield 122, 3) := by decide +kernel
theorem dX6_walk_16 : decode cX6_walk 16 = .ok (.sipush (-1000), 3) := by decide +kernel
theorem dX6_walk_19 : decode cX6_walk 19 = .ok (.iload_n 1, 1) := by decide +kernel
theorem dX6_walk_20 : decode cX6_walk 20 = .ok (.isub, 1) := by decide +kernel
theorem dX6_walk_21 : decode cX6_walk 21 = .ok (.ireturn, 1) := by decide +kernel
theorem dX6_walk_22 : decode cX6_walk 22 = .ok (.aload_n 0, 1) := by decide +kernel
theorem dX6_walk_23 : decode cX6_walk 23 = .ok (.getfield 122, 3) := by decide +kernel
theorem dX6_walk_26 : decode cX6_walk 26 = .ok (.istore_n 2, 1) := by decide +kernel
theorem dX6_walk_27 : decode cX6_walk 27 = .ok (.aload_n 0, 1) := by decide +kernel
theorem dX6_walk_28 : decode cX6_walk 28 = .ok (.iconst 0, 1) := by decide +kernel
theorem dX6_walk_29 : decode cX6_walk 29 = .ok (.putfield 122, 3) := by decide +kernel
theorem dX6_walk_32 : decode cX6_walk 32 = .ok (.aload_n 0, 1) := by decide +kernel
theorem dX6_walk_33 : decode cX6_walk 33 = .ok (.getfield 13, 3) := by decide +kernel
