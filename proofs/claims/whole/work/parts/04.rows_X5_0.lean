set_option maxRecDepth 20000 in
theorem ggX5_init_X1_init : GoodIn wsX5_init wsX1_init := goodIn_r _ [32, 33, 2, 3, 34, 35, 21, 36, 57, 58, 59] (by decide +kernel) (by decide +kernel)
set_option maxRecDepth 20000 in
theorem gX5_init_X1_init_n9 : GoodIn wsX5_init (wsX1_init) := ggX5_init_X1_init
set_option maxRecDepth 20000 in
theorem ggX5_init_X4_init : GoodIn wsX5_init wsX4_init := goodIn_r _ [38, 39, 2, 3, 40, 21, 41, 71, 72] (by decide +kernel) (by decide +kernel)
set_option maxRecDepth 20000 in
theorem gX5_init_X4_init_n28 : GoodIn wsX5_init (wsX4_init) := ggX5_init_X4_init
set_option maxRecDepth 20000 in
theorem ggX5_init_X0_init : GoodIn wsX5_init wsX0_init := goodIn_r _ [43, 44, 2, 3, 45, 21, 46, 73, 74] (by decide +kernel) (by decide +kernel)
set_option maxRecDepth 20000 in
theorem gX5_init_X0_init_n35 : GoodIn wsX5_init (wsX0_init) := ggX5_init_X0_init
set_option maxRecDepth 20000 in
theorem ggX5_init_X3_init : GoodIn wsX5_init wsX3_init := goodIn_r _ [48, 49, 2, 3, 50, 21, 51, 75, 76] (by decide +kernel) (by decide +kernel)
set_option maxRecDepth 20000 in
theorem gX5_init_X3_init_n52 : GoodIn wsX5_init (wsX3_init) := ggX5_init_X3_init
set_option maxRecDepth 20000 in
theorem ggX5_init_X2_init : GoodIn wsX5_init wsX2_init := goodIn_r _ [53, 54, 2, 3, 55, 21, 56, 77, 78] (by decide +kernel) (by decide +kernel)
set_option maxRecDepth 20000 in
theorem gX5_init_X2_init_n63 : GoodIn wsX5_init (wsX2_init) := ggX5_init_X2_init
theorem dX5_init_0 : decode cX5_init 0 = .ok (.aload_n 0, 1) := by decide +kernel
theorem dX5_init_1 : decode cX5_init 1 = .ok (.invokespecial 1, 3) := by decide +kernel
theorem dX5_init_4 : decode cX5_init 4 = .ok (.aload_n 0, 1) := by decide +kernel
theorem dX5_init_5 : decode cX5_init 5 = .ok (.new 7, 3) := by decide +kernel
theorem dX5_init_8 : decode cX5_init 8 = .ok (.dup, 1) := by decide +kernel
theorem dX5_init_9 : decode cX5_init 9 = .ok (.invokespecial 9, 3) := by decide +kernel
theorem dX5_init_12 : decode cX5_init 12 = .ok (.putfield 10, 3) := by decide +kernel
theorem dX5_init_15 : decode cX5_init 15 = .ok (.aload_n 0, 1) := by decide +kernel
theorem dX5_init_16 : decode cX5_init 16 = .ok (.new 7, 3) := by decide +kernel
theorem dX5_init_19 : decode cX5_init 19 = .ok (.dup, 1) := by decide +kernel
theorem dX5_init_20 : decode cX5_init 20 = .ok (.invokespecial 9, 3) := by decide +kernel
theorem dX5_init_23 : decode cX5_init 23 = .ok (.putfield 16, 3) := by decide +kernel
theorem dX5_init_26 : decode cX5_init 26 = .ok (.aload_n 0, 1) := by decide +kernel
theorem dX5_init_27 : decode cX5_init 27 = .ok (.new 7, 3) := by decide +kernel
theorem dX5_init_30 : decode cX5_init 30 = .ok (.dup, 1) := by decide +kernel
theorem dX5_init_31 : decode cX5_init 31 = .ok (.invokespecial 9, 3) := by decide +kernel
theorem dX5_init_34 : decode cX5_init 34 = .ok (.putfield 19, 3) := by decide +kernel
theorem dX5_init_37 : decode cX5_init 37 = .ok (.aload_n 0, 1) := by decide +kernel
theorem dX5_init_38 : decode cX5_init 38 = .ok (.iconst 0, 1) := by decide +kernel
theorem dX5_init_39 : decode cX5_init 39 = .ok (.putfield 22, 3) := by decide +kernel
theorem dX5_init_42 : decode cX5_init 42 = .ok (.aload_n 0, 1) := by decide +kernel
theorem dX5_init_43 : decode cX5_init 43 = .ok (.new 26, 3) := by decide +kernel
theorem dX5_init_46 : decode cX5_init 46 = .ok (.dup, 1) := by decide +kernel
theorem dX5_init_47 : decode cX5_init 47 = .ok (.invokespecial 28, 3) := by decide +kernel
theorem dX5_init_50 : decode cX5_init 50 = .ok (.putfield 29, 3) := by decide +kernel
theorem dX5_init_53 : decode cX5_init 53 = .ok (.aload_n 0, 1) := by decide +kernel
theorem dX5_init_54 : decode cX5_init 54 = .ok (.new 33, 3) := by decide +kernel
theorem dX5_init_57 : decode cX5_init 57 = .ok (.dup, 1) := by decide +kernel
theorem dX5_init_58 : decode cX5_init 58 = .ok (.invokespecial 35, 3) := by decide +kernel
theorem dX5_init_61 : decode cX5_init 61 = .ok (.putfield 36, 3) := by decide +kernel
theorem dX5_init_64 : decode cX5_init 64 = .ok (.aload_n 0, 1) := by decide +kernel
theorem dX5_init_65 : decode cX5_init 65 = .ok (.iconst 3, 1) := by decide +kernel
theorem dX5_init_66 : decode cX5_init 66 = .ok (.anewarray 40, 3) := by decide +kernel
theorem dX5_init_69 : decode cX5_init 69 = .ok (.putfield 42, 3) := by decide +kernel
theorem dX5_init_72 : decode cX5_init 72 = .ok (.aload_n 0, 1) := by decide +kernel
theorem dX5_init_73 : decode cX5_init 73 = .ok (.bipush 6, 2) := by decide +kernel
theorem dX5_init_75 : decode cX5_init 75 = .ok (.newarray .int, 2) := by decide +kernel
theorem dX5_init_77 : decode cX5_init 77 = .ok (.putfield 46, 3) := by decide +kernel
theorem dX5_init_80 : decode cX5_init 80 = .ok (.aload_n 0, 1) := by decide +kernel
theorem dX5_init_81 : decode cX5_init 81 = .ok (.new 50, 3) := by decide +kernel
theorem dX5_init_84 : decode cX5_init 84 = .ok (.dup, 1) := by decide +kernel
theorem dX5_init_85 : decode cX5_init 85 = .ok (.invokespecial 52, 3) := by decide +kernel
theorem dX5_init_88 : decode cX5_init 88 = .ok (.putfield 53, 3) := by decide +kernel
theorem dX5_init_91 : decode cX5_init 91 = .ok (.aload_n 0, 1) := by decide +kernel
theorem dX5_init_92 : decode cX5_init 92 = .ok (.new 50, 3) := by decide +kernel
theorem dX5_init_95 : decode cX5_init 95 = .ok (.dup, 1) := by decide +kernel
theorem dX5_init_96 : decode cX5_init 96 = .ok (.invokespecial 52, 3) := by decide +kernel
theorem dX5_init_99 : decode cX5_init 99 = .ok (.putfield 57, 3) := by decide +kernel
theorem dX5_init_102 : decode cX5_init 102 = .ok (.aload_n 0, 1) := by decide +kernel
theorem dX5_init_103 : decode cX5_init 103 = .ok (.bipush 9, 2) := by decide +kernel
theorem dX5_init_105 : decode cX5_init 105 = .ok (.newarray .int, 2) := by decide +kernel
theorem dX5_init_107 : decode cX5_init 107 = .ok (.putfield 60, 3) := by decide +kernel
theorem dX5_init_110 : decode cX5_init 110 = .ok (.iconst 0, 1) := by decide +kernel
theorem dX5_init_111 : decode cX5_init 111 = .ok (.istore_n 1, 1) := by decide +kernel
theorem dX5_init_112 : decode cX5_init 112 = .ok (.iload_n 1, 1) := by decide +kernel
theorem dX5_init_113 : decode cX5_init 113 = .ok (.aload_n 0, 1) := by decide +kernel
theorem dX5_init_114 : decode cX5_init 114 = .ok (.getfield 42, 3) := by decide +kernel
theorem dX5_init_117 : decode cX5_init 117 = .ok (.arraylength, 1) := by decide +kernel
theorem dX5_init_118 : decode cX5_init 118 = .ok (.if_icmp .ge 22, 3) := by decide +kernel
theorem dX5_init_121 : decode cX5_init 121 = .ok (.aload_n 0, 1) := by decide +kernel
theorem dX5_init_122 : decode cX5_init 122 = .ok (.getfield 42, 3) := by decide +kernel
theorem dX5_init_125 : decode cX5_init 125 = .ok (.iload_n 1, 1) := by decide +kernel
theorem dX5_init_126 : decode cX5_init 126 = .ok (.new 40, 3) := by decide +kernel
theorem dX5_init_129 : decode cX5_init 129 = .ok (.dup, 1) := by decide +kernel
theorem dX5_init_130 : decode cX5_init 130 = .ok (.invokespecial 63, 3) := by decide +kernel
theorem dX5_init_133 : decode cX5_init 133 = .ok (.aastore, 1) := by decide +kernel
theorem dX5_init_134 : decode cX5_init 134 = .ok (.iinc 1 1, 3) := by decide +kernel
theorem dX5_init_137 : decode cX5_init 137 = .ok (.goto (-25), 3) := by decide +kernel
theorem dX5_init_140 : decode cX5_init 140 = .ok (.return_, 1) := by decide +kernel
set_option maxRecDepth 20000 in
theorem ggX5_letter_X5_refuse : GoodIn wsX5_letter wsX5_refuse := goodIn_r _ [7, 8, 9, 10, 6, 11, 23, 24, 25, 26, 27, 28, 29, 30, 31, 32, 33] (by decide +kernel) (by decide +kernel)
set_option maxRecDepth 20000 in
theorem gX5_letter_X5_refuse : GoodIn wsX5_letter (wsV RX5 64 RX5 yX5_refuse wsX5_refuse) := goodIn_app (goodIn_of _ (by decide +kernel)) ggX5_letter_X5_refuse
set_option maxRecDepth 20000 in
theorem ggX5_letter_X4_isFull : GoodIn wsX5_letter wsX4_isFull := goodIn_r _ [16, 17, 18, 34, 35] (by decide +kernel) (by decide +kernel)
set_option maxRecDepth 20000 in
theorem gX5_letter_X4_isFull : GoodIn wsX5_letter (wsV RX5 68 RX4 yX4_isFull wsX4_isFull) := goodIn_app (goodIn_of _ (by decide +kernel)) ggX5_letter_X4_isFull
set_option maxRecDepth 20000 in
theorem ggX5_letter_X4_add : GoodIn wsX5_letter wsX4_add := goodIn_r _ [22, 17, 18, 10, 6, 11, 34, 35] (by decide +kernel) (by decide +kernel)
set_option maxRecDepth 20000 in
theorem gX5_letter_X4_add : GoodIn wsX5_letter (wsV RX5 72 RX4 yX4_add wsX4_add) := goodIn_app (goodIn_of _ (by decide +kernel)) ggX5_letter_X4_add
theorem dX5_letter_0 : decode cX5_letter 0 = .ok (.iload_n 1, 1) := by decide +kernel
theorem dX5_letter_1 : decode cX5_letter 1 = .ok (.ifCond .ge 10, 3) := by decide +kernel
theorem dX5_letter_4 : decode cX5_letter 4 = .ok (.aload_n 0, 1) := by decide +kernel
theorem dX5_letter_5 : decode cX5_letter 5 = .ok (.bipush (-4), 2) := by decide +kernel
theorem dX5_letter_7 : decode cX5_letter 7 = .ok (.invokevirtual 64, 3) := by decide +kernel
theorem dX5_letter_10 : decode cX5_letter 10 = .ok (.ireturn, 1) := by decide +kernel
theorem dX5_letter_11 : decode cX5_letter 11 = .ok (.iload_n 1, 1) := by decide +kernel
theorem dX5_letter_12 : decode cX5_letter 12 = .ok (.sipush 255, 3) := by decide +kernel
theorem dX5_letter_15 : decode cX5_letter 15 = .ok (.if_icmp .gt 13, 3) := by decide +kernel
theorem dX5_letter_18 : decode cX5_letter 18 = .ok (.aload_n 0, 1) := by decide +kernel
theorem dX5_letter_19 : decode cX5_letter 19 = .ok (.getfield 29, 3) := by decide +kernel
theorem dX5_letter_22 : decode cX5_letter 22 = .ok (.invokevirtual 68, 3) := by decide +kernel
theorem dX5_letter_25 : decode cX5_letter 25 = .ok (.ifCond .eq 10, 3) := by decide +kernel
theorem dX5_letter_28 : decode cX5_letter 28 = .ok (.aload_n 0, 1) := by decide +kernel
theorem dX5_letter_29 : decode cX5_letter 29 = .ok (.bipush (-6), 2) := by decide +kernel
theorem dX5_letter_31 : decode cX5_letter 31 = .ok (.invokevirtual 64, 3) := by decide +kernel
theorem dX5_letter_34 : decode cX5_letter 34 = .ok (.ireturn, 1) := by decide +kernel
theorem dX5_letter_35 : decode cX5_letter 35 = .ok (.aload_n 0, 1) := by decide +kernel
theorem dX5_letter_36 : decode cX5_letter 36 = .ok (.getfield 29, 3) := by decide +kernel
theorem dX5_letter_39 : decode cX5_letter 39 = .ok (.iload_n 1, 1) := by decide +kernel
theorem dX5_letter_40 : decode cX5_letter 40 = .ok (.invokevirtual 72, 3) := by decide +kernel
theorem dX5_letter_43 : decode cX5_letter 43 = .ok (.aload_n 0, 1) := by decide +kernel
theorem dX5_letter_44 : decode cX5_letter 44 = .ok (.getfield 29, 3) := by decide +kernel
theorem dX5_letter_47 : decode cX5_letter 47 = .ok (.getfield 76, 3) := by decide +kernel
theorem dX5_letter_50 : decode cX5_letter 50 = .ok (.ireturn, 1) := by decide +kernel
set_option maxRecDepth 20000 in
theorem ggX5_walk_X5_readWalk : GoodIn wsX5_walk wsX5_readWalk := goodIn_r _ [6, 1, 7, 8, 9, 10, 11, 12, 13, 14, 15, 16, 17, 18, 19, 20, 21, 22, 23, 24, 25, 26, 5, 27, 28, 29, 30, 31, 32, 33, 34, 35, 36, 37, 38, 39, 40, 41, 42, 43, 44, 45, 46, 47, 48, 49, 50, 51, 52, 53, 54, 55, 56, 57, 58, 59, 60, 61, 62, 63, 64, 65, 66, 67, 68, 69, 70, 71, 72, 73, 74, 75, 76, 77, 78, 79, 80, 81, 82, 83, 84, 85, 86, 87, 88, 89, 90, 91, 92, 93, 94, 95, 96, 97, 98, 99, 100, 101, 102, 103, 104, 105, 106, 107, 108, 109, 114, 115, 116, 117, 118, 119, 120, 121, 122, 123, 124, 125, 126, 127, 128, 129, 130, 131] (by decide +kernel) (by decide +kernel)
set_option maxRecDepth 20000 in
theorem gX5_walk_X5_readWalk : GoodIn wsX5_walk (wsV RX5 80 RX5 yX5_readWalk wsX5_readWalk) := goodIn_app (goodIn_of _ (by decide +kernel)) ggX5_walk_X5_readWalk
set_option maxRecDepth 20000 in
theorem ggX5_walk_X4_clear : GoodIn wsX5_walk wsX4_clear := goodIn_r _ [113, 16, 125, 126] (by decide +kernel) (by decide +kernel)
set_option maxRecDepth 20000 in
theorem gX5_walk_X4_clear : GoodIn wsX5_walk (wsV RX5 84 RX4 yX4_clear wsX4_clear) := goodIn_app (goodIn_of _ (by decide +kernel)) ggX5_walk_X4_clear
theorem dX5_walk_0 : decode cX5_walk 0 = .ok (.aload_n 0, 1) := by decide +kernel
theorem dX5_walk_1 : decode cX5_walk 1 = .ok (.invokevirtual 80, 3) := by decide +kernel
theorem dX5_walk_4 : decode cX5_walk 4 = .ok (.istore_n 1, 1) := by decide +kernel
theorem dX5_walk_5 : decode cX5_walk 5 = .ok (.aload_n 0, 1) := by decide +kernel
theorem dX5_walk_6 : decode cX5_walk 6 = .ok (.getfield 29, 3) := by decide +kernel
theorem dX5_walk_9 : decode cX5_walk 9 = .ok (.invokevirtual 84, 3) := by decide +kernel
theorem dX5_walk_12 : decode cX5_walk 12 = .ok (.iload_n 1, 1) := by decide +kernel
theorem dX5_walk_13 : decode cX5_walk 13 = .ok (.ireturn, 1) := by decide +kernel
set_option maxRecDepth 20000 in
theorem ggX5_circle_X5_refuse : GoodIn wsX5_circle wsX5_refuse := goodIn_r _ [8, 9, 10, 11, 7, 12, 30, 31, 32, 33, 34, 35, 36, 37, 38, 39, 40] (by decide +kernel) (by decide +kernel)
set_option maxRecDepth 20000 in
theorem gX5_circle_X5_refuse : GoodIn wsX5_circle (wsV RX5 64 RX5 yX5_refuse wsX5_refuse) := goodIn_app (goodIn_of _ (by decide +kernel)) ggX5_circle_X5_refuse
set_option maxRecDepth 20000 in
theorem ggX5_circle_X1_allBelow : GoodIn wsX5_circle wsX1_allBelow := goodIn_r _ [17, 18, 19, 20, 21, 16, 22, 23, 11, 7, 12, 41, 42, 43] (by decide +kernel) (by decide +kernel)
set_option maxRecDepth 20000 in
theorem gX5_circle_X1_allBelow : GoodIn wsX5_circle (wsV RX5 87 RX1 yX1_allBelow wsX1_allBelow) := goodIn_app (goodIn_of _ (by decide +kernel)) ggX5_circle_X1_allBelow
set_option maxRecDepth 20000 in
theorem ggX5_circle_X0_clear : GoodIn wsX5_circle wsX0_clear := goodIn_r _ [28, 29, 44, 45] (by decide +kernel) (by decide +kernel)
set_option maxRecDepth 20000 in
theorem gX5_circle_X0_clear : GoodIn wsX5_circle (wsV RX5 92 RX0 yX0_clear wsX0_clear) := goodIn_app (goodIn_of _ (by decide +kernel)) ggX5_circle_X0_clear
theorem dX5_circle_0 : decode cX5_circle 0 = .ok (.iload_n 1, 1) := by decide +kernel
theorem dX5_circle_1 : decode cX5_circle 1 = .ok (.iconst 2, 1) := by decide +kernel
theorem dX5_circle_2 : decode cX5_circle 2 = .ok (.if_icmp .ge 10, 3) := by decide +kernel
theorem dX5_circle_5 : decode cX5_circle 5 = .ok (.aload_n 0, 1) := by decide +kernel
theorem dX5_circle_6 : decode cX5_circle 6 = .ok (.bipush (-4), 2) := by decide +kernel
theorem dX5_circle_8 : decode cX5_circle 8 = .ok (.invokevirtual 64, 3) := by decide +kernel
theorem dX5_circle_11 : decode cX5_circle 11 = .ok (.ireturn, 1) := by decide +kernel
theorem dX5_circle_12 : decode cX5_circle 12 = .ok (.iload_n 1, 1) := by decide +kernel
theorem dX5_circle_13 : decode cX5_circle 13 = .ok (.sipush 2000, 3) := by decide +kernel
theorem dX5_circle_16 : decode cX5_circle 16 = .ok (.if_icmp .le 10, 3) := by decide +kernel
theorem dX5_circle_19 : decode cX5_circle 19 = .ok (.aload_n 0, 1) := by decide +kernel
theorem dX5_circle_20 : decode cX5_circle 20 = .ok (.bipush (-6), 2) := by decide +kernel
theorem dX5_circle_22 : decode cX5_circle 22 = .ok (.invokevirtual 64, 3) := by decide +kernel
theorem dX5_circle_25 : decode cX5_circle 25 = .ok (.ireturn, 1) := by decide +kernel
theorem dX5_circle_26 : decode cX5_circle 26 = .ok (.aload_n 0, 1) := by decide +kernel
theorem dX5_circle_27 : decode cX5_circle 27 = .ok (.getfield 10, 3) := by decide +kernel
theorem dX5_circle_30 : decode cX5_circle 30 = .ok (.iload_n 1, 1) := by decide +kernel
theorem dX5_circle_31 : decode cX5_circle 31 = .ok (.invokevirtual 87, 3) := by decide +kernel
theorem dX5_circle_34 : decode cX5_circle 34 = .ok (.ifCond .ne 10, 3) := by decide +kernel
theorem dX5_circle_37 : decode cX5_circle 37 = .ok (.aload_n 0, 1) := by decide +kernel
theorem dX5_circle_38 : decode cX5_circle 38 = .ok (.bipush (-3), 2) := by decide +kernel
theorem dX5_circle_40 : decode cX5_circle 40 = .ok (.invokevirtual 64, 3) := by decide +kernel
theorem dX5_circle_43 : decode cX5_circle 43 = .ok (.ireturn, 1) := by decide +kernel
theorem dX5_circle_44 : decode cX5_circle 44 = .ok (.aload_n 0, 1) := by decide +kernel
theorem dX5_circle_45 : decode cX5_circle 45 = .ok (.getfield 10, 3) := by decide +kernel
theorem dX5_circle_48 : decode cX5_circle 48 = .ok (.getfield 91, 3) := by decide +kernel
theorem dX5_circle_51 : decode cX5_circle 51 = .ok (.istore_n 2, 1) := by decide +kernel
theorem dX5_circle_52 : decode cX5_circle 52 = .ok (.aload_n 0, 1) := by decide +kernel
theorem dX5_circle_53 : decode cX5_circle 53 = .ok (.getfield 10, 3) := by decide +kernel
theorem dX5_circle_56 : decode cX5_circle 56 = .ok (.iload_n 1, 1) := by decide +kernel
theorem dX5_circle_57 : decode cX5_circle 57 = .ok (.putfield 91, 3) := by decide +kernel
theorem dX5_circle_60 : decode cX5_circle 60 = .ok (.aload_n 0, 1) := by decide +kernel
theorem dX5_circle_61 : decode cX5_circle 61 = .ok (.getfield 36, 3) := by decide +kernel
theorem dX5_circle_64 : decode cX5_circle 64 = .ok (.invokevirtual 92, 3) := by decide +kernel
theorem dX5_circle_67 : decode cX5_circle 67 = .ok (.iload_n 2, 1) := by decide +kernel
theorem dX5_circle_68 : decode cX5_circle 68 = .ok (.ireturn, 1) := by decide +kernel
set_option maxRecDepth 20000 in
theorem ggX5_walker_X5_isKind : GoodIn wsX5_walker wsX5_isKind := goodIn_r _ [7, 8, 9, 6, 10] (by decide +kernel) (by decide +kernel)
set_option maxRecDepth 20000 in
theorem gX5_walker_X5_isKind : GoodIn wsX5_walker (va_wsS RX5 93 yX5_isKind wsX5_isKind) := goodIn_app (goodIn_of _ (by decide +kernel)) ggX5_walker_X5_isKind
set_option maxRecDepth 20000 in
theorem ggX5_walker_X5_refuse : GoodIn wsX5_walker wsX5_refuse := goodIn_r _ [14, 15, 8, 9, 6, 10, 42, 43, 44, 45, 46, 47, 48, 49, 50, 51, 52] (by decide +kernel) (by decide +kernel)
set_option maxRecDepth 20000 in
theorem gX5_walker_X5_refuse : GoodIn wsX5_walker (wsV RX5 64 RX5 yX5_refuse wsX5_refuse) := goodIn_app (goodIn_of _ (by decide +kernel)) ggX5_walker_X5_refuse
set_option maxRecDepth 20000 in
theorem ggX5_walker_X1_hasRoomFor : GoodIn wsX5_walker wsX1_hasRoomFor := goodIn_r _ [20, 21, 22, 23, 24, 19, 25, 26, 53, 54, 55] (by decide +kernel) (by decide +kernel)
set_option maxRecDepth 20000 in
theorem gX5_walker_X1_hasRoomFor : GoodIn wsX5_walker (wsV RX5 96 RX1 yX1_hasRoomFor wsX1_hasRoomFor) := goodIn_app (goodIn_of _ (by decide +kernel)) ggX5_walker_X1_hasRoomFor
set_option maxRecDepth 20000 in
theorem ggX5_walker_X1_add : GoodIn wsX5_walker wsX1_add := goodIn_r _ [30, 21, 31, 32, 33, 19, 34, 35, 9, 6, 10, 53, 54, 55] (by decide +kernel) (by decide +kernel)
set_option maxRecDepth 20000 in
theorem gX5_walker_X1_add : GoodIn wsX5_walker (wsV RX5 100 RX1 yX1_add wsX1_add) := goodIn_app (goodIn_of _ (by decide +kernel)) ggX5_walker_X1_add
set_option maxRecDepth 20000 in
theorem ggX5_walker_X0_clear : GoodIn wsX5_walker wsX0_clear := goodIn_r _ [40, 41, 56, 57] (by decide +kernel) (by decide +kernel)
set_option maxRecDepth 20000 in
theorem gX5_walker_X0_clear : GoodIn wsX5_walker (wsV RX5 92 RX0 yX0_clear wsX0_clear) := goodIn_app (goodIn_of _ (by decide +kernel)) ggX5_walker_X0_clear
theorem dX5_walker_0 : decode cX5_walker 0 = .ok (.iload_n 1, 1) := by decide +kernel
theorem dX5_walker_1 : decode cX5_walker 1 = .ok (.invokestatic 93, 3) := by decide +kernel
theorem dX5_walker_4 : decode cX5_walker 4 = .ok (.ifCond .ne 10, 3) := by decide +kernel
theorem dX5_walker_7 : decode cX5_walker 7 = .ok (.aload_n 0, 1) := by decide +kernel
theorem dX5_walker_8 : decode cX5_walker 8 = .ok (.bipush (-2), 2) := by decide +kernel
theorem dX5_walker_10 : decode cX5_walker 10 = .ok (.invokevirtual 64, 3) := by decide +kernel
theorem dX5_walker_13 : decode cX5_walker 13 = .ok (.ireturn, 1) := by decide +kernel
theorem dX5_walker_14 : decode cX5_walker 14 = .ok (.iload_n 2, 1) := by decide +kernel
theorem dX5_walker_15 : decode cX5_walker 15 = .ok (.ifCond .lt 12, 3) := by decide +kernel
theorem dX5_walker_18 : decode cX5_walker 18 = .ok (.iload_n 3, 1) := by decide +kernel
theorem dX5_walker_19 : decode cX5_walker 19 = .ok (.ifCond .lt 8, 3) := by decide +kernel
theorem dX5_walker_22 : decode cX5_walker 22 = .ok (.iload 4, 2) := by decide +kernel
theorem dX5_walker_24 : decode cX5_walker 24 = .ok (.ifCond .ge 10, 3) := by decide +kernel
theorem dX5_walker_27 : decode cX5_walker 27 = .ok (.aload_n 0, 1) := by decide +kernel
theorem dX5_walker_28 : decode cX5_walker 28 = .ok (.bipush (-4), 2) := by decide +kernel
theorem dX5_walker_30 : decode cX5_walker 30 = .ok (.invokevirtual 64, 3) := by decide +kernel
theorem dX5_walker_33 : decode cX5_walker 33 = .ok (.ireturn, 1) := by decide +kernel
theorem dX5_walker_34 : decode cX5_walker 34 = .ok (.aload_n 0, 1) := by decide +kernel
theorem dX5_walker_35 : decode cX5_walker 35 = .ok (.getfield 10, 3) := by decide +kernel
theorem dX5_walker_38 : decode cX5_walker 38 = .ok (.iload_n 1, 1) := by decide +kernel
theorem dX5_walker_39 : decode cX5_walker 39 = .ok (.iload_n 2, 1) := by decide +kernel
theorem dX5_walker_40 : decode cX5_walker 40 = .ok (.iload_n 3, 1) := by decide +kernel
theorem dX5_walker_41 : decode cX5_walker 41 = .ok (.iload 4, 2) := by decide +kernel
theorem dX5_walker_43 : decode cX5_walker 43 = .ok (.invokevirtual 96, 3) := by decide +kernel
theorem dX5_walker_46 : decode cX5_walker 46 = .ok (.ifCond .ne 10, 3) := by decide +kernel
theorem dX5_walker_49 : decode cX5_walker 49 = .ok (.aload_n 0, 1) := by decide +kernel
theorem dX5_walker_50 : decode cX5_walker 50 = .ok (.bipush (-6), 2) := by decide +kernel
theorem dX5_walker_52 : decode cX5_walker 52 = .ok (.invokevirtual 64, 3) := by decide +kernel
theorem dX5_walker_55 : decode cX5_walker 55 = .ok (.ireturn, 1) := by decide +kernel
theorem dX5_walker_56 : decode cX5_walker 56 = .ok (.aload_n 0, 1) := by decide +kernel
theorem dX5_walker_57 : decode cX5_walker 57 = .ok (.getfield 10, 3) := by decide +kernel
theorem dX5_walker_60 : decode cX5_walker 60 = .ok (.iload_n 1, 1) := by decide +kernel
theorem dX5_walker_61 : decode cX5_walker 61 = .ok (.iload_n 2, 1) := by decide +kernel
theorem dX5_walker_62 : decode cX5_walker 62 = .ok (.iload_n 3, 1) := by decide +kernel
theorem dX5_walker_63 : decode cX5_walker 63 = .ok (.iload 4, 2) := by decide +kernel
theorem dX5_walker_65 : decode cX5_walker 65 = .ok (.invokevirtual 100, 3) := by decide +kernel
theorem dX5_walker_68 : decode cX5_walker 68 = .ok (.aload_n 0, 1) := by decide +kernel
theorem dX5_walker_69 : decode cX5_walker 69 = .ok (.getfield 36, 3) := by decide +kernel
theorem dX5_walker_72 : decode cX5_walker 72 = .ok (.invokevirtual 92, 3) := by decide +kernel
theorem dX5_walker_75 : decode cX5_walker 75 = .ok (.aload_n 0, 1) := by decide +kernel
theorem dX5_walker_76 : decode cX5_walker 76 = .ok (.getfield 10, 3) := by decide +kernel
theorem dX5_walker_79 : decode cX5_walker 79 = .ok (.getfield 103, 3) := by decide +kernel
theorem dX5_walker_82 : decode cX5_walker 82 = .ok (.iconst 1, 1) := by decide +kernel
theorem dX5_walker_83 : decode cX5_walker 83 = .ok (.isub, 1) := by decide +kernel
theorem dX5_walker_84 : decode cX5_walker 84 = .ok (.ireturn, 1) := by decide +kernel
set_option maxRecDepth 20000 in
theorem ggX5_change_X1_has : GoodIn wsX5_change wsX1_has := goodIn_r _ [7, 8, 9, 10, 11, 58, 59, 60] (by decide +kernel) (by decide +kernel)
set_option maxRecDepth 20000 in
theorem gX5_change_X1_has : GoodIn wsX5_change (wsV RX5 106 RX1 yX1_has wsX1_has) := goodIn_app (goodIn_of _ (by decide +kernel)) ggX5_change_X1_has
set_option maxRecDepth 20000 in
theorem ggX5_change_X5_refuse : GoodIn wsX5_change wsX5_refuse := goodIn_r _ [15, 16, 17, 9, 10, 11, 47, 48, 49, 50, 51, 52, 53, 54, 55, 56, 57] (by decide +kernel) (by decide +kernel)
set_option maxRecDepth 20000 in
theorem gX5_change_X5_refuse : GoodIn wsX5_change (wsV RX5 64 RX5 yX5_refuse wsX5_refuse) := goodIn_app (goodIn_of _ (by decide +kernel)) ggX5_change_X5_refuse
set_option maxRecDepth 20000 in
theorem ggX5_change_X5_isBelow : GoodIn wsX5_change wsX5_isBelow := goodIn_r _ [11] (by decide +kernel) (by decide +kernel)
set_option maxRecDepth 20000 in
theorem gX5_change_X5_isBelow : GoodIn wsX5_change (va_wsS RX5 109 yX5_isBelow wsX5_isBelow) := goodIn_app (goodIn_of _ (by decide +kernel)) ggX5_change_X5_isBelow
set_option maxRecDepth 20000 in
theorem ggX5_change_X1_greatest : GoodIn wsX5_change wsX1_greatest := goodIn_r _ [21, 22, 58, 59, 60] (by decide +kernel) (by decide +kernel)
set_option maxRecDepth 20000 in
theorem gX5_change_X1_greatest : GoodIn wsX5_change (wsV RX5 113 RX1 yX1_greatest wsX1_greatest) := goodIn_app (goodIn_of _ (by decide +kernel)) ggX5_change_X1_greatest
set_option maxRecDepth 20000 in
theorem ggX5_change_X1_value : GoodIn wsX5_change wsX1_value := goodIn_r _ [26, 27, 9, 10, 11, 58, 59, 60] (by decide +kernel) (by decide +kernel)
set_option maxRecDepth 20000 in
theorem gX5_change_X1_value : GoodIn wsX5_change (wsV RX5 116 RX1 yX1_value wsX1_value) := goodIn_app (goodIn_of _ (by decide +kernel)) ggX5_change_X1_value
set_option maxRecDepth 20000 in
theorem ggX5_change_X0_keep : GoodIn wsX5_change wsX0_keep := goodIn_r _ [32, 33, 34, 35, 36, 37, 38, 39, 40, 41, 31, 42, 9, 10, 11, 61, 62] (by decide +kernel) (by decide +kernel)
set_option maxRecDepth 20000 in
theorem gX5_change_X0_keep : GoodIn wsX5_change (wsV RX5 120 RX0 yX0_keep wsX0_keep) := goodIn_app (goodIn_of _ (by decide +kernel)) ggX5_change_X0_keep
set_option maxRecDepth 20000 in
theorem ggX5_change_X1_setValue : GoodIn wsX5_change wsX1_setValue := goodIn_r _ [46, 27, 9, 10, 11, 58, 59, 60] (by decide +kernel) (by decide +kernel)
set_option maxRecDepth 20000 in
theorem gX5_change_X1_setValue : GoodIn wsX5_change (wsV RX5 124 RX1 yX1_setValue wsX1_setValue) := goodIn_app (goodIn_of _ (by decide +kernel)) ggX5_change_X1_setValue
theorem dX5_change_0 : decode cX5_change 0 = .ok (.aload_n 0, 1) := by decide +kernel
theorem dX5_change_1 : decode cX5_change 1 = .ok (.getfield 10, 3) := by decide +kernel
theorem dX5_change_4 : decode cX5_change 4 = .ok (.iload_n 1, 1) := by decide +kernel
theorem dX5_change_5 : decode cX5_change 5 = .ok (.invokevirtual 106, 3) := by decide +kernel
theorem dX5_change_8 : decode cX5_change 8 = .ok (.ifCond .ne 9, 3) := by decide +kernel
theorem dX5_change_11 : decode cX5_change 11 = .ok (.aload_n 0, 1) := by decide +kernel
theorem dX5_change_12 : decode cX5_change 12 = .ok (.iconst (-1), 1) := by decide +kernel
theorem dX5_change_13 : decode cX5_change 13 = .ok (.invokevirtual 64, 3) := by decide +kernel
theorem dX5_change_16 : decode cX5_change 16 = .ok (.ireturn, 1) := by decide +kernel
theorem dX5_change_17 : decode cX5_change 17 = .ok (.iload_n 2, 1) := by decide +kernel
theorem dX5_change_18 : decode cX5_change 18 = .ok (.iconst 4, 1) := by decide +kernel
theorem dX5_change_19 : decode cX5_change 19 = .ok (.invokestatic 109, 3) := by decide +kernel
theorem dX5_change_22 : decode cX5_change 22 = .ok (.ifCond .ne 10, 3) := by decide +kernel
theorem dX5_change_25 : decode cX5_change 25 = .ok (.aload_n 0, 1) := by decide +kernel
theorem dX5_change_26 : decode cX5_change 26 = .ok (.bipush (-2), 2) := by decide +kernel
theorem dX5_change_28 : decode cX5_change 28 = .ok (.invokevirtual 64, 3) := by decide +kernel
theorem dX5_change_31 : decode cX5_change 31 = .ok (.ireturn, 1) := by decide +kernel
theorem dX5_change_32 : decode cX5_change 32 = .ok (.iload_n 3, 1) := by decide +kernel
theorem dX5_change_33 : decode cX5_change 33 = .ok (.ifCond .ge 10, 3) := by decide +kernel
theorem dX5_change_36 : decode cX5_change 36 = .ok (.aload_n 0, 1) := by decide +kernel
theorem dX5_change_37 : decode cX5_change 37 = .ok (.bipush (-4), 2) := by decide +kernel
theorem dX5_change_39 : decode cX5_change 39 = .ok (.invokevirtual 64, 3) := by decide +kernel
theorem dX5_change_42 : decode cX5_change 42 = .ok (.ireturn, 1) := by decide +kernel
theorem dX5_change_43 : decode cX5_change 43 = .ok (.iload_n 3, 1) := by decide +kernel
theorem dX5_change_44 : decode cX5_change 44 = .ok (.aload_n 0, 1) := by decide +kernel
theorem dX5_change_45 : decode cX5_change 45 = .ok (.getfield 10, 3) := by decide +kernel
theorem dX5_change_48 : decode cX5_change 48 = .ok (.iload_n 2, 1) := by decide +kernel
theorem dX5_change_49 : decode cX5_change 49 = .ok (.invokevirtual 113, 3) := by decide +kernel
theorem dX5_change_52 : decode cX5_change 52 = .ok (.if_icmp .le 10, 3) := by decide +kernel
theorem dX5_change_55 : decode cX5_change 55 = .ok (.aload_n 0, 1) := by decide +kernel
theorem dX5_change_56 : decode cX5_change 56 = .ok (.bipush (-6), 2) := by decide +kernel
theorem dX5_change_58 : decode cX5_change 58 = .ok (.invokevirtual 64, 3) := by decide +kernel
theorem dX5_change_61 : decode cX5_change 61 = .ok (.ireturn, 1) := by decide +kernel
theorem dX5_change_62 : decode cX5_change 62 = .ok (.aload_n 0, 1) := by decide +kernel
theorem dX5_change_63 : decode cX5_change 63 = .ok (.getfield 10, 3) := by decide +kernel
theorem dX5_change_66 : decode cX5_change 66 = .ok (.iload_n 1, 1) := by decide +kernel
theorem dX5_change_67 : decode cX5_change 67 = .ok (.iload_n 2, 1) := by decide +kernel
theorem dX5_change_68 : decode cX5_change 68 = .ok (.invokevirtual 116, 3) := by decide +kernel
theorem dX5_change_71 : decode cX5_change 71 = .ok (.istore 4, 2) := by decide +kernel
theorem dX5_change_73 : decode cX5_change 73 = .ok (.aload_n 0, 1) := by decide +kernel
theorem dX5_change_74 : decode cX5_change 74 = .ok (.getfield 36, 3) := by decide +kernel
theorem dX5_change_77 : decode cX5_change 77 = .ok (.iload_n 1, 1) := by decide +kernel
theorem dX5_change_78 : decode cX5_change 78 = .ok (.iload_n 2, 1) := by decide +kernel
theorem dX5_change_79 : decode cX5_change 79 = .ok (.iload 4, 2) := by decide +kernel
theorem dX5_change_81 : decode cX5_change 81 = .ok (.invokevirtual 120, 3) := by decide +kernel
theorem dX5_change_84 : decode cX5_change 84 = .ok (.aload_n 0, 1) := by decide +kernel
theorem dX5_change_85 : decode cX5_change 85 = .ok (.getfield 10, 3) := by decide +kernel
theorem dX5_change_88 : decode cX5_change 88 = .ok (.iload_n 1, 1) := by decide +kernel
theorem dX5_change_89 : decode cX5_change 89 = .ok (.iload_n 2, 1) := by decide +kernel
theorem dX5_change_90 : decode cX5_change 90 = .ok (.iload_n 3, 1) := by decide +kernel
theorem dX5_change_91 : decode cX5_change 91 = .ok (.invokevirtual 124, 3) := by decide +kernel
theorem dX5_change_94 : decode cX5_change 94 = .ok (.iload 4, 2) := by decide +kernel
theorem dX5_change_96 : decode cX5_change 96 = .ok (.ireturn, 1) := by decide +kernel
set_option maxRecDepth 20000 in
theorem ggX5_drop_X5_refuse : GoodIn wsX5_drop wsX5_refuse := goodIn_r _ [8, 9, 10, 11, 7, 12, 34, 35, 36, 37, 38, 39, 40, 41, 42, 43, 44] (by decide +kernel) (by decide +kernel)
set_option maxRecDepth 20000 in
theorem gX5_drop_X5_refuse : GoodIn wsX5_drop (wsV RX5 64 RX5 yX5_refuse wsX5_refuse) := goodIn_app (goodIn_of _ (by decide +kernel)) ggX5_drop_X5_refuse
set_option maxRecDepth 20000 in
theorem ggX5_drop_X1_remove : GoodIn wsX5_drop wsX1_remove := goodIn_r _ [17, 18, 19, 20, 21, 16, 22, 23, 11, 7, 12, 24, 25, 26, 27, 45, 46, 47] (by decide +kernel) (by decide +kernel)
set_option maxRecDepth 20000 in
theorem gX5_drop_X1_remove : GoodIn wsX5_drop (wsV RX5 127 RX1 yX1_remove wsX1_remove) := goodIn_app (goodIn_of _ (by decide +kernel)) ggX5_drop_X1_remove
set_option maxRecDepth 20000 in
theorem ggX5_drop_X0_clear : GoodIn wsX5_drop wsX0_clear := goodIn_r _ [32, 33, 48, 49] (by decide +kernel) (by decide +kernel)
set_option maxRecDepth 20000 in
theorem gX5_drop_X0_clear : GoodIn wsX5_drop (wsV RX5 92 RX0 yX0_clear wsX0_clear) := goodIn_app (goodIn_of _ (by decide +kernel)) ggX5_drop_X0_clear
theorem dX5_drop_0 : decode cX5_drop 0 = .ok (.aload_n 0, 1) := by decide +kernel
theorem dX5_drop_1 : decode cX5_drop 1 = .ok (.getfield 10, 3) := by decide +kernel
theorem dX5_drop_4 : decode cX5_drop 4 = .ok (.getfield 103, 3) := by decide +kernel
theorem dX5_drop_7 : decode cX5_drop 7 = .ok (.ifCond .ne 10, 3) := by decide +kernel
theorem dX5_drop_10 : decode cX5_drop 10 = .ok (.aload_n 0, 1) := by decide +kernel
theorem dX5_drop_11 : decode cX5_drop 11 = .ok (.bipush (-3), 2) := by decide +kernel
theorem dX5_drop_13 : decode cX5_drop 13 = .ok (.invokevirtual 64, 3) := by decide +kernel
theorem dX5_drop_16 : decode cX5_drop 16 = .ok (.ireturn, 1) := by decide +kernel
theorem dX5_drop_17 : decode cX5_drop 17 = .ok (.aload_n 0, 1) := by decide +kernel
theorem dX5_drop_18 : decode cX5_drop 18 = .ok (.getfield 10, 3) := by decide +kernel
theorem dX5_drop_21 : decode cX5_drop 21 = .ok (.aload_n 0, 1) := by decide +kernel
theorem dX5_drop_22 : decode cX5_drop 22 = .ok (.getfield 10, 3) := by decide +kernel
theorem dX5_drop_25 : decode cX5_drop 25 = .ok (.getfield 103, 3) := by decide +kernel
theorem dX5_drop_28 : decode cX5_drop 28 = .ok (.iconst 1, 1) := by decide +kernel
theorem dX5_drop_29 : decode cX5_drop 29 = .ok (.isub, 1) := by decide +kernel
theorem dX5_drop_30 : decode cX5_drop 30 = .ok (.invokevirtual 127, 3) := by decide +kernel
theorem dX5_drop_33 : decode cX5_drop 33 = .ok (.aload_n 0, 1) := by decide +kernel
theorem dX5_drop_34 : decode cX5_drop 34 = .ok (.getfield 36, 3) := by decide +kernel
theorem dX5_drop_37 : decode cX5_drop 37 = .ok (.invokevirtual 92, 3) := by decide +kernel
theorem dX5_drop_40 : decode cX5_drop 40 = .ok (.aload_n 0, 1) := by decide +kernel
theorem dX5_drop_41 : decode cX5_drop 41 = .ok (.getfield 10, 3) := by decide +kernel
theorem dX5_drop_44 : decode cX5_drop 44 = .ok (.getfield 103, 3) := by decide +kernel
theorem dX5_drop_47 : decode cX5_drop 47 = .ok (.ireturn, 1) := by decide +kernel
set_option maxRecDepth 20000 in
theorem ggX5_of_X1_has : GoodIn wsX5_of wsX1_has := goodIn_r _ [6, 7, 8, 9, 10, 56, 57, 58] (by decide +kernel) (by decide +kernel)
set_option maxRecDepth 20000 in
theorem gX5_of_X1_has : GoodIn wsX5_of (wsV RX5 106 RX1 yX1_has wsX1_has) := goodIn_app (goodIn_of _ (by decide +kernel)) ggX5_of_X1_has
set_option maxRecDepth 20000 in
theorem ggX5_of_X5_refuse : GoodIn wsX5_of wsX5_refuse := goodIn_r _ [14, 15, 16, 8, 9, 10, 45, 46, 47, 48, 49, 50, 51, 52, 53, 54, 55] (by decide +kernel) (by decide +kernel)
set_option maxRecDepth 20000 in
theorem gX5_of_X5_refuse : GoodIn wsX5_of (wsV RX5 64 RX5 yX5_refuse wsX5_refuse) := goodIn_app (goodIn_of _ (by decide +kernel)) ggX5_of_X5_refuse
set_option maxRecDepth 20000 in
theorem ggX5_of_X5_isBelow : GoodIn wsX5_of wsX5_isBelow := goodIn_r _ [10] (by decide +kernel) (by decide +kernel)
set_option maxRecDepth 20000 in
theorem gX5_of_X5_isBelow : GoodIn wsX5_of (va_wsS RX5 109 yX5_isBelow wsX5_isBelow) := goodIn_app (goodIn_of _ (by decide +kernel)) ggX5_of_X5_isBelow
set_option maxRecDepth 20000 in
theorem ggX5_of_X5_returnOf : GoodIn wsX5_of wsX5_returnOf := goodIn_r _ [20, 1, 21, 22, 23, 5, 24, 25, 8, 9, 10, 26, 27, 28, 29, 30, 31, 32, 33, 34, 35, 36, 37, 38, 39, 40, 41, 42, 43, 44, 45, 46, 47, 48, 49, 50, 51, 52, 53, 54, 55, 56, 57, 58] (by decide +kernel) (by decide +kernel)
set_option maxRecDepth 20000 in
theorem gX5_of_X5_returnOf : GoodIn wsX5_of (wsV RX5 130 RX5 yX5_returnOf wsX5_returnOf) := goodIn_app (goodIn_of _ (by decide +kernel)) ggX5_of_X5_returnOf
set_option maxRecDepth 20000 in
theorem ggX5_of_X1_value : GoodIn wsX5_of wsX1_value := goodIn_r _ [24, 25, 8, 9, 10, 56, 57, 58] (by decide +kernel) (by decide +kernel)
set_option maxRecDepth 20000 in
theorem gX5_of_X1_value : GoodIn wsX5_of (wsV RX5 116 RX1 yX1_value wsX1_value) := goodIn_app (goodIn_of _ (by decide +kernel)) ggX5_of_X1_value
theorem dX5_of_0 : decode cX5_of 0 = .ok (.aload_n 0, 1) := by decide +kernel
theorem dX5_of_1 : decode cX5_of 1 = .ok (.getfield 10, 3) := by decide +kernel
theorem dX5_of_4 : decode cX5_of 4 = .ok (.iload_n 1, 1) := by decide +kernel
theorem dX5_of_5 : decode cX5_of 5 = .ok (.invokevirtual 106, 3) := by decide +kernel
theorem dX5_of_8 : decode cX5_of 8 = .ok (.ifCond .ne 9, 3) := by decide +kernel
theorem dX5_of_11 : decode cX5_of 11 = .ok (.aload_n 0, 1) := by decide +kernel
theorem dX5_of_12 : decode cX5_of 12 = .ok (.iconst (-1), 1) := by decide +kernel
theorem dX5_of_13 : decode cX5_of 13 = .ok (.invokevirtual 64, 3) := by decide +kernel
theorem dX5_of_16 : decode cX5_of 16 = .ok (.ireturn, 1) := by decide +kernel
theorem dX5_of_17 : decode cX5_of 17 = .ok (.iload_n 2, 1) := by decide +kernel
theorem dX5_of_18 : decode cX5_of 18 = .ok (.iconst 5, 1) := by decide +kernel
theorem dX5_of_19 : decode cX5_of 19 = .ok (.invokestatic 109, 3) := by decide +kernel
theorem dX5_of_22 : decode cX5_of 22 = .ok (.ifCond .ne 10, 3) := by decide +kernel
theorem dX5_of_25 : decode cX5_of 25 = .ok (.aload_n 0, 1) := by decide +kernel
theorem dX5_of_26 : decode cX5_of 26 = .ok (.bipush (-2), 2) := by decide +kernel
theorem dX5_of_28 : decode cX5_of 28 = .ok (.invokevirtual 64, 3) := by decide +kernel
theorem dX5_of_31 : decode cX5_of 31 = .ok (.ireturn, 1) := by decide +kernel
theorem dX5_of_32 : decode cX5_of 32 = .ok (.iload_n 2, 1) := by decide +kernel
theorem dX5_of_33 : decode cX5_of 33 = .ok (.iconst 4, 1) := by decide +kernel
theorem dX5_of_34 : decode cX5_of 34 = .ok (.if_icmp .ne 11, 3) := by decide +kernel
theorem dX5_of_37 : decode cX5_of 37 = .ok (.aload_n 0, 1) := by decide +kernel
theorem dX5_of_38 : decode cX5_of 38 = .ok (.iload_n 1, 1) := by decide +kernel
theorem dX5_of_39 : decode cX5_of 39 = .ok (.invokevirtual 130, 3) := by decide +kernel
theorem dX5_of_42 : decode cX5_of 42 = .ok (.goto 12, 3) := by decide +kernel
theorem dX5_of_45 : decode cX5_of 45 = .ok (.aload_n 0, 1) := by decide +kernel
theorem dX5_of_46 : decode cX5_of 46 = .ok (.getfield 10, 3) := by decide +kernel
theorem dX5_of_49 : decode cX5_of 49 = .ok (.iload_n 1, 1) := by decide +kernel
theorem dX5_of_50 : decode cX5_of 50 = .ok (.iload_n 2, 1) := by decide +kernel
theorem dX5_of_51 : decode cX5_of 51 = .ok (.invokevirtual 116, 3) := by decide +kernel
theorem dX5_of_54 : decode cX5_of 54 = .ok (.ireturn, 1) := by decide +kernel
set_option maxRecDepth 20000 in
theorem ggX5_taken_X1_has : GoodIn wsX5_taken wsX1_has := goodIn_r _ [6, 7, 8, 9, 10, 40, 41, 42] (by decide +kernel) (by decide +kernel)
set_option maxRecDepth 20000 in
theorem gX5_taken_X1_has : GoodIn wsX5_taken (wsV RX5 106 RX1 yX1_has wsX1_has) := goodIn_app (goodIn_of _ (by decide +kernel)) ggX5_taken_X1_has
set_option maxRecDepth 20000 in
theorem ggX5_taken_X5_refuse : GoodIn wsX5_taken wsX5_refuse := goodIn_r _ [14, 15, 16, 8, 9, 10, 29, 30, 31, 32, 33, 34, 35, 36, 37, 38, 39] (by decide +kernel) (by decide +kernel)
set_option maxRecDepth 20000 in
theorem gX5_taken_X5_refuse : GoodIn wsX5_taken (wsV RX5 64 RX5 yX5_refuse wsX5_refuse) := goodIn_app (goodIn_of _ (by decide +kernel)) ggX5_taken_X5_refuse
set_option maxRecDepth 20000 in
theorem ggX5_taken_X5_isKind : GoodIn wsX5_taken wsX5_isKind := goodIn_r _ [19, 16, 8, 9, 10] (by decide +kernel) (by decide +kernel)
set_option maxRecDepth 20000 in
theorem gX5_taken_X5_isKind : GoodIn wsX5_taken (va_wsS RX5 93 yX5_isKind wsX5_isKind) := goodIn_app (goodIn_of _ (by decide +kernel)) ggX5_taken_X5_isKind
set_option maxRecDepth 20000 in
theorem ggX5_taken_X1_value : GoodIn wsX5_taken wsX1_value := goodIn_r _ [23, 24, 8, 9, 10, 40, 41, 42] (by decide +kernel) (by decide +kernel)
set_option maxRecDepth 20000 in
theorem gX5_taken_X1_value : GoodIn wsX5_taken (wsV RX5 116 RX1 yX1_value wsX1_value) := goodIn_app (goodIn_of _ (by decide +kernel)) ggX5_taken_X1_value
set_option maxRecDepth 20000 in
theorem ggX5_taken_X5_isOfKind : GoodIn wsX5_taken wsX5_isOfKind := goodIn_r _ [27, 28, 16, 8, 9, 10] (by decide +kernel) (by decide +kernel)
set_option maxRecDepth 20000 in
theorem gX5_taken_X5_isOfKind : GoodIn wsX5_taken (va_wsS RX5 133 yX5_isOfKind wsX5_isOfKind) := goodIn_app (goodIn_of _ (by decide +kernel)) ggX5_taken_X5_isOfKind
theorem dX5_taken_0 : decode cX5_taken 0 = .ok (.aload_n 0, 1) := by decide +kernel
theorem dX5_taken_1 : decode cX5_taken 1 = .ok (.getfield 10, 3) := by decide +kernel
theorem dX5_taken_4 : decode cX5_taken 4 = .ok (.iload_n 1, 1) := by decide +kernel
theorem dX5_taken_5 : decode cX5_taken 5 = .ok (.invokevirtual 106, 3) := by decide +kernel
theorem dX5_taken_8 : decode cX5_taken 8 = .ok (.ifCond .ne 9, 3) := by decide +kernel
theorem dX5_taken_11 : decode cX5_taken 11 = .ok (.aload_n 0, 1) := by decide +kernel
theorem dX5_taken_12 : decode cX5_taken 12 = .ok (.iconst (-1), 1) := by decide +kernel
theorem dX5_taken_13 : decode cX5_taken 13 = .ok (.invokevirtual 64, 3) := by decide +kernel
theorem dX5_taken_16 : decode cX5_taken 16 = .ok (.ireturn, 1) := by decide +kernel
theorem dX5_taken_17 : decode cX5_taken 17 = .ok (.iload_n 2, 1) := by decide +kernel
theorem dX5_taken_18 : decode cX5_taken 18 = .ok (.invokestatic 93, 3) := by decide +kernel
theorem dX5_taken_21 : decode cX5_taken 21 = .ok (.ifCond .ne 10, 3) := by decide +kernel
theorem dX5_taken_24 : decode cX5_taken 24 = .ok (.aload_n 0, 1) := by decide +kernel
theorem dX5_taken_25 : decode cX5_taken 25 = .ok (.bipush (-2), 2) := by decide +kernel
theorem dX5_taken_27 : decode cX5_taken 27 = .ok (.invokevirtual 64, 3) := by decide +kernel
theorem dX5_taken_30 : decode cX5_taken 30 = .ok (.ireturn, 1) := by decide +kernel
theorem dX5_taken_31 : decode cX5_taken 31 = .ok (.aload_n 0, 1) := by decide +kernel
theorem dX5_taken_32 : decode cX5_taken 32 = .ok (.getfield 10, 3) := by decide +kernel
theorem dX5_taken_35 : decode cX5_taken 35 = .ok (.iload_n 1, 1) := by decide +kernel
theorem dX5_taken_36 : decode cX5_taken 36 = .ok (.iconst 0, 1) := by decide +kernel
theorem dX5_taken_37 : decode cX5_taken 37 = .ok (.invokevirtual 116, 3) := by decide +kernel
theorem dX5_taken_40 : decode cX5_taken 40 = .ok (.istore_n 3, 1) := by decide +kernel
theorem dX5_taken_41 : decode cX5_taken 41 = .ok (.iload_n 3, 1) := by decide +kernel
theorem dX5_taken_42 : decode cX5_taken 42 = .ok (.iload_n 2, 1) := by decide +kernel
theorem dX5_taken_43 : decode cX5_taken 43 = .ok (.invokestatic 133, 3) := by decide +kernel
theorem dX5_taken_46 : decode cX5_taken 46 = .ok (.ifCond .eq 7, 3) := by decide +kernel
theorem dX5_taken_49 : decode cX5_taken 49 = .ok (.iload_n 3, 1) := by decide +kernel
theorem dX5_taken_50 : decode cX5_taken 50 = .ok (.goto 5, 3) := by decide +kernel
theorem dX5_taken_53 : decode cX5_taken 53 = .ok (.bipush (-16), 2) := by decide +kernel
theorem dX5_taken_55 : decode cX5_taken 55 = .ok (.ireturn, 1) := by decide +kernel
set_option maxRecDepth 20000 in
theorem ggX5_place_X5_refusalOfNumber : GoodIn wsX5_place wsX5_refusalOfNumber := goodIn_r _ [6, 1, 7, 8, 9, 10, 11, 12, 13, 5, 14, 44, 45, 46, 47, 48, 49, 50, 51, 52, 53, 54, 55, 56, 57] (by decide +kernel) (by decide +kernel)
set_option maxRecDepth 20000 in
theorem gX5_place_X5_refusalOfNumber : GoodIn wsX5_place (wsV RX5 136 RX5 yX5_refusalOfNumber wsX5_refusalOfNumber) := goodIn_app (goodIn_of _ (by decide +kernel)) ggX5_place_X5_refusalOfNumber
set_option maxRecDepth 20000 in
theorem ggX5_place_X5_refuse : GoodIn wsX5_place wsX5_refuse := goodIn_r _ [18, 19, 20, 13, 5, 14, 44, 45, 46, 47, 48, 49, 50, 51, 52, 53, 54] (by decide +kernel) (by decide +kernel)
set_option maxRecDepth 20000 in
theorem gX5_place_X5_refuse : GoodIn wsX5_place (wsV RX5 64 RX5 yX5_refuse wsX5_refuse) := goodIn_app (goodIn_of _ (by decide +kernel)) ggX5_place_X5_refuse
set_option maxRecDepth 20000 in
theorem ggX5_place_X1_placeOf : GoodIn wsX5_place wsX1_placeOf := goodIn_r _ [24, 25, 26, 27, 10, 28, 29, 13, 5, 14, 30, 31, 32, 33, 34, 35, 36, 37, 38, 39, 40, 41, 42, 43, 55, 56, 57] (by decide +kernel) (by decide +kernel)
set_option maxRecDepth 20000 in
theorem gX5_place_X1_placeOf : GoodIn wsX5_place (wsV RX5 140 RX1 yX1_placeOf wsX1_placeOf) := goodIn_app (goodIn_of _ (by decide +kernel)) ggX5_place_X1_placeOf
theorem dX5_place_0 : decode cX5_place 0 = .ok (.aload_n 0, 1) := by decide +kernel
theorem dX5_place_1 : decode cX5_place 1 = .ok (.iload_n 1, 1) := by decide +kernel
theorem dX5_place_2 : decode cX5_place 2 = .ok (.iload_n 2, 1) := by decide +kernel
theorem dX5_place_3 : decode cX5_place 3 = .ok (.iconst 0, 1) := by decide +kernel
theorem dX5_place_4 : decode cX5_place 4 = .ok (.sipush 4000, 3) := by decide +kernel
theorem dX5_place_7 : decode cX5_place 7 = .ok (.invokevirtual 136, 3) := by decide +kernel
theorem dX5_place_10 : decode cX5_place 10 = .ok (.istore_n 3, 1) := by decide +kernel
theorem dX5_place_11 : decode cX5_place 11 = .ok (.iload_n 3, 1) := by decide +kernel
theorem dX5_place_12 : decode cX5_place 12 = .ok (.ifCond .eq 9, 3) := by decide +kernel
theorem dX5_place_15 : decode cX5_place 15 = .ok (.aload_n 0, 1) := by decide +kernel
theorem dX5_place_16 : decode cX5_place 16 = .ok (.iload_n 3, 1) := by decide +kernel
theorem dX5_place_17 : decode cX5_place 17 = .ok (.invokevirtual 64, 3) := by decide +kernel
theorem dX5_place_20 : decode cX5_place 20 = .ok (.ireturn, 1) := by decide +kernel
theorem dX5_place_21 : decode cX5_place 21 = .ok (.aload_n 0, 1) := by decide +kernel
theorem dX5_place_22 : decode cX5_place 22 = .ok (.getfield 10, 3) := by decide +kernel
theorem dX5_place_25 : decode cX5_place 25 = .ok (.iload_n 1, 1) := by decide +kernel
theorem dX5_place_26 : decode cX5_place 26 = .ok (.iload_n 2, 1) := by decide +kernel
theorem dX5_place_27 : decode cX5_place 27 = .ok (.invokevirtual 140, 3) := by decide +kernel
theorem dX5_place_30 : decode cX5_place 30 = .ok (.ireturn, 1) := by decide +kernel
set_option maxRecDepth 20000 in
theorem ggX5_marks_X5_refusalBehind : GoodIn wsX5_marks wsX5_refusalBehind := goodIn_r _ [7, 8, 9, 10, 6, 11, 12, 13, 14, 15, 16, 17, 18, 19, 20, 21, 86, 87, 88, 89, 90, 91, 92, 93, 94, 95, 96, 99, 100, 101] (by decide +kernel) (by decide +kernel)
set_option maxRecDepth 20000 in
theorem gX5_marks_X5_refusalBehind : GoodIn wsX5_marks (wsV RX5 143 RX5 yX5_refusalBehind wsX5_refusalBehind) := goodIn_app (goodIn_of _ (by decide +kernel)) ggX5_marks_X5_refusalBehind
set_option maxRecDepth 20000 in
theorem ggX5_marks_X5_refuse : GoodIn wsX5_marks wsX5_refuse := goodIn_r _ [25, 26, 21, 19, 6, 20, 86, 87, 88, 89, 90, 91, 92, 93, 94, 95, 96] (by decide +kernel) (by decide +kernel)
set_option maxRecDepth 20000 in
theorem gX5_marks_X5_refuse : GoodIn wsX5_marks (wsV RX5 64 RX5 yX5_refuse wsX5_refuse) := goodIn_app (goodIn_of _ (by decide +kernel)) ggX5_marks_X5_refuse
set_option maxRecDepth 20000 in
theorem ggX5_marks_X5_takeMarks : GoodIn wsX5_marks wsX5_takeMarks := goodIn_r _ [30, 12, 31, 32, 33, 34, 35, 36, 37, 38, 39, 16, 40, 41, 42, 43, 44, 45, 19, 6, 20, 46, 47, 48, 49, 50, 51, 52, 53, 54, 55, 56, 57, 58, 59, 60, 61, 62, 63, 64, 65, 66, 67, 68, 69, 70, 71, 72, 73, 74, 75, 76, 77, 78, 79, 80, 81, 82, 83, 84, 86, 87, 88, 89, 90, 91, 92, 93, 94, 95, 96, 97, 98, 99, 100, 101] (by decide +kernel) (by decide +kernel)
set_option maxRecDepth 20000 in
theorem gX5_marks_X5_takeMarks : GoodIn wsX5_marks (wsV RX5 146 RX5 yX5_takeMarks wsX5_takeMarks) := goodIn_app (goodIn_of _ (by decide +kernel)) ggX5_marks_X5_takeMarks
set_option maxRecDepth 20000 in
theorem ggX5_marks_X3_get : GoodIn wsX5_marks wsX3_get := goodIn_r _ [75, 36, 76, 97, 98] (by decide +kernel) (by decide +kernel)
set_option maxRecDepth 20000 in
theorem gX5_marks_X3_get : GoodIn wsX5_marks (wsV RX5 151 RX3 yX3_get wsX3_get) := goodIn_app (goodIn_of _ (by decide +kernel)) ggX5_marks_X3_get
theorem dX5_marks_0 : decode cX5_marks 0 = .ok (.aload_n 0, 1) := by decide +kernel
theorem dX5_marks_1 : decode cX5_marks 1 = .ok (.iload_n 1, 1) := by decide +kernel
theorem dX5_marks_2 : decode cX5_marks 2 = .ok (.iload_n 2, 1) := by decide +kernel
theorem dX5_marks_3 : decode cX5_marks 3 = .ok (.iload_n 3, 1) := by decide +kernel
theorem dX5_marks_4 : decode cX5_marks 4 = .ok (.iconst 3, 1) := by decide +kernel
theorem dX5_marks_5 : decode cX5_marks 5 = .ok (.invokevirtual 143, 3) := by decide +kernel
theorem dX5_marks_8 : decode cX5_marks 8 = .ok (.istore 4, 2) := by decide +kernel
theorem dX5_marks_10 : decode cX5_marks 10 = .ok (.iload 4, 2) := by decide +kernel
theorem dX5_marks_12 : decode cX5_marks 12 = .ok (.ifCond .eq 10, 3) := by decide +kernel
theorem dX5_marks_15 : decode cX5_marks 15 = .ok (.aload_n 0, 1) := by decide +kernel
theorem dX5_marks_16 : decode cX5_marks 16 = .ok (.iload 4, 2) := by decide +kernel
theorem dX5_marks_18 : decode cX5_marks 18 = .ok (.invokevirtual 64, 3) := by decide +kernel
theorem dX5_marks_21 : decode cX5_marks 21 = .ok (.ireturn, 1) := by decide +kernel
theorem dX5_marks_22 : decode cX5_marks 22 = .ok (.aload_n 0, 1) := by decide +kernel
theorem dX5_marks_23 : decode cX5_marks 23 = .ok (.aload_n 0, 1) := by decide +kernel
theorem dX5_marks_24 : decode cX5_marks 24 = .ok (.getfield 53, 3) := by decide +kernel
theorem dX5_marks_27 : decode cX5_marks 27 = .ok (.iload_n 1, 1) := by decide +kernel
theorem dX5_marks_28 : decode cX5_marks 28 = .ok (.iload_n 2, 1) := by decide +kernel
theorem dX5_marks_29 : decode cX5_marks 29 = .ok (.invokevirtual 146, 3) := by decide +kernel
theorem dX5_marks_32 : decode cX5_marks 32 = .ok (.iload_n 3, 1) := by decide +kernel
theorem dX5_marks_33 : decode cX5_marks 33 = .ok (.lookupswitch 44 #[(0, 27), (1, 35)], 27) := by decide +kernel
theorem dX5_marks_60 : decode cX5_marks 60 = .ok (.aload_n 0, 1) := by decide +kernel
theorem dX5_marks_61 : decode cX5_marks 61 = .ok (.getfield 53, 3) := by decide +kernel
theorem dX5_marks_64 : decode cX5_marks 64 = .ok (.getfield 150, 3) := by decide +kernel
theorem dX5_marks_67 : decode cX5_marks 67 = .ok (.ireturn, 1) := by decide +kernel
theorem dX5_marks_68 : decode cX5_marks 68 = .ok (.aload_n 0, 1) := by decide +kernel
theorem dX5_marks_69 : decode cX5_marks 69 = .ok (.getfield 53, 3) := by decide +kernel
theorem dX5_marks_72 : decode cX5_marks 72 = .ok (.iconst 0, 1) := by decide +kernel
theorem dX5_marks_73 : decode cX5_marks 73 = .ok (.invokevirtual 151, 3) := by decide +kernel
theorem dX5_marks_76 : decode cX5_marks 76 = .ok (.ireturn, 1) := by decide +kernel
theorem dX5_marks_77 : decode cX5_marks 77 = .ok (.aload_n 0, 1) := by decide +kernel
theorem dX5_marks_78 : decode cX5_marks 78 = .ok (.getfield 53, 3) := by decide +kernel
theorem dX5_marks_81 : decode cX5_marks 81 = .ok (.aload_n 0, 1) := by decide +kernel
theorem dX5_marks_82 : decode cX5_marks 82 = .ok (.getfield 53, 3) := by decide +kernel
theorem dX5_marks_85 : decode cX5_marks 85 = .ok (.getfield 150, 3) := by decide +kernel
theorem dX5_marks_88 : decode cX5_marks 88 = .ok (.iconst 1, 1) := by decide +kernel
theorem dX5_marks_89 : decode cX5_marks 89 = .ok (.isub, 1) := by decide +kernel
theorem dX5_marks_90 : decode cX5_marks 90 = .ok (.invokevirtual 151, 3) := by decide +kernel
theorem dX5_marks_93 : decode cX5_marks 93 = .ok (.ireturn, 1) := by decide +kernel
set_option maxRecDepth 20000 in
theorem ggX5_lengths_X5_refusalOfNth : GoodIn wsX5_lengths wsX5_refusalOfNth := goodIn_r _ [7, 8, 9, 10, 11, 12, 13, 14, 15, 6, 16, 92, 93, 94, 95, 96, 97, 98, 99, 100, 101, 102, 105, 106, 107] (by decide +kernel) (by decide +kernel)
set_option maxRecDepth 20000 in
theorem gX5_lengths_X5_refusalOfNth : GoodIn wsX5_lengths (wsV RX5 154 RX5 yX5_refusalOfNth wsX5_refusalOfNth) := goodIn_app (goodIn_of _ (by decide +kernel)) ggX5_lengths_X5_refusalOfNth
set_option maxRecDepth 20000 in
theorem ggX5_lengths_X5_refuse : GoodIn wsX5_lengths wsX5_refuse := goodIn_r _ [20, 21, 22, 15, 6, 16, 92, 93, 94, 95, 96, 97, 98, 99, 100, 101, 102] (by decide +kernel) (by decide +kernel)
set_option maxRecDepth 20000 in
theorem gX5_lengths_X5_refuse : GoodIn wsX5_lengths (wsV RX5 64 RX5 yX5_refuse wsX5_refuse) := goodIn_app (goodIn_of _ (by decide +kernel)) ggX5_lengths_X5_refuse
set_option maxRecDepth 20000 in
theorem ggX5_lengths_X5_takeLengths : GoodIn wsX5_lengths wsX5_takeLengths := goodIn_r _ [26, 27, 1, 2, 28, 29, 30, 6, 31, 8, 32, 33, 34, 35, 36, 37, 38, 39, 40, 12, 41, 42, 43, 44, 45, 46, 15, 16, 47, 48, 49, 50, 51, 52, 53, 54, 55, 56, 57, 58, 59, 60, 61, 62, 63, 64, 65, 66, 67, 68, 69, 70, 71, 72, 73, 74, 75, 76, 77, 78, 79, 80, 81, 82, 83, 84, 85, 86, 87, 88, 89, 90, 91, 92, 93, 94, 95, 96, 97, 98, 99, 100, 101, 102, 103, 104, 105, 106, 107] (by decide +kernel) (by decide +kernel)
set_option maxRecDepth 20000 in
theorem gX5_lengths_X5_takeLengths : GoodIn wsX5_lengths (wsV RX5 157 RX5 yX5_takeLengths wsX5_takeLengths) := goodIn_app (goodIn_of _ (by decide +kernel)) ggX5_lengths_X5_takeLengths
set_option maxRecDepth 20000 in
theorem ggX5_lengths_X3_get : GoodIn wsX5_lengths wsX3_get := goodIn_r _ [76, 37, 77, 103, 104] (by decide +kernel) (by decide +kernel)
set_option maxRecDepth 20000 in
theorem gX5_lengths_X3_get : GoodIn wsX5_lengths (wsV RX5 151 RX3 yX3_get wsX3_get) := goodIn_app (goodIn_of _ (by decide +kernel)) ggX5_lengths_X3_get
theorem dX5_lengths_0 : decode cX5_lengths 0 = .ok (.aload_n 0, 1) := by decide +kernel
theorem dX5_lengths_1 : decode cX5_lengths 1 = .ok (.iload_n 1, 1) := by decide +kernel
theorem dX5_lengths_2 : decode cX5_lengths 2 = .ok (.iload_n 2, 1) := by decide +kernel
theorem dX5_lengths_3 : decode cX5_lengths 3 = .ok (.iload_n 3, 1) := by decide +kernel
theorem dX5_lengths_4 : decode cX5_lengths 4 = .ok (.iconst (-1), 1) := by decide +kernel
theorem dX5_lengths_5 : decode cX5_lengths 5 = .ok (.invokevirtual 154, 3) := by decide +kernel
theorem dX5_lengths_8 : decode cX5_lengths 8 = .ok (.istore 4, 2) := by decide +kernel
theorem dX5_lengths_10 : decode cX5_lengths 10 = .ok (.iload 4, 2) := by decide +kernel
theorem dX5_lengths_12 : decode cX5_lengths 12 = .ok (.ifCond .eq 10, 3) := by decide +kernel
theorem dX5_lengths_15 : decode cX5_lengths 15 = .ok (.aload_n 0, 1) := by decide +kernel
theorem dX5_lengths_16 : decode cX5_lengths 16 = .ok (.iload 4, 2) := by decide +kernel
theorem dX5_lengths_18 : decode cX5_lengths 18 = .ok (.invokevirtual 64, 3) := by decide +kernel
theorem dX5_lengths_21 : decode cX5_lengths 21 = .ok (.ireturn, 1) := by decide +kernel
theorem dX5_lengths_22 : decode cX5_lengths 22 = .ok (.aload_n 0, 1) := by decide +kernel
theorem dX5_lengths_23 : decode cX5_lengths 23 = .ok (.iload_n 1, 1) := by decide +kernel
theorem dX5_lengths_24 : decode cX5_lengths 24 = .ok (.iload_n 2, 1) := by decide +kernel
theorem dX5_lengths_25 : decode cX5_lengths 25 = .ok (.invokevirtual 157, 3) := by decide +kernel
theorem dX5_lengths_28 : decode cX5_lengths 28 = .ok (.iload_n 3, 1) := by decide +kernel
theorem dX5_lengths_29 : decode cX5_lengths 29 = .ok (.iconst (-1), 1) := by decide +kernel
theorem dX5_lengths_30 : decode cX5_lengths 30 = .ok (.if_icmp .ne 11, 3) := by decide +kernel
theorem dX5_lengths_33 : decode cX5_lengths 33 = .ok (.aload_n 0, 1) := by decide +kernel
theorem dX5_lengths_34 : decode cX5_lengths 34 = .ok (.getfield 57, 3) := by decide +kernel
theorem dX5_lengths_37 : decode cX5_lengths 37 = .ok (.getfield 150, 3) := by decide +kernel
theorem dX5_lengths_40 : decode cX5_lengths 40 = .ok (.ireturn, 1) := by decide +kernel
theorem dX5_lengths_41 : decode cX5_lengths 41 = .ok (.iload_n 3, 1) := by decide +kernel
theorem dX5_lengths_42 : decode cX5_lengths 42 = .ok (.aload_n 0, 1) := by decide +kernel
theorem dX5_lengths_43 : decode cX5_lengths 43 = .ok (.getfield 57, 3) := by decide +kernel
theorem dX5_lengths_46 : decode cX5_lengths 46 = .ok (.getfield 150, 3) := by decide +kernel
theorem dX5_lengths_49 : decode cX5_lengths 49 = .ok (.if_icmp .ge 14, 3) := by decide +kernel
theorem dX5_lengths_52 : decode cX5_lengths 52 = .ok (.aload_n 0, 1) := by decide +kernel
theorem dX5_lengths_53 : decode cX5_lengths 53 = .ok (.getfield 57, 3) := by decide +kernel
theorem dX5_lengths_56 : decode cX5_lengths 56 = .ok (.iload_n 3, 1) := by decide +kernel
theorem dX5_lengths_57 : decode cX5_lengths 57 = .ok (.invokevirtual 151, 3) := by decide +kernel
theorem dX5_lengths_60 : decode cX5_lengths 60 = .ok (.goto 5, 3) := by decide +kernel
theorem dX5_lengths_63 : decode cX5_lengths 63 = .ok (.bipush (-9), 2) := by decide +kernel
theorem dX5_lengths_65 : decode cX5_lengths 65 = .ok (.ireturn, 1) := by decide +kernel
set_option maxRecDepth 20000 in
theorem ggX5_many_X5_refusalOfNth : GoodIn wsX5_many wsX5_refusalOfNth := goodIn_r _ [7, 8, 9, 10, 11, 12, 13, 14, 15, 6, 16, 96, 97, 98, 99, 100, 101, 102, 103, 104, 105, 106, 109, 110, 111] (by decide +kernel) (by decide +kernel)
set_option maxRecDepth 20000 in
theorem gX5_many_X5_refusalOfNth : GoodIn wsX5_many (wsV RX5 154 RX5 yX5_refusalOfNth wsX5_refusalOfNth) := goodIn_app (goodIn_of _ (by decide +kernel)) ggX5_many_X5_refusalOfNth
set_option maxRecDepth 20000 in
theorem ggX5_many_X5_refuse : GoodIn wsX5_many wsX5_refuse := goodIn_r _ [20, 21, 22, 15, 6, 16, 96, 97, 98, 99, 100, 101, 102, 103, 104, 105, 106] (by decide +kernel) (by decide +kernel)
set_option maxRecDepth 20000 in
theorem gX5_many_X5_refuse : GoodIn wsX5_many (wsV RX5 64 RX5 yX5_refuse wsX5_refuse) := goodIn_app (goodIn_of _ (by decide +kernel)) ggX5_many_X5_refuse
set_option maxRecDepth 20000 in
theorem ggX5_many_X5_takeLengths : GoodIn wsX5_many wsX5_takeLengths := goodIn_r _ [26, 27, 1, 2, 28, 29, 30, 6, 31, 8, 32, 33, 34, 35, 36, 37, 38, 39, 40, 12, 41, 42, 43, 44, 45, 46, 15, 16, 47, 48, 49, 50, 51, 52, 53, 54, 55, 56, 57, 58, 59, 60, 61, 62, 63, 64, 65, 66, 67, 68, 69, 70, 71, 72, 73, 74, 75, 76, 77, 78, 79, 80, 81, 82, 83, 84, 85, 86, 87, 88, 89, 90, 91, 96, 97, 98, 99, 100, 101, 102, 103, 104, 105, 106, 107, 108, 109, 110, 111] (by decide +kernel) (by decide +kernel)
set_option maxRecDepth 20000 in
theorem gX5_many_X5_takeLengths : GoodIn wsX5_many (wsV RX5 157 RX5 yX5_takeLengths wsX5_takeLengths) := goodIn_app (goodIn_of _ (by decide +kernel)) ggX5_many_X5_takeLengths
set_option maxRecDepth 20000 in
theorem ggX5_many_X3_get : GoodIn wsX5_many wsX3_get := goodIn_r _ [76, 37, 77, 107, 108] (by decide +kernel) (by decide +kernel)
set_option maxRecDepth 20000 in
theorem gX5_many_X3_get : GoodIn wsX5_many (wsV RX5 151 RX3 yX3_get wsX3_get) := goodIn_app (goodIn_of _ (by decide +kernel)) ggX5_many_X3_get
set_option maxRecDepth 20000 in
theorem ggX5_many_X5_gapsOfLength : GoodIn wsX5_many wsX5_gapsOfLength := goodIn_r _ [95, 27, 2, 86, 87, 88, 6, 89, 8, 90, 91, 74, 75, 35, 76, 37, 77, 96, 97, 98, 99, 100, 101, 102, 103, 104, 105, 106, 107, 108, 109, 110, 111] (by decide +kernel) (by decide +kernel)
set_option maxRecDepth 20000 in
theorem gX5_many_X5_gapsOfLength : GoodIn wsX5_many (wsV RX5 161 RX5 yX5_gapsOfLength wsX5_gapsOfLength) := goodIn_app (goodIn_of _ (by decide +kernel)) ggX5_many_X5_gapsOfLength
theorem dX5_many_0 : decode cX5_many 0 = .ok (.aload_n 0, 1) := by decide +kernel
theorem dX5_many_1 : decode cX5_many 1 = .ok (.iload_n 1, 1) := by decide +kernel
theorem dX5_many_2 : decode cX5_many 2 = .ok (.iload_n 2, 1) := by decide +kernel
theorem dX5_many_3 : decode cX5_many 3 = .ok (.iload_n 3, 1) := by decide +kernel
theorem dX5_many_4 : decode cX5_many 4 = .ok (.iconst 0, 1) := by decide +kernel
theorem dX5_many_5 : decode cX5_many 5 = .ok (.invokevirtual 154, 3) := by decide +kernel
theorem dX5_many_8 : decode cX5_many 8 = .ok (.istore 4, 2) := by decide +kernel
theorem dX5_many_10 : decode cX5_many 10 = .ok (.iload 4, 2) := by decide +kernel
theorem dX5_many_12 : decode cX5_many 12 = .ok (.ifCond .eq 10, 3) := by decide +kernel
theorem dX5_many_15 : decode cX5_many 15 = .ok (.aload_n 0, 1) := by decide +kernel
theorem dX5_many_16 : decode cX5_many 16 = .ok (.iload 4, 2) := by decide +kernel
theorem dX5_many_18 : decode cX5_many 18 = .ok (.invokevirtual 64, 3) := by decide +kernel
theorem dX5_many_21 : decode cX5_many 21 = .ok (.ireturn, 1) := by decide +kernel
theorem dX5_many_22 : decode cX5_many 22 = .ok (.aload_n 0, 1) := by decide +kernel
theorem dX5_many_23 : decode cX5_many 23 = .ok (.iload_n 1, 1) := by decide +kernel
theorem dX5_many_24 : decode cX5_many 24 = .ok (.iload_n 2, 1) := by decide +kernel
theorem dX5_many_25 : decode cX5_many 25 = .ok (.invokevirtual 157, 3) := by decide +kernel
theorem dX5_many_28 : decode cX5_many 28 = .ok (.iload_n 3, 1) := by decide +kernel
theorem dX5_many_29 : decode cX5_many 29 = .ok (.aload_n 0, 1) := by decide +kernel
theorem dX5_many_30 : decode cX5_many 30 = .ok (.getfield 57, 3) := by decide +kernel
theorem dX5_many_33 : decode cX5_many 33 = .ok (.getfield 150, 3) := by decide +kernel
theorem dX5_many_36 : decode cX5_many 36 = .ok (.if_icmp .ge 18, 3) := by decide +kernel
theorem dX5_many_39 : decode cX5_many 39 = .ok (.aload_n 0, 1) := by decide +kernel
theorem dX5_many_40 : decode cX5_many 40 = .ok (.aload_n 0, 1) := by decide +kernel
theorem dX5_many_41 : decode cX5_many 41 = .ok (.getfield 57, 3) := by decide +kernel
theorem dX5_many_44 : decode cX5_many 44 = .ok (.iload_n 3, 1) := by decide +kernel
theorem dX5_many_45 : decode cX5_many 45 = .ok (.invokevirtual 151, 3) := by decide +kernel
theorem dX5_many_48 : decode cX5_many 48 = .ok (.invokevirtual 161, 3) := by decide +kernel
theorem dX5_many_51 : decode cX5_many 51 = .ok (.goto 5, 3) := by decide +kernel
theorem dX5_many_54 : decode cX5_many 54 = .ok (.bipush (-9), 2) := by decide +kernel
theorem dX5_many_56 : decode cX5_many 56 = .ok (.ireturn, 1) := by decide +kernel
set_option maxRecDepth 20000 in
theorem ggX5_seen_X5_refusalOfNth : GoodIn wsX5_seen wsX5_refusalOfNth := goodIn_r _ [8, 9, 10, 11, 12, 13, 14, 15, 16, 7, 17, 89, 90, 91, 92, 93, 94, 95, 96, 97, 98, 99, 102, 103, 104] (by decide +kernel) (by decide +kernel)
set_option maxRecDepth 20000 in
theorem gX5_seen_X5_refusalOfNth : GoodIn wsX5_seen (wsV RX5 154 RX5 yX5_refusalOfNth wsX5_refusalOfNth) := goodIn_app (goodIn_of _ (by decide +kernel)) ggX5_seen_X5_refusalOfNth
set_option maxRecDepth 20000 in
theorem ggX5_seen_X5_refuse : GoodIn wsX5_seen wsX5_refuse := goodIn_r _ [21, 22, 23, 16, 7, 17, 89, 90, 91, 92, 93, 94, 95, 96, 97, 98, 99] (by decide +kernel) (by decide +kernel)
set_option maxRecDepth 20000 in
theorem gX5_seen_X5_refuse : GoodIn wsX5_seen (wsV RX5 64 RX5 yX5_refuse wsX5_refuse) := goodIn_app (goodIn_of _ (by decide +kernel)) ggX5_seen_X5_refuse
set_option maxRecDepth 20000 in
theorem ggX5_seen_X5_takeMarks : GoodIn wsX5_seen wsX5_takeMarks := goodIn_r _ [27, 9, 28, 29, 30, 31, 32, 33, 34, 35, 36, 13, 37, 38, 39, 40, 41, 42, 16, 7, 17, 43, 44, 45, 46, 47, 48, 49, 50, 51, 52, 53, 54, 55, 56, 57, 58, 59, 60, 61, 62, 63, 64, 65, 66, 67, 68, 69, 70, 71, 72, 73, 74, 75, 76, 77, 78, 79, 80, 81, 89, 90, 91, 92, 93, 94, 95, 96, 97, 98, 99, 100, 101, 102, 103, 104] (by decide +kernel) (by decide +kernel)
set_option maxRecDepth 20000 in
theorem gX5_seen_X5_takeMarks : GoodIn wsX5_seen (wsV RX5 146 RX5 yX5_takeMarks wsX5_takeMarks) := goodIn_app (goodIn_of _ (by decide +kernel)) ggX5_seen_X5_takeMarks
set_option maxRecDepth 20000 in
theorem ggX5_seen_X3_clear : GoodIn wsX5_seen wsX3_clear := goodIn_r _ [32, 33, 100, 101] (by decide +kernel) (by decide +kernel)
set_option maxRecDepth 20000 in
theorem gX5_seen_X3_clear : GoodIn wsX5_seen (wsV RX5 164 RX3 yX3_clear wsX3_clear) := goodIn_app (goodIn_of _ (by decide +kernel)) ggX5_seen_X3_clear
set_option maxRecDepth 20000 in
theorem ggX5_seen_X5_gapBehind : GoodIn wsX5_seen wsX5_gapBehind := goodIn_r _ [85, 1, 3, 9, 86, 87, 70, 71, 31, 72, 33, 73, 89, 90, 91, 92, 93, 94, 95, 96, 97, 98, 99, 100, 101, 102, 103, 104] (by decide +kernel) (by decide +kernel)
set_option maxRecDepth 20000 in
theorem gX5_seen_X5_gapBehind : GoodIn wsX5_seen (wsV RX5 165 RX5 yX5_gapBehind wsX5_gapBehind) := goodIn_app (goodIn_of _ (by decide +kernel)) ggX5_seen_X5_gapBehind
set_option maxRecDepth 20000 in
theorem ggX5_seen_X3_has : GoodIn wsX5_seen wsX3_has := goodIn_r _ [64, 33, 65, 66, 67, 31, 68, 69, 70, 71, 72, 73, 100, 101] (by decide +kernel) (by decide +kernel)
set_option maxRecDepth 20000 in
theorem gX5_seen_X3_has : GoodIn wsX5_seen (wsV RX5 168 RX3 yX3_has wsX3_has) := goodIn_app (goodIn_of _ (by decide +kernel)) ggX5_seen_X3_has
set_option maxRecDepth 20000 in
theorem ggX5_seen_X3_addOnce : GoodIn wsX5_seen wsX3_addOnce := goodIn_r _ [60, 61, 62, 63, 31, 64, 33, 65, 66, 67, 68, 69, 70, 71, 72, 73, 74, 75, 76, 77, 78, 79, 80, 81, 100, 101] (by decide +kernel) (by decide +kernel)
set_option maxRecDepth 20000 in
theorem gX5_seen_X3_addOnce : GoodIn wsX5_seen (wsV RX5 169 RX3 yX3_addOnce wsX3_addOnce) := goodIn_app (goodIn_of _ (by decide +kernel)) ggX5_seen_X3_addOnce
theorem dX5_seen_0 : decode cX5_seen 0 = .ok (.aload_n 0, 1) := by decide +kernel
theorem dX5_seen_1 : decode cX5_seen 1 = .ok (.iload_n 1, 1) := by decide +kernel
theorem dX5_seen_2 : decode cX5_seen 2 = .ok (.iload_n 2, 1) := by decide +kernel
theorem dX5_seen_3 : decode cX5_seen 3 = .ok (.iload_n 3, 1) := by decide +kernel
theorem dX5_seen_4 : decode cX5_seen 4 = .ok (.iconst 0, 1) := by decide +kernel
theorem dX5_seen_5 : decode cX5_seen 5 = .ok (.invokevirtual 154, 3) := by decide +kernel
theorem dX5_seen_8 : decode cX5_seen 8 = .ok (.istore 4, 2) := by decide +kernel
theorem dX5_seen_10 : decode cX5_seen 10 = .ok (.iload 4, 2) := by decide +kernel
theorem dX5_seen_12 : decode cX5_seen 12 = .ok (.ifCond .eq 10, 3) := by decide +kernel
theorem dX5_seen_15 : decode cX5_seen 15 = .ok (.aload_n 0, 1) := by decide +kernel
theorem dX5_seen_16 : decode cX5_seen 16 = .ok (.iload 4, 2) := by decide +kernel
theorem dX5_seen_18 : decode cX5_seen 18 = .ok (.invokevirtual 64, 3) := by decide +kernel
theorem dX5_seen_21 : decode cX5_seen 21 = .ok (.ireturn, 1) := by decide +kernel
theorem dX5_seen_22 : decode cX5_seen 22 = .ok (.aload_n 0, 1) := by decide +kernel
theorem dX5_seen_23 : decode cX5_seen 23 = .ok (.aload_n 0, 1) := by decide +kernel
theorem dX5_seen_24 : decode cX5_seen 24 = .ok (.getfield 53, 3) := by decide +kernel
theorem dX5_seen_27 : decode cX5_seen 27 = .ok (.iload_n 1, 1) := by decide +kernel
theorem dX5_seen_28 : decode cX5_seen 28 = .ok (.iload_n 2, 1) := by decide +kernel
theorem dX5_seen_29 : decode cX5_seen 29 = .ok (.invokevirtual 146, 3) := by decide +kernel
theorem dX5_seen_32 : decode cX5_seen 32 = .ok (.aload_n 0, 1) := by decide +kernel
theorem dX5_seen_33 : decode cX5_seen 33 = .ok (.getfield 57, 3) := by decide +kernel
theorem dX5_seen_36 : decode cX5_seen 36 = .ok (.invokevirtual 164, 3) := by decide +kernel
theorem dX5_seen_39 : decode cX5_seen 39 = .ok (.iconst 0, 1) := by decide +kernel
theorem dX5_seen_40 : decode cX5_seen 40 = .ok (.istore 5, 2) := by decide +kernel
theorem dX5_seen_42 : decode cX5_seen 42 = .ok (.iload 5, 2) := by decide +kernel
theorem dX5_seen_44 : decode cX5_seen 44 = .ok (.aload_n 0, 1) := by decide +kernel
theorem dX5_seen_45 : decode cX5_seen 45 = .ok (.getfield 53, 3) := by decide +kernel
theorem dX5_seen_48 : decode cX5_seen 48 = .ok (.getfield 150, 3) := by decide +kernel
theorem dX5_seen_51 : decode cX5_seen 51 = .ok (.if_icmp .ge 52, 3) := by decide +kernel
theorem dX5_seen_54 : decode cX5_seen 54 = .ok (.aload_n 0, 1) := by decide +kernel
theorem dX5_seen_55 : decode cX5_seen 55 = .ok (.iload 5, 2) := by decide +kernel
theorem dX5_seen_57 : decode cX5_seen 57 = .ok (.invokevirtual 165, 3) := by decide +kernel
theorem dX5_seen_60 : decode cX5_seen 60 = .ok (.istore 6, 2) := by decide +kernel
theorem dX5_seen_62 : decode cX5_seen 62 = .ok (.aload_n 0, 1) := by decide +kernel
theorem dX5_seen_63 : decode cX5_seen 63 = .ok (.getfield 57, 3) := by decide +kernel
theorem dX5_seen_66 : decode cX5_seen 66 = .ok (.iload 6, 2) := by decide +kernel
theorem dX5_seen_68 : decode cX5_seen 68 = .ok (.invokevirtual 168, 3) := by decide +kernel
theorem dX5_seen_71 : decode cX5_seen 71 = .ok (.ifCond .ne 17, 3) := by decide +kernel
theorem dX5_seen_74 : decode cX5_seen 74 = .ok (.aload_n 0, 1) := by decide +kernel
theorem dX5_seen_75 : decode cX5_seen 75 = .ok (.getfield 57, 3) := by decide +kernel
theorem dX5_seen_78 : decode cX5_seen 78 = .ok (.getfield 150, 3) := by decide +kernel
theorem dX5_seen_81 : decode cX5_seen 81 = .ok (.iload_n 3, 1) := by decide +kernel
theorem dX5_seen_82 : decode cX5_seen 82 = .ok (.if_icmp .ne 6, 3) := by decide +kernel
theorem dX5_seen_85 : decode cX5_seen 85 = .ok (.iload 6, 2) := by decide +kernel
theorem dX5_seen_87 : decode cX5_seen 87 = .ok (.ireturn, 1) := by decide +kernel
theorem dX5_seen_88 : decode cX5_seen 88 = .ok (.aload_n 0, 1) := by decide +kernel
theorem dX5_seen_89 : decode cX5_seen 89 = .ok (.getfield 57, 3) := by decide +kernel
theorem dX5_seen_92 : decode cX5_seen 92 = .ok (.iload 6, 2) := by decide +kernel
theorem dX5_seen_94 : decode cX5_seen 94 = .ok (.invokevirtual 169, 3) := by decide +kernel
theorem dX5_seen_97 : decode cX5_seen 97 = .ok (.iinc 5 1, 3) := by decide +kernel
theorem dX5_seen_100 : decode cX5_seen 100 = .ok (.goto (-58), 3) := by decide +kernel
theorem dX5_seen_103 : decode cX5_seen 103 = .ok (.bipush (-9), 2) := by decide +kernel
theorem dX5_seen_105 : decode cX5_seen 105 = .ok (.ireturn, 1) := by decide +kernel
set_option maxRecDepth 20000 in
theorem ggX5_split_X5_refusalBehind : GoodIn wsX5_split wsX5_refusalBehind := goodIn_r _ [8, 9, 10, 11, 7, 12, 2, 13, 14, 15, 16, 17, 18, 19, 20, 21, 89, 90, 91, 92, 93, 94, 95, 96, 97, 98, 99, 102, 103, 104] (by decide +kernel) (by decide +kernel)
set_option maxRecDepth 20000 in
theorem gX5_split_X5_refusalBehind : GoodIn wsX5_split (wsV RX5 143 RX5 yX5_refusalBehind wsX5_refusalBehind) := goodIn_app (goodIn_of _ (by decide +kernel)) ggX5_split_X5_refusalBehind
set_option maxRecDepth 20000 in
theorem ggX5_split_X5_refuse : GoodIn wsX5_split wsX5_refuse := goodIn_r _ [25, 26, 21, 19, 7, 20, 89, 90, 91, 92, 93, 94, 95, 96, 97, 98, 99] (by decide +kernel) (by decide +kernel)
set_option maxRecDepth 20000 in
theorem gX5_split_X5_refuse : GoodIn wsX5_split (wsV RX5 64 RX5 yX5_refuse wsX5_refuse) := goodIn_app (goodIn_of _ (by decide +kernel)) ggX5_split_X5_refuse
set_option maxRecDepth 20000 in
theorem ggX5_split_X5_takeMarks : GoodIn wsX5_split wsX5_takeMarks := goodIn_r _ [30, 2, 31, 32, 33, 34, 35, 36, 37, 38, 39, 16, 40, 41, 42, 43, 44, 45, 19, 7, 20, 46, 47, 48, 49, 50, 51, 52, 53, 54, 55, 56, 57, 58, 59, 60, 61, 62, 63, 64, 65, 66, 67, 68, 69, 70, 71, 72, 73, 74, 75, 76, 77, 78, 79, 80, 81, 82, 83, 84, 89, 90, 91, 92, 93, 94, 95, 96, 97, 98, 99, 100, 101, 102, 103, 104] (by decide +kernel) (by decide +kernel)
set_option maxRecDepth 20000 in
theorem gX5_split_X5_takeMarks : GoodIn wsX5_split (wsV RX5 146 RX5 yX5_takeMarks wsX5_takeMarks) := goodIn_app (goodIn_of _ (by decide +kernel)) ggX5_split_X5_takeMarks
set_option maxRecDepth 20000 in
theorem ggX5_split_X1_placeOf : GoodIn wsX5_split wsX1_placeOf := goodIn_r _ [40, 41, 42, 43, 16, 44, 45, 19, 7, 20, 46, 47, 48, 49, 50, 51, 52, 53, 54, 55, 56, 57, 58, 59, 102, 103, 104] (by decide +kernel) (by decide +kernel)
set_option maxRecDepth 20000 in
theorem gX5_split_X1_placeOf : GoodIn wsX5_split (wsV RX5 140 RX1 yX1_placeOf wsX1_placeOf) := goodIn_app (goodIn_of _ (by decide +kernel)) ggX5_split_X1_placeOf
set_option maxRecDepth 20000 in
theorem ggX5_split_X3_has : GoodIn wsX5_split wsX3_has := goodIn_r _ [67, 36, 68, 69, 70, 34, 71, 72, 73, 74, 75, 76, 100, 101] (by decide +kernel) (by decide +kernel)
set_option maxRecDepth 20000 in
theorem gX5_split_X3_has : GoodIn wsX5_split (wsV RX5 168 RX3 yX3_has wsX3_has) := goodIn_app (goodIn_of _ (by decide +kernel)) ggX5_split_X3_has
set_option maxRecDepth 20000 in
theorem ggX5_split_X3_howManyBelow : GoodIn wsX5_split wsX3_howManyBelow := goodIn_r _ [71, 36, 72, 73, 74, 34, 75, 76, 100, 101] (by decide +kernel) (by decide +kernel)
set_option maxRecDepth 20000 in
theorem gX5_split_X3_howManyBelow : GoodIn wsX5_split (wsV RX5 172 RX3 yX3_howManyBelow wsX3_howManyBelow) := goodIn_app (goodIn_of _ (by decide +kernel)) ggX5_split_X3_howManyBelow
set_option maxRecDepth 20000 in
theorem ggX5_split_X3_get : GoodIn wsX5_split wsX3_get := goodIn_r _ [75, 36, 76, 100, 101] (by decide +kernel) (by decide +kernel)
set_option maxRecDepth 20000 in
theorem gX5_split_X3_get : GoodIn wsX5_split (wsV RX5 151 RX3 yX3_get wsX3_get) := goodIn_app (goodIn_of _ (by decide +kernel)) ggX5_split_X3_get
set_option maxRecDepth 20000 in
theorem ggX5_split_X1_around : GoodIn wsX5_split wsX1_around := goodIn_r _ [54, 55, 56, 7, 57, 102, 103, 104] (by decide +kernel) (by decide +kernel)
set_option maxRecDepth 20000 in
theorem gX5_split_X1_around : GoodIn wsX5_split (wsV RX5 175 RX1 yX1_around wsX1_around) := goodIn_app (goodIn_of _ (by decide +kernel)) ggX5_split_X1_around
theorem dX5_split_0 : decode cX5_split 0 = .ok (.aload_n 0, 1) := by decide +kernel
theorem dX5_split_1 : decode cX5_split 1 = .ok (.iload_n 1, 1) := by decide +kernel
theorem dX5_split_2 : decode cX5_split 2 = .ok (.iload_n 2, 1) := by decide +kernel
theorem dX5_split_3 : decode cX5_split 3 = .ok (.iload_n 3, 1) := by decide +kernel
theorem dX5_split_4 : decode cX5_split 4 = .ok (.iconst 2, 1) := by decide +kernel
theorem dX5_split_5 : decode cX5_split 5 = .ok (.invokevirtual 143, 3) := by decide +kernel
theorem dX5_split_8 : decode cX5_split 8 = .ok (.istore 4, 2) := by decide +kernel
theorem dX5_split_10 : decode cX5_split 10 = .ok (.iload 4, 2) := by decide +kernel
theorem dX5_split_12 : decode cX5_split 12 = .ok (.ifCond .eq 10, 3) := by decide +kernel
theorem dX5_split_15 : decode cX5_split 15 = .ok (.aload_n 0, 1) := by decide +kernel
theorem dX5_split_16 : decode cX5_split 16 = .ok (.iload 4, 2) := by decide +kernel
theorem dX5_split_18 : decode cX5_split 18 = .ok (.invokevirtual 64, 3) := by decide +kernel
theorem dX5_split_21 : decode cX5_split 21 = .ok (.ireturn, 1) := by decide +kernel
theorem dX5_split_22 : decode cX5_split 22 = .ok (.aload_n 0, 1) := by decide +kernel
theorem dX5_split_23 : decode cX5_split 23 = .ok (.aload_n 0, 1) := by decide +kernel
theorem dX5_split_24 : decode cX5_split 24 = .ok (.getfield 53, 3) := by decide +kernel
theorem dX5_split_27 : decode cX5_split 27 = .ok (.iload_n 1, 1) := by decide +kernel
theorem dX5_split_28 : decode cX5_split 28 = .ok (.iload_n 2, 1) := by decide +kernel
theorem dX5_split_29 : decode cX5_split 29 = .ok (.invokevirtual 146, 3) := by decide +kernel
theorem dX5_split_32 : decode cX5_split 32 = .ok (.aload_n 0, 1) := by decide +kernel
theorem dX5_split_33 : decode cX5_split 33 = .ok (.getfield 10, 3) := by decide +kernel
theorem dX5_split_36 : decode cX5_split 36 = .ok (.iload_n 1, 1) := by decide +kernel
theorem dX5_split_37 : decode cX5_split 37 = .ok (.iload_n 2, 1) := by decide +kernel
theorem dX5_split_38 : decode cX5_split 38 = .ok (.invokevirtual 140, 3) := by decide +kernel
theorem dX5_split_41 : decode cX5_split 41 = .ok (.istore 5, 2) := by decide +kernel
theorem dX5_split_43 : decode cX5_split 43 = .ok (.aload_n 0, 1) := by decide +kernel
theorem dX5_split_44 : decode cX5_split 44 = .ok (.getfield 53, 3) := by decide +kernel
theorem dX5_split_47 : decode cX5_split 47 = .ok (.iload 5, 2) := by decide +kernel
theorem dX5_split_49 : decode cX5_split 49 = .ok (.invokevirtual 168, 3) := by decide +kernel
theorem dX5_split_52 : decode cX5_split 52 = .ok (.ifCond .eq 6, 3) := by decide +kernel
theorem dX5_split_55 : decode cX5_split 55 = .ok (.bipush (-9), 2) := by decide +kernel
theorem dX5_split_57 : decode cX5_split 57 = .ok (.ireturn, 1) := by decide +kernel
theorem dX5_split_58 : decode cX5_split 58 = .ok (.aload_n 0, 1) := by decide +kernel
theorem dX5_split_59 : decode cX5_split 59 = .ok (.getfield 53, 3) := by decide +kernel
theorem dX5_split_62 : decode cX5_split 62 = .ok (.iload 5, 2) := by decide +kernel
theorem dX5_split_64 : decode cX5_split 64 = .ok (.invokevirtual 172, 3) := by decide +kernel
theorem dX5_split_67 : decode cX5_split 67 = .ok (.istore 6, 2) := by decide +kernel
theorem dX5_split_69 : decode cX5_split 69 = .ok (.aload_n 0, 1) := by decide +kernel
theorem dX5_split_70 : decode cX5_split 70 = .ok (.getfield 53, 3) := by decide +kernel
theorem dX5_split_73 : decode cX5_split 73 = .ok (.iload 6, 2) := by decide +kernel
theorem dX5_split_75 : decode cX5_split 75 = .ok (.ifCond .le 10, 3) := by decide +kernel
theorem dX5_split_78 : decode cX5_split 78 = .ok (.iload 6, 2) := by decide +kernel
theorem dX5_split_80 : decode cX5_split 80 = .ok (.iconst 1, 1) := by decide +kernel
theorem dX5_split_81 : decode cX5_split 81 = .ok (.isub, 1) := by decide +kernel
theorem dX5_split_82 : decode cX5_split 82 = .ok (.goto 12, 3) := by decide +kernel
theorem dX5_split_85 : decode cX5_split 85 = .ok (.aload_n 0, 1) := by decide +kernel
theorem dX5_split_86 : decode cX5_split 86 = .ok (.getfield 53, 3) := by decide +kernel
theorem dX5_split_89 : decode cX5_split 89 = .ok (.getfield 150, 3) := by decide +kernel
theorem dX5_split_92 : decode cX5_split 92 = .ok (.iconst 1, 1) := by decide +kernel
theorem dX5_split_93 : decode cX5_split 93 = .ok (.isub, 1) := by decide +kernel
theorem dX5_split_94 : decode cX5_split 94 = .ok (.invokevirtual 151, 3) := by decide +kernel
theorem dX5_split_97 : decode cX5_split 97 = .ok (.istore 7, 2) := by decide +kernel
theorem dX5_split_99 : decode cX5_split 99 = .ok (.iload_n 3, 1) := by decide +kernel
theorem dX5_split_100 : decode cX5_split 100 = .ok (.ifCond .ne 8, 3) := by decide +kernel
theorem dX5_split_103 : decode cX5_split 103 = .ok (.iload 7, 2) := by decide +kernel
theorem dX5_split_105 : decode cX5_split 105 = .ok (.goto 16, 3) := by decide +kernel
theorem dX5_split_108 : decode cX5_split 108 = .ok (.aload_n 0, 1) := by decide +kernel
theorem dX5_split_109 : decode cX5_split 109 = .ok (.getfield 10, 3) := by decide +kernel
theorem dX5_split_112 : decode cX5_split 112 = .ok (.iload 5, 2) := by decide +kernel
theorem dX5_split_114 : decode cX5_split 114 = .ok (.iload 7, 2) := by decide +kernel
theorem dX5_split_116 : decode cX5_split 116 = .ok (.isub, 1) := by decide +kernel
theorem dX5_split_117 : decode cX5_split 117 = .ok (.i2l, 1) := by decide +kernel
theorem dX5_split_118 : decode cX5_split 118 = .ok (.invokevirtual 175, 3) := by decide +kernel
theorem dX5_split_121 : decode cX5_split 121 = .ok (.ireturn, 1) := by decide +kernel
set_option maxRecDepth 20000 in
theorem ggX5_closest_X5_refusalBehind : GoodIn wsX5_closest wsX5_refusalBehind := goodIn_r _ [7, 8, 9, 10, 6, 11, 12, 13, 14, 15, 16, 17, 18, 19, 20, 21, 91, 92, 93, 94, 95, 96, 97, 98, 99, 100, 101, 104, 105, 106] (by decide +kernel) (by decide +kernel)
set_option maxRecDepth 20000 in
theorem gX5_closest_X5_refusalBehind : GoodIn wsX5_closest (wsV RX5 143 RX5 yX5_refusalBehind wsX5_refusalBehind) := goodIn_app (goodIn_of _ (by decide +kernel)) ggX5_closest_X5_refusalBehind
set_option maxRecDepth 20000 in
theorem ggX5_closest_X5_refuse : GoodIn wsX5_closest wsX5_refuse := goodIn_r _ [25, 26, 21, 19, 6, 20, 91, 92, 93, 94, 95, 96, 97, 98, 99, 100, 101] (by decide +kernel) (by decide +kernel)
set_option maxRecDepth 20000 in
theorem gX5_closest_X5_refuse : GoodIn wsX5_closest (wsV RX5 64 RX5 yX5_refuse wsX5_refuse) := goodIn_app (goodIn_of _ (by decide +kernel)) ggX5_closest_X5_refuse
set_option maxRecDepth 20000 in
theorem ggX5_closest_X5_takeMarks : GoodIn wsX5_closest wsX5_takeMarks := goodIn_r _ [30, 12, 31, 32, 33, 34, 35, 36, 37, 38, 39, 16, 40, 41, 42, 43, 44, 45, 19, 6, 20, 46, 47, 48, 49, 50, 51, 52, 53, 54, 55, 56, 57, 58, 59, 60, 61, 62, 63, 64, 65, 66, 67, 68, 69, 70, 71, 72, 73, 74, 75, 76, 77, 78, 79, 80, 81, 82, 83, 84, 91, 92, 93, 94, 95, 96, 97, 98, 99, 100, 101, 102, 103, 104, 105, 106] (by decide +kernel) (by decide +kernel)
set_option maxRecDepth 20000 in
theorem gX5_closest_X5_takeMarks : GoodIn wsX5_closest (wsV RX5 146 RX5 yX5_takeMarks wsX5_takeMarks) := goodIn_app (goodIn_of _ (by decide +kernel)) ggX5_closest_X5_takeMarks
set_option maxRecDepth 20000 in
theorem ggX5_closest_X5_gapBehind : GoodIn wsX5_closest wsX5_gapBehind := goodIn_r _ [88, 1, 2, 12, 89, 90, 73, 74, 34, 75, 36, 76, 91, 92, 93, 94, 95, 96, 97, 98, 99, 100, 101, 102, 103, 104, 105, 106] (by decide +kernel) (by decide +kernel)
set_option maxRecDepth 20000 in
theorem gX5_closest_X5_gapBehind : GoodIn wsX5_closest (wsV RX5 165 RX5 yX5_gapBehind wsX5_gapBehind) := goodIn_app (goodIn_of _ (by decide +kernel)) ggX5_closest_X5_gapBehind
set_option maxRecDepth 20000 in
theorem ggX5_closest_X3_get : GoodIn wsX5_closest wsX3_get := goodIn_r _ [75, 36, 76, 102, 103] (by decide +kernel) (by decide +kernel)
set_option maxRecDepth 20000 in
theorem gX5_closest_X3_get : GoodIn wsX5_closest (wsV RX5 151 RX3 yX3_get wsX3_get) := goodIn_app (goodIn_of _ (by decide +kernel)) ggX5_closest_X3_get
theorem dX5_closest_0 : decode cX5_closest 0 = .ok (.aload_n 0, 1) := by decide +kernel
theorem dX5_closest_1 : decode cX5_closest 1 = .ok (.iload_n 1, 1) := by decide +kernel
theorem dX5_closest_2 : decode cX5_closest 2 = .ok (.iload_n 2, 1) := by decide +kernel
theorem dX5_closest_3 : decode cX5_closest 3 = .ok (.iload_n 3, 1) := by decide +kernel
theorem dX5_closest_4 : decode cX5_closest 4 = .ok (.iconst 2, 1) := by decide +kernel
theorem dX5_closest_5 : decode cX5_closest 5 = .ok (.invokevirtual 143, 3) := by decide +kernel
theorem dX5_closest_8 : decode cX5_closest 8 = .ok (.istore 4, 2) := by decide +kernel
theorem dX5_closest_10 : decode cX5_closest 10 = .ok (.iload 4, 2) := by decide +kernel
theorem dX5_closest_12 : decode cX5_closest 12 = .ok (.ifCond .eq 10, 3) := by decide +kernel
theorem dX5_closest_15 : decode cX5_closest 15 = .ok (.aload_n 0, 1) := by decide +kernel
theorem dX5_closest_16 : decode cX5_closest 16 = .ok (.iload 4, 2) := by decide +kernel
theorem dX5_closest_18 : decode cX5_closest 18 = .ok (.invokevirtual 64, 3) := by decide +kernel
theorem dX5_closest_21 : decode cX5_closest 21 = .ok (.ireturn, 1) := by decide +kernel
theorem dX5_closest_22 : decode cX5_closest 22 = .ok (.aload_n 0, 1) := by decide +kernel
theorem dX5_closest_23 : decode cX5_closest 23 = .ok (.aload_n 0, 1) := by decide +kernel
theorem dX5_closest_24 : decode cX5_closest 24 = .ok (.getfield 53, 3) := by decide +kernel
theorem dX5_closest_27 : decode cX5_closest 27 = .ok (.iload_n 1, 1) := by decide +kernel
theorem dX5_closest_28 : decode cX5_closest 28 = .ok (.iload_n 2, 1) := by decide +kernel
theorem dX5_closest_29 : decode cX5_closest 29 = .ok (.invokevirtual 146, 3) := by decide +kernel
theorem dX5_closest_32 : decode cX5_closest 32 = .ok (.iconst 0, 1) := by decide +kernel
theorem dX5_closest_33 : decode cX5_closest 33 = .ok (.istore 5, 2) := by decide +kernel
theorem dX5_closest_35 : decode cX5_closest 35 = .ok (.iconst 1, 1) := by decide +kernel
theorem dX5_closest_36 : decode cX5_closest 36 = .ok (.istore 6, 2) := by decide +kernel
theorem dX5_closest_38 : decode cX5_closest 38 = .ok (.iload 6, 2) := by decide +kernel
theorem dX5_closest_40 : decode cX5_closest 40 = .ok (.aload_n 0, 1) := by decide +kernel
theorem dX5_closest_41 : decode cX5_closest 41 = .ok (.getfield 53, 3) := by decide +kernel
theorem dX5_closest_44 : decode cX5_closest 44 = .ok (.getfield 150, 3) := by decide +kernel
theorem dX5_closest_47 : decode cX5_closest 47 = .ok (.if_icmp .ge 28, 3) := by decide +kernel
theorem dX5_closest_50 : decode cX5_closest 50 = .ok (.aload_n 0, 1) := by decide +kernel
theorem dX5_closest_51 : decode cX5_closest 51 = .ok (.iload 6, 2) := by decide +kernel
theorem dX5_closest_53 : decode cX5_closest 53 = .ok (.invokevirtual 165, 3) := by decide +kernel
theorem dX5_closest_56 : decode cX5_closest 56 = .ok (.aload_n 0, 1) := by decide +kernel
theorem dX5_closest_57 : decode cX5_closest 57 = .ok (.iload 5, 2) := by decide +kernel
theorem dX5_closest_59 : decode cX5_closest 59 = .ok (.invokevirtual 165, 3) := by decide +kernel
theorem dX5_closest_62 : decode cX5_closest 62 = .ok (.if_icmp .ge 7, 3) := by decide +kernel
theorem dX5_closest_65 : decode cX5_closest 65 = .ok (.iload 6, 2) := by decide +kernel
theorem dX5_closest_67 : decode cX5_closest 67 = .ok (.istore 5, 2) := by decide +kernel
theorem dX5_closest_69 : decode cX5_closest 69 = .ok (.iinc 6 1, 3) := by decide +kernel
theorem dX5_closest_72 : decode cX5_closest 72 = .ok (.goto (-34), 3) := by decide +kernel
theorem dX5_closest_75 : decode cX5_closest 75 = .ok (.iload_n 3, 1) := by decide +kernel
theorem dX5_closest_76 : decode cX5_closest 76 = .ok (.ifCond .ne 12, 3) := by decide +kernel
theorem dX5_closest_79 : decode cX5_closest 79 = .ok (.aload_n 0, 1) := by decide +kernel
theorem dX5_closest_80 : decode cX5_closest 80 = .ok (.iload 5, 2) := by decide +kernel
theorem dX5_closest_82 : decode cX5_closest 82 = .ok (.invokevirtual 165, 3) := by decide +kernel
theorem dX5_closest_85 : decode cX5_closest 85 = .ok (.goto 12, 3) := by decide +kernel
theorem dX5_closest_88 : decode cX5_closest 88 = .ok (.aload_n 0, 1) := by decide +kernel
theorem dX5_closest_89 : decode cX5_closest 89 = .ok (.getfield 53, 3) := by decide +kernel
theorem dX5_closest_92 : decode cX5_closest 92 = .ok (.iload 5, 2) := by decide +kernel
theorem dX5_closest_94 : decode cX5_closest 94 = .ok (.invokevirtual 151, 3) := by decide +kernel
theorem dX5_closest_97 : decode cX5_closest 97 = .ok (.ireturn, 1) := by decide +kernel
set_option maxRecDepth 20000 in
theorem ggX5_off_X5_refusalBehind : GoodIn wsX5_off wsX5_refusalBehind := goodIn_r _ [13, 14, 15, 16, 12, 17, 3, 18, 19, 20, 21, 22, 23, 24, 25, 26, 95, 96, 97, 98, 99, 100, 101, 102, 103, 104, 105, 108, 109, 110] (by decide +kernel) (by decide +kernel)
set_option maxRecDepth 20000 in
theorem gX5_off_X5_refusalBehind : GoodIn wsX5_off (wsV RX5 143 RX5 yX5_refusalBehind wsX5_refusalBehind) := goodIn_app (goodIn_of _ (by decide +kernel)) ggX5_off_X5_refusalBehind
set_option maxRecDepth 20000 in
theorem ggX5_off_X5_refuseLong : GoodIn wsX5_off wsX5_refuseLong := goodIn_r _ [30, 31, 32, 33, 34, 12, 35, 36, 26, 24, 25, 95, 96, 97, 98, 99, 100, 101, 102, 103, 104, 105] (by decide +kernel) (by decide +kernel)
set_option maxRecDepth 20000 in
theorem gX5_off_X5_refuseLong : GoodIn wsX5_off (wsV RX5 179 RX5 yX5_refuseLong wsX5_refuseLong) := goodIn_app (goodIn_of _ (by decide +kernel)) ggX5_off_X5_refuseLong
set_option maxRecDepth 20000 in
theorem ggX5_off_X5_takePlaces : GoodIn wsX5_off wsX5_takePlaces := goodIn_r _ [40, 1, 3, 41, 42, 43, 44, 45, 46, 47, 48, 49, 21, 50, 51, 52, 53, 54, 55, 24, 12, 25, 56, 57, 58, 59, 60, 61, 62, 63, 64, 65, 66, 67, 68, 69, 70, 71, 72, 73, 74, 75, 76, 77, 78, 79, 80, 81, 82, 83, 84, 85, 86, 95, 96, 97, 98, 99, 100, 101, 102, 103, 104, 105, 106, 107, 108, 109, 110] (by decide +kernel) (by decide +kernel)
set_option maxRecDepth 20000 in
theorem gX5_off_X5_takePlaces : GoodIn wsX5_off (wsV RX5 183 RX5 yX5_takePlaces wsX5_takePlaces) := goodIn_app (goodIn_of _ (by decide +kernel)) ggX5_off_X5_takePlaces
set_option maxRecDepth 20000 in
theorem ggX5_off_X3_get : GoodIn wsX5_off wsX3_get := goodIn_r _ [86, 46, 74, 106, 107] (by decide +kernel) (by decide +kernel)
set_option maxRecDepth 20000 in
theorem gX5_off_X3_get : GoodIn wsX5_off (wsV RX5 151 RX3 yX3_get wsX3_get) := goodIn_app (goodIn_of _ (by decide +kernel)) ggX5_off_X3_get
set_option maxRecDepth 20000 in
theorem ggX5_off_X5_partOf : GoodIn wsX5_off wsX5_partOf := goodIn_r _ [90, 91, 92, 12, 93, 94, 68, 69] (by decide +kernel) (by decide +kernel)
set_option maxRecDepth 20000 in
theorem gX5_off_X5_partOf : GoodIn wsX5_off (va_wsS RX5 192 yX5_partOf wsX5_partOf) := goodIn_app (goodIn_of _ (by decide +kernel)) ggX5_off_X5_partOf
theorem dX5_off_0 : decode cX5_off 0 = .ok (.aload_n 0, 1) := by decide +kernel
theorem dX5_off_1 : decode cX5_off 1 = .ok (.iload_n 1, 1) := by decide +kernel
theorem dX5_off_2 : decode cX5_off 2 = .ok (.iload_n 2, 1) := by decide +kernel
theorem dX5_off_3 : decode cX5_off 3 = .ok (.iload_n 3, 1) := by decide +kernel
theorem dX5_off_4 : decode cX5_off 4 = .ok (.iconst 2, 1) := by decide +kernel
theorem dX5_off_5 : decode cX5_off 5 = .ok (.invokevirtual 143, 3) := by decide +kernel
theorem dX5_off_8 : decode cX5_off 8 = .ok (.istore 4, 2) := by decide +kernel
theorem dX5_off_10 : decode cX5_off 10 = .ok (.iload 4, 2) := by decide +kernel
theorem dX5_off_12 : decode cX5_off 12 = .ok (.ifCond .eq 10, 3) := by decide +kernel
theorem dX5_off_15 : decode cX5_off 15 = .ok (.aload_n 0, 1) := by decide +kernel
theorem dX5_off_16 : decode cX5_off 16 = .ok (.iload 4, 2) := by decide +kernel
theorem dX5_off_18 : decode cX5_off 18 = .ok (.invokevirtual 179, 3) := by decide +kernel
theorem dX5_off_21 : decode cX5_off 21 = .ok (.lreturn, 1) := by decide +kernel
theorem dX5_off_22 : decode cX5_off 22 = .ok (.aload_n 0, 1) := by decide +kernel
theorem dX5_off_23 : decode cX5_off 23 = .ok (.iload_n 1, 1) := by decide +kernel
theorem dX5_off_24 : decode cX5_off 24 = .ok (.iload_n 2, 1) := by decide +kernel
theorem dX5_off_25 : decode cX5_off 25 = .ok (.invokevirtual 183, 3) := by decide +kernel
theorem dX5_off_28 : decode cX5_off 28 = .ok (.lconst 0, 1) := by decide +kernel
theorem dX5_off_29 : decode cX5_off 29 = .ok (.lstore 5, 2) := by decide +kernel
theorem dX5_off_31 : decode cX5_off 31 = .ok (.iconst 0, 1) := by decide +kernel
theorem dX5_off_32 : decode cX5_off 32 = .ok (.istore 7, 2) := by decide +kernel
theorem dX5_off_34 : decode cX5_off 34 = .ok (.iload 7, 2) := by decide +kernel
theorem dX5_off_36 : decode cX5_off 36 = .ok (.aload_n 0, 1) := by decide +kernel
theorem dX5_off_37 : decode cX5_off 37 = .ok (.getfield 53, 3) := by decide +kernel
theorem dX5_off_40 : decode cX5_off 40 = .ok (.getfield 150, 3) := by decide +kernel
theorem dX5_off_43 : decode cX5_off 43 = .ok (.if_icmp .ge 74, 3) := by decide +kernel
theorem dX5_off_46 : decode cX5_off 46 = .ok (.aload_n 0, 1) := by decide +kernel
theorem dX5_off_47 : decode cX5_off 47 = .ok (.getfield 53, 3) := by decide +kernel
theorem dX5_off_50 : decode cX5_off 50 = .ok (.iload 7, 2) := by decide +kernel
theorem dX5_off_52 : decode cX5_off 52 = .ok (.invokevirtual 151, 3) := by decide +kernel
theorem dX5_off_55 : decode cX5_off 55 = .ok (.i2l, 1) := by decide +kernel
theorem dX5_off_56 : decode cX5_off 56 = .ok (.iload_n 2, 1) := by decide +kernel
theorem dX5_off_57 : decode cX5_off 57 = .ok (.i2l, 1) := by decide +kernel
theorem dX5_off_58 : decode cX5_off 58 = .ok (.lmul, 1) := by decide +kernel
theorem dX5_off_59 : decode cX5_off 59 = .ok (.lstore 8, 2) := by decide +kernel
theorem dX5_off_61 : decode cX5_off 61 = .ok (.iload 7, 2) := by decide +kernel
theorem dX5_off_63 : decode cX5_off 63 = .ok (.iconst 1, 1) := by decide +kernel
theorem dX5_off_64 : decode cX5_off 64 = .ok (.iadd, 1) := by decide +kernel
theorem dX5_off_65 : decode cX5_off 65 = .ok (.i2l, 1) := by decide +kernel
theorem dX5_off_66 : decode cX5_off 66 = .ok (.aload_n 0, 1) := by decide +kernel
theorem dX5_off_67 : decode cX5_off 67 = .ok (.getfield 10, 3) := by decide +kernel
theorem dX5_off_70 : decode cX5_off 70 = .ok (.getfield 91, 3) := by decide +kernel
theorem dX5_off_73 : decode cX5_off 73 = .ok (.i2l, 1) := by decide +kernel
theorem dX5_off_74 : decode cX5_off 74 = .ok (.lmul, 1) := by decide +kernel
theorem dX5_off_75 : decode cX5_off 75 = .ok (.lload 8, 2) := by decide +kernel
theorem dX5_off_77 : decode cX5_off 77 = .ok (.lsub, 1) := by decide +kernel
theorem dX5_off_78 : decode cX5_off 78 = .ok (.lstore 10, 2) := by decide +kernel
theorem dX5_off_80 : decode cX5_off 80 = .ok (.lload 8, 2) := by decide +kernel
theorem dX5_off_82 : decode cX5_off 82 = .ok (.iload 7, 2) := by decide +kernel
theorem dX5_off_84 : decode cX5_off 84 = .ok (.i2l, 1) := by decide +kernel
theorem dX5_off_85 : decode cX5_off 85 = .ok (.aload_n 0, 1) := by decide +kernel
theorem dX5_off_86 : decode cX5_off 86 = .ok (.getfield 10, 3) := by decide +kernel
theorem dX5_off_89 : decode cX5_off 89 = .ok (.getfield 91, 3) := by decide +kernel
theorem dX5_off_92 : decode cX5_off 92 = .ok (.i2l, 1) := by decide +kernel
theorem dX5_off_93 : decode cX5_off 93 = .ok (.lmul, 1) := by decide +kernel
theorem dX5_off_94 : decode cX5_off 94 = .ok (.lsub, 1) := by decide +kernel
theorem dX5_off_95 : decode cX5_off 95 = .ok (.lstore 12, 2) := by decide +kernel
theorem dX5_off_97 : decode cX5_off 97 = .ok (.lload 5, 2) := by decide +kernel
theorem dX5_off_99 : decode cX5_off 99 = .ok (.lload 10, 2) := by decide +kernel
theorem dX5_off_101 : decode cX5_off 101 = .ok (.lload 12, 2) := by decide +kernel
theorem dX5_off_103 : decode cX5_off 103 = .ok (.invokestatic 186, 3) := by decide +kernel
theorem dX5_off_106 : decode cX5_off 106 = .ok (.invokestatic 186, 3) := by decide +kernel
theorem dX5_off_109 : decode cX5_off 109 = .ok (.lstore 5, 2) := by decide +kernel
theorem dX5_off_111 : decode cX5_off 111 = .ok (.iinc 7 1, 3) := by decide +kernel
theorem dX5_off_114 : decode cX5_off 114 = .ok (.goto (-80), 3) := by decide +kernel
theorem dX5_off_117 : decode cX5_off 117 = .ok (.lload 5, 2) := by decide +kernel
theorem dX5_off_119 : decode cX5_off 119 = .ok (.iload_n 2, 1) := by decide +kernel
theorem dX5_off_120 : decode cX5_off 120 = .ok (.i2l, 1) := by decide +kernel
theorem dX5_off_121 : decode cX5_off 121 = .ok (.aload_n 0, 1) := by decide +kernel
theorem dX5_off_122 : decode cX5_off 122 = .ok (.getfield 10, 3) := by decide +kernel
theorem dX5_off_125 : decode cX5_off 125 = .ok (.getfield 91, 3) := by decide +kernel
theorem dX5_off_128 : decode cX5_off 128 = .ok (.i2l, 1) := by decide +kernel
theorem dX5_off_129 : decode cX5_off 129 = .ok (.lmul, 1) := by decide +kernel
theorem dX5_off_130 : decode cX5_off 130 = .ok (.iload_n 3, 1) := by decide +kernel
theorem dX5_off_131 : decode cX5_off 131 = .ok (.invokestatic 192, 3) := by decide +kernel
theorem dX5_off_134 : decode cX5_off 134 = .ok (.lreturn, 1) := by decide +kernel
set_option maxRecDepth 20000 in
theorem ggX5_nearer_X5_refusalOfNth : GoodIn wsX5_nearer wsX5_refusalOfNth := goodIn_r _ [7, 1, 8, 9, 10, 11, 12, 13, 14, 6, 15, 55, 56, 57, 58, 59, 60, 61, 62, 63, 64, 65, 66, 67, 68] (by decide +kernel) (by decide +kernel)
set_option maxRecDepth 20000 in
theorem gX5_nearer_X5_refusalOfNth : GoodIn wsX5_nearer (wsV RX5 154 RX5 yX5_refusalOfNth wsX5_refusalOfNth) := goodIn_app (goodIn_of _ (by decide +kernel)) ggX5_nearer_X5_refusalOfNth
set_option maxRecDepth 20000 in
theorem ggX5_nearer_X5_refuse : GoodIn wsX5_nearer wsX5_refuse := goodIn_r _ [19, 20, 21, 14, 6, 15, 55, 56, 57, 58, 59, 60, 61, 62, 63, 64, 65] (by decide +kernel) (by decide +kernel)
set_option maxRecDepth 20000 in
theorem gX5_nearer_X5_refuse : GoodIn wsX5_nearer (wsV RX5 64 RX5 yX5_refuse wsX5_refuse) := goodIn_app (goodIn_of _ (by decide +kernel)) ggX5_nearer_X5_refuse
set_option maxRecDepth 20000 in
theorem ggX5_nearer_X5_farFromStart : GoodIn wsX5_nearer wsX5_farFromStart := goodIn_r _ [25, 1, 2, 26, 27, 28, 29, 30, 31, 32, 11, 33, 34, 35, 36, 37, 38, 14, 6, 15, 39, 40, 41, 42, 43, 44, 45, 46, 47, 48, 49, 50, 51, 52, 53, 54, 55, 56, 57, 58, 59, 60, 61, 62, 63, 64, 65, 66, 67, 68] (by decide +kernel) (by decide +kernel)
set_option maxRecDepth 20000 in
theorem gX5_nearer_X5_farFromStart : GoodIn wsX5_nearer (wsV RX5 196 RX5 yX5_farFromStart wsX5_farFromStart) := goodIn_app (goodIn_of _ (by decide +kernel)) ggX5_nearer_X5_farFromStart
theorem dX5_nearer_0 : decode cX5_nearer 0 = .ok (.aload_n 0, 1) := by decide +kernel
theorem dX5_nearer_1 : decode cX5_nearer 1 = .ok (.iload_n 1, 1) := by decide +kernel
theorem dX5_nearer_2 : decode cX5_nearer 2 = .ok (.iload_n 2, 1) := by decide +kernel
theorem dX5_nearer_3 : decode cX5_nearer 3 = .ok (.iload_n 3, 1) := by decide +kernel
theorem dX5_nearer_4 : decode cX5_nearer 4 = .ok (.iconst (-1), 1) := by decide +kernel
theorem dX5_nearer_5 : decode cX5_nearer 5 = .ok (.invokevirtual 154, 3) := by decide +kernel
theorem dX5_nearer_8 : decode cX5_nearer 8 = .ok (.istore 4, 2) := by decide +kernel
theorem dX5_nearer_10 : decode cX5_nearer 10 = .ok (.iload 4, 2) := by decide +kernel
theorem dX5_nearer_12 : decode cX5_nearer 12 = .ok (.ifCond .eq 10, 3) := by decide +kernel
theorem dX5_nearer_15 : decode cX5_nearer 15 = .ok (.aload_n 0, 1) := by decide +kernel
theorem dX5_nearer_16 : decode cX5_nearer 16 = .ok (.iload 4, 2) := by decide +kernel
theorem dX5_nearer_18 : decode cX5_nearer 18 = .ok (.invokevirtual 64, 3) := by decide +kernel
theorem dX5_nearer_21 : decode cX5_nearer 21 = .ok (.ireturn, 1) := by decide +kernel
theorem dX5_nearer_22 : decode cX5_nearer 22 = .ok (.iconst 0, 1) := by decide +kernel
theorem dX5_nearer_23 : decode cX5_nearer 23 = .ok (.istore 5, 2) := by decide +kernel
theorem dX5_nearer_25 : decode cX5_nearer 25 = .ok (.aload_n 0, 1) := by decide +kernel
theorem dX5_nearer_26 : decode cX5_nearer 26 = .ok (.getfield 10, 3) := by decide +kernel
theorem dX5_nearer_29 : decode cX5_nearer 29 = .ok (.getfield 91, 3) := by decide +kernel
theorem dX5_nearer_32 : decode cX5_nearer 32 = .ok (.istore 6, 2) := by decide +kernel
theorem dX5_nearer_34 : decode cX5_nearer 34 = .ok (.iconst 1, 1) := by decide +kernel
theorem dX5_nearer_35 : decode cX5_nearer 35 = .ok (.istore 7, 2) := by decide +kernel
theorem dX5_nearer_37 : decode cX5_nearer 37 = .ok (.iload 7, 2) := by decide +kernel
theorem dX5_nearer_39 : decode cX5_nearer 39 = .ok (.iload_n 2, 1) := by decide +kernel
theorem dX5_nearer_40 : decode cX5_nearer 40 = .ok (.if_icmp .ge 41, 3) := by decide +kernel
theorem dX5_nearer_43 : decode cX5_nearer 43 = .ok (.aload_n 0, 1) := by decide +kernel
theorem dX5_nearer_44 : decode cX5_nearer 44 = .ok (.iload_n 1, 1) := by decide +kernel
theorem dX5_nearer_45 : decode cX5_nearer 45 = .ok (.iload 7, 2) := by decide +kernel
theorem dX5_nearer_47 : decode cX5_nearer 47 = .ok (.invokevirtual 196, 3) := by decide +kernel
theorem dX5_nearer_50 : decode cX5_nearer 50 = .ok (.istore 8, 2) := by decide +kernel
theorem dX5_nearer_52 : decode cX5_nearer 52 = .ok (.iload 8, 2) := by decide +kernel
theorem dX5_nearer_54 : decode cX5_nearer 54 = .ok (.iload 6, 2) := by decide +kernel
theorem dX5_nearer_56 : decode cX5_nearer 56 = .ok (.if_icmp .ge 19, 3) := by decide +kernel
theorem dX5_nearer_59 : decode cX5_nearer 59 = .ok (.iload 5, 2) := by decide +kernel
theorem dX5_nearer_61 : decode cX5_nearer 61 = .ok (.iload_n 3, 1) := by decide +kernel
theorem dX5_nearer_62 : decode cX5_nearer 62 = .ok (.if_icmp .ne 6, 3) := by decide +kernel
theorem dX5_nearer_65 : decode cX5_nearer 65 = .ok (.iload 7, 2) := by decide +kernel
theorem dX5_nearer_67 : decode cX5_nearer 67 = .ok (.ireturn, 1) := by decide +kernel
theorem dX5_nearer_68 : decode cX5_nearer 68 = .ok (.iload 8, 2) := by decide +kernel
theorem dX5_nearer_70 : decode cX5_nearer 70 = .ok (.istore 6, 2) := by decide +kernel
theorem dX5_nearer_72 : decode cX5_nearer 72 = .ok (.iinc 5 1, 3) := by decide +kernel
theorem dX5_nearer_75 : decode cX5_nearer 75 = .ok (.iinc 7 1, 3) := by decide +kernel
theorem dX5_nearer_78 : decode cX5_nearer 78 = .ok (.goto (-41), 3) := by decide +kernel
theorem dX5_nearer_81 : decode cX5_nearer 81 = .ok (.iload_n 3, 1) := by decide +kernel
theorem dX5_nearer_82 : decode cX5_nearer 82 = .ok (.iconst (-1), 1) := by decide +kernel
theorem dX5_nearer_83 : decode cX5_nearer 83 = .ok (.if_icmp .ne 8, 3) := by decide +kernel
theorem dX5_nearer_86 : decode cX5_nearer 86 = .ok (.iload 5, 2) := by decide +kernel
theorem dX5_nearer_88 : decode cX5_nearer 88 = .ok (.goto 5, 3) := by decide +kernel
theorem dX5_nearer_91 : decode cX5_nearer 91 = .ok (.bipush (-9), 2) := by decide +kernel
theorem dX5_nearer_93 : decode cX5_nearer 93 = .ok (.ireturn, 1) := by decide +kernel
set_option maxRecDepth 20000 in
theorem ggX5_crowded_X5_refusalOfCrowded : GoodIn wsX5_crowded wsX5_refusalOfCrowded := goodIn_r _ [7, 2, 8, 9, 10, 11, 12, 13, 14, 6, 15, 16, 50, 51, 52, 53, 54, 55, 56, 57, 58, 59, 60, 61, 62, 63] (by decide +kernel) (by decide +kernel)
set_option maxRecDepth 20000 in
theorem gX5_crowded_X5_refusalOfCrowded : GoodIn wsX5_crowded (wsV RX5 199 RX5 yX5_refusalOfCrowded wsX5_refusalOfCrowded) := goodIn_app (goodIn_of _ (by decide +kernel)) ggX5_crowded_X5_refusalOfCrowded
set_option maxRecDepth 20000 in
theorem ggX5_crowded_X5_refuse : GoodIn wsX5_crowded wsX5_refuse := goodIn_r _ [20, 21, 16, 14, 6, 15, 50, 51, 52, 53, 54, 55, 56, 57, 58, 59, 60] (by decide +kernel) (by decide +kernel)
set_option maxRecDepth 20000 in
theorem gX5_crowded_X5_refuse : GoodIn wsX5_crowded (wsV RX5 64 RX5 yX5_refuse wsX5_refuse) := goodIn_app (goodIn_of _ (by decide +kernel)) ggX5_crowded_X5_refuse
set_option maxRecDepth 20000 in
theorem ggX5_crowded_J7_fill_53178 : GoodIn wsX5_crowded wsJ7_fill_53178 := goodIn_r _ [25] (by decide +kernel) (by decide +kernel)
set_option maxRecDepth 20000 in
theorem gX5_crowded_J7_fill_53178 : GoodIn wsX5_crowded (va_wsS RX5 202 yJ7_fill_53178 wsJ7_fill_53178) := goodIn_app (goodIn_of _ (by decide +kernel)) ggX5_crowded_J7_fill_53178
set_option maxRecDepth 20000 in
theorem ggX5_crowded_X1_placeOf : GoodIn wsX5_crowded wsX1_placeOf := goodIn_r _ [29, 30, 31, 32, 11, 33, 34, 14, 6, 15, 35, 36, 37, 38, 39, 40, 41, 42, 43, 44, 45, 46, 47, 48, 61, 62, 63] (by decide +kernel) (by decide +kernel)
set_option maxRecDepth 20000 in
theorem gX5_crowded_X1_placeOf : GoodIn wsX5_crowded (wsV RX5 140 RX1 yX1_placeOf wsX1_placeOf) := goodIn_app (goodIn_of _ (by decide +kernel)) ggX5_crowded_X1_placeOf
set_option maxRecDepth 20000 in
theorem ggX5_crowded_X5_rest : GoodIn wsX5_crowded wsX5_rest := goodIn_r _ [46] (by decide +kernel) (by decide +kernel)
set_option maxRecDepth 20000 in
theorem gX5_crowded_X5_rest : GoodIn wsX5_crowded (va_wsS RX5 208 yX5_rest wsX5_rest) := goodIn_app (goodIn_of _ (by decide +kernel)) ggX5_crowded_X5_rest
set_option maxRecDepth 20000 in
theorem ggX5_crowded_X5_isBelow : GoodIn wsX5_crowded wsX5_isBelow := goodIn_r _ [15] (by decide +kernel) (by decide +kernel)
set_option maxRecDepth 20000 in
theorem gX5_crowded_X5_isBelow : GoodIn wsX5_crowded (va_wsS RX5 109 yX5_isBelow wsX5_isBelow) := goodIn_app (goodIn_of _ (by decide +kernel)) ggX5_crowded_X5_isBelow
theorem dX5_crowded_0 : decode cX5_crowded 0 = .ok (.aload_n 0, 1) := by decide +kernel
theorem dX5_crowded_1 : decode cX5_crowded 1 = .ok (.iload_n 1, 1) := by decide +kernel
theorem dX5_crowded_2 : decode cX5_crowded 2 = .ok (.iload_n 2, 1) := by decide +kernel
theorem dX5_crowded_3 : decode cX5_crowded 3 = .ok (.iload_n 3, 1) := by decide +kernel
theorem dX5_crowded_4 : decode cX5_crowded 4 = .ok (.iload 4, 2) := by decide +kernel
theorem dX5_crowded_6 : decode cX5_crowded 6 = .ok (.invokevirtual 199, 3) := by decide +kernel
theorem dX5_crowded_9 : decode cX5_crowded 9 = .ok (.istore 5, 2) := by decide +kernel
theorem dX5_crowded_11 : decode cX5_crowded 11 = .ok (.iload 5, 2) := by decide +kernel
theorem dX5_crowded_13 : decode cX5_crowded 13 = .ok (.ifCond .eq 10, 3) := by decide +kernel
theorem dX5_crowded_16 : decode cX5_crowded 16 = .ok (.aload_n 0, 1) := by decide +kernel
theorem dX5_crowded_17 : decode cX5_crowded 17 = .ok (.iload 5, 2) := by decide +kernel
theorem dX5_crowded_19 : decode cX5_crowded 19 = .ok (.invokevirtual 64, 3) := by decide +kernel
theorem dX5_crowded_22 : decode cX5_crowded 22 = .ok (.ireturn, 1) := by decide +kernel
theorem dX5_crowded_23 : decode cX5_crowded 23 = .ok (.aload_n 0, 1) := by decide +kernel
theorem dX5_crowded_24 : decode cX5_crowded 24 = .ok (.getfield 60, 3) := by decide +kernel
theorem dX5_crowded_27 : decode cX5_crowded 27 = .ok (.iconst 0, 1) := by decide +kernel
theorem dX5_crowded_28 : decode cX5_crowded 28 = .ok (.invokestatic 202, 3) := by decide +kernel
theorem dX5_crowded_31 : decode cX5_crowded 31 = .ok (.iconst 0, 1) := by decide +kernel
theorem dX5_crowded_32 : decode cX5_crowded 32 = .ok (.istore 6, 2) := by decide +kernel
theorem dX5_crowded_34 : decode cX5_crowded 34 = .ok (.iload 6, 2) := by decide +kernel
theorem dX5_crowded_36 : decode cX5_crowded 36 = .ok (.iload_n 2, 1) := by decide +kernel
theorem dX5_crowded_37 : decode cX5_crowded 37 = .ok (.if_icmp .ge 52, 3) := by decide +kernel
theorem dX5_crowded_40 : decode cX5_crowded 40 = .ok (.aload_n 0, 1) := by decide +kernel
theorem dX5_crowded_41 : decode cX5_crowded 41 = .ok (.getfield 10, 3) := by decide +kernel
theorem dX5_crowded_44 : decode cX5_crowded 44 = .ok (.iload_n 1, 1) := by decide +kernel
theorem dX5_crowded_45 : decode cX5_crowded 45 = .ok (.iload 6, 2) := by decide +kernel
theorem dX5_crowded_47 : decode cX5_crowded 47 = .ok (.invokevirtual 140, 3) := by decide +kernel
theorem dX5_crowded_50 : decode cX5_crowded 50 = .ok (.i2l, 1) := by decide +kernel
theorem dX5_crowded_51 : decode cX5_crowded 51 = .ok (.iload_n 3, 1) := by decide +kernel
theorem dX5_crowded_52 : decode cX5_crowded 52 = .ok (.i2l, 1) := by decide +kernel
theorem dX5_crowded_53 : decode cX5_crowded 53 = .ok (.invokestatic 208, 3) := by decide +kernel
theorem dX5_crowded_56 : decode cX5_crowded 56 = .ok (.l2i, 1) := by decide +kernel
theorem dX5_crowded_57 : decode cX5_crowded 57 = .ok (.istore 7, 2) := by decide +kernel
theorem dX5_crowded_59 : decode cX5_crowded 59 = .ok (.iload 7, 2) := by decide +kernel
theorem dX5_crowded_61 : decode cX5_crowded 61 = .ok (.aload_n 0, 1) := by decide +kernel
theorem dX5_crowded_62 : decode cX5_crowded 62 = .ok (.getfield 60, 3) := by decide +kernel
theorem dX5_crowded_65 : decode cX5_crowded 65 = .ok (.arraylength, 1) := by decide +kernel
theorem dX5_crowded_66 : decode cX5_crowded 66 = .ok (.invokestatic 109, 3) := by decide +kernel
theorem dX5_crowded_69 : decode cX5_crowded 69 = .ok (.ifCond .eq 14, 3) := by decide +kernel
theorem dX5_crowded_72 : decode cX5_crowded 72 = .ok (.aload_n 0, 1) := by decide +kernel
theorem dX5_crowded_73 : decode cX5_crowded 73 = .ok (.getfield 60, 3) := by decide +kernel
theorem dX5_crowded_76 : decode cX5_crowded 76 = .ok (.iload 7, 2) := by decide +kernel
theorem dX5_crowded_78 : decode cX5_crowded 78 = .ok (.dup2, 1) := by decide +kernel
theorem dX5_crowded_79 : decode cX5_crowded 79 = .ok (.iaload, 1) := by decide +kernel
theorem dX5_crowded_80 : decode cX5_crowded 80 = .ok (.iconst 1, 1) := by decide +kernel
theorem dX5_crowded_81 : decode cX5_crowded 81 = .ok (.iadd, 1) := by decide +kernel
theorem dX5_crowded_82 : decode cX5_crowded 82 = .ok (.iastore, 1) := by decide +kernel
theorem dX5_crowded_83 : decode cX5_crowded 83 = .ok (.iinc 6 1, 3) := by decide +kernel
theorem dX5_crowded_86 : decode cX5_crowded 86 = .ok (.goto (-52), 3) := by decide +kernel
theorem dX5_crowded_89 : decode cX5_crowded 89 = .ok (.iconst 0, 1) := by decide +kernel
theorem dX5_crowded_90 : decode cX5_crowded 90 = .ok (.istore 6, 2) := by decide +kernel
theorem dX5_crowded_92 : decode cX5_crowded 92 = .ok (.iconst 1, 1) := by decide +kernel
theorem dX5_crowded_93 : decode cX5_crowded 93 = .ok (.istore 7, 2) := by decide +kernel
theorem dX5_crowded_95 : decode cX5_crowded 95 = .ok (.iload 7, 2) := by decide +kernel
theorem dX5_crowded_97 : decode cX5_crowded 97 = .ok (.iload_n 3, 1) := by decide +kernel
theorem dX5_crowded_98 : decode cX5_crowded 98 = .ok (.if_icmp .ge 40, 3) := by decide +kernel
theorem dX5_crowded_101 : decode cX5_crowded 101 = .ok (.iload 7, 2) := by decide +kernel
theorem dX5_crowded_103 : decode cX5_crowded 103 = .ok (.aload_n 0, 1) := by decide +kernel
theorem dX5_crowded_104 : decode cX5_crowded 104 = .ok (.getfield 60, 3) := by decide +kernel
theorem dX5_crowded_107 : decode cX5_crowded 107 = .ok (.arraylength, 1) := by decide +kernel
theorem dX5_crowded_108 : decode cX5_crowded 108 = .ok (.if_icmp .ge 30, 3) := by decide +kernel
theorem dX5_crowded_111 : decode cX5_crowded 111 = .ok (.aload_n 0, 1) := by decide +kernel
theorem dX5_crowded_112 : decode cX5_crowded 112 = .ok (.getfield 60, 3) := by decide +kernel
theorem dX5_crowded_115 : decode cX5_crowded 115 = .ok (.iload 7, 2) := by decide +kernel
theorem dX5_crowded_117 : decode cX5_crowded 117 = .ok (.iaload, 1) := by decide +kernel
theorem dX5_crowded_118 : decode cX5_crowded 118 = .ok (.aload_n 0, 1) := by decide +kernel
theorem dX5_crowded_119 : decode cX5_crowded 119 = .ok (.getfield 60, 3) := by decide +kernel
theorem dX5_crowded_122 : decode cX5_crowded 122 = .ok (.iload 6, 2) := by decide +kernel
theorem dX5_crowded_124 : decode cX5_crowded 124 = .ok (.iaload, 1) := by decide +kernel
theorem dX5_crowded_125 : decode cX5_crowded 125 = .ok (.if_icmp .le 7, 3) := by decide +kernel
theorem dX5_crowded_128 : decode cX5_crowded 128 = .ok (.iload 7, 2) := by decide +kernel
theorem dX5_crowded_130 : decode cX5_crowded 130 = .ok (.istore 6, 2) := by decide +kernel
theorem dX5_crowded_132 : decode cX5_crowded 132 = .ok (.iinc 7 1, 3) := by decide +kernel
theorem dX5_crowded_135 : decode cX5_crowded 135 = .ok (.goto (-40), 3) := by decide +kernel
theorem dX5_crowded_138 : decode cX5_crowded 138 = .ok (.iload 4, 2) := by decide +kernel
theorem dX5_crowded_140 : decode cX5_crowded 140 = .ok (.ifCond .ne 8, 3) := by decide +kernel
theorem dX5_crowded_143 : decode cX5_crowded 143 = .ok (.iload 6, 2) := by decide +kernel
theorem dX5_crowded_145 : decode cX5_crowded 145 = .ok (.goto 10, 3) := by decide +kernel
theorem dX5_crowded_148 : decode cX5_crowded 148 = .ok (.aload_n 0, 1) := by decide +kernel
theorem dX5_crowded_149 : decode cX5_crowded 149 = .ok (.getfield 60, 3) := by decide +kernel
theorem dX5_crowded_152 : decode cX5_crowded 152 = .ok (.iload 6, 2) := by decide +kernel
theorem dX5_crowded_154 : decode cX5_crowded 154 = .ok (.iaload, 1) := by decide +kernel
theorem dX5_crowded_155 : decode cX5_crowded 155 = .ok (.ireturn, 1) := by decide +kernel
set_option maxRecDepth 20000 in
theorem ggX5_meeting_X5_areTwo : GoodIn wsX5_meeting wsX5_areTwo := goodIn_r _ [6, 1, 7, 8, 9, 10, 11, 12, 13, 5, 14, 44, 45, 46, 47, 48, 49, 50, 51, 52, 53, 54, 55, 56, 57] (by decide +kernel) (by decide +kernel)
set_option maxRecDepth 20000 in
theorem gX5_meeting_X5_areTwo : GoodIn wsX5_meeting (wsV RX5 211 RX5 yX5_areTwo wsX5_areTwo) := goodIn_app (goodIn_of _ (by decide +kernel)) ggX5_meeting_X5_areTwo
set_option maxRecDepth 20000 in
theorem ggX5_meeting_X5_refuse : GoodIn wsX5_meeting wsX5_refuse := goodIn_r _ [18, 19, 20, 13, 5, 14, 44, 45, 46, 47, 48, 49, 50, 51, 52, 53, 54] (by decide +kernel) (by decide +kernel)
set_option maxRecDepth 20000 in
theorem gX5_meeting_X5_refuse : GoodIn wsX5_meeting (wsV RX5 64 RX5 yX5_refuse wsX5_refuse) := goodIn_app (goodIn_of _ (by decide +kernel)) ggX5_meeting_X5_refuse
set_option maxRecDepth 20000 in
theorem ggX5_meeting_X5_isBelow : GoodIn wsX5_meeting wsX5_isBelow := goodIn_r _ [14] (by decide +kernel) (by decide +kernel)
set_option maxRecDepth 20000 in
theorem gX5_meeting_X5_isBelow : GoodIn wsX5_meeting (va_wsS RX5 109 yX5_isBelow wsX5_isBelow) := goodIn_app (goodIn_of _ (by decide +kernel)) ggX5_meeting_X5_isBelow
set_option maxRecDepth 20000 in
theorem ggX5_meeting_X1_placeOf : GoodIn wsX5_meeting wsX1_placeOf := goodIn_r _ [24, 25, 26, 27, 10, 28, 29, 13, 5, 14, 30, 31, 32, 33, 34, 35, 36, 37, 38, 39, 40, 41, 42, 43, 55, 56, 57] (by decide +kernel) (by decide +kernel)
set_option maxRecDepth 20000 in
theorem gX5_meeting_X1_placeOf : GoodIn wsX5_meeting (wsV RX5 140 RX1 yX1_placeOf wsX1_placeOf) := goodIn_app (goodIn_of _ (by decide +kernel)) ggX5_meeting_X1_placeOf
theorem dX5_meeting_0 : decode cX5_meeting 0 = .ok (.aload_n 0, 1) := by decide +kernel
theorem dX5_meeting_1 : decode cX5_meeting 1 = .ok (.iload_n 1, 1) := by decide +kernel
theorem dX5_meeting_2 : decode cX5_meeting 2 = .ok (.iload_n 2, 1) := by decide +kernel
theorem dX5_meeting_3 : decode cX5_meeting 3 = .ok (.invokevirtual 211, 3) := by decide +kernel
theorem dX5_meeting_6 : decode cX5_meeting 6 = .ok (.ifCond .ne 9, 3) := by decide +kernel
theorem dX5_meeting_9 : decode cX5_meeting 9 = .ok (.aload_n 0, 1) := by decide +kernel
theorem dX5_meeting_10 : decode cX5_meeting 10 = .ok (.iconst (-1), 1) := by decide +kernel
