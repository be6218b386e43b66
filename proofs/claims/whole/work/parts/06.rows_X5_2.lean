theorem dX5_on_36 : decode cX5_on 36 = .ok (.getfield 103, 3) := by decide +kernel
theorem dX5_on_39 : decode cX5_on 39 = .ok (.ireturn, 1) := by decide +kernel
set_option maxRecDepth 20000 in
theorem ggX5_count_X5_isBelow : GoodIn wsX5_count wsX5_isBelow := goodIn_r _ [12] (by decide +kernel) (by decide +kernel)
set_option maxRecDepth 20000 in
theorem gX5_count_X5_isBelow : GoodIn wsX5_count (va_wsS RX5 109 yX5_isBelow wsX5_isBelow) := goodIn_app (goodIn_of _ (by decide +kernel)) ggX5_count_X5_isBelow
theorem dX5_count_0 : decode cX5_count 0 = .ok (.iload_n 1, 1) := by decide +kernel
theorem dX5_count_1 : decode cX5_count 1 = .ok (.tableswitch 63 0 3 #[31, 39, 47, 55], 31) := by decide +kernel
theorem dX5_count_32 : decode cX5_count 32 = .ok (.aload_n 0, 1) := by decide +kernel
theorem dX5_count_33 : decode cX5_count 33 = .ok (.getfield 10, 3) := by decide +kernel
theorem dX5_count_36 : decode cX5_count 36 = .ok (.getfield 103, 3) := by decide +kernel
theorem dX5_count_39 : decode cX5_count 39 = .ok (.ireturn, 1) := by decide +kernel
theorem dX5_count_40 : decode cX5_count 40 = .ok (.aload_n 0, 1) := by decide +kernel
theorem dX5_count_41 : decode cX5_count 41 = .ok (.getfield 10, 3) := by decide +kernel
theorem dX5_count_44 : decode cX5_count 44 = .ok (.getfield 91, 3) := by decide +kernel
theorem dX5_count_47 : decode cX5_count 47 = .ok (.ireturn, 1) := by decide +kernel
theorem dX5_count_48 : decode cX5_count 48 = .ok (.aload_n 0, 1) := by decide +kernel
theorem dX5_count_49 : decode cX5_count 49 = .ok (.getfield 29, 3) := by decide +kernel
theorem dX5_count_52 : decode cX5_count 52 = .ok (.getfield 76, 3) := by decide +kernel
theorem dX5_count_55 : decode cX5_count 55 = .ok (.ireturn, 1) := by decide +kernel
theorem dX5_count_56 : decode cX5_count 56 = .ok (.aload_n 0, 1) := by decide +kernel
theorem dX5_count_57 : decode cX5_count 57 = .ok (.getfield 36, 3) := by decide +kernel
theorem dX5_count_60 : decode cX5_count 60 = .ok (.getfield 275, 3) := by decide +kernel
theorem dX5_count_63 : decode cX5_count 63 = .ok (.ireturn, 1) := by decide +kernel
theorem dX5_count_64 : decode cX5_count 64 = .ok (.iload_n 1, 1) := by decide +kernel
theorem dX5_count_65 : decode cX5_count 65 = .ok (.bipush 11, 2) := by decide +kernel
theorem dX5_count_67 : decode cX5_count 67 = .ok (.isub, 1) := by decide +kernel
theorem dX5_count_68 : decode cX5_count 68 = .ok (.aload_n 0, 1) := by decide +kernel
theorem dX5_count_69 : decode cX5_count 69 = .ok (.getfield 46, 3) := by decide +kernel
theorem dX5_count_72 : decode cX5_count 72 = .ok (.arraylength, 1) := by decide +kernel
theorem dX5_count_73 : decode cX5_count 73 = .ok (.invokestatic 109, 3) := by decide +kernel
theorem dX5_count_76 : decode cX5_count 76 = .ok (.ifCond .eq 15, 3) := by decide +kernel
theorem dX5_count_79 : decode cX5_count 79 = .ok (.aload_n 0, 1) := by decide +kernel
theorem dX5_count_80 : decode cX5_count 80 = .ok (.getfield 46, 3) := by decide +kernel
theorem dX5_count_83 : decode cX5_count 83 = .ok (.iload_n 1, 1) := by decide +kernel
theorem dX5_count_84 : decode cX5_count 84 = .ok (.bipush 11, 2) := by decide +kernel
theorem dX5_count_86 : decode cX5_count 86 = .ok (.isub, 1) := by decide +kernel
theorem dX5_count_87 : decode cX5_count 87 = .ok (.iaload, 1) := by decide +kernel
theorem dX5_count_88 : decode cX5_count 88 = .ok (.goto 5, 3) := by decide +kernel
theorem dX5_count_91 : decode cX5_count 91 = .ok (.bipush (-9), 2) := by decide +kernel
theorem dX5_count_93 : decode cX5_count 93 = .ok (.ireturn, 1) := by decide +kernel
set_option maxRecDepth 20000 in
theorem ggX5_refuse_X5_isBelow : GoodIn wsX5_refuse wsX5_isBelow := goodIn_r _ [5] (by decide +kernel) (by decide +kernel)
set_option maxRecDepth 20000 in
theorem gX5_refuse_X5_isBelow : GoodIn wsX5_refuse (va_wsS RX5 109 yX5_isBelow wsX5_isBelow) := goodIn_app (goodIn_of _ (by decide +kernel)) ggX5_refuse_X5_isBelow
theorem dX5_refuse_0 : decode cX5_refuse 0 = .ok (.iload_n 1, 1) := by decide +kernel
theorem dX5_refuse_1 : decode cX5_refuse 1 = .ok (.ineg, 1) := by decide +kernel
theorem dX5_refuse_2 : decode cX5_refuse 2 = .ok (.iconst 1, 1) := by decide +kernel
theorem dX5_refuse_3 : decode cX5_refuse 3 = .ok (.isub, 1) := by decide +kernel
theorem dX5_refuse_4 : decode cX5_refuse 4 = .ok (.istore_n 2, 1) := by decide +kernel
theorem dX5_refuse_5 : decode cX5_refuse 5 = .ok (.iload_n 2, 1) := by decide +kernel
theorem dX5_refuse_6 : decode cX5_refuse 6 = .ok (.aload_n 0, 1) := by decide +kernel
theorem dX5_refuse_7 : decode cX5_refuse 7 = .ok (.getfield 46, 3) := by decide +kernel
theorem dX5_refuse_10 : decode cX5_refuse 10 = .ok (.arraylength, 1) := by decide +kernel
theorem dX5_refuse_11 : decode cX5_refuse 11 = .ok (.invokestatic 109, 3) := by decide +kernel
theorem dX5_refuse_14 : decode cX5_refuse 14 = .ok (.ifCond .eq 13, 3) := by decide +kernel
theorem dX5_refuse_17 : decode cX5_refuse 17 = .ok (.aload_n 0, 1) := by decide +kernel
theorem dX5_refuse_18 : decode cX5_refuse 18 = .ok (.getfield 46, 3) := by decide +kernel
theorem dX5_refuse_21 : decode cX5_refuse 21 = .ok (.iload_n 2, 1) := by decide +kernel
theorem dX5_refuse_22 : decode cX5_refuse 22 = .ok (.dup2, 1) := by decide +kernel
theorem dX5_refuse_23 : decode cX5_refuse 23 = .ok (.iaload, 1) := by decide +kernel
theorem dX5_refuse_24 : decode cX5_refuse 24 = .ok (.iconst 1, 1) := by decide +kernel
theorem dX5_refuse_25 : decode cX5_refuse 25 = .ok (.iadd, 1) := by decide +kernel
theorem dX5_refuse_26 : decode cX5_refuse 26 = .ok (.iastore, 1) := by decide +kernel
theorem dX5_refuse_27 : decode cX5_refuse 27 = .ok (.iload_n 1, 1) := by decide +kernel
theorem dX5_refuse_28 : decode cX5_refuse 28 = .ok (.ireturn, 1) := by decide +kernel
set_option maxRecDepth 20000 in
theorem ggX5_refuseLong_X5_refuse : GoodIn wsX5_refuseLong wsX5_refuse := goodIn_r _ [6, 7, 8, 9, 5, 10, 11, 12, 13, 14, 15, 16, 17, 18, 19, 20, 21] (by decide +kernel) (by decide +kernel)
set_option maxRecDepth 20000 in
theorem gX5_refuseLong_X5_refuse : GoodIn wsX5_refuseLong (wsV RX5 64 RX5 yX5_refuse wsX5_refuse) := goodIn_app (goodIn_of _ (by decide +kernel)) ggX5_refuseLong_X5_refuse
theorem dX5_refuseLong_0 : decode cX5_refuseLong 0 = .ok (.ldc2_w 292, 3) := by decide +kernel
theorem dX5_refuseLong_3 : decode cX5_refuseLong 3 = .ok (.aload_n 0, 1) := by decide +kernel
theorem dX5_refuseLong_4 : decode cX5_refuseLong 4 = .ok (.iload_n 1, 1) := by decide +kernel
theorem dX5_refuseLong_5 : decode cX5_refuseLong 5 = .ok (.invokevirtual 64, 3) := by decide +kernel
theorem dX5_refuseLong_8 : decode cX5_refuseLong 8 = .ok (.i2l, 1) := by decide +kernel
theorem dX5_refuseLong_9 : decode cX5_refuseLong 9 = .ok (.lsub, 1) := by decide +kernel
theorem dX5_refuseLong_10 : decode cX5_refuseLong 10 = .ok (.lreturn, 1) := by decide +kernel
set_option maxRecDepth 20000 in
theorem ggX5_refusalOfNumber_X1_has : GoodIn wsX5_refusalOfNumber wsX1_has := goodIn_r _ [6, 7, 8, 9, 10, 22, 23, 24] (by decide +kernel) (by decide +kernel)
set_option maxRecDepth 20000 in
theorem gX5_refusalOfNumber_X1_has : GoodIn wsX5_refusalOfNumber (wsV RX5 106 RX1 yX1_has wsX1_has) := goodIn_app (goodIn_of _ (by decide +kernel)) ggX5_refusalOfNumber_X1_has
theorem dX5_refusalOfNumber_0 : decode cX5_refusalOfNumber 0 = .ok (.aload_n 0, 1) := by decide +kernel
theorem dX5_refusalOfNumber_1 : decode cX5_refusalOfNumber 1 = .ok (.getfield 10, 3) := by decide +kernel
theorem dX5_refusalOfNumber_4 : decode cX5_refusalOfNumber 4 = .ok (.iload_n 1, 1) := by decide +kernel
theorem dX5_refusalOfNumber_5 : decode cX5_refusalOfNumber 5 = .ok (.invokevirtual 106, 3) := by decide +kernel
theorem dX5_refusalOfNumber_8 : decode cX5_refusalOfNumber 8 = .ok (.ifCond .ne 5, 3) := by decide +kernel
theorem dX5_refusalOfNumber_11 : decode cX5_refusalOfNumber 11 = .ok (.iconst (-1), 1) := by decide +kernel
theorem dX5_refusalOfNumber_12 : decode cX5_refusalOfNumber 12 = .ok (.ireturn, 1) := by decide +kernel
theorem dX5_refusalOfNumber_13 : decode cX5_refusalOfNumber 13 = .ok (.iload_n 2, 1) := by decide +kernel
theorem dX5_refusalOfNumber_14 : decode cX5_refusalOfNumber 14 = .ok (.iload_n 3, 1) := by decide +kernel
theorem dX5_refusalOfNumber_15 : decode cX5_refusalOfNumber 15 = .ok (.if_icmp .ge 6, 3) := by decide +kernel
theorem dX5_refusalOfNumber_18 : decode cX5_refusalOfNumber 18 = .ok (.bipush (-4), 2) := by decide +kernel
theorem dX5_refusalOfNumber_20 : decode cX5_refusalOfNumber 20 = .ok (.ireturn, 1) := by decide +kernel
theorem dX5_refusalOfNumber_21 : decode cX5_refusalOfNumber 21 = .ok (.iload_n 2, 1) := by decide +kernel
theorem dX5_refusalOfNumber_22 : decode cX5_refusalOfNumber 22 = .ok (.iload 4, 2) := by decide +kernel
theorem dX5_refusalOfNumber_24 : decode cX5_refusalOfNumber 24 = .ok (.if_icmp .le 8, 3) := by decide +kernel
theorem dX5_refusalOfNumber_27 : decode cX5_refusalOfNumber 27 = .ok (.bipush (-6), 2) := by decide +kernel
theorem dX5_refusalOfNumber_29 : decode cX5_refusalOfNumber 29 = .ok (.goto 4, 3) := by decide +kernel
theorem dX5_refusalOfNumber_32 : decode cX5_refusalOfNumber 32 = .ok (.iconst 0, 1) := by decide +kernel
theorem dX5_refusalOfNumber_33 : decode cX5_refusalOfNumber 33 = .ok (.ireturn, 1) := by decide +kernel
set_option maxRecDepth 20000 in
theorem ggX5_refusalBehind_X5_refusalOfNumber : GoodIn wsX5_refusalBehind wsX5_refusalOfNumber := goodIn_r _ [5, 6, 7, 8, 9, 10, 11, 12, 13, 4, 14, 16, 17, 18, 19, 20, 21, 22, 23, 24, 25, 26, 27, 28, 29] (by decide +kernel) (by decide +kernel)
set_option maxRecDepth 20000 in
theorem gX5_refusalBehind_X5_refusalOfNumber : GoodIn wsX5_refusalBehind (wsV RX5 136 RX5 yX5_refusalOfNumber wsX5_refusalOfNumber) := goodIn_app (goodIn_of _ (by decide +kernel)) ggX5_refusalBehind_X5_refusalOfNumber
set_option maxRecDepth 20000 in
theorem ggX5_refusalBehind_X5_isBelow : GoodIn wsX5_refusalBehind wsX5_isBelow := goodIn_r _ [14] (by decide +kernel) (by decide +kernel)
set_option maxRecDepth 20000 in
theorem gX5_refusalBehind_X5_isBelow : GoodIn wsX5_refusalBehind (va_wsS RX5 109 yX5_isBelow wsX5_isBelow) := goodIn_app (goodIn_of _ (by decide +kernel)) ggX5_refusalBehind_X5_isBelow
theorem dX5_refusalBehind_0 : decode cX5_refusalBehind 0 = .ok (.aload_n 0, 1) := by decide +kernel
theorem dX5_refusalBehind_1 : decode cX5_refusalBehind 1 = .ok (.iload_n 1, 1) := by decide +kernel
theorem dX5_refusalBehind_2 : decode cX5_refusalBehind 2 = .ok (.iload_n 2, 1) := by decide +kernel
theorem dX5_refusalBehind_3 : decode cX5_refusalBehind 3 = .ok (.iconst 1, 1) := by decide +kernel
theorem dX5_refusalBehind_4 : decode cX5_refusalBehind 4 = .ok (.sipush 200, 3) := by decide +kernel
theorem dX5_refusalBehind_7 : decode cX5_refusalBehind 7 = .ok (.invokevirtual 136, 3) := by decide +kernel
theorem dX5_refusalBehind_10 : decode cX5_refusalBehind 10 = .ok (.istore 5, 2) := by decide +kernel
theorem dX5_refusalBehind_12 : decode cX5_refusalBehind 12 = .ok (.iload 5, 2) := by decide +kernel
theorem dX5_refusalBehind_14 : decode cX5_refusalBehind 14 = .ok (.ifCond .eq 6, 3) := by decide +kernel
theorem dX5_refusalBehind_17 : decode cX5_refusalBehind 17 = .ok (.iload 5, 2) := by decide +kernel
theorem dX5_refusalBehind_19 : decode cX5_refusalBehind 19 = .ok (.ireturn, 1) := by decide +kernel
theorem dX5_refusalBehind_20 : decode cX5_refusalBehind 20 = .ok (.iload_n 3, 1) := by decide +kernel
theorem dX5_refusalBehind_21 : decode cX5_refusalBehind 21 = .ok (.iload 4, 2) := by decide +kernel
theorem dX5_refusalBehind_23 : decode cX5_refusalBehind 23 = .ok (.invokestatic 109, 3) := by decide +kernel
theorem dX5_refusalBehind_26 : decode cX5_refusalBehind 26 = .ok (.ifCond .eq 7, 3) := by decide +kernel
theorem dX5_refusalBehind_29 : decode cX5_refusalBehind 29 = .ok (.iconst 0, 1) := by decide +kernel
theorem dX5_refusalBehind_30 : decode cX5_refusalBehind 30 = .ok (.goto 5, 3) := by decide +kernel
theorem dX5_refusalBehind_33 : decode cX5_refusalBehind 33 = .ok (.bipush (-2), 2) := by decide +kernel
theorem dX5_refusalBehind_35 : decode cX5_refusalBehind 35 = .ok (.ireturn, 1) := by decide +kernel
set_option maxRecDepth 20000 in
theorem ggX5_refusalOfNth_X1_has : GoodIn wsX5_refusalOfNth wsX1_has := goodIn_r _ [6, 7, 8, 9, 10, 22, 23, 24] (by decide +kernel) (by decide +kernel)
set_option maxRecDepth 20000 in
theorem gX5_refusalOfNth_X1_has : GoodIn wsX5_refusalOfNth (wsV RX5 106 RX1 yX1_has wsX1_has) := goodIn_app (goodIn_of _ (by decide +kernel)) ggX5_refusalOfNth_X1_has
theorem dX5_refusalOfNth_0 : decode cX5_refusalOfNth 0 = .ok (.aload_n 0, 1) := by decide +kernel
theorem dX5_refusalOfNth_1 : decode cX5_refusalOfNth 1 = .ok (.getfield 10, 3) := by decide +kernel
theorem dX5_refusalOfNth_4 : decode cX5_refusalOfNth 4 = .ok (.iload_n 1, 1) := by decide +kernel
theorem dX5_refusalOfNth_5 : decode cX5_refusalOfNth 5 = .ok (.invokevirtual 106, 3) := by decide +kernel
theorem dX5_refusalOfNth_8 : decode cX5_refusalOfNth 8 = .ok (.ifCond .ne 5, 3) := by decide +kernel
theorem dX5_refusalOfNth_11 : decode cX5_refusalOfNth 11 = .ok (.iconst (-1), 1) := by decide +kernel
theorem dX5_refusalOfNth_12 : decode cX5_refusalOfNth 12 = .ok (.ireturn, 1) := by decide +kernel
theorem dX5_refusalOfNth_13 : decode cX5_refusalOfNth 13 = .ok (.iload_n 2, 1) := by decide +kernel
theorem dX5_refusalOfNth_14 : decode cX5_refusalOfNth 14 = .ok (.iconst 1, 1) := by decide +kernel
theorem dX5_refusalOfNth_15 : decode cX5_refusalOfNth 15 = .ok (.if_icmp .lt 9, 3) := by decide +kernel
theorem dX5_refusalOfNth_18 : decode cX5_refusalOfNth 18 = .ok (.iload_n 3, 1) := by decide +kernel
theorem dX5_refusalOfNth_19 : decode cX5_refusalOfNth 19 = .ok (.iload 4, 2) := by decide +kernel
theorem dX5_refusalOfNth_21 : decode cX5_refusalOfNth 21 = .ok (.if_icmp .ge 6, 3) := by decide +kernel
theorem dX5_refusalOfNth_24 : decode cX5_refusalOfNth 24 = .ok (.bipush (-4), 2) := by decide +kernel
theorem dX5_refusalOfNth_26 : decode cX5_refusalOfNth 26 = .ok (.ireturn, 1) := by decide +kernel
theorem dX5_refusalOfNth_27 : decode cX5_refusalOfNth 27 = .ok (.iload_n 2, 1) := by decide +kernel
theorem dX5_refusalOfNth_28 : decode cX5_refusalOfNth 28 = .ok (.sipush 200, 3) := by decide +kernel
theorem dX5_refusalOfNth_31 : decode cX5_refusalOfNth 31 = .ok (.if_icmp .le 8, 3) := by decide +kernel
theorem dX5_refusalOfNth_34 : decode cX5_refusalOfNth 34 = .ok (.bipush (-6), 2) := by decide +kernel
theorem dX5_refusalOfNth_36 : decode cX5_refusalOfNth 36 = .ok (.goto 4, 3) := by decide +kernel
theorem dX5_refusalOfNth_39 : decode cX5_refusalOfNth 39 = .ok (.iconst 0, 1) := by decide +kernel
theorem dX5_refusalOfNth_40 : decode cX5_refusalOfNth 40 = .ok (.ireturn, 1) := by decide +kernel
set_option maxRecDepth 20000 in
theorem ggX5_refusalOfCrowded_X1_has : GoodIn wsX5_refusalOfCrowded wsX1_has := goodIn_r _ [6, 7, 8, 9, 10, 23, 24, 25] (by decide +kernel) (by decide +kernel)
set_option maxRecDepth 20000 in
theorem gX5_refusalOfCrowded_X1_has : GoodIn wsX5_refusalOfCrowded (wsV RX5 106 RX1 yX1_has wsX1_has) := goodIn_app (goodIn_of _ (by decide +kernel)) ggX5_refusalOfCrowded_X1_has
set_option maxRecDepth 20000 in
theorem ggX5_refusalOfCrowded_X5_isBelow : GoodIn wsX5_refusalOfCrowded wsX5_isBelow := goodIn_r _ [10] (by decide +kernel) (by decide +kernel)
set_option maxRecDepth 20000 in
theorem gX5_refusalOfCrowded_X5_isBelow : GoodIn wsX5_refusalOfCrowded (va_wsS RX5 109 yX5_isBelow wsX5_isBelow) := goodIn_app (goodIn_of _ (by decide +kernel)) ggX5_refusalOfCrowded_X5_isBelow
theorem dX5_refusalOfCrowded_0 : decode cX5_refusalOfCrowded 0 = .ok (.aload_n 0, 1) := by decide +kernel
theorem dX5_refusalOfCrowded_1 : decode cX5_refusalOfCrowded 1 = .ok (.getfield 10, 3) := by decide +kernel
theorem dX5_refusalOfCrowded_4 : decode cX5_refusalOfCrowded 4 = .ok (.iload_n 1, 1) := by decide +kernel
theorem dX5_refusalOfCrowded_5 : decode cX5_refusalOfCrowded 5 = .ok (.invokevirtual 106, 3) := by decide +kernel
theorem dX5_refusalOfCrowded_8 : decode cX5_refusalOfCrowded 8 = .ok (.ifCond .ne 5, 3) := by decide +kernel
theorem dX5_refusalOfCrowded_11 : decode cX5_refusalOfCrowded 11 = .ok (.iconst (-1), 1) := by decide +kernel
theorem dX5_refusalOfCrowded_12 : decode cX5_refusalOfCrowded 12 = .ok (.ireturn, 1) := by decide +kernel
theorem dX5_refusalOfCrowded_13 : decode cX5_refusalOfCrowded 13 = .ok (.iload_n 2, 1) := by decide +kernel
theorem dX5_refusalOfCrowded_14 : decode cX5_refusalOfCrowded 14 = .ok (.iconst 1, 1) := by decide +kernel
theorem dX5_refusalOfCrowded_15 : decode cX5_refusalOfCrowded 15 = .ok (.if_icmp .lt 8, 3) := by decide +kernel
theorem dX5_refusalOfCrowded_18 : decode cX5_refusalOfCrowded 18 = .ok (.iload_n 3, 1) := by decide +kernel
theorem dX5_refusalOfCrowded_19 : decode cX5_refusalOfCrowded 19 = .ok (.iconst 1, 1) := by decide +kernel
theorem dX5_refusalOfCrowded_20 : decode cX5_refusalOfCrowded 20 = .ok (.if_icmp .ge 6, 3) := by decide +kernel
theorem dX5_refusalOfCrowded_23 : decode cX5_refusalOfCrowded 23 = .ok (.bipush (-4), 2) := by decide +kernel
theorem dX5_refusalOfCrowded_25 : decode cX5_refusalOfCrowded 25 = .ok (.ireturn, 1) := by decide +kernel
theorem dX5_refusalOfCrowded_26 : decode cX5_refusalOfCrowded 26 = .ok (.iload_n 2, 1) := by decide +kernel
theorem dX5_refusalOfCrowded_27 : decode cX5_refusalOfCrowded 27 = .ok (.sipush 200, 3) := by decide +kernel
theorem dX5_refusalOfCrowded_30 : decode cX5_refusalOfCrowded 30 = .ok (.if_icmp .gt 9, 3) := by decide +kernel
theorem dX5_refusalOfCrowded_33 : decode cX5_refusalOfCrowded 33 = .ok (.iload_n 3, 1) := by decide +kernel
theorem dX5_refusalOfCrowded_34 : decode cX5_refusalOfCrowded 34 = .ok (.bipush 9, 2) := by decide +kernel
theorem dX5_refusalOfCrowded_36 : decode cX5_refusalOfCrowded 36 = .ok (.if_icmp .le 6, 3) := by decide +kernel
theorem dX5_refusalOfCrowded_39 : decode cX5_refusalOfCrowded 39 = .ok (.bipush (-6), 2) := by decide +kernel
theorem dX5_refusalOfCrowded_41 : decode cX5_refusalOfCrowded 41 = .ok (.ireturn, 1) := by decide +kernel
theorem dX5_refusalOfCrowded_42 : decode cX5_refusalOfCrowded 42 = .ok (.iload 4, 2) := by decide +kernel
theorem dX5_refusalOfCrowded_44 : decode cX5_refusalOfCrowded 44 = .ok (.iconst 2, 1) := by decide +kernel
theorem dX5_refusalOfCrowded_45 : decode cX5_refusalOfCrowded 45 = .ok (.invokestatic 109, 3) := by decide +kernel
theorem dX5_refusalOfCrowded_48 : decode cX5_refusalOfCrowded 48 = .ok (.ifCond .eq 7, 3) := by decide +kernel
theorem dX5_refusalOfCrowded_51 : decode cX5_refusalOfCrowded 51 = .ok (.iconst 0, 1) := by decide +kernel
theorem dX5_refusalOfCrowded_52 : decode cX5_refusalOfCrowded 52 = .ok (.goto 5, 3) := by decide +kernel
theorem dX5_refusalOfCrowded_55 : decode cX5_refusalOfCrowded 55 = .ok (.bipush (-2), 2) := by decide +kernel
theorem dX5_refusalOfCrowded_57 : decode cX5_refusalOfCrowded 57 = .ok (.ireturn, 1) := by decide +kernel
set_option maxRecDepth 20000 in
theorem ggX5_areTwo_X1_has : GoodIn wsX5_areTwo wsX1_has := goodIn_r _ [6, 7, 8, 9, 10, 22, 23, 24] (by decide +kernel) (by decide +kernel)
set_option maxRecDepth 20000 in
theorem gX5_areTwo_X1_has : GoodIn wsX5_areTwo (wsV RX5 106 RX1 yX1_has wsX1_has) := goodIn_app (goodIn_of _ (by decide +kernel)) ggX5_areTwo_X1_has
theorem dX5_areTwo_0 : decode cX5_areTwo 0 = .ok (.iload_n 1, 1) := by decide +kernel
theorem dX5_areTwo_1 : decode cX5_areTwo 1 = .ok (.iload_n 2, 1) := by decide +kernel
theorem dX5_areTwo_2 : decode cX5_areTwo 2 = .ok (.if_icmp .eq 29, 3) := by decide +kernel
theorem dX5_areTwo_5 : decode cX5_areTwo 5 = .ok (.aload_n 0, 1) := by decide +kernel
theorem dX5_areTwo_6 : decode cX5_areTwo 6 = .ok (.getfield 10, 3) := by decide +kernel
theorem dX5_areTwo_9 : decode cX5_areTwo 9 = .ok (.iload_n 1, 1) := by decide +kernel
theorem dX5_areTwo_10 : decode cX5_areTwo 10 = .ok (.invokevirtual 106, 3) := by decide +kernel
theorem dX5_areTwo_13 : decode cX5_areTwo 13 = .ok (.ifCond .eq 18, 3) := by decide +kernel
theorem dX5_areTwo_16 : decode cX5_areTwo 16 = .ok (.aload_n 0, 1) := by decide +kernel
theorem dX5_areTwo_17 : decode cX5_areTwo 17 = .ok (.getfield 10, 3) := by decide +kernel
theorem dX5_areTwo_20 : decode cX5_areTwo 20 = .ok (.iload_n 2, 1) := by decide +kernel
theorem dX5_areTwo_21 : decode cX5_areTwo 21 = .ok (.invokevirtual 106, 3) := by decide +kernel
theorem dX5_areTwo_24 : decode cX5_areTwo 24 = .ok (.ifCond .eq 7, 3) := by decide +kernel
theorem dX5_areTwo_27 : decode cX5_areTwo 27 = .ok (.iconst 1, 1) := by decide +kernel
theorem dX5_areTwo_28 : decode cX5_areTwo 28 = .ok (.goto 4, 3) := by decide +kernel
theorem dX5_areTwo_31 : decode cX5_areTwo 31 = .ok (.iconst 0, 1) := by decide +kernel
theorem dX5_areTwo_32 : decode cX5_areTwo 32 = .ok (.ireturn, 1) := by decide +kernel
theorem dX5_isBelow_0 : decode cX5_isBelow 0 = .ok (.iload_n 0, 1) := by decide +kernel
theorem dX5_isBelow_1 : decode cX5_isBelow 1 = .ok (.ifCond .lt 12, 3) := by decide +kernel
theorem dX5_isBelow_4 : decode cX5_isBelow 4 = .ok (.iload_n 0, 1) := by decide +kernel
theorem dX5_isBelow_5 : decode cX5_isBelow 5 = .ok (.iload_n 1, 1) := by decide +kernel
theorem dX5_isBelow_6 : decode cX5_isBelow 6 = .ok (.if_icmp .ge 7, 3) := by decide +kernel
theorem dX5_isBelow_9 : decode cX5_isBelow 9 = .ok (.iconst 1, 1) := by decide +kernel
theorem dX5_isBelow_10 : decode cX5_isBelow 10 = .ok (.goto 4, 3) := by decide +kernel
theorem dX5_isBelow_13 : decode cX5_isBelow 13 = .ok (.iconst 0, 1) := by decide +kernel
theorem dX5_isBelow_14 : decode cX5_isBelow 14 = .ok (.ireturn, 1) := by decide +kernel
set_option maxRecDepth 20000 in
theorem ggX5_isKind_X5_isBelow : GoodIn wsX5_isKind wsX5_isBelow := goodIn_r _ [4] (by decide +kernel) (by decide +kernel)
set_option maxRecDepth 20000 in
theorem gX5_isKind_X5_isBelow : GoodIn wsX5_isKind (va_wsS RX5 109 yX5_isBelow wsX5_isBelow) := goodIn_app (goodIn_of _ (by decide +kernel)) ggX5_isKind_X5_isBelow
theorem dX5_isKind_0 : decode cX5_isKind 0 = .ok (.iload_n 0, 1) := by decide +kernel
theorem dX5_isKind_1 : decode cX5_isKind 1 = .ok (.bipush 6, 2) := by decide +kernel
theorem dX5_isKind_3 : decode cX5_isKind 3 = .ok (.invokestatic 109, 3) := by decide +kernel
theorem dX5_isKind_6 : decode cX5_isKind 6 = .ok (.ireturn, 1) := by decide +kernel
set_option maxRecDepth 20000 in
theorem ggX5_readWalk_X4_formFault : GoodIn wsX5_readWalk wsX4_formFault := goodIn_r _ [10, 11, 12, 13, 14, 9, 15, 16, 17, 18, 19, 20, 21, 22, 23, 24, 25, 26, 27, 28, 29, 30, 117, 118] (by decide +kernel) (by decide +kernel)
set_option maxRecDepth 20000 in
theorem gX5_readWalk_X4_formFault : GoodIn wsX5_readWalk (wsV RX5 294 RX4 yX4_formFault wsX4_formFault) := goodIn_app (goodIn_of _ (by decide +kernel)) ggX5_readWalk_X4_formFault
set_option maxRecDepth 20000 in
theorem ggX5_readWalk_X1_copyFrom : GoodIn wsX5_readWalk wsX1_copyFrom := goodIn_r _ [35, 36, 37, 38, 119, 120, 121] (by decide +kernel) (by decide +kernel)
set_option maxRecDepth 20000 in
theorem gX5_readWalk_X1_copyFrom : GoodIn wsX5_readWalk (wsV RX5 288 RX1 yX1_copyFrom wsX1_copyFrom) := goodIn_app (goodIn_of _ (by decide +kernel)) ggX5_readWalk_X1_copyFrom
set_option maxRecDepth 20000 in
theorem ggX5_readWalk_X5_follow : GoodIn wsX5_readWalk wsX5_follow := goodIn_r _ [42, 1, 43, 17, 18, 9, 19, 11, 20, 21, 22, 23, 44, 45, 46, 47, 16, 48, 49, 50, 51, 2, 52, 53, 54, 55, 34, 56, 37, 57, 58, 59, 60, 38, 61, 62, 63, 64, 65, 66, 67, 68, 69, 70, 71, 72, 36, 73, 74, 75, 76, 77, 78, 79, 80, 81, 82, 83, 84, 85, 86, 87, 88, 89, 90, 91, 92, 93, 94, 95, 96, 97, 98, 106, 107, 108, 109, 110, 111, 112, 113, 114, 115, 116, 117, 118, 119, 120, 121] (by decide +kernel) (by decide +kernel)
set_option maxRecDepth 20000 in
theorem gX5_readWalk_X5_follow : GoodIn wsX5_readWalk (wsV RX5 297 RX5 yX5_follow wsX5_follow) := goodIn_app (goodIn_of _ (by decide +kernel)) ggX5_readWalk_X5_follow
set_option maxRecDepth 20000 in
theorem ggX5_readWalk_X4_statementLength : GoodIn wsX5_readWalk wsX4_statementLength := goodIn_r _ [30, 16, 17, 18, 9, 19, 11, 20, 21, 22, 23, 24, 25, 26, 117, 118] (by decide +kernel) (by decide +kernel)
set_option maxRecDepth 20000 in
theorem gX5_readWalk_X4_statementLength : GoodIn wsX5_readWalk (wsV RX5 300 RX4 yX4_statementLength wsX4_statementLength) := goodIn_app (goodIn_of _ (by decide +kernel)) ggX5_readWalk_X4_statementLength
set_option maxRecDepth 20000 in
theorem ggX5_readWalk_X0_clear : GoodIn wsX5_readWalk wsX0_clear := goodIn_r _ [104, 105, 122, 123] (by decide +kernel) (by decide +kernel)
set_option maxRecDepth 20000 in
theorem gX5_readWalk_X0_clear : GoodIn wsX5_readWalk (wsV RX5 92 RX0 yX0_clear wsX0_clear) := goodIn_app (goodIn_of _ (by decide +kernel)) ggX5_readWalk_X0_clear
theorem dX5_readWalk_0 : decode cX5_readWalk 0 = .ok (.aload_n 0, 1) := by decide +kernel
theorem dX5_readWalk_1 : decode cX5_readWalk 1 = .ok (.getfield 29, 3) := by decide +kernel
theorem dX5_readWalk_4 : decode cX5_readWalk 4 = .ok (.invokevirtual 294, 3) := by decide +kernel
theorem dX5_readWalk_7 : decode cX5_readWalk 7 = .ok (.istore_n 1, 1) := by decide +kernel
theorem dX5_readWalk_8 : decode cX5_readWalk 8 = .ok (.iload_n 1, 1) := by decide +kernel
theorem dX5_readWalk_9 : decode cX5_readWalk 9 = .ok (.bipush (-9), 2) := by decide +kernel
theorem dX5_readWalk_11 : decode cX5_readWalk 11 = .ok (.if_icmp .eq 9, 3) := by decide +kernel
theorem dX5_readWalk_14 : decode cX5_readWalk 14 = .ok (.sipush (-1000), 3) := by decide +kernel
theorem dX5_readWalk_17 : decode cX5_readWalk 17 = .ok (.iload_n 1, 1) := by decide +kernel
theorem dX5_readWalk_18 : decode cX5_readWalk 18 = .ok (.isub, 1) := by decide +kernel
theorem dX5_readWalk_19 : decode cX5_readWalk 19 = .ok (.ireturn, 1) := by decide +kernel
theorem dX5_readWalk_20 : decode cX5_readWalk 20 = .ok (.aload_n 0, 1) := by decide +kernel
theorem dX5_readWalk_21 : decode cX5_readWalk 21 = .ok (.getfield 16, 3) := by decide +kernel
theorem dX5_readWalk_24 : decode cX5_readWalk 24 = .ok (.aload_n 0, 1) := by decide +kernel
theorem dX5_readWalk_25 : decode cX5_readWalk 25 = .ok (.getfield 10, 3) := by decide +kernel
theorem dX5_readWalk_28 : decode cX5_readWalk 28 = .ok (.invokevirtual 288, 3) := by decide +kernel
theorem dX5_readWalk_31 : decode cX5_readWalk 31 = .ok (.iconst 0, 1) := by decide +kernel
theorem dX5_readWalk_32 : decode cX5_readWalk 32 = .ok (.istore_n 2, 1) := by decide +kernel
theorem dX5_readWalk_33 : decode cX5_readWalk 33 = .ok (.iconst 0, 1) := by decide +kernel
theorem dX5_readWalk_34 : decode cX5_readWalk 34 = .ok (.istore_n 3, 1) := by decide +kernel
theorem dX5_readWalk_35 : decode cX5_readWalk 35 = .ok (.iload_n 2, 1) := by decide +kernel
theorem dX5_readWalk_36 : decode cX5_readWalk 36 = .ok (.bipush 72, 2) := by decide +kernel
theorem dX5_readWalk_38 : decode cX5_readWalk 38 = .ok (.if_icmp .ge 45, 3) := by decide +kernel
theorem dX5_readWalk_41 : decode cX5_readWalk 41 = .ok (.iload_n 3, 1) := by decide +kernel
theorem dX5_readWalk_42 : decode cX5_readWalk 42 = .ok (.aload_n 0, 1) := by decide +kernel
theorem dX5_readWalk_43 : decode cX5_readWalk 43 = .ok (.getfield 29, 3) := by decide +kernel
theorem dX5_readWalk_46 : decode cX5_readWalk 46 = .ok (.getfield 76, 3) := by decide +kernel
theorem dX5_readWalk_49 : decode cX5_readWalk 49 = .ok (.if_icmp .ge 34, 3) := by decide +kernel
theorem dX5_readWalk_52 : decode cX5_readWalk 52 = .ok (.aload_n 0, 1) := by decide +kernel
theorem dX5_readWalk_53 : decode cX5_readWalk 53 = .ok (.iload_n 3, 1) := by decide +kernel
theorem dX5_readWalk_54 : decode cX5_readWalk 54 = .ok (.invokevirtual 297, 3) := by decide +kernel
theorem dX5_readWalk_57 : decode cX5_readWalk 57 = .ok (.ifCond .ne 9, 3) := by decide +kernel
theorem dX5_readWalk_60 : decode cX5_readWalk 60 = .ok (.sipush (-2000), 3) := by decide +kernel
theorem dX5_readWalk_63 : decode cX5_readWalk 63 = .ok (.iload_n 3, 1) := by decide +kernel
theorem dX5_readWalk_64 : decode cX5_readWalk 64 = .ok (.isub, 1) := by decide +kernel
theorem dX5_readWalk_65 : decode cX5_readWalk 65 = .ok (.ireturn, 1) := by decide +kernel
theorem dX5_readWalk_66 : decode cX5_readWalk 66 = .ok (.iload_n 3, 1) := by decide +kernel
theorem dX5_readWalk_67 : decode cX5_readWalk 67 = .ok (.aload_n 0, 1) := by decide +kernel
theorem dX5_readWalk_68 : decode cX5_readWalk 68 = .ok (.getfield 29, 3) := by decide +kernel
theorem dX5_readWalk_71 : decode cX5_readWalk 71 = .ok (.iload_n 3, 1) := by decide +kernel
theorem dX5_readWalk_72 : decode cX5_readWalk 72 = .ok (.invokevirtual 300, 3) := by decide +kernel
theorem dX5_readWalk_75 : decode cX5_readWalk 75 = .ok (.iadd, 1) := by decide +kernel
theorem dX5_readWalk_76 : decode cX5_readWalk 76 = .ok (.istore_n 3, 1) := by decide +kernel
theorem dX5_readWalk_77 : decode cX5_readWalk 77 = .ok (.iinc 2 1, 3) := by decide +kernel
theorem dX5_readWalk_80 : decode cX5_readWalk 80 = .ok (.goto (-45), 3) := by decide +kernel
theorem dX5_readWalk_83 : decode cX5_readWalk 83 = .ok (.aload_n 0, 1) := by decide +kernel
theorem dX5_readWalk_84 : decode cX5_readWalk 84 = .ok (.getfield 10, 3) := by decide +kernel
theorem dX5_readWalk_87 : decode cX5_readWalk 87 = .ok (.aload_n 0, 1) := by decide +kernel
theorem dX5_readWalk_88 : decode cX5_readWalk 88 = .ok (.getfield 16, 3) := by decide +kernel
theorem dX5_readWalk_91 : decode cX5_readWalk 91 = .ok (.invokevirtual 288, 3) := by decide +kernel
theorem dX5_readWalk_94 : decode cX5_readWalk 94 = .ok (.aload_n 0, 1) := by decide +kernel
theorem dX5_readWalk_95 : decode cX5_readWalk 95 = .ok (.getfield 36, 3) := by decide +kernel
theorem dX5_readWalk_98 : decode cX5_readWalk 98 = .ok (.invokevirtual 92, 3) := by decide +kernel
theorem dX5_readWalk_101 : decode cX5_readWalk 101 = .ok (.iload_n 2, 1) := by decide +kernel
theorem dX5_readWalk_102 : decode cX5_readWalk 102 = .ok (.ireturn, 1) := by decide +kernel
set_option maxRecDepth 20000 in
theorem ggX5_follow_X4_get : GoodIn wsX5_follow wsX4_get := goodIn_r _ [6, 7, 8, 9, 10, 11, 84, 85] (by decide +kernel) (by decide +kernel)
set_option maxRecDepth 20000 in
theorem gX5_follow_X4_get : GoodIn wsX5_follow (wsV RX5 303 RX4 yX4_get wsX4_get) := goodIn_app (goodIn_of _ (by decide +kernel)) ggX5_follow_X4_get
set_option maxRecDepth 20000 in
theorem ggX5_follow_X4_number : GoodIn wsX5_follow wsX4_number := goodIn_r _ [15, 16, 3, 4, 5, 6, 7, 8, 9, 10, 11, 84, 85] (by decide +kernel) (by decide +kernel)
set_option maxRecDepth 20000 in
theorem gX5_follow_X4_number : GoodIn wsX5_follow (wsV RX5 304 RX4 yX4_number wsX4_number) := goodIn_app (goodIn_of _ (by decide +kernel)) ggX5_follow_X4_number
set_option maxRecDepth 20000 in
theorem ggX5_follow_X5_followCircle : GoodIn wsX5_follow wsX5_followCircle := goodIn_r _ [20, 21, 22, 23, 24, 25, 26, 27, 28, 29, 30, 31, 32, 33, 9, 10, 11, 73, 74, 75, 76, 77, 78, 79, 80, 81, 82, 83, 86, 87, 88] (by decide +kernel) (by decide +kernel)
set_option maxRecDepth 20000 in
theorem gX5_follow_X5_followCircle : GoodIn wsX5_follow (wsV RX5 307 RX5 yX5_followCircle wsX5_followCircle) := goodIn_app (goodIn_of _ (by decide +kernel)) ggX5_follow_X5_followCircle
set_option maxRecDepth 20000 in
theorem ggX5_follow_X5_followWalker : GoodIn wsX5_follow wsX5_followWalker := goodIn_r _ [37, 1, 21, 12, 13, 14, 5, 15, 16, 3, 4, 6, 7, 8, 9, 10, 11, 38, 39, 40, 26, 41, 28, 42, 43, 44, 45, 46, 47, 48, 49, 50, 51, 52, 53, 54, 33, 73, 74, 75, 76, 77, 78, 79, 80, 81, 82, 83, 84, 85, 86, 87, 88] (by decide +kernel) (by decide +kernel)
set_option maxRecDepth 20000 in
theorem gX5_follow_X5_followWalker : GoodIn wsX5_follow (wsV RX5 310 RX5 yX5_followWalker wsX5_followWalker) := goodIn_app (goodIn_of _ (by decide +kernel)) ggX5_follow_X5_followWalker
set_option maxRecDepth 20000 in
theorem ggX5_follow_X5_followStep : GoodIn wsX5_follow wsX5_followStep := goodIn_r _ [58, 21, 59, 60, 61, 26, 62, 28, 9, 10, 11, 63, 43, 44, 45, 46, 64, 52, 53, 54, 33, 73, 74, 75, 76, 77, 78, 79, 80, 81, 82, 83, 86, 87, 88] (by decide +kernel) (by decide +kernel)
set_option maxRecDepth 20000 in
theorem gX5_follow_X5_followStep : GoodIn wsX5_follow (wsV RX5 313 RX5 yX5_followStep wsX5_followStep) := goodIn_app (goodIn_of _ (by decide +kernel)) ggX5_follow_X5_followStep
set_option maxRecDepth 20000 in
theorem ggX5_follow_X5_followGone : GoodIn wsX5_follow wsX5_followGone := goodIn_r _ [68, 21, 59, 60, 61, 26, 62, 28, 9, 10, 11, 69, 70, 71, 72, 29, 30, 31, 32, 33, 51, 52, 53, 54, 73, 74, 75, 76, 77, 78, 79, 80, 81, 82, 83, 86, 87, 88] (by decide +kernel) (by decide +kernel)
set_option maxRecDepth 20000 in
theorem gX5_follow_X5_followGone : GoodIn wsX5_follow (wsV RX5 316 RX5 yX5_followGone wsX5_followGone) := goodIn_app (goodIn_of _ (by decide +kernel)) ggX5_follow_X5_followGone
theorem dX5_follow_0 : decode cX5_follow 0 = .ok (.aload_n 0, 1) := by decide +kernel
theorem dX5_follow_1 : decode cX5_follow 1 = .ok (.getfield 29, 3) := by decide +kernel
theorem dX5_follow_4 : decode cX5_follow 4 = .ok (.iload_n 1, 1) := by decide +kernel
theorem dX5_follow_5 : decode cX5_follow 5 = .ok (.invokevirtual 303, 3) := by decide +kernel
theorem dX5_follow_8 : decode cX5_follow 8 = .ok (.lookupswitch 85 #[(99, 36), (115, 58), (119, 52)], 36) := by decide +kernel
theorem dX5_follow_44 : decode cX5_follow 44 = .ok (.aload_n 0, 1) := by decide +kernel
theorem dX5_follow_45 : decode cX5_follow 45 = .ok (.aload_n 0, 1) := by decide +kernel
theorem dX5_follow_46 : decode cX5_follow 46 = .ok (.getfield 29, 3) := by decide +kernel
theorem dX5_follow_49 : decode cX5_follow 49 = .ok (.iload_n 1, 1) := by decide +kernel
theorem dX5_follow_50 : decode cX5_follow 50 = .ok (.iconst 1, 1) := by decide +kernel
theorem dX5_follow_51 : decode cX5_follow 51 = .ok (.iadd, 1) := by decide +kernel
theorem dX5_follow_52 : decode cX5_follow 52 = .ok (.iconst 4, 1) := by decide +kernel
theorem dX5_follow_53 : decode cX5_follow 53 = .ok (.invokevirtual 304, 3) := by decide +kernel
theorem dX5_follow_56 : decode cX5_follow 56 = .ok (.invokevirtual 307, 3) := by decide +kernel
theorem dX5_follow_59 : decode cX5_follow 59 = .ok (.ireturn, 1) := by decide +kernel
theorem dX5_follow_60 : decode cX5_follow 60 = .ok (.aload_n 0, 1) := by decide +kernel
theorem dX5_follow_61 : decode cX5_follow 61 = .ok (.iload_n 1, 1) := by decide +kernel
theorem dX5_follow_62 : decode cX5_follow 62 = .ok (.invokevirtual 310, 3) := by decide +kernel
theorem dX5_follow_65 : decode cX5_follow 65 = .ok (.ireturn, 1) := by decide +kernel
theorem dX5_follow_66 : decode cX5_follow 66 = .ok (.aload_n 0, 1) := by decide +kernel
theorem dX5_follow_67 : decode cX5_follow 67 = .ok (.aload_n 0, 1) := by decide +kernel
theorem dX5_follow_68 : decode cX5_follow 68 = .ok (.getfield 29, 3) := by decide +kernel
theorem dX5_follow_71 : decode cX5_follow 71 = .ok (.iload_n 1, 1) := by decide +kernel
theorem dX5_follow_72 : decode cX5_follow 72 = .ok (.iconst 1, 1) := by decide +kernel
theorem dX5_follow_73 : decode cX5_follow 73 = .ok (.iadd, 1) := by decide +kernel
theorem dX5_follow_74 : decode cX5_follow 74 = .ok (.iconst 1, 1) := by decide +kernel
theorem dX5_follow_75 : decode cX5_follow 75 = .ok (.invokevirtual 304, 3) := by decide +kernel
theorem dX5_follow_78 : decode cX5_follow 78 = .ok (.aload_n 0, 1) := by decide +kernel
theorem dX5_follow_79 : decode cX5_follow 79 = .ok (.getfield 29, 3) := by decide +kernel
theorem dX5_follow_82 : decode cX5_follow 82 = .ok (.iload_n 1, 1) := by decide +kernel
theorem dX5_follow_83 : decode cX5_follow 83 = .ok (.iconst 2, 1) := by decide +kernel
theorem dX5_follow_84 : decode cX5_follow 84 = .ok (.iadd, 1) := by decide +kernel
theorem dX5_follow_85 : decode cX5_follow 85 = .ok (.iconst 4, 1) := by decide +kernel
theorem dX5_follow_86 : decode cX5_follow 86 = .ok (.invokevirtual 304, 3) := by decide +kernel
theorem dX5_follow_89 : decode cX5_follow 89 = .ok (.invokevirtual 313, 3) := by decide +kernel
theorem dX5_follow_92 : decode cX5_follow 92 = .ok (.ireturn, 1) := by decide +kernel
theorem dX5_follow_93 : decode cX5_follow 93 = .ok (.aload_n 0, 1) := by decide +kernel
theorem dX5_follow_94 : decode cX5_follow 94 = .ok (.aload_n 0, 1) := by decide +kernel
theorem dX5_follow_95 : decode cX5_follow 95 = .ok (.getfield 29, 3) := by decide +kernel
theorem dX5_follow_98 : decode cX5_follow 98 = .ok (.iload_n 1, 1) := by decide +kernel
theorem dX5_follow_99 : decode cX5_follow 99 = .ok (.iconst 1, 1) := by decide +kernel
theorem dX5_follow_100 : decode cX5_follow 100 = .ok (.iadd, 1) := by decide +kernel
theorem dX5_follow_101 : decode cX5_follow 101 = .ok (.iconst 1, 1) := by decide +kernel
theorem dX5_follow_102 : decode cX5_follow 102 = .ok (.invokevirtual 304, 3) := by decide +kernel
theorem dX5_follow_105 : decode cX5_follow 105 = .ok (.invokevirtual 316, 3) := by decide +kernel
theorem dX5_follow_108 : decode cX5_follow 108 = .ok (.ireturn, 1) := by decide +kernel
set_option maxRecDepth 20000 in
theorem ggX5_followCircle_X1_allBelow : GoodIn wsX5_followCircle wsX1_allBelow := goodIn_r _ [7, 8, 9, 10, 11, 6, 12, 13, 14, 15, 16, 28, 29, 30] (by decide +kernel) (by decide +kernel)
set_option maxRecDepth 20000 in
theorem gX5_followCircle_X1_allBelow : GoodIn wsX5_followCircle (wsV RX5 87 RX1 yX1_allBelow wsX1_allBelow) := goodIn_app (goodIn_of _ (by decide +kernel)) ggX5_followCircle_X1_allBelow
theorem dX5_followCircle_0 : decode cX5_followCircle 0 = .ok (.iload_n 1, 1) := by decide +kernel
theorem dX5_followCircle_1 : decode cX5_followCircle 1 = .ok (.iconst 2, 1) := by decide +kernel
theorem dX5_followCircle_2 : decode cX5_followCircle 2 = .ok (.if_icmp .lt 21, 3) := by decide +kernel
theorem dX5_followCircle_5 : decode cX5_followCircle 5 = .ok (.iload_n 1, 1) := by decide +kernel
theorem dX5_followCircle_6 : decode cX5_followCircle 6 = .ok (.sipush 2000, 3) := by decide +kernel
theorem dX5_followCircle_9 : decode cX5_followCircle 9 = .ok (.if_icmp .gt 14, 3) := by decide +kernel
theorem dX5_followCircle_12 : decode cX5_followCircle 12 = .ok (.aload_n 0, 1) := by decide +kernel
theorem dX5_followCircle_13 : decode cX5_followCircle 13 = .ok (.getfield 16, 3) := by decide +kernel
theorem dX5_followCircle_16 : decode cX5_followCircle 16 = .ok (.iload_n 1, 1) := by decide +kernel
theorem dX5_followCircle_17 : decode cX5_followCircle 17 = .ok (.invokevirtual 87, 3) := by decide +kernel
theorem dX5_followCircle_20 : decode cX5_followCircle 20 = .ok (.ifCond .ne 5, 3) := by decide +kernel
theorem dX5_followCircle_23 : decode cX5_followCircle 23 = .ok (.iconst 0, 1) := by decide +kernel
theorem dX5_followCircle_24 : decode cX5_followCircle 24 = .ok (.ireturn, 1) := by decide +kernel
theorem dX5_followCircle_25 : decode cX5_followCircle 25 = .ok (.aload_n 0, 1) := by decide +kernel
theorem dX5_followCircle_26 : decode cX5_followCircle 26 = .ok (.getfield 16, 3) := by decide +kernel
theorem dX5_followCircle_29 : decode cX5_followCircle 29 = .ok (.iload_n 1, 1) := by decide +kernel
theorem dX5_followCircle_30 : decode cX5_followCircle 30 = .ok (.putfield 91, 3) := by decide +kernel
theorem dX5_followCircle_33 : decode cX5_followCircle 33 = .ok (.iconst 1, 1) := by decide +kernel
theorem dX5_followCircle_34 : decode cX5_followCircle 34 = .ok (.ireturn, 1) := by decide +kernel
set_option maxRecDepth 20000 in
theorem ggX5_followWalker_X4_number : GoodIn wsX5_followWalker wsX4_number := goodIn_r _ [7, 8, 9, 10, 6, 11, 12, 13, 14, 15, 16, 48, 49] (by decide +kernel) (by decide +kernel)
set_option maxRecDepth 20000 in
theorem gX5_followWalker_X4_number : GoodIn wsX5_followWalker (wsV RX5 304 RX4 yX4_number wsX4_number) := goodIn_app (goodIn_of _ (by decide +kernel)) ggX5_followWalker_X4_number
set_option maxRecDepth 20000 in
theorem ggX5_followWalker_X1_hasRoomFor : GoodIn wsX5_followWalker wsX1_hasRoomFor := goodIn_r _ [21, 22, 23, 24, 25, 20, 26, 27, 50, 51, 52] (by decide +kernel) (by decide +kernel)
set_option maxRecDepth 20000 in
theorem gX5_followWalker_X1_hasRoomFor : GoodIn wsX5_followWalker (wsV RX5 96 RX1 yX1_hasRoomFor wsX1_hasRoomFor) := goodIn_app (goodIn_of _ (by decide +kernel)) ggX5_followWalker_X1_hasRoomFor
set_option maxRecDepth 20000 in
theorem ggX5_followWalker_X1_add : GoodIn wsX5_followWalker wsX1_add := goodIn_r _ [31, 22, 32, 33, 34, 20, 35, 36, 14, 15, 16, 50, 51, 52] (by decide +kernel) (by decide +kernel)
set_option maxRecDepth 20000 in
theorem gX5_followWalker_X1_add : GoodIn wsX5_followWalker (wsV RX5 100 RX1 yX1_add wsX1_add) := goodIn_app (goodIn_of _ (by decide +kernel)) ggX5_followWalker_X1_add
theorem dX5_followWalker_0 : decode cX5_followWalker 0 = .ok (.aload_n 0, 1) := by decide +kernel
theorem dX5_followWalker_1 : decode cX5_followWalker 1 = .ok (.getfield 29, 3) := by decide +kernel
theorem dX5_followWalker_4 : decode cX5_followWalker 4 = .ok (.iload_n 1, 1) := by decide +kernel
theorem dX5_followWalker_5 : decode cX5_followWalker 5 = .ok (.iconst 1, 1) := by decide +kernel
theorem dX5_followWalker_6 : decode cX5_followWalker 6 = .ok (.iadd, 1) := by decide +kernel
theorem dX5_followWalker_7 : decode cX5_followWalker 7 = .ok (.iconst 1, 1) := by decide +kernel
theorem dX5_followWalker_8 : decode cX5_followWalker 8 = .ok (.invokevirtual 304, 3) := by decide +kernel
theorem dX5_followWalker_11 : decode cX5_followWalker 11 = .ok (.istore_n 2, 1) := by decide +kernel
theorem dX5_followWalker_12 : decode cX5_followWalker 12 = .ok (.aload_n 0, 1) := by decide +kernel
theorem dX5_followWalker_13 : decode cX5_followWalker 13 = .ok (.getfield 29, 3) := by decide +kernel
theorem dX5_followWalker_16 : decode cX5_followWalker 16 = .ok (.iload_n 1, 1) := by decide +kernel
theorem dX5_followWalker_17 : decode cX5_followWalker 17 = .ok (.iconst 2, 1) := by decide +kernel
theorem dX5_followWalker_18 : decode cX5_followWalker 18 = .ok (.iadd, 1) := by decide +kernel
theorem dX5_followWalker_19 : decode cX5_followWalker 19 = .ok (.iconst 4, 1) := by decide +kernel
theorem dX5_followWalker_20 : decode cX5_followWalker 20 = .ok (.invokevirtual 304, 3) := by decide +kernel
theorem dX5_followWalker_23 : decode cX5_followWalker 23 = .ok (.istore_n 3, 1) := by decide +kernel
theorem dX5_followWalker_24 : decode cX5_followWalker 24 = .ok (.aload_n 0, 1) := by decide +kernel
theorem dX5_followWalker_25 : decode cX5_followWalker 25 = .ok (.getfield 29, 3) := by decide +kernel
theorem dX5_followWalker_28 : decode cX5_followWalker 28 = .ok (.iload_n 1, 1) := by decide +kernel
theorem dX5_followWalker_29 : decode cX5_followWalker 29 = .ok (.bipush 6, 2) := by decide +kernel
theorem dX5_followWalker_31 : decode cX5_followWalker 31 = .ok (.iadd, 1) := by decide +kernel
theorem dX5_followWalker_32 : decode cX5_followWalker 32 = .ok (.iconst 4, 1) := by decide +kernel
theorem dX5_followWalker_33 : decode cX5_followWalker 33 = .ok (.invokevirtual 304, 3) := by decide +kernel
theorem dX5_followWalker_36 : decode cX5_followWalker 36 = .ok (.istore 4, 2) := by decide +kernel
theorem dX5_followWalker_38 : decode cX5_followWalker 38 = .ok (.aload_n 0, 1) := by decide +kernel
theorem dX5_followWalker_39 : decode cX5_followWalker 39 = .ok (.getfield 29, 3) := by decide +kernel
theorem dX5_followWalker_42 : decode cX5_followWalker 42 = .ok (.iload_n 1, 1) := by decide +kernel
theorem dX5_followWalker_43 : decode cX5_followWalker 43 = .ok (.bipush 10, 2) := by decide +kernel
theorem dX5_followWalker_45 : decode cX5_followWalker 45 = .ok (.iadd, 1) := by decide +kernel
theorem dX5_followWalker_46 : decode cX5_followWalker 46 = .ok (.iconst 1, 1) := by decide +kernel
theorem dX5_followWalker_47 : decode cX5_followWalker 47 = .ok (.invokevirtual 304, 3) := by decide +kernel
theorem dX5_followWalker_50 : decode cX5_followWalker 50 = .ok (.istore 5, 2) := by decide +kernel
theorem dX5_followWalker_52 : decode cX5_followWalker 52 = .ok (.aload_n 0, 1) := by decide +kernel
theorem dX5_followWalker_53 : decode cX5_followWalker 53 = .ok (.getfield 16, 3) := by decide +kernel
theorem dX5_followWalker_56 : decode cX5_followWalker 56 = .ok (.iload_n 2, 1) := by decide +kernel
theorem dX5_followWalker_57 : decode cX5_followWalker 57 = .ok (.iload_n 3, 1) := by decide +kernel
theorem dX5_followWalker_58 : decode cX5_followWalker 58 = .ok (.iload 4, 2) := by decide +kernel
theorem dX5_followWalker_60 : decode cX5_followWalker 60 = .ok (.iload 5, 2) := by decide +kernel
theorem dX5_followWalker_62 : decode cX5_followWalker 62 = .ok (.invokevirtual 96, 3) := by decide +kernel
theorem dX5_followWalker_65 : decode cX5_followWalker 65 = .ok (.ifCond .ne 5, 3) := by decide +kernel
theorem dX5_followWalker_68 : decode cX5_followWalker 68 = .ok (.iconst 0, 1) := by decide +kernel
theorem dX5_followWalker_69 : decode cX5_followWalker 69 = .ok (.ireturn, 1) := by decide +kernel
theorem dX5_followWalker_70 : decode cX5_followWalker 70 = .ok (.aload_n 0, 1) := by decide +kernel
theorem dX5_followWalker_71 : decode cX5_followWalker 71 = .ok (.getfield 16, 3) := by decide +kernel
theorem dX5_followWalker_74 : decode cX5_followWalker 74 = .ok (.iload_n 2, 1) := by decide +kernel
theorem dX5_followWalker_75 : decode cX5_followWalker 75 = .ok (.iload_n 3, 1) := by decide +kernel
theorem dX5_followWalker_76 : decode cX5_followWalker 76 = .ok (.iload 4, 2) := by decide +kernel
theorem dX5_followWalker_78 : decode cX5_followWalker 78 = .ok (.iload 5, 2) := by decide +kernel
theorem dX5_followWalker_80 : decode cX5_followWalker 80 = .ok (.invokevirtual 100, 3) := by decide +kernel
theorem dX5_followWalker_83 : decode cX5_followWalker 83 = .ok (.iconst 1, 1) := by decide +kernel
theorem dX5_followWalker_84 : decode cX5_followWalker 84 = .ok (.ireturn, 1) := by decide +kernel
set_option maxRecDepth 20000 in
theorem ggX5_followStep_X1_has : GoodIn wsX5_followStep wsX1_has := goodIn_r _ [6, 7, 8, 9, 10, 32, 33, 34] (by decide +kernel) (by decide +kernel)
set_option maxRecDepth 20000 in
theorem gX5_followStep_X1_has : GoodIn wsX5_followStep (wsV RX5 106 RX1 yX1_has wsX1_has) := goodIn_app (goodIn_of _ (by decide +kernel)) ggX5_followStep_X1_has
set_option maxRecDepth 20000 in
theorem ggX5_followStep_X1_greatest : GoodIn wsX5_followStep wsX1_greatest := goodIn_r _ [14, 15, 32, 33, 34] (by decide +kernel) (by decide +kernel)
set_option maxRecDepth 20000 in
theorem gX5_followStep_X1_greatest : GoodIn wsX5_followStep (wsV RX5 113 RX1 yX1_greatest wsX1_greatest) := goodIn_app (goodIn_of _ (by decide +kernel)) ggX5_followStep_X1_greatest
set_option maxRecDepth 20000 in
theorem ggX5_followStep_X1_setValue : GoodIn wsX5_followStep wsX1_setValue := goodIn_r _ [19, 20, 8, 9, 10, 32, 33, 34] (by decide +kernel) (by decide +kernel)
set_option maxRecDepth 20000 in
theorem gX5_followStep_X1_setValue : GoodIn wsX5_followStep (wsV RX5 124 RX1 yX1_setValue wsX1_setValue) := goodIn_app (goodIn_of _ (by decide +kernel)) ggX5_followStep_X1_setValue
theorem dX5_followStep_0 : decode cX5_followStep 0 = .ok (.aload_n 0, 1) := by decide +kernel
theorem dX5_followStep_1 : decode cX5_followStep 1 = .ok (.getfield 16, 3) := by decide +kernel
theorem dX5_followStep_4 : decode cX5_followStep 4 = .ok (.iload_n 1, 1) := by decide +kernel
theorem dX5_followStep_5 : decode cX5_followStep 5 = .ok (.invokevirtual 106, 3) := by decide +kernel
theorem dX5_followStep_8 : decode cX5_followStep 8 = .ok (.ifCond .eq 15, 3) := by decide +kernel
theorem dX5_followStep_11 : decode cX5_followStep 11 = .ok (.iload_n 2, 1) := by decide +kernel
theorem dX5_followStep_12 : decode cX5_followStep 12 = .ok (.aload_n 0, 1) := by decide +kernel
theorem dX5_followStep_13 : decode cX5_followStep 13 = .ok (.getfield 16, 3) := by decide +kernel
theorem dX5_followStep_16 : decode cX5_followStep 16 = .ok (.iconst 1, 1) := by decide +kernel
theorem dX5_followStep_17 : decode cX5_followStep 17 = .ok (.invokevirtual 113, 3) := by decide +kernel
theorem dX5_followStep_20 : decode cX5_followStep 20 = .ok (.if_icmp .le 5, 3) := by decide +kernel
theorem dX5_followStep_23 : decode cX5_followStep 23 = .ok (.iconst 0, 1) := by decide +kernel
theorem dX5_followStep_24 : decode cX5_followStep 24 = .ok (.ireturn, 1) := by decide +kernel
theorem dX5_followStep_25 : decode cX5_followStep 25 = .ok (.aload_n 0, 1) := by decide +kernel
theorem dX5_followStep_26 : decode cX5_followStep 26 = .ok (.getfield 16, 3) := by decide +kernel
theorem dX5_followStep_29 : decode cX5_followStep 29 = .ok (.iload_n 1, 1) := by decide +kernel
theorem dX5_followStep_30 : decode cX5_followStep 30 = .ok (.iconst 1, 1) := by decide +kernel
theorem dX5_followStep_31 : decode cX5_followStep 31 = .ok (.iload_n 2, 1) := by decide +kernel
theorem dX5_followStep_32 : decode cX5_followStep 32 = .ok (.invokevirtual 124, 3) := by decide +kernel
theorem dX5_followStep_35 : decode cX5_followStep 35 = .ok (.iconst 1, 1) := by decide +kernel
theorem dX5_followStep_36 : decode cX5_followStep 36 = .ok (.ireturn, 1) := by decide +kernel
set_option maxRecDepth 20000 in
theorem ggX5_followGone_X1_has : GoodIn wsX5_followGone wsX1_has := goodIn_r _ [6, 7, 8, 9, 10, 35, 36, 37] (by decide +kernel) (by decide +kernel)
set_option maxRecDepth 20000 in
theorem gX5_followGone_X1_has : GoodIn wsX5_followGone (wsV RX5 106 RX1 yX1_has wsX1_has) := goodIn_app (goodIn_of _ (by decide +kernel)) ggX5_followGone_X1_has
set_option maxRecDepth 20000 in
theorem ggX5_followGone_X1_remove : GoodIn wsX5_followGone wsX1_remove := goodIn_r _ [14, 7, 15, 16, 17, 5, 18, 19, 8, 9, 10, 20, 21, 22, 23, 35, 36, 37] (by decide +kernel) (by decide +kernel)
set_option maxRecDepth 20000 in
theorem gX5_followGone_X1_remove : GoodIn wsX5_followGone (wsV RX5 127 RX1 yX1_remove wsX1_remove) := goodIn_app (goodIn_of _ (by decide +kernel)) ggX5_followGone_X1_remove
theorem dX5_followGone_0 : decode cX5_followGone 0 = .ok (.aload_n 0, 1) := by decide +kernel
theorem dX5_followGone_1 : decode cX5_followGone 1 = .ok (.getfield 16, 3) := by decide +kernel
theorem dX5_followGone_4 : decode cX5_followGone 4 = .ok (.iload_n 1, 1) := by decide +kernel
theorem dX5_followGone_5 : decode cX5_followGone 5 = .ok (.invokevirtual 106, 3) := by decide +kernel
theorem dX5_followGone_8 : decode cX5_followGone 8 = .ok (.ifCond .ne 5, 3) := by decide +kernel
theorem dX5_followGone_11 : decode cX5_followGone 11 = .ok (.iconst 0, 1) := by decide +kernel
theorem dX5_followGone_12 : decode cX5_followGone 12 = .ok (.ireturn, 1) := by decide +kernel
theorem dX5_followGone_13 : decode cX5_followGone 13 = .ok (.aload_n 0, 1) := by decide +kernel
theorem dX5_followGone_14 : decode cX5_followGone 14 = .ok (.getfield 16, 3) := by decide +kernel
theorem dX5_followGone_17 : decode cX5_followGone 17 = .ok (.iload_n 1, 1) := by decide +kernel
theorem dX5_followGone_18 : decode cX5_followGone 18 = .ok (.invokevirtual 127, 3) := by decide +kernel
theorem dX5_followGone_21 : decode cX5_followGone 21 = .ok (.iconst 1, 1) := by decide +kernel
theorem dX5_followGone_22 : decode cX5_followGone 22 = .ok (.ireturn, 1) := by decide +kernel
set_option maxRecDepth 20000 in
theorem ggX5_isOfKind_X5_isBelow : GoodIn wsX5_isOfKind wsX5_isBelow := goodIn_r _ [5] (by decide +kernel) (by decide +kernel)
set_option maxRecDepth 20000 in
theorem gX5_isOfKind_X5_isBelow : GoodIn wsX5_isOfKind (va_wsS RX5 109 yX5_isBelow wsX5_isBelow) := goodIn_app (goodIn_of _ (by decide +kernel)) ggX5_isOfKind_X5_isBelow
theorem dX5_isOfKind_0 : decode cX5_isOfKind 0 = .ok (.iload_n 0, 1) := by decide +kernel
theorem dX5_isOfKind_1 : decode cX5_isOfKind 1 = .ok (.istore_n 2, 1) := by decide +kernel
theorem dX5_isOfKind_2 : decode cX5_isOfKind 2 = .ok (.iconst 0, 1) := by decide +kernel
theorem dX5_isOfKind_3 : decode cX5_isOfKind 3 = .ok (.istore_n 3, 1) := by decide +kernel
theorem dX5_isOfKind_4 : decode cX5_isOfKind 4 = .ok (.iload_n 3, 1) := by decide +kernel
theorem dX5_isOfKind_5 : decode cX5_isOfKind 5 = .ok (.bipush 6, 2) := by decide +kernel
theorem dX5_isOfKind_7 : decode cX5_isOfKind 7 = .ok (.if_icmp .ge 33, 3) := by decide +kernel
theorem dX5_isOfKind_10 : decode cX5_isOfKind 10 = .ok (.iload_n 2, 1) := by decide +kernel
theorem dX5_isOfKind_11 : decode cX5_isOfKind 11 = .ok (.getstatic 319, 3) := by decide +kernel
theorem dX5_isOfKind_14 : decode cX5_isOfKind 14 = .ok (.arraylength, 1) := by decide +kernel
theorem dX5_isOfKind_15 : decode cX5_isOfKind 15 = .ok (.invokestatic 109, 3) := by decide +kernel
theorem dX5_isOfKind_18 : decode cX5_isOfKind 18 = .ok (.ifCond .eq 22, 3) := by decide +kernel
theorem dX5_isOfKind_21 : decode cX5_isOfKind 21 = .ok (.iload_n 2, 1) := by decide +kernel
theorem dX5_isOfKind_22 : decode cX5_isOfKind 22 = .ok (.iload_n 1, 1) := by decide +kernel
theorem dX5_isOfKind_23 : decode cX5_isOfKind 23 = .ok (.if_icmp .ne 5, 3) := by decide +kernel
theorem dX5_isOfKind_26 : decode cX5_isOfKind 26 = .ok (.iconst 1, 1) := by decide +kernel
theorem dX5_isOfKind_27 : decode cX5_isOfKind 27 = .ok (.ireturn, 1) := by decide +kernel
theorem dX5_isOfKind_28 : decode cX5_isOfKind 28 = .ok (.getstatic 319, 3) := by decide +kernel
theorem dX5_isOfKind_31 : decode cX5_isOfKind 31 = .ok (.iload_n 2, 1) := by decide +kernel
theorem dX5_isOfKind_32 : decode cX5_isOfKind 32 = .ok (.iaload, 1) := by decide +kernel
theorem dX5_isOfKind_33 : decode cX5_isOfKind 33 = .ok (.istore_n 2, 1) := by decide +kernel
theorem dX5_isOfKind_34 : decode cX5_isOfKind 34 = .ok (.iinc 3 1, 3) := by decide +kernel
theorem dX5_isOfKind_37 : decode cX5_isOfKind 37 = .ok (.goto (-33), 3) := by decide +kernel
theorem dX5_isOfKind_40 : decode cX5_isOfKind 40 = .ok (.iconst 0, 1) := by decide +kernel
theorem dX5_isOfKind_41 : decode cX5_isOfKind 41 = .ok (.ireturn, 1) := by decide +kernel
set_option maxRecDepth 20000 in
theorem ggX5_returnOf_X1_value : GoodIn wsX5_returnOf wsX1_value := goodIn_r _ [6, 7, 8, 9, 10, 41, 42, 43] (by decide +kernel) (by decide +kernel)
set_option maxRecDepth 20000 in
theorem gX5_returnOf_X1_value : GoodIn wsX5_returnOf (wsV RX5 116 RX1 yX1_value wsX1_value) := goodIn_app (goodIn_of _ (by decide +kernel)) ggX5_returnOf_X1_value
set_option maxRecDepth 20000 in
theorem ggX5_returnOf_X1_placeOf : GoodIn wsX5_returnOf wsX1_placeOf := goodIn_r _ [14, 15, 3, 4, 5, 6, 7, 8, 9, 10, 16, 17, 18, 19, 20, 21, 22, 23, 24, 25, 26, 27, 28, 29, 41, 42, 43] (by decide +kernel) (by decide +kernel)
set_option maxRecDepth 20000 in
theorem gX5_returnOf_X1_placeOf : GoodIn wsX5_returnOf (wsV RX5 140 RX1 yX1_placeOf wsX1_placeOf) := goodIn_app (goodIn_of _ (by decide +kernel)) ggX5_returnOf_X1_placeOf
theorem dX5_returnOf_0 : decode cX5_returnOf 0 = .ok (.aload_n 0, 1) := by decide +kernel
theorem dX5_returnOf_1 : decode cX5_returnOf 1 = .ok (.getfield 10, 3) := by decide +kernel
theorem dX5_returnOf_4 : decode cX5_returnOf 4 = .ok (.iload_n 1, 1) := by decide +kernel
theorem dX5_returnOf_5 : decode cX5_returnOf 5 = .ok (.iconst 2, 1) := by decide +kernel
theorem dX5_returnOf_6 : decode cX5_returnOf 6 = .ok (.invokevirtual 116, 3) := by decide +kernel
theorem dX5_returnOf_9 : decode cX5_returnOf 9 = .ok (.istore_n 2, 1) := by decide +kernel
theorem dX5_returnOf_10 : decode cX5_returnOf 10 = .ok (.iconst 1, 1) := by decide +kernel
theorem dX5_returnOf_11 : decode cX5_returnOf 11 = .ok (.istore_n 3, 1) := by decide +kernel
theorem dX5_returnOf_12 : decode cX5_returnOf 12 = .ok (.iload_n 3, 1) := by decide +kernel
theorem dX5_returnOf_13 : decode cX5_returnOf 13 = .ok (.sipush 2000, 3) := by decide +kernel
theorem dX5_returnOf_16 : decode cX5_returnOf 16 = .ok (.if_icmp .gt 24, 3) := by decide +kernel
theorem dX5_returnOf_19 : decode cX5_returnOf 19 = .ok (.aload_n 0, 1) := by decide +kernel
theorem dX5_returnOf_20 : decode cX5_returnOf 20 = .ok (.getfield 10, 3) := by decide +kernel
theorem dX5_returnOf_23 : decode cX5_returnOf 23 = .ok (.iload_n 1, 1) := by decide +kernel
theorem dX5_returnOf_24 : decode cX5_returnOf 24 = .ok (.iload_n 3, 1) := by decide +kernel
theorem dX5_returnOf_25 : decode cX5_returnOf 25 = .ok (.invokevirtual 140, 3) := by decide +kernel
theorem dX5_returnOf_28 : decode cX5_returnOf 28 = .ok (.iload_n 2, 1) := by decide +kernel
theorem dX5_returnOf_29 : decode cX5_returnOf 29 = .ok (.if_icmp .ne 5, 3) := by decide +kernel
theorem dX5_returnOf_32 : decode cX5_returnOf 32 = .ok (.iload_n 3, 1) := by decide +kernel
theorem dX5_returnOf_33 : decode cX5_returnOf 33 = .ok (.ireturn, 1) := by decide +kernel
theorem dX5_returnOf_34 : decode cX5_returnOf 34 = .ok (.iinc 3 1, 3) := by decide +kernel
theorem dX5_returnOf_37 : decode cX5_returnOf 37 = .ok (.goto (-25), 3) := by decide +kernel
theorem dX5_returnOf_40 : decode cX5_returnOf 40 = .ok (.bipush (-9), 2) := by decide +kernel
theorem dX5_returnOf_42 : decode cX5_returnOf 42 = .ok (.ireturn, 1) := by decide +kernel
set_option maxRecDepth 20000 in
theorem ggX5_farFromStart_X1_placeOf : GoodIn wsX5_farFromStart wsX1_placeOf := goodIn_r _ [11, 12, 13, 14, 10, 15, 16, 17, 18, 19, 20, 21, 22, 23, 24, 25, 26, 27, 28, 29, 30, 31, 32, 33, 47, 48, 49] (by decide +kernel) (by decide +kernel)
set_option maxRecDepth 20000 in
theorem gX5_farFromStart_X1_placeOf : GoodIn wsX5_farFromStart (wsV RX5 140 RX1 yX1_placeOf wsX1_placeOf) := goodIn_app (goodIn_of _ (by decide +kernel)) ggX5_farFromStart_X1_placeOf
set_option maxRecDepth 20000 in
theorem ggX5_farFromStart_X1_value : GoodIn wsX5_farFromStart wsX1_value := goodIn_r _ [15, 16, 17, 18, 19, 47, 48, 49] (by decide +kernel) (by decide +kernel)
set_option maxRecDepth 20000 in
theorem gX5_farFromStart_X1_value : GoodIn wsX5_farFromStart (wsV RX5 116 RX1 yX1_value wsX1_value) := goodIn_app (goodIn_of _ (by decide +kernel)) ggX5_farFromStart_X1_value
set_option maxRecDepth 20000 in
theorem ggX5_farFromStart_X1_around : GoodIn wsX5_farFromStart wsX1_around := goodIn_r _ [28, 29, 30, 18, 31, 47, 48, 49] (by decide +kernel) (by decide +kernel)
set_option maxRecDepth 20000 in
theorem gX5_farFromStart_X1_around : GoodIn wsX5_farFromStart (wsV RX5 175 RX1 yX1_around wsX1_around) := goodIn_app (goodIn_of _ (by decide +kernel)) ggX5_farFromStart_X1_around
theorem dX5_farFromStart_0 : decode cX5_farFromStart 0 = .ok (.aload_n 0, 1) := by decide +kernel
theorem dX5_farFromStart_1 : decode cX5_farFromStart 1 = .ok (.getfield 10, 3) := by decide +kernel
theorem dX5_farFromStart_4 : decode cX5_farFromStart 4 = .ok (.aload_n 0, 1) := by decide +kernel
theorem dX5_farFromStart_5 : decode cX5_farFromStart 5 = .ok (.getfield 10, 3) := by decide +kernel
theorem dX5_farFromStart_8 : decode cX5_farFromStart 8 = .ok (.iload_n 1, 1) := by decide +kernel
theorem dX5_farFromStart_9 : decode cX5_farFromStart 9 = .ok (.iload_n 2, 1) := by decide +kernel
theorem dX5_farFromStart_10 : decode cX5_farFromStart 10 = .ok (.invokevirtual 140, 3) := by decide +kernel
theorem dX5_farFromStart_13 : decode cX5_farFromStart 13 = .ok (.aload_n 0, 1) := by decide +kernel
theorem dX5_farFromStart_14 : decode cX5_farFromStart 14 = .ok (.getfield 10, 3) := by decide +kernel
theorem dX5_farFromStart_17 : decode cX5_farFromStart 17 = .ok (.iload_n 1, 1) := by decide +kernel
theorem dX5_farFromStart_18 : decode cX5_farFromStart 18 = .ok (.iconst 2, 1) := by decide +kernel
theorem dX5_farFromStart_19 : decode cX5_farFromStart 19 = .ok (.invokevirtual 116, 3) := by decide +kernel
theorem dX5_farFromStart_22 : decode cX5_farFromStart 22 = .ok (.isub, 1) := by decide +kernel
theorem dX5_farFromStart_23 : decode cX5_farFromStart 23 = .ok (.i2l, 1) := by decide +kernel
theorem dX5_farFromStart_24 : decode cX5_farFromStart 24 = .ok (.invokevirtual 175, 3) := by decide +kernel
theorem dX5_farFromStart_27 : decode cX5_farFromStart 27 = .ok (.istore_n 3, 1) := by decide +kernel
theorem dX5_farFromStart_28 : decode cX5_farFromStart 28 = .ok (.iload_n 3, 1) := by decide +kernel
theorem dX5_farFromStart_29 : decode cX5_farFromStart 29 = .ok (.aload_n 0, 1) := by decide +kernel
theorem dX5_farFromStart_30 : decode cX5_farFromStart 30 = .ok (.getfield 10, 3) := by decide +kernel
theorem dX5_farFromStart_33 : decode cX5_farFromStart 33 = .ok (.getfield 91, 3) := by decide +kernel
theorem dX5_farFromStart_36 : decode cX5_farFromStart 36 = .ok (.iload_n 3, 1) := by decide +kernel
theorem dX5_farFromStart_37 : decode cX5_farFromStart 37 = .ok (.isub, 1) := by decide +kernel
theorem dX5_farFromStart_38 : decode cX5_farFromStart 38 = .ok (.invokestatic 322, 3) := by decide +kernel
theorem dX5_farFromStart_41 : decode cX5_farFromStart 41 = .ok (.ireturn, 1) := by decide +kernel
set_option maxRecDepth 20000 in
theorem ggX5_takeMarks_X3_clear : GoodIn wsX5_takeMarks wsX3_clear := goodIn_r _ [6, 7, 71, 72] (by decide +kernel) (by decide +kernel)
set_option maxRecDepth 20000 in
theorem gX5_takeMarks_X3_clear : GoodIn wsX5_takeMarks (wsV RX5 164 RX3 yX3_clear wsX3_clear) := goodIn_app (goodIn_of _ (by decide +kernel)) ggX5_takeMarks_X3_clear
set_option maxRecDepth 20000 in
theorem ggX5_takeMarks_X1_placeOf : GoodIn wsX5_takeMarks wsX1_placeOf := goodIn_r _ [12, 13, 14, 15, 11, 16, 17, 18, 19, 20, 21, 22, 23, 24, 25, 26, 27, 28, 29, 30, 31, 32, 33, 34, 73, 74, 75] (by decide +kernel) (by decide +kernel)
set_option maxRecDepth 20000 in
theorem gX5_takeMarks_X1_placeOf : GoodIn wsX5_takeMarks (wsV RX5 140 RX1 yX1_placeOf wsX1_placeOf) := goodIn_app (goodIn_of _ (by decide +kernel)) ggX5_takeMarks_X1_placeOf
set_option maxRecDepth 20000 in
theorem ggX5_takeMarks_X3_addOnce : GoodIn wsX5_takeMarks wsX3_addOnce := goodIn_r _ [38, 39, 40, 41, 5, 42, 7, 43, 44, 45, 46, 47, 48, 49, 50, 51, 52, 53, 54, 55, 56, 57, 58, 59, 71, 72] (by decide +kernel) (by decide +kernel)
set_option maxRecDepth 20000 in
theorem gX5_takeMarks_X3_addOnce : GoodIn wsX5_takeMarks (wsV RX5 169 RX3 yX3_addOnce wsX3_addOnce) := goodIn_app (goodIn_of _ (by decide +kernel)) ggX5_takeMarks_X3_addOnce
theorem dX5_takeMarks_0 : decode cX5_takeMarks 0 = .ok (.aload_n 1, 1) := by decide +kernel
theorem dX5_takeMarks_1 : decode cX5_takeMarks 1 = .ok (.invokevirtual 164, 3) := by decide +kernel
theorem dX5_takeMarks_4 : decode cX5_takeMarks 4 = .ok (.iconst 0, 1) := by decide +kernel
theorem dX5_takeMarks_5 : decode cX5_takeMarks 5 = .ok (.istore 4, 2) := by decide +kernel
theorem dX5_takeMarks_7 : decode cX5_takeMarks 7 = .ok (.iload 4, 2) := by decide +kernel
theorem dX5_takeMarks_9 : decode cX5_takeMarks 9 = .ok (.iload_n 3, 1) := by decide +kernel
theorem dX5_takeMarks_10 : decode cX5_takeMarks 10 = .ok (.if_icmp .ge 23, 3) := by decide +kernel
theorem dX5_takeMarks_13 : decode cX5_takeMarks 13 = .ok (.aload_n 1, 1) := by decide +kernel
theorem dX5_takeMarks_14 : decode cX5_takeMarks 14 = .ok (.aload_n 0, 1) := by decide +kernel
theorem dX5_takeMarks_15 : decode cX5_takeMarks 15 = .ok (.getfield 10, 3) := by decide +kernel
theorem dX5_takeMarks_18 : decode cX5_takeMarks 18 = .ok (.iload_n 2, 1) := by decide +kernel
theorem dX5_takeMarks_19 : decode cX5_takeMarks 19 = .ok (.iload 4, 2) := by decide +kernel
theorem dX5_takeMarks_21 : decode cX5_takeMarks 21 = .ok (.invokevirtual 140, 3) := by decide +kernel
theorem dX5_takeMarks_24 : decode cX5_takeMarks 24 = .ok (.invokevirtual 169, 3) := by decide +kernel
theorem dX5_takeMarks_27 : decode cX5_takeMarks 27 = .ok (.iinc 4 1, 3) := by decide +kernel
theorem dX5_takeMarks_30 : decode cX5_takeMarks 30 = .ok (.goto (-23), 3) := by decide +kernel
theorem dX5_takeMarks_33 : decode cX5_takeMarks 33 = .ok (.return_, 1) := by decide +kernel
set_option maxRecDepth 20000 in
theorem ggX5_takePlaces_X3_clear : GoodIn wsX5_takePlaces wsX3_clear := goodIn_r _ [7, 8, 64, 65] (by decide +kernel) (by decide +kernel)
set_option maxRecDepth 20000 in
theorem gX5_takePlaces_X3_clear : GoodIn wsX5_takePlaces (wsV RX5 164 RX3 yX3_clear wsX3_clear) := goodIn_app (goodIn_of _ (by decide +kernel)) ggX5_takePlaces_X3_clear
set_option maxRecDepth 20000 in
theorem ggX5_takePlaces_X1_placeOf : GoodIn wsX5_takePlaces wsX1_placeOf := goodIn_r _ [13, 14, 15, 16, 12, 17, 18, 19, 20, 21, 22, 23, 24, 25, 26, 27, 28, 29, 30, 31, 32, 33, 34, 35, 66, 67, 68] (by decide +kernel) (by decide +kernel)
set_option maxRecDepth 20000 in
theorem gX5_takePlaces_X1_placeOf : GoodIn wsX5_takePlaces (wsV RX5 140 RX1 yX1_placeOf wsX1_placeOf) := goodIn_app (goodIn_of _ (by decide +kernel)) ggX5_takePlaces_X1_placeOf
set_option maxRecDepth 20000 in
theorem ggX5_takePlaces_X3_add : GoodIn wsX5_takePlaces wsX3_add := goodIn_r _ [39, 8, 40, 41, 42, 43, 44, 45, 46, 47, 6, 48, 49, 50, 51, 52, 64, 65] (by decide +kernel) (by decide +kernel)
set_option maxRecDepth 20000 in
theorem gX5_takePlaces_X3_add : GoodIn wsX5_takePlaces (wsV RX5 325 RX3 yX3_add wsX3_add) := goodIn_app (goodIn_of _ (by decide +kernel)) ggX5_takePlaces_X3_add
theorem dX5_takePlaces_0 : decode cX5_takePlaces 0 = .ok (.aload_n 0, 1) := by decide +kernel
theorem dX5_takePlaces_1 : decode cX5_takePlaces 1 = .ok (.getfield 53, 3) := by decide +kernel
theorem dX5_takePlaces_4 : decode cX5_takePlaces 4 = .ok (.invokevirtual 164, 3) := by decide +kernel
theorem dX5_takePlaces_7 : decode cX5_takePlaces 7 = .ok (.iconst 0, 1) := by decide +kernel
theorem dX5_takePlaces_8 : decode cX5_takePlaces 8 = .ok (.istore_n 3, 1) := by decide +kernel
theorem dX5_takePlaces_9 : decode cX5_takePlaces 9 = .ok (.iload_n 3, 1) := by decide +kernel
theorem dX5_takePlaces_10 : decode cX5_takePlaces 10 = .ok (.iload_n 2, 1) := by decide +kernel
theorem dX5_takePlaces_11 : decode cX5_takePlaces 11 = .ok (.if_icmp .ge 25, 3) := by decide +kernel
theorem dX5_takePlaces_14 : decode cX5_takePlaces 14 = .ok (.aload_n 0, 1) := by decide +kernel
theorem dX5_takePlaces_15 : decode cX5_takePlaces 15 = .ok (.getfield 53, 3) := by decide +kernel
theorem dX5_takePlaces_18 : decode cX5_takePlaces 18 = .ok (.aload_n 0, 1) := by decide +kernel
theorem dX5_takePlaces_19 : decode cX5_takePlaces 19 = .ok (.getfield 10, 3) := by decide +kernel
theorem dX5_takePlaces_22 : decode cX5_takePlaces 22 = .ok (.iload_n 1, 1) := by decide +kernel
theorem dX5_takePlaces_23 : decode cX5_takePlaces 23 = .ok (.iload_n 3, 1) := by decide +kernel
theorem dX5_takePlaces_24 : decode cX5_takePlaces 24 = .ok (.invokevirtual 140, 3) := by decide +kernel
theorem dX5_takePlaces_27 : decode cX5_takePlaces 27 = .ok (.invokevirtual 325, 3) := by decide +kernel
theorem dX5_takePlaces_30 : decode cX5_takePlaces 30 = .ok (.iinc 3 1, 3) := by decide +kernel
theorem dX5_takePlaces_33 : decode cX5_takePlaces 33 = .ok (.goto (-24), 3) := by decide +kernel
theorem dX5_takePlaces_36 : decode cX5_takePlaces 36 = .ok (.return_, 1) := by decide +kernel
set_option maxRecDepth 20000 in
theorem ggX5_takeLengths_X5_takeMarks : GoodIn wsX5_takeLengths wsX5_takeMarks := goodIn_r _ [8, 9, 10, 11, 12, 13, 14, 15, 16, 17, 18, 19, 20, 21, 22, 23, 24, 25, 26, 7, 27, 28, 29, 30, 31, 32, 33, 34, 35, 36, 37, 38, 39, 40, 41, 42, 43, 44, 45, 46, 47, 48, 49, 50, 51, 52, 53, 54, 55, 56, 57, 58, 59, 60, 61, 62, 63, 64, 65, 66, 73, 74, 75, 76, 77, 78, 79, 80, 81, 82, 83, 84, 85, 86, 87, 88] (by decide +kernel) (by decide +kernel)
set_option maxRecDepth 20000 in
theorem gX5_takeLengths_X5_takeMarks : GoodIn wsX5_takeLengths (wsV RX5 146 RX5 yX5_takeMarks wsX5_takeMarks) := goodIn_app (goodIn_of _ (by decide +kernel)) ggX5_takeLengths_X5_takeMarks
set_option maxRecDepth 20000 in
theorem ggX5_takeLengths_X3_clear : GoodIn wsX5_takeLengths wsX3_clear := goodIn_r _ [14, 15, 84, 85] (by decide +kernel) (by decide +kernel)
set_option maxRecDepth 20000 in
theorem gX5_takeLengths_X3_clear : GoodIn wsX5_takeLengths (wsV RX5 164 RX3 yX3_clear wsX3_clear) := goodIn_app (goodIn_of _ (by decide +kernel)) ggX5_takeLengths_X3_clear
set_option maxRecDepth 20000 in
theorem ggX5_takeLengths_X5_gapBehind : GoodIn wsX5_takeLengths wsX5_gapBehind := goodIn_r _ [70, 1, 3, 9, 71, 72, 55, 56, 13, 57, 15, 58, 73, 74, 75, 76, 77, 78, 79, 80, 81, 82, 83, 84, 85, 86, 87, 88] (by decide +kernel) (by decide +kernel)
set_option maxRecDepth 20000 in
theorem gX5_takeLengths_X5_gapBehind : GoodIn wsX5_takeLengths (wsV RX5 165 RX5 yX5_gapBehind wsX5_gapBehind) := goodIn_app (goodIn_of _ (by decide +kernel)) ggX5_takeLengths_X5_gapBehind
set_option maxRecDepth 20000 in
theorem ggX5_takeLengths_X3_addOnce : GoodIn wsX5_takeLengths wsX3_addOnce := goodIn_r _ [45, 46, 47, 48, 13, 49, 15, 50, 51, 52, 53, 54, 55, 56, 57, 58, 59, 60, 61, 62, 63, 64, 65, 66, 84, 85] (by decide +kernel) (by decide +kernel)
set_option maxRecDepth 20000 in
theorem gX5_takeLengths_X3_addOnce : GoodIn wsX5_takeLengths (wsV RX5 169 RX3 yX3_addOnce wsX3_addOnce) := goodIn_app (goodIn_of _ (by decide +kernel)) ggX5_takeLengths_X3_addOnce
theorem dX5_takeLengths_0 : decode cX5_takeLengths 0 = .ok (.aload_n 0, 1) := by decide +kernel
theorem dX5_takeLengths_1 : decode cX5_takeLengths 1 = .ok (.aload_n 0, 1) := by decide +kernel
theorem dX5_takeLengths_2 : decode cX5_takeLengths 2 = .ok (.getfield 53, 3) := by decide +kernel
theorem dX5_takeLengths_5 : decode cX5_takeLengths 5 = .ok (.iload_n 1, 1) := by decide +kernel
theorem dX5_takeLengths_6 : decode cX5_takeLengths 6 = .ok (.iload_n 2, 1) := by decide +kernel
theorem dX5_takeLengths_7 : decode cX5_takeLengths 7 = .ok (.invokevirtual 146, 3) := by decide +kernel
theorem dX5_takeLengths_10 : decode cX5_takeLengths 10 = .ok (.aload_n 0, 1) := by decide +kernel
theorem dX5_takeLengths_11 : decode cX5_takeLengths 11 = .ok (.getfield 57, 3) := by decide +kernel
theorem dX5_takeLengths_14 : decode cX5_takeLengths 14 = .ok (.invokevirtual 164, 3) := by decide +kernel
theorem dX5_takeLengths_17 : decode cX5_takeLengths 17 = .ok (.iconst 0, 1) := by decide +kernel
theorem dX5_takeLengths_18 : decode cX5_takeLengths 18 = .ok (.istore_n 3, 1) := by decide +kernel
theorem dX5_takeLengths_19 : decode cX5_takeLengths 19 = .ok (.iload_n 3, 1) := by decide +kernel
theorem dX5_takeLengths_20 : decode cX5_takeLengths 20 = .ok (.aload_n 0, 1) := by decide +kernel
theorem dX5_takeLengths_21 : decode cX5_takeLengths 21 = .ok (.getfield 53, 3) := by decide +kernel
theorem dX5_takeLengths_24 : decode cX5_takeLengths 24 = .ok (.getfield 150, 3) := by decide +kernel
theorem dX5_takeLengths_27 : decode cX5_takeLengths 27 = .ok (.if_icmp .ge 21, 3) := by decide +kernel
theorem dX5_takeLengths_30 : decode cX5_takeLengths 30 = .ok (.aload_n 0, 1) := by decide +kernel
theorem dX5_takeLengths_31 : decode cX5_takeLengths 31 = .ok (.getfield 57, 3) := by decide +kernel
theorem dX5_takeLengths_34 : decode cX5_takeLengths 34 = .ok (.aload_n 0, 1) := by decide +kernel
theorem dX5_takeLengths_35 : decode cX5_takeLengths 35 = .ok (.iload_n 3, 1) := by decide +kernel
theorem dX5_takeLengths_36 : decode cX5_takeLengths 36 = .ok (.invokevirtual 165, 3) := by decide +kernel
theorem dX5_takeLengths_39 : decode cX5_takeLengths 39 = .ok (.invokevirtual 169, 3) := by decide +kernel
theorem dX5_takeLengths_42 : decode cX5_takeLengths 42 = .ok (.iinc 3 1, 3) := by decide +kernel
theorem dX5_takeLengths_45 : decode cX5_takeLengths 45 = .ok (.goto (-26), 3) := by decide +kernel
theorem dX5_takeLengths_48 : decode cX5_takeLengths 48 = .ok (.return_, 1) := by decide +kernel
set_option maxRecDepth 20000 in
theorem ggX5_gapBehind_X3_get : GoodIn wsX5_gapBehind wsX3_get := goodIn_r _ [9, 10, 11, 23, 24] (by decide +kernel) (by decide +kernel)
set_option maxRecDepth 20000 in
theorem gX5_gapBehind_X3_get : GoodIn wsX5_gapBehind (wsV RX5 151 RX3 yX3_get wsX3_get) := goodIn_app (goodIn_of _ (by decide +kernel)) ggX5_gapBehind_X3_get
theorem dX5_gapBehind_0 : decode cX5_gapBehind 0 = .ok (.iload_n 1, 1) := by decide +kernel
theorem dX5_gapBehind_1 : decode cX5_gapBehind 1 = .ok (.iconst 1, 1) := by decide +kernel
theorem dX5_gapBehind_2 : decode cX5_gapBehind 2 = .ok (.iadd, 1) := by decide +kernel
theorem dX5_gapBehind_3 : decode cX5_gapBehind 3 = .ok (.aload_n 0, 1) := by decide +kernel
theorem dX5_gapBehind_4 : decode cX5_gapBehind 4 = .ok (.getfield 53, 3) := by decide +kernel
theorem dX5_gapBehind_7 : decode cX5_gapBehind 7 = .ok (.getfield 150, 3) := by decide +kernel
theorem dX5_gapBehind_10 : decode cX5_gapBehind 10 = .ok (.if_icmp .ge 23, 3) := by decide +kernel
theorem dX5_gapBehind_13 : decode cX5_gapBehind 13 = .ok (.aload_n 0, 1) := by decide +kernel
theorem dX5_gapBehind_14 : decode cX5_gapBehind 14 = .ok (.getfield 53, 3) := by decide +kernel
theorem dX5_gapBehind_17 : decode cX5_gapBehind 17 = .ok (.iload_n 1, 1) := by decide +kernel
theorem dX5_gapBehind_18 : decode cX5_gapBehind 18 = .ok (.iconst 1, 1) := by decide +kernel
theorem dX5_gapBehind_19 : decode cX5_gapBehind 19 = .ok (.iadd, 1) := by decide +kernel
theorem dX5_gapBehind_20 : decode cX5_gapBehind 20 = .ok (.invokevirtual 151, 3) := by decide +kernel
theorem dX5_gapBehind_23 : decode cX5_gapBehind 23 = .ok (.aload_n 0, 1) := by decide +kernel
theorem dX5_gapBehind_24 : decode cX5_gapBehind 24 = .ok (.getfield 53, 3) := by decide +kernel
theorem dX5_gapBehind_27 : decode cX5_gapBehind 27 = .ok (.iload_n 1, 1) := by decide +kernel
theorem dX5_gapBehind_28 : decode cX5_gapBehind 28 = .ok (.invokevirtual 151, 3) := by decide +kernel
theorem dX5_gapBehind_31 : decode cX5_gapBehind 31 = .ok (.isub, 1) := by decide +kernel
theorem dX5_gapBehind_32 : decode cX5_gapBehind 32 = .ok (.ireturn, 1) := by decide +kernel
theorem dX5_gapBehind_33 : decode cX5_gapBehind 33 = .ok (.aload_n 0, 1) := by decide +kernel
theorem dX5_gapBehind_34 : decode cX5_gapBehind 34 = .ok (.getfield 53, 3) := by decide +kernel
theorem dX5_gapBehind_37 : decode cX5_gapBehind 37 = .ok (.iconst 0, 1) := by decide +kernel
theorem dX5_gapBehind_38 : decode cX5_gapBehind 38 = .ok (.invokevirtual 151, 3) := by decide +kernel
theorem dX5_gapBehind_41 : decode cX5_gapBehind 41 = .ok (.aload_n 0, 1) := by decide +kernel
theorem dX5_gapBehind_42 : decode cX5_gapBehind 42 = .ok (.getfield 10, 3) := by decide +kernel
theorem dX5_gapBehind_45 : decode cX5_gapBehind 45 = .ok (.getfield 91, 3) := by decide +kernel
theorem dX5_gapBehind_48 : decode cX5_gapBehind 48 = .ok (.iadd, 1) := by decide +kernel
theorem dX5_gapBehind_49 : decode cX5_gapBehind 49 = .ok (.aload_n 0, 1) := by decide +kernel
theorem dX5_gapBehind_50 : decode cX5_gapBehind 50 = .ok (.getfield 53, 3) := by decide +kernel
theorem dX5_gapBehind_53 : decode cX5_gapBehind 53 = .ok (.iload_n 1, 1) := by decide +kernel
theorem dX5_gapBehind_54 : decode cX5_gapBehind 54 = .ok (.invokevirtual 151, 3) := by decide +kernel
theorem dX5_gapBehind_57 : decode cX5_gapBehind 57 = .ok (.isub, 1) := by decide +kernel
theorem dX5_gapBehind_58 : decode cX5_gapBehind 58 = .ok (.ireturn, 1) := by decide +kernel
set_option maxRecDepth 20000 in
theorem ggX5_gapsOfLength_X5_gapBehind : GoodIn wsX5_gapsOfLength wsX5_gapBehind := goodIn_r _ [7, 1, 2, 8, 9, 10, 11, 12, 13, 14, 15, 16, 17, 18, 19, 20, 21, 22, 23, 24, 25, 26, 27, 28, 29, 30, 31, 32] (by decide +kernel) (by decide +kernel)
set_option maxRecDepth 20000 in
theorem gX5_gapsOfLength_X5_gapBehind : GoodIn wsX5_gapsOfLength (wsV RX5 165 RX5 yX5_gapBehind wsX5_gapBehind) := goodIn_app (goodIn_of _ (by decide +kernel)) ggX5_gapsOfLength_X5_gapBehind
theorem dX5_gapsOfLength_0 : decode cX5_gapsOfLength 0 = .ok (.iconst 0, 1) := by decide +kernel
theorem dX5_gapsOfLength_1 : decode cX5_gapsOfLength 1 = .ok (.istore_n 2, 1) := by decide +kernel
theorem dX5_gapsOfLength_2 : decode cX5_gapsOfLength 2 = .ok (.iconst 0, 1) := by decide +kernel
theorem dX5_gapsOfLength_3 : decode cX5_gapsOfLength 3 = .ok (.istore_n 3, 1) := by decide +kernel
theorem dX5_gapsOfLength_4 : decode cX5_gapsOfLength 4 = .ok (.iload_n 3, 1) := by decide +kernel
theorem dX5_gapsOfLength_5 : decode cX5_gapsOfLength 5 = .ok (.aload_n 0, 1) := by decide +kernel
theorem dX5_gapsOfLength_6 : decode cX5_gapsOfLength 6 = .ok (.getfield 53, 3) := by decide +kernel
theorem dX5_gapsOfLength_9 : decode cX5_gapsOfLength 9 = .ok (.getfield 150, 3) := by decide +kernel
theorem dX5_gapsOfLength_12 : decode cX5_gapsOfLength 12 = .ok (.if_icmp .ge 21, 3) := by decide +kernel
theorem dX5_gapsOfLength_15 : decode cX5_gapsOfLength 15 = .ok (.aload_n 0, 1) := by decide +kernel
theorem dX5_gapsOfLength_16 : decode cX5_gapsOfLength 16 = .ok (.iload_n 3, 1) := by decide +kernel
theorem dX5_gapsOfLength_17 : decode cX5_gapsOfLength 17 = .ok (.invokevirtual 165, 3) := by decide +kernel
theorem dX5_gapsOfLength_20 : decode cX5_gapsOfLength 20 = .ok (.iload_n 1, 1) := by decide +kernel
theorem dX5_gapsOfLength_21 : decode cX5_gapsOfLength 21 = .ok (.if_icmp .ne 6, 3) := by decide +kernel
theorem dX5_gapsOfLength_24 : decode cX5_gapsOfLength 24 = .ok (.iinc 2 1, 3) := by decide +kernel
theorem dX5_gapsOfLength_27 : decode cX5_gapsOfLength 27 = .ok (.iinc 3 1, 3) := by decide +kernel
theorem dX5_gapsOfLength_30 : decode cX5_gapsOfLength 30 = .ok (.goto (-26), 3) := by decide +kernel
theorem dX5_gapsOfLength_33 : decode cX5_gapsOfLength 33 = .ok (.iload_n 2, 1) := by decide +kernel
theorem dX5_gapsOfLength_34 : decode cX5_gapsOfLength 34 = .ok (.ireturn, 1) := by decide +kernel
theorem dX5_quotient_0 : decode cX5_quotient 0 = .ok (.lload_n 2, 1) := by decide +kernel
theorem dX5_quotient_1 : decode cX5_quotient 1 = .ok (.lconst 0, 1) := by decide +kernel
theorem dX5_quotient_2 : decode cX5_quotient 2 = .ok (.lcmp, 1) := by decide +kernel
theorem dX5_quotient_3 : decode cX5_quotient 3 = .ok (.ifCond .ne 7, 3) := by decide +kernel
theorem dX5_quotient_6 : decode cX5_quotient 6 = .ok (.lconst 0, 1) := by decide +kernel
theorem dX5_quotient_7 : decode cX5_quotient 7 = .ok (.goto 6, 3) := by decide +kernel
theorem dX5_quotient_10 : decode cX5_quotient 10 = .ok (.lload_n 0, 1) := by decide +kernel
theorem dX5_quotient_11 : decode cX5_quotient 11 = .ok (.lload_n 2, 1) := by decide +kernel
theorem dX5_quotient_12 : decode cX5_quotient 12 = .ok (.ldiv, 1) := by decide +kernel
theorem dX5_quotient_13 : decode cX5_quotient 13 = .ok (.lreturn, 1) := by decide +kernel
theorem dX5_rest_0 : decode cX5_rest 0 = .ok (.lload_n 2, 1) := by decide +kernel
theorem dX5_rest_1 : decode cX5_rest 1 = .ok (.lconst 0, 1) := by decide +kernel
theorem dX5_rest_2 : decode cX5_rest 2 = .ok (.lcmp, 1) := by decide +kernel
theorem dX5_rest_3 : decode cX5_rest 3 = .ok (.ifCond .ne 7, 3) := by decide +kernel
theorem dX5_rest_6 : decode cX5_rest 6 = .ok (.lconst 0, 1) := by decide +kernel
theorem dX5_rest_7 : decode cX5_rest 7 = .ok (.goto 6, 3) := by decide +kernel
theorem dX5_rest_10 : decode cX5_rest 10 = .ok (.lload_n 0, 1) := by decide +kernel
theorem dX5_rest_11 : decode cX5_rest 11 = .ok (.lload_n 2, 1) := by decide +kernel
theorem dX5_rest_12 : decode cX5_rest 12 = .ok (.lrem, 1) := by decide +kernel
theorem dX5_rest_13 : decode cX5_rest 13 = .ok (.lreturn, 1) := by decide +kernel
theorem dX5_greatestCommon_0 : decode cX5_greatestCommon 0 = .ok (.lload_n 0, 1) := by decide +kernel
theorem dX5_greatestCommon_1 : decode cX5_greatestCommon 1 = .ok (.lstore 4, 2) := by decide +kernel
theorem dX5_greatestCommon_3 : decode cX5_greatestCommon 3 = .ok (.lload_n 2, 1) := by decide +kernel
theorem dX5_greatestCommon_4 : decode cX5_greatestCommon 4 = .ok (.lstore 6, 2) := by decide +kernel
theorem dX5_greatestCommon_6 : decode cX5_greatestCommon 6 = .ok (.iconst 0, 1) := by decide +kernel
theorem dX5_greatestCommon_7 : decode cX5_greatestCommon 7 = .ok (.istore 8, 2) := by decide +kernel
theorem dX5_greatestCommon_9 : decode cX5_greatestCommon 9 = .ok (.iload 8, 2) := by decide +kernel
theorem dX5_greatestCommon_11 : decode cX5_greatestCommon 11 = .ok (.sipush 200, 3) := by decide +kernel
theorem dX5_greatestCommon_14 : decode cX5_greatestCommon 14 = .ok (.if_icmp .ge 31, 3) := by decide +kernel
theorem dX5_greatestCommon_17 : decode cX5_greatestCommon 17 = .ok (.lload 6, 2) := by decide +kernel
theorem dX5_greatestCommon_19 : decode cX5_greatestCommon 19 = .ok (.lconst 0, 1) := by decide +kernel
theorem dX5_greatestCommon_20 : decode cX5_greatestCommon 20 = .ok (.lcmp, 1) := by decide +kernel
theorem dX5_greatestCommon_21 : decode cX5_greatestCommon 21 = .ok (.ifCond .eq 24, 3) := by decide +kernel
theorem dX5_greatestCommon_24 : decode cX5_greatestCommon 24 = .ok (.lload 4, 2) := by decide +kernel
theorem dX5_greatestCommon_26 : decode cX5_greatestCommon 26 = .ok (.lload 6, 2) := by decide +kernel
theorem dX5_greatestCommon_28 : decode cX5_greatestCommon 28 = .ok (.lrem, 1) := by decide +kernel
theorem dX5_greatestCommon_29 : decode cX5_greatestCommon 29 = .ok (.lstore 9, 2) := by decide +kernel
theorem dX5_greatestCommon_31 : decode cX5_greatestCommon 31 = .ok (.lload 6, 2) := by decide +kernel
theorem dX5_greatestCommon_33 : decode cX5_greatestCommon 33 = .ok (.lstore 4, 2) := by decide +kernel
theorem dX5_greatestCommon_35 : decode cX5_greatestCommon 35 = .ok (.lload 9, 2) := by decide +kernel
theorem dX5_greatestCommon_37 : decode cX5_greatestCommon 37 = .ok (.lstore 6, 2) := by decide +kernel
theorem dX5_greatestCommon_39 : decode cX5_greatestCommon 39 = .ok (.iinc 8 1, 3) := by decide +kernel
theorem dX5_greatestCommon_42 : decode cX5_greatestCommon 42 = .ok (.goto (-33), 3) := by decide +kernel
theorem dX5_greatestCommon_45 : decode cX5_greatestCommon 45 = .ok (.lload 4, 2) := by decide +kernel
theorem dX5_greatestCommon_47 : decode cX5_greatestCommon 47 = .ok (.lreturn, 1) := by decide +kernel
set_option maxRecDepth 20000 in
theorem ggX5_partOf_X5_greatestCommon : GoodIn wsX5_partOf wsX5_greatestCommon := goodIn_r _ [4] (by decide +kernel) (by decide +kernel)
set_option maxRecDepth 20000 in
theorem gX5_partOf_X5_greatestCommon : GoodIn wsX5_partOf (va_wsS RX5 326 yX5_greatestCommon wsX5_greatestCommon) := goodIn_app (goodIn_of _ (by decide +kernel)) ggX5_partOf_X5_greatestCommon
set_option maxRecDepth 20000 in
theorem ggX5_partOf_X5_quotient : GoodIn wsX5_partOf wsX5_quotient := goodIn_r _ [7] (by decide +kernel) (by decide +kernel)
set_option maxRecDepth 20000 in
theorem gX5_partOf_X5_quotient : GoodIn wsX5_partOf (va_wsS RX5 225 yX5_quotient wsX5_quotient) := goodIn_app (goodIn_of _ (by decide +kernel)) ggX5_partOf_X5_quotient
theorem dX5_partOf_0 : decode cX5_partOf 0 = .ok (.lload_n 0, 1) := by decide +kernel
theorem dX5_partOf_1 : decode cX5_partOf 1 = .ok (.lload_n 2, 1) := by decide +kernel
theorem dX5_partOf_2 : decode cX5_partOf 2 = .ok (.invokestatic 326, 3) := by decide +kernel
theorem dX5_partOf_5 : decode cX5_partOf 5 = .ok (.lstore 5, 2) := by decide +kernel
theorem dX5_partOf_7 : decode cX5_partOf 7 = .ok (.iload 4, 2) := by decide +kernel
theorem dX5_partOf_9 : decode cX5_partOf 9 = .ok (.ifCond .ne 7, 3) := by decide +kernel
theorem dX5_partOf_12 : decode cX5_partOf 12 = .ok (.lload_n 0, 1) := by decide +kernel
theorem dX5_partOf_13 : decode cX5_partOf 13 = .ok (.goto 4, 3) := by decide +kernel
theorem dX5_partOf_16 : decode cX5_partOf 16 = .ok (.lload_n 2, 1) := by decide +kernel
theorem dX5_partOf_17 : decode cX5_partOf 17 = .ok (.lload 5, 2) := by decide +kernel
theorem dX5_partOf_19 : decode cX5_partOf 19 = .ok (.invokestatic 225, 3) := by decide +kernel
theorem dX5_partOf_22 : decode cX5_partOf 22 = .ok (.lreturn, 1) := by decide +kernel
theorem dX5_termAt_0 : decode cX5_termAt 0 = .ok (.iload_n 0, 1) := by decide +kernel
theorem dX5_termAt_1 : decode cX5_termAt 1 = .ok (.istore_n 3, 1) := by decide +kernel
theorem dX5_termAt_2 : decode cX5_termAt 2 = .ok (.iload_n 1, 1) := by decide +kernel
theorem dX5_termAt_3 : decode cX5_termAt 3 = .ok (.istore 4, 2) := by decide +kernel
theorem dX5_termAt_5 : decode cX5_termAt 5 = .ok (.iconst 0, 1) := by decide +kernel
theorem dX5_termAt_6 : decode cX5_termAt 6 = .ok (.istore 5, 2) := by decide +kernel
theorem dX5_termAt_8 : decode cX5_termAt 8 = .ok (.iload 5, 2) := by decide +kernel
theorem dX5_termAt_10 : decode cX5_termAt 10 = .ok (.sipush 200, 3) := by decide +kernel
theorem dX5_termAt_13 : decode cX5_termAt 13 = .ok (.if_icmp .ge 38, 3) := by decide +kernel
theorem dX5_termAt_16 : decode cX5_termAt 16 = .ok (.iload 4, 2) := by decide +kernel
theorem dX5_termAt_18 : decode cX5_termAt 18 = .ok (.ifCond .eq 33, 3) := by decide +kernel
theorem dX5_termAt_21 : decode cX5_termAt 21 = .ok (.iload 5, 2) := by decide +kernel
theorem dX5_termAt_23 : decode cX5_termAt 23 = .ok (.iload_n 2, 1) := by decide +kernel
theorem dX5_termAt_24 : decode cX5_termAt 24 = .ok (.if_icmp .ne 8, 3) := by decide +kernel
theorem dX5_termAt_27 : decode cX5_termAt 27 = .ok (.iload_n 3, 1) := by decide +kernel
theorem dX5_termAt_28 : decode cX5_termAt 28 = .ok (.iload 4, 2) := by decide +kernel
theorem dX5_termAt_30 : decode cX5_termAt 30 = .ok (.idiv, 1) := by decide +kernel
theorem dX5_termAt_31 : decode cX5_termAt 31 = .ok (.ireturn, 1) := by decide +kernel
theorem dX5_termAt_32 : decode cX5_termAt 32 = .ok (.iload_n 3, 1) := by decide +kernel
theorem dX5_termAt_33 : decode cX5_termAt 33 = .ok (.iload 4, 2) := by decide +kernel
theorem dX5_termAt_35 : decode cX5_termAt 35 = .ok (.irem, 1) := by decide +kernel
theorem dX5_termAt_36 : decode cX5_termAt 36 = .ok (.istore 6, 2) := by decide +kernel
theorem dX5_termAt_38 : decode cX5_termAt 38 = .ok (.iload 4, 2) := by decide +kernel
theorem dX5_termAt_40 : decode cX5_termAt 40 = .ok (.istore_n 3, 1) := by decide +kernel
theorem dX5_termAt_41 : decode cX5_termAt 41 = .ok (.iload 6, 2) := by decide +kernel
theorem dX5_termAt_43 : decode cX5_termAt 43 = .ok (.istore 4, 2) := by decide +kernel
theorem dX5_termAt_45 : decode cX5_termAt 45 = .ok (.iinc 5 1, 3) := by decide +kernel
theorem dX5_termAt_48 : decode cX5_termAt 48 = .ok (.goto (-40), 3) := by decide +kernel
theorem dX5_termAt_51 : decode cX5_termAt 51 = .ok (.bipush (-9), 2) := by decide +kernel
theorem dX5_termAt_53 : decode cX5_termAt 53 = .ok (.ireturn, 1) := by decide +kernel
set_option maxRecDepth 20000 in
theorem ggX5_howManyTerms_X5_termAt : GoodIn wsX5_howManyTerms wsX5_termAt := goodIn_r _ [4] (by decide +kernel) (by decide +kernel)
set_option maxRecDepth 20000 in
theorem gX5_howManyTerms_X5_termAt : GoodIn wsX5_howManyTerms (va_wsS RX5 217 yX5_termAt wsX5_termAt) := goodIn_app (goodIn_of _ (by decide +kernel)) ggX5_howManyTerms_X5_termAt
theorem dX5_howManyTerms_0 : decode cX5_howManyTerms 0 = .ok (.iconst 0, 1) := by decide +kernel
theorem dX5_howManyTerms_1 : decode cX5_howManyTerms 1 = .ok (.istore_n 2, 1) := by decide +kernel
theorem dX5_howManyTerms_2 : decode cX5_howManyTerms 2 = .ok (.iload_n 2, 1) := by decide +kernel
theorem dX5_howManyTerms_3 : decode cX5_howManyTerms 3 = .ok (.sipush 200, 3) := by decide +kernel
theorem dX5_howManyTerms_6 : decode cX5_howManyTerms 6 = .ok (.if_icmp .ge 20, 3) := by decide +kernel
theorem dX5_howManyTerms_9 : decode cX5_howManyTerms 9 = .ok (.iload_n 0, 1) := by decide +kernel
theorem dX5_howManyTerms_10 : decode cX5_howManyTerms 10 = .ok (.iload_n 1, 1) := by decide +kernel
theorem dX5_howManyTerms_11 : decode cX5_howManyTerms 11 = .ok (.iload_n 2, 1) := by decide +kernel
theorem dX5_howManyTerms_12 : decode cX5_howManyTerms 12 = .ok (.invokestatic 217, 3) := by decide +kernel
theorem dX5_howManyTerms_15 : decode cX5_howManyTerms 15 = .ok (.bipush (-9), 2) := by decide +kernel
theorem dX5_howManyTerms_17 : decode cX5_howManyTerms 17 = .ok (.if_icmp .eq 9, 3) := by decide +kernel
theorem dX5_howManyTerms_20 : decode cX5_howManyTerms 20 = .ok (.iinc 2 1, 3) := by decide +kernel
theorem dX5_howManyTerms_23 : decode cX5_howManyTerms 23 = .ok (.goto (-21), 3) := by decide +kernel
theorem dX5_howManyTerms_26 : decode cX5_howManyTerms 26 = .ok (.iload_n 2, 1) := by decide +kernel
theorem dX5_howManyTerms_27 : decode cX5_howManyTerms 27 = .ok (.ireturn, 1) := by decide +kernel
set_option maxRecDepth 20000 in
theorem ggX5_convergentPart_X5_termAt : GoodIn wsX5_convergentPart wsX5_termAt := goodIn_r _ [6] (by decide +kernel) (by decide +kernel)
set_option maxRecDepth 20000 in
theorem gX5_convergentPart_X5_termAt : GoodIn wsX5_convergentPart (va_wsS RX5 217 yX5_termAt wsX5_termAt) := goodIn_app (goodIn_of _ (by decide +kernel)) ggX5_convergentPart_X5_termAt
theorem dX5_convergentPart_0 : decode cX5_convergentPart 0 = .ok (.lload_n 3, 1) := by decide +kernel
theorem dX5_convergentPart_1 : decode cX5_convergentPart 1 = .ok (.lstore 7, 2) := by decide +kernel
theorem dX5_convergentPart_3 : decode cX5_convergentPart 3 = .ok (.lload 5, 2) := by decide +kernel
theorem dX5_convergentPart_5 : decode cX5_convergentPart 5 = .ok (.lstore 9, 2) := by decide +kernel
theorem dX5_convergentPart_7 : decode cX5_convergentPart 7 = .ok (.iconst 0, 1) := by decide +kernel
theorem dX5_convergentPart_8 : decode cX5_convergentPart 8 = .ok (.istore 11, 2) := by decide +kernel
theorem dX5_convergentPart_10 : decode cX5_convergentPart 10 = .ok (.iload 11, 2) := by decide +kernel
theorem dX5_convergentPart_12 : decode cX5_convergentPart 12 = .ok (.iload_n 2, 1) := by decide +kernel
theorem dX5_convergentPart_13 : decode cX5_convergentPart 13 = .ok (.if_icmp .gt 47, 3) := by decide +kernel
theorem dX5_convergentPart_16 : decode cX5_convergentPart 16 = .ok (.iload 11, 2) := by decide +kernel
theorem dX5_convergentPart_18 : decode cX5_convergentPart 18 = .ok (.sipush 200, 3) := by decide +kernel
theorem dX5_convergentPart_21 : decode cX5_convergentPart 21 = .ok (.if_icmp .ge 39, 3) := by decide +kernel
theorem dX5_convergentPart_24 : decode cX5_convergentPart 24 = .ok (.iload_n 1, 1) := by decide +kernel
theorem dX5_convergentPart_25 : decode cX5_convergentPart 25 = .ok (.aload_n 0, 1) := by decide +kernel
theorem dX5_convergentPart_26 : decode cX5_convergentPart 26 = .ok (.getfield 10, 3) := by decide +kernel
theorem dX5_convergentPart_29 : decode cX5_convergentPart 29 = .ok (.getfield 91, 3) := by decide +kernel
theorem dX5_convergentPart_32 : decode cX5_convergentPart 32 = .ok (.iload 11, 2) := by decide +kernel
theorem dX5_convergentPart_34 : decode cX5_convergentPart 34 = .ok (.invokestatic 217, 3) := by decide +kernel
theorem dX5_convergentPart_37 : decode cX5_convergentPart 37 = .ok (.i2l, 1) := by decide +kernel
theorem dX5_convergentPart_38 : decode cX5_convergentPart 38 = .ok (.lload 9, 2) := by decide +kernel
theorem dX5_convergentPart_40 : decode cX5_convergentPart 40 = .ok (.lmul, 1) := by decide +kernel
theorem dX5_convergentPart_41 : decode cX5_convergentPart 41 = .ok (.lload 7, 2) := by decide +kernel
theorem dX5_convergentPart_43 : decode cX5_convergentPart 43 = .ok (.ladd, 1) := by decide +kernel
theorem dX5_convergentPart_44 : decode cX5_convergentPart 44 = .ok (.lstore 12, 2) := by decide +kernel
theorem dX5_convergentPart_46 : decode cX5_convergentPart 46 = .ok (.lload 9, 2) := by decide +kernel
theorem dX5_convergentPart_48 : decode cX5_convergentPart 48 = .ok (.lstore 7, 2) := by decide +kernel
theorem dX5_convergentPart_50 : decode cX5_convergentPart 50 = .ok (.lload 12, 2) := by decide +kernel
theorem dX5_convergentPart_52 : decode cX5_convergentPart 52 = .ok (.lstore 9, 2) := by decide +kernel
theorem dX5_convergentPart_54 : decode cX5_convergentPart 54 = .ok (.iinc 11 1, 3) := by decide +kernel
theorem dX5_convergentPart_57 : decode cX5_convergentPart 57 = .ok (.goto (-47), 3) := by decide +kernel
theorem dX5_convergentPart_60 : decode cX5_convergentPart 60 = .ok (.lload 9, 2) := by decide +kernel
theorem dX5_convergentPart_62 : decode cX5_convergentPart 62 = .ok (.lreturn, 1) := by decide +kernel
theorem dX5_apart_0 : decode cX5_apart 0 = .ok (.iload_n 1, 1) := by decide +kernel
theorem dX5_apart_1 : decode cX5_apart 1 = .ok (.i2l, 1) := by decide +kernel
theorem dX5_apart_2 : decode cX5_apart 2 = .ok (.aload_n 0, 1) := by decide +kernel
theorem dX5_apart_3 : decode cX5_apart 3 = .ok (.getfield 10, 3) := by decide +kernel
theorem dX5_apart_6 : decode cX5_apart 6 = .ok (.getfield 91, 3) := by decide +kernel
theorem dX5_apart_9 : decode cX5_apart 9 = .ok (.i2l, 1) := by decide +kernel
theorem dX5_apart_10 : decode cX5_apart 10 = .ok (.lmul, 1) := by decide +kernel
theorem dX5_apart_11 : decode cX5_apart 11 = .ok (.iload_n 2, 1) := by decide +kernel
theorem dX5_apart_12 : decode cX5_apart 12 = .ok (.i2l, 1) := by decide +kernel
theorem dX5_apart_13 : decode cX5_apart 13 = .ok (.iload_n 3, 1) := by decide +kernel
theorem dX5_apart_14 : decode cX5_apart 14 = .ok (.i2l, 1) := by decide +kernel
theorem dX5_apart_15 : decode cX5_apart 15 = .ok (.lmul, 1) := by decide +kernel
theorem dX5_apart_16 : decode cX5_apart 16 = .ok (.lsub, 1) := by decide +kernel
theorem dX5_apart_17 : decode cX5_apart 17 = .ok (.invokestatic 329, 3) := by decide +kernel
theorem dX5_apart_20 : decode cX5_apart 20 = .ok (.lreturn, 1) := by decide +kernel
set_option maxRecDepth 20000 in
theorem ggX5_sumOfFloors_X5_quotient : GoodIn wsX5_sumOfFloors wsX5_quotient := goodIn_r _ [4] (by decide +kernel) (by decide +kernel)
set_option maxRecDepth 20000 in
theorem gX5_sumOfFloors_X5_quotient : GoodIn wsX5_sumOfFloors (va_wsS RX5 225 yX5_quotient wsX5_quotient) := goodIn_app (goodIn_of _ (by decide +kernel)) ggX5_sumOfFloors_X5_quotient
theorem dX5_sumOfFloors_0 : decode cX5_sumOfFloors 0 = .ok (.lconst 0, 1) := by decide +kernel
theorem dX5_sumOfFloors_1 : decode cX5_sumOfFloors 1 = .ok (.lstore 5, 2) := by decide +kernel
theorem dX5_sumOfFloors_3 : decode cX5_sumOfFloors 3 = .ok (.iconst 0, 1) := by decide +kernel
theorem dX5_sumOfFloors_4 : decode cX5_sumOfFloors 4 = .ok (.istore 7, 2) := by decide +kernel
theorem dX5_sumOfFloors_6 : decode cX5_sumOfFloors 6 = .ok (.iload 7, 2) := by decide +kernel
theorem dX5_sumOfFloors_8 : decode cX5_sumOfFloors 8 = .ok (.iload 4, 2) := by decide +kernel
theorem dX5_sumOfFloors_10 : decode cX5_sumOfFloors 10 = .ok (.if_icmp .ge 23, 3) := by decide +kernel
theorem dX5_sumOfFloors_13 : decode cX5_sumOfFloors 13 = .ok (.lload 5, 2) := by decide +kernel
theorem dX5_sumOfFloors_15 : decode cX5_sumOfFloors 15 = .ok (.iload 7, 2) := by decide +kernel
theorem dX5_sumOfFloors_17 : decode cX5_sumOfFloors 17 = .ok (.i2l, 1) := by decide +kernel
theorem dX5_sumOfFloors_18 : decode cX5_sumOfFloors 18 = .ok (.lload_n 0, 1) := by decide +kernel
theorem dX5_sumOfFloors_19 : decode cX5_sumOfFloors 19 = .ok (.lmul, 1) := by decide +kernel
theorem dX5_sumOfFloors_20 : decode cX5_sumOfFloors 20 = .ok (.lload_n 2, 1) := by decide +kernel
theorem dX5_sumOfFloors_21 : decode cX5_sumOfFloors 21 = .ok (.invokestatic 225, 3) := by decide +kernel
theorem dX5_sumOfFloors_24 : decode cX5_sumOfFloors 24 = .ok (.ladd, 1) := by decide +kernel
theorem dX5_sumOfFloors_25 : decode cX5_sumOfFloors 25 = .ok (.lstore 5, 2) := by decide +kernel
theorem dX5_sumOfFloors_27 : decode cX5_sumOfFloors 27 = .ok (.iinc 7 1, 3) := by decide +kernel
theorem dX5_sumOfFloors_30 : decode cX5_sumOfFloors 30 = .ok (.goto (-24), 3) := by decide +kernel
theorem dX5_sumOfFloors_33 : decode cX5_sumOfFloors 33 = .ok (.lload 5, 2) := by decide +kernel
theorem dX5_sumOfFloors_35 : decode cX5_sumOfFloors 35 = .ok (.lreturn, 1) := by decide +kernel
theorem dX5_nextSeed_0 : decode cX5_nextSeed 0 = .ok (.iload_n 0, 1) := by decide +kernel
theorem dX5_nextSeed_1 : decode cX5_nextSeed 1 = .ok (.ldc_w 333, 3) := by decide +kernel
theorem dX5_nextSeed_4 : decode cX5_nextSeed 4 = .ok (.imul, 1) := by decide +kernel
theorem dX5_nextSeed_5 : decode cX5_nextSeed 5 = .ok (.ldc_w 334, 3) := by decide +kernel
theorem dX5_nextSeed_8 : decode cX5_nextSeed 8 = .ok (.iadd, 1) := by decide +kernel
theorem dX5_nextSeed_9 : decode cX5_nextSeed 9 = .ok (.ireturn, 1) := by decide +kernel
set_option maxRecDepth 20000 in
theorem ggX5_drawn_X5_rest : GoodIn wsX5_drawn wsX5_rest := goodIn_r _ [5] (by decide +kernel) (by decide +kernel)
set_option maxRecDepth 20000 in
theorem gX5_drawn_X5_rest : GoodIn wsX5_drawn (va_wsS RX5 208 yX5_rest wsX5_rest) := goodIn_app (goodIn_of _ (by decide +kernel)) ggX5_drawn_X5_rest
theorem dX5_drawn_0 : decode cX5_drawn 0 = .ok (.iload_n 0, 1) := by decide +kernel
theorem dX5_drawn_1 : decode cX5_drawn 1 = .ok (.ldc_w 335, 3) := by decide +kernel
theorem dX5_drawn_4 : decode cX5_drawn 4 = .ok (.iand, 1) := by decide +kernel
theorem dX5_drawn_5 : decode cX5_drawn 5 = .ok (.sipush 256, 3) := by decide +kernel
theorem dX5_drawn_8 : decode cX5_drawn 8 = .ok (.idiv, 1) := by decide +kernel
theorem dX5_drawn_9 : decode cX5_drawn 9 = .ok (.i2l, 1) := by decide +kernel
theorem dX5_drawn_10 : decode cX5_drawn 10 = .ok (.iload_n 1, 1) := by decide +kernel
theorem dX5_drawn_11 : decode cX5_drawn 11 = .ok (.i2l, 1) := by decide +kernel
theorem dX5_drawn_12 : decode cX5_drawn 12 = .ok (.invokestatic 208, 3) := by decide +kernel
theorem dX5_drawn_15 : decode cX5_drawn 15 = .ok (.l2i, 1) := by decide +kernel
theorem dX5_drawn_16 : decode cX5_drawn 16 = .ok (.ireturn, 1) := by decide +kernel
set_option maxRecDepth 20000 in
theorem ggX5_rowOf_X5_isBelow : GoodIn wsX5_rowOf wsX5_isBelow := goodIn_r _ [5] (by decide +kernel) (by decide +kernel)
set_option maxRecDepth 20000 in
theorem gX5_rowOf_X5_isBelow : GoodIn wsX5_rowOf (va_wsS RX5 109 yX5_isBelow wsX5_isBelow) := goodIn_app (goodIn_of _ (by decide +kernel)) ggX5_rowOf_X5_isBelow
theorem dX5_rowOf_0 : decode cX5_rowOf 0 = .ok (.iload_n 1, 1) := by decide +kernel
theorem dX5_rowOf_1 : decode cX5_rowOf 1 = .ok (.aload_n 0, 1) := by decide +kernel
theorem dX5_rowOf_2 : decode cX5_rowOf 2 = .ok (.getfield 42, 3) := by decide +kernel
theorem dX5_rowOf_5 : decode cX5_rowOf 5 = .ok (.arraylength, 1) := by decide +kernel
theorem dX5_rowOf_6 : decode cX5_rowOf 6 = .ok (.invokestatic 109, 3) := by decide +kernel
theorem dX5_rowOf_9 : decode cX5_rowOf 9 = .ok (.ifCond .eq 12, 3) := by decide +kernel
theorem dX5_rowOf_12 : decode cX5_rowOf 12 = .ok (.aload_n 0, 1) := by decide +kernel
theorem dX5_rowOf_13 : decode cX5_rowOf 13 = .ok (.getfield 42, 3) := by decide +kernel
theorem dX5_rowOf_16 : decode cX5_rowOf 16 = .ok (.iload_n 1, 1) := by decide +kernel
theorem dX5_rowOf_17 : decode cX5_rowOf 17 = .ok (.aaload, 1) := by decide +kernel
theorem dX5_rowOf_18 : decode cX5_rowOf 18 = .ok (.goto 4, 3) := by decide +kernel
theorem dX5_rowOf_21 : decode cX5_rowOf 21 = .ok (.aconst_null, 1) := by decide +kernel
theorem dX5_rowOf_22 : decode cX5_rowOf 22 = .ok (.areturn, 1) := by decide +kernel
set_option maxRecDepth 20000 in
theorem ggX5_tellsPlaces_X2_get : GoodIn wsX5_tellsPlaces wsX2_get := goodIn_r _ [8, 9, 10, 11, 12, 7, 13, 14, 15, 16, 17, 19, 20] (by decide +kernel) (by decide +kernel)
set_option maxRecDepth 20000 in
theorem gX5_tellsPlaces_X2_get : GoodIn wsX5_tellsPlaces (wsV RX5 261 RX2 yX2_get wsX2_get) := goodIn_app (goodIn_of _ (by decide +kernel)) ggX5_tellsPlaces_X2_get
set_option maxRecDepth 20000 in
theorem ggX5_tellsPlaces_X5_isBelow : GoodIn wsX5_tellsPlaces wsX5_isBelow := goodIn_r _ [17] (by decide +kernel) (by decide +kernel)
set_option maxRecDepth 20000 in
theorem gX5_tellsPlaces_X5_isBelow : GoodIn wsX5_tellsPlaces (va_wsS RX5 109 yX5_isBelow wsX5_isBelow) := goodIn_app (goodIn_of _ (by decide +kernel)) ggX5_tellsPlaces_X5_isBelow
theorem dX5_tellsPlaces_0 : decode cX5_tellsPlaces 0 = .ok (.iconst 0, 1) := by decide +kernel
theorem dX5_tellsPlaces_1 : decode cX5_tellsPlaces 1 = .ok (.istore_n 2, 1) := by decide +kernel
theorem dX5_tellsPlaces_2 : decode cX5_tellsPlaces 2 = .ok (.iload_n 2, 1) := by decide +kernel
theorem dX5_tellsPlaces_3 : decode cX5_tellsPlaces 3 = .ok (.aload_n 1, 1) := by decide +kernel
theorem dX5_tellsPlaces_4 : decode cX5_tellsPlaces 4 = .ok (.getfield 262, 3) := by decide +kernel
theorem dX5_tellsPlaces_7 : decode cX5_tellsPlaces 7 = .ok (.if_icmp .ge 29, 3) := by decide +kernel
theorem dX5_tellsPlaces_10 : decode cX5_tellsPlaces 10 = .ok (.aload_n 1, 1) := by decide +kernel
theorem dX5_tellsPlaces_11 : decode cX5_tellsPlaces 11 = .ok (.iload_n 2, 1) := by decide +kernel
theorem dX5_tellsPlaces_12 : decode cX5_tellsPlaces 12 = .ok (.invokevirtual 261, 3) := by decide +kernel
theorem dX5_tellsPlaces_15 : decode cX5_tellsPlaces 15 = .ok (.aload_n 0, 1) := by decide +kernel
theorem dX5_tellsPlaces_16 : decode cX5_tellsPlaces 16 = .ok (.getfield 10, 3) := by decide +kernel
theorem dX5_tellsPlaces_19 : decode cX5_tellsPlaces 19 = .ok (.getfield 91, 3) := by decide +kernel
theorem dX5_tellsPlaces_22 : decode cX5_tellsPlaces 22 = .ok (.invokestatic 109, 3) := by decide +kernel
theorem dX5_tellsPlaces_25 : decode cX5_tellsPlaces 25 = .ok (.ifCond .ne 5, 3) := by decide +kernel
theorem dX5_tellsPlaces_28 : decode cX5_tellsPlaces 28 = .ok (.iconst 0, 1) := by decide +kernel
theorem dX5_tellsPlaces_29 : decode cX5_tellsPlaces 29 = .ok (.ireturn, 1) := by decide +kernel
theorem dX5_tellsPlaces_30 : decode cX5_tellsPlaces 30 = .ok (.iinc 2 1, 3) := by decide +kernel
theorem dX5_tellsPlaces_33 : decode cX5_tellsPlaces 33 = .ok (.goto (-31), 3) := by decide +kernel
theorem dX5_tellsPlaces_36 : decode cX5_tellsPlaces 36 = .ok (.aload_n 1, 1) := by decide +kernel
theorem dX5_tellsPlaces_37 : decode cX5_tellsPlaces 37 = .ok (.getfield 262, 3) := by decide +kernel
theorem dX5_tellsPlaces_40 : decode cX5_tellsPlaces 40 = .ok (.iconst 2, 1) := by decide +kernel
theorem dX5_tellsPlaces_41 : decode cX5_tellsPlaces 41 = .ok (.if_icmp .lt 7, 3) := by decide +kernel
theorem dX5_tellsPlaces_44 : decode cX5_tellsPlaces 44 = .ok (.iconst 1, 1) := by decide +kernel
theorem dX5_tellsPlaces_45 : decode cX5_tellsPlaces 45 = .ok (.goto 4, 3) := by decide +kernel
theorem dX5_tellsPlaces_48 : decode cX5_tellsPlaces 48 = .ok (.iconst 0, 1) := by decide +kernel
theorem dX5_tellsPlaces_49 : decode cX5_tellsPlaces 49 = .ok (.ireturn, 1) := by decide +kernel
set_option maxRecDepth 20000 in
theorem ggX5_firstOtherwise_X2_get : GoodIn wsX5_firstOtherwise wsX2_get := goodIn_r _ [7, 8, 9, 10, 11, 6, 12, 13, 14, 15, 16, 37, 38] (by decide +kernel) (by decide +kernel)
set_option maxRecDepth 20000 in
theorem gX5_firstOtherwise_X2_get : GoodIn wsX5_firstOtherwise (wsV RX5 261 RX2 yX2_get wsX2_get) := goodIn_app (goodIn_of _ (by decide +kernel)) ggX5_firstOtherwise_X2_get
set_option maxRecDepth 20000 in
theorem ggX5_firstOtherwise_X1_placeBy : GoodIn wsX5_firstOtherwise wsX1_placeBy := goodIn_r _ [21, 22, 23, 24, 25, 20, 26, 27, 14, 15, 16, 28, 29, 30, 31, 32, 33, 34, 35, 36, 50, 51, 52] (by decide +kernel) (by decide +kernel)
set_option maxRecDepth 20000 in
theorem gX5_firstOtherwise_X1_placeBy : GoodIn wsX5_firstOtherwise (wsV RX5 336 RX1 yX1_placeBy wsX1_placeBy) := goodIn_app (goodIn_of _ (by decide +kernel)) ggX5_firstOtherwise_X1_placeBy
theorem dX5_firstOtherwise_0 : decode cX5_firstOtherwise 0 = .ok (.iconst 0, 1) := by decide +kernel
theorem dX5_firstOtherwise_1 : decode cX5_firstOtherwise 1 = .ok (.istore 4, 2) := by decide +kernel
theorem dX5_firstOtherwise_3 : decode cX5_firstOtherwise 3 = .ok (.iload 4, 2) := by decide +kernel
theorem dX5_firstOtherwise_5 : decode cX5_firstOtherwise 5 = .ok (.aload_n 1, 1) := by decide +kernel
theorem dX5_firstOtherwise_6 : decode cX5_firstOtherwise 6 = .ok (.getfield 262, 3) := by decide +kernel
theorem dX5_firstOtherwise_9 : decode cX5_firstOtherwise 9 = .ok (.if_icmp .ge 33, 3) := by decide +kernel
theorem dX5_firstOtherwise_12 : decode cX5_firstOtherwise 12 = .ok (.aload_n 1, 1) := by decide +kernel
theorem dX5_firstOtherwise_13 : decode cX5_firstOtherwise 13 = .ok (.iload 4, 2) := by decide +kernel
theorem dX5_firstOtherwise_15 : decode cX5_firstOtherwise 15 = .ok (.invokevirtual 261, 3) := by decide +kernel
theorem dX5_firstOtherwise_18 : decode cX5_firstOtherwise 18 = .ok (.aload_n 0, 1) := by decide +kernel
theorem dX5_firstOtherwise_19 : decode cX5_firstOtherwise 19 = .ok (.getfield 10, 3) := by decide +kernel
theorem dX5_firstOtherwise_22 : decode cX5_firstOtherwise 22 = .ok (.iload_n 3, 1) := by decide +kernel
theorem dX5_firstOtherwise_23 : decode cX5_firstOtherwise 23 = .ok (.iload_n 2, 1) := by decide +kernel
theorem dX5_firstOtherwise_24 : decode cX5_firstOtherwise 24 = .ok (.iload 4, 2) := by decide +kernel
theorem dX5_firstOtherwise_26 : decode cX5_firstOtherwise 26 = .ok (.i2l, 1) := by decide +kernel
theorem dX5_firstOtherwise_27 : decode cX5_firstOtherwise 27 = .ok (.invokevirtual 336, 3) := by decide +kernel
theorem dX5_firstOtherwise_30 : decode cX5_firstOtherwise 30 = .ok (.if_icmp .eq 6, 3) := by decide +kernel
theorem dX5_firstOtherwise_33 : decode cX5_firstOtherwise 33 = .ok (.iload 4, 2) := by decide +kernel
theorem dX5_firstOtherwise_35 : decode cX5_firstOtherwise 35 = .ok (.ireturn, 1) := by decide +kernel
theorem dX5_firstOtherwise_36 : decode cX5_firstOtherwise 36 = .ok (.iinc 4 1, 3) := by decide +kernel
theorem dX5_firstOtherwise_39 : decode cX5_firstOtherwise 39 = .ok (.goto (-36), 3) := by decide +kernel
theorem dX5_firstOtherwise_42 : decode cX5_firstOtherwise 42 = .ok (.bipush (-9), 2) := by decide +kernel
theorem dX5_firstOtherwise_44 : decode cX5_firstOtherwise 44 = .ok (.ireturn, 1) := by decide +kernel
set_option maxRecDepth 20000 in
theorem ggX5_stepBy_X2_get : GoodIn wsX5_stepBy wsX2_get := goodIn_r _ [7, 8, 9, 10, 11, 6, 12, 13, 14, 15, 16, 36, 37] (by decide +kernel) (by decide +kernel)
set_option maxRecDepth 20000 in
theorem gX5_stepBy_X2_get : GoodIn wsX5_stepBy (wsV RX5 261 RX2 yX2_get wsX2_get) := goodIn_app (goodIn_of _ (by decide +kernel)) ggX5_stepBy_X2_get
set_option maxRecDepth 20000 in
theorem ggX5_stepBy_X1_around : GoodIn wsX5_stepBy wsX1_around := goodIn_r _ [21, 22, 23, 15, 24, 38, 39, 40] (by decide +kernel) (by decide +kernel)
set_option maxRecDepth 20000 in
theorem gX5_stepBy_X1_around : GoodIn wsX5_stepBy (wsV RX5 175 RX1 yX1_around wsX1_around) := goodIn_app (goodIn_of _ (by decide +kernel)) ggX5_stepBy_X1_around
theorem dX5_stepBy_0 : decode cX5_stepBy 0 = .ok (.aload_n 0, 1) := by decide +kernel
theorem dX5_stepBy_1 : decode cX5_stepBy 1 = .ok (.getfield 10, 3) := by decide +kernel
theorem dX5_stepBy_4 : decode cX5_stepBy 4 = .ok (.aload_n 1, 1) := by decide +kernel
theorem dX5_stepBy_5 : decode cX5_stepBy 5 = .ok (.iconst 1, 1) := by decide +kernel
theorem dX5_stepBy_6 : decode cX5_stepBy 6 = .ok (.invokevirtual 261, 3) := by decide +kernel
theorem dX5_stepBy_9 : decode cX5_stepBy 9 = .ok (.aload_n 1, 1) := by decide +kernel
theorem dX5_stepBy_10 : decode cX5_stepBy 10 = .ok (.iconst 0, 1) := by decide +kernel
theorem dX5_stepBy_11 : decode cX5_stepBy 11 = .ok (.invokevirtual 261, 3) := by decide +kernel
theorem dX5_stepBy_14 : decode cX5_stepBy 14 = .ok (.isub, 1) := by decide +kernel
theorem dX5_stepBy_15 : decode cX5_stepBy 15 = .ok (.i2l, 1) := by decide +kernel
theorem dX5_stepBy_16 : decode cX5_stepBy 16 = .ok (.invokevirtual 175, 3) := by decide +kernel
theorem dX5_stepBy_19 : decode cX5_stepBy 19 = .ok (.istore_n 2, 1) := by decide +kernel
theorem dX5_stepBy_20 : decode cX5_stepBy 20 = .ok (.iconst 2, 1) := by decide +kernel
theorem dX5_stepBy_21 : decode cX5_stepBy 21 = .ok (.istore_n 3, 1) := by decide +kernel
theorem dX5_stepBy_22 : decode cX5_stepBy 22 = .ok (.iload_n 3, 1) := by decide +kernel
theorem dX5_stepBy_23 : decode cX5_stepBy 23 = .ok (.aload_n 1, 1) := by decide +kernel
theorem dX5_stepBy_24 : decode cX5_stepBy 24 = .ok (.getfield 262, 3) := by decide +kernel
theorem dX5_stepBy_27 : decode cX5_stepBy 27 = .ok (.if_icmp .ge 37, 3) := by decide +kernel
theorem dX5_stepBy_30 : decode cX5_stepBy 30 = .ok (.aload_n 1, 1) := by decide +kernel
theorem dX5_stepBy_31 : decode cX5_stepBy 31 = .ok (.iload_n 3, 1) := by decide +kernel
theorem dX5_stepBy_32 : decode cX5_stepBy 32 = .ok (.invokevirtual 261, 3) := by decide +kernel
theorem dX5_stepBy_35 : decode cX5_stepBy 35 = .ok (.aload_n 0, 1) := by decide +kernel
theorem dX5_stepBy_36 : decode cX5_stepBy 36 = .ok (.getfield 10, 3) := by decide +kernel
theorem dX5_stepBy_39 : decode cX5_stepBy 39 = .ok (.aload_n 1, 1) := by decide +kernel
theorem dX5_stepBy_40 : decode cX5_stepBy 40 = .ok (.iload_n 3, 1) := by decide +kernel
theorem dX5_stepBy_41 : decode cX5_stepBy 41 = .ok (.iconst 1, 1) := by decide +kernel
theorem dX5_stepBy_42 : decode cX5_stepBy 42 = .ok (.isub, 1) := by decide +kernel
theorem dX5_stepBy_43 : decode cX5_stepBy 43 = .ok (.invokevirtual 261, 3) := by decide +kernel
theorem dX5_stepBy_46 : decode cX5_stepBy 46 = .ok (.iload_n 2, 1) := by decide +kernel
theorem dX5_stepBy_47 : decode cX5_stepBy 47 = .ok (.iadd, 1) := by decide +kernel
theorem dX5_stepBy_48 : decode cX5_stepBy 48 = .ok (.i2l, 1) := by decide +kernel
theorem dX5_stepBy_49 : decode cX5_stepBy 49 = .ok (.invokevirtual 175, 3) := by decide +kernel
theorem dX5_stepBy_52 : decode cX5_stepBy 52 = .ok (.if_icmp .eq 6, 3) := by decide +kernel
theorem dX5_stepBy_55 : decode cX5_stepBy 55 = .ok (.bipush (-9), 2) := by decide +kernel
theorem dX5_stepBy_57 : decode cX5_stepBy 57 = .ok (.ireturn, 1) := by decide +kernel
theorem dX5_stepBy_58 : decode cX5_stepBy 58 = .ok (.iinc 3 1, 3) := by decide +kernel
theorem dX5_stepBy_61 : decode cX5_stepBy 61 = .ok (.goto (-39), 3) := by decide +kernel
theorem dX5_stepBy_64 : decode cX5_stepBy 64 = .ok (.iload_n 2, 1) := by decide +kernel
theorem dX5_stepBy_65 : decode cX5_stepBy 65 = .ok (.ireturn, 1) := by decide +kernel
