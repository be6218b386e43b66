theorem dX0_init_0 : decode cX0_init 0 = .ok (.aload_n 0, 1) := by decide +kernel
theorem dX0_init_1 : decode cX0_init 1 = .ok (.invokespecial 3, 3) := by decide +kernel
theorem dX0_init_4 : decode cX0_init 4 = .ok (.aload_n 0, 1) := by decide +kernel
theorem dX0_init_5 : decode cX0_init 5 = .ok (.iconst 0, 1) := by decide +kernel
theorem dX0_init_6 : decode cX0_init 6 = .ok (.putfield 9, 3) := by decide +kernel
theorem dX0_init_9 : decode cX0_init 9 = .ok (.aload_n 0, 1) := by decide +kernel
theorem dX0_init_10 : decode cX0_init 10 = .ok (.bipush 48, 2) := by decide +kernel
theorem dX0_init_12 : decode cX0_init 12 = .ok (.newarray .int, 2) := by decide +kernel
theorem dX0_init_14 : decode cX0_init 14 = .ok (.putfield 15, 3) := by decide +kernel
theorem dX0_init_17 : decode cX0_init 17 = .ok (.return_, 1) := by decide +kernel
theorem dX0_clear_0 : decode cX0_clear 0 = .ok (.aload_n 0, 1) := by decide +kernel
theorem dX0_clear_1 : decode cX0_clear 1 = .ok (.iconst 0, 1) := by decide +kernel
theorem dX0_clear_2 : decode cX0_clear 2 = .ok (.putfield 9, 3) := by decide +kernel
theorem dX0_clear_5 : decode cX0_clear 5 = .ok (.return_, 1) := by decide +kernel
set_option maxRecDepth 20000 in
theorem ggX0_keep_X0_setKept : GoodIn wsX0_keep wsX0_setKept := goodIn_r _ [11, 2, 12, 13, 14, 15, 16] (by decide +kernel) (by decide +kernel)
set_option maxRecDepth 20000 in
theorem gX0_keep_X0_setKept : GoodIn wsX0_keep (wsV RX0 25 RX0 yX0_setKept wsX0_setKept) := goodIn_app (goodIn_of _ (by decide +kernel)) ggX0_keep_X0_setKept
theorem dX0_keep_0 : decode cX0_keep 0 = .ok (.aload_n 0, 1) := by decide +kernel
theorem dX0_keep_1 : decode cX0_keep 1 = .ok (.getfield 9, 3) := by decide +kernel
theorem dX0_keep_4 : decode cX0_keep 4 = .ok (.bipush 16, 2) := by decide +kernel
theorem dX0_keep_6 : decode cX0_keep 6 = .ok (.if_icmp .lt 29, 3) := by decide +kernel
theorem dX0_keep_9 : decode cX0_keep 9 = .ok (.aload_n 0, 1) := by decide +kernel
theorem dX0_keep_10 : decode cX0_keep 10 = .ok (.getfield 15, 3) := by decide +kernel
theorem dX0_keep_13 : decode cX0_keep 13 = .ok (.iconst 3, 1) := by decide +kernel
theorem dX0_keep_14 : decode cX0_keep 14 = .ok (.aload_n 0, 1) := by decide +kernel
theorem dX0_keep_15 : decode cX0_keep 15 = .ok (.getfield 15, 3) := by decide +kernel
theorem dX0_keep_18 : decode cX0_keep 18 = .ok (.iconst 0, 1) := by decide +kernel
theorem dX0_keep_19 : decode cX0_keep 19 = .ok (.aload_n 0, 1) := by decide +kernel
theorem dX0_keep_20 : decode cX0_keep 20 = .ok (.getfield 15, 3) := by decide +kernel
theorem dX0_keep_23 : decode cX0_keep 23 = .ok (.arraylength, 1) := by decide +kernel
theorem dX0_keep_24 : decode cX0_keep 24 = .ok (.iconst 3, 1) := by decide +kernel
theorem dX0_keep_25 : decode cX0_keep 25 = .ok (.isub, 1) := by decide +kernel
theorem dX0_keep_26 : decode cX0_keep 26 = .ok (.invokestatic 19, 3) := by decide +kernel
theorem dX0_keep_29 : decode cX0_keep 29 = .ok (.aload_n 0, 1) := by decide +kernel
theorem dX0_keep_30 : decode cX0_keep 30 = .ok (.bipush 15, 2) := by decide +kernel
theorem dX0_keep_32 : decode cX0_keep 32 = .ok (.putfield 9, 3) := by decide +kernel
theorem dX0_keep_35 : decode cX0_keep 35 = .ok (.aload_n 0, 1) := by decide +kernel
theorem dX0_keep_36 : decode cX0_keep 36 = .ok (.aload_n 0, 1) := by decide +kernel
theorem dX0_keep_37 : decode cX0_keep 37 = .ok (.getfield 9, 3) := by decide +kernel
theorem dX0_keep_40 : decode cX0_keep 40 = .ok (.iconst 3, 1) := by decide +kernel
theorem dX0_keep_41 : decode cX0_keep 41 = .ok (.imul, 1) := by decide +kernel
theorem dX0_keep_42 : decode cX0_keep 42 = .ok (.iload_n 1, 1) := by decide +kernel
theorem dX0_keep_43 : decode cX0_keep 43 = .ok (.invokevirtual 25, 3) := by decide +kernel
theorem dX0_keep_46 : decode cX0_keep 46 = .ok (.aload_n 0, 1) := by decide +kernel
theorem dX0_keep_47 : decode cX0_keep 47 = .ok (.aload_n 0, 1) := by decide +kernel
theorem dX0_keep_48 : decode cX0_keep 48 = .ok (.getfield 9, 3) := by decide +kernel
theorem dX0_keep_51 : decode cX0_keep 51 = .ok (.iconst 3, 1) := by decide +kernel
theorem dX0_keep_52 : decode cX0_keep 52 = .ok (.imul, 1) := by decide +kernel
theorem dX0_keep_53 : decode cX0_keep 53 = .ok (.iconst 1, 1) := by decide +kernel
theorem dX0_keep_54 : decode cX0_keep 54 = .ok (.iadd, 1) := by decide +kernel
theorem dX0_keep_55 : decode cX0_keep 55 = .ok (.iload_n 2, 1) := by decide +kernel
theorem dX0_keep_56 : decode cX0_keep 56 = .ok (.invokevirtual 25, 3) := by decide +kernel
theorem dX0_keep_59 : decode cX0_keep 59 = .ok (.aload_n 0, 1) := by decide +kernel
theorem dX0_keep_60 : decode cX0_keep 60 = .ok (.aload_n 0, 1) := by decide +kernel
theorem dX0_keep_61 : decode cX0_keep 61 = .ok (.getfield 9, 3) := by decide +kernel
theorem dX0_keep_64 : decode cX0_keep 64 = .ok (.iconst 3, 1) := by decide +kernel
theorem dX0_keep_65 : decode cX0_keep 65 = .ok (.imul, 1) := by decide +kernel
theorem dX0_keep_66 : decode cX0_keep 66 = .ok (.iconst 2, 1) := by decide +kernel
theorem dX0_keep_67 : decode cX0_keep 67 = .ok (.iadd, 1) := by decide +kernel
theorem dX0_keep_68 : decode cX0_keep 68 = .ok (.iload_n 3, 1) := by decide +kernel
theorem dX0_keep_69 : decode cX0_keep 69 = .ok (.invokevirtual 25, 3) := by decide +kernel
theorem dX0_keep_72 : decode cX0_keep 72 = .ok (.aload_n 0, 1) := by decide +kernel
theorem dX0_keep_73 : decode cX0_keep 73 = .ok (.dup, 1) := by decide +kernel
theorem dX0_keep_74 : decode cX0_keep 74 = .ok (.getfield 9, 3) := by decide +kernel
theorem dX0_keep_77 : decode cX0_keep 77 = .ok (.iconst 1, 1) := by decide +kernel
theorem dX0_keep_78 : decode cX0_keep 78 = .ok (.iadd, 1) := by decide +kernel
theorem dX0_keep_79 : decode cX0_keep 79 = .ok (.putfield 9, 3) := by decide +kernel
theorem dX0_keep_82 : decode cX0_keep 82 = .ok (.return_, 1) := by decide +kernel
theorem dX0_forgetLast_0 : decode cX0_forgetLast 0 = .ok (.aload_n 0, 1) := by decide +kernel
theorem dX0_forgetLast_1 : decode cX0_forgetLast 1 = .ok (.getfield 9, 3) := by decide +kernel
theorem dX0_forgetLast_4 : decode cX0_forgetLast 4 = .ok (.ifCond .le 13, 3) := by decide +kernel
theorem dX0_forgetLast_7 : decode cX0_forgetLast 7 = .ok (.aload_n 0, 1) := by decide +kernel
theorem dX0_forgetLast_8 : decode cX0_forgetLast 8 = .ok (.dup, 1) := by decide +kernel
theorem dX0_forgetLast_9 : decode cX0_forgetLast 9 = .ok (.getfield 9, 3) := by decide +kernel
theorem dX0_forgetLast_12 : decode cX0_forgetLast 12 = .ok (.iconst 1, 1) := by decide +kernel
theorem dX0_forgetLast_13 : decode cX0_forgetLast 13 = .ok (.isub, 1) := by decide +kernel
theorem dX0_forgetLast_14 : decode cX0_forgetLast 14 = .ok (.putfield 9, 3) := by decide +kernel
theorem dX0_forgetLast_17 : decode cX0_forgetLast 17 = .ok (.return_, 1) := by decide +kernel
set_option maxRecDepth 20000 in
theorem ggX0_walkerAt_X0_keptAt : GoodIn wsX0_walkerAt wsX0_keptAt := goodIn_r _ [5, 6, 7, 8, 9, 10, 11] (by decide +kernel) (by decide +kernel)
set_option maxRecDepth 20000 in
theorem gX0_walkerAt_X0_keptAt : GoodIn wsX0_walkerAt (wsV RX0 29 RX0 yX0_keptAt wsX0_keptAt) := goodIn_app (goodIn_of _ (by decide +kernel)) ggX0_walkerAt_X0_keptAt
theorem dX0_walkerAt_0 : decode cX0_walkerAt 0 = .ok (.aload_n 0, 1) := by decide +kernel
theorem dX0_walkerAt_1 : decode cX0_walkerAt 1 = .ok (.iload_n 1, 1) := by decide +kernel
theorem dX0_walkerAt_2 : decode cX0_walkerAt 2 = .ok (.iconst 3, 1) := by decide +kernel
theorem dX0_walkerAt_3 : decode cX0_walkerAt 3 = .ok (.imul, 1) := by decide +kernel
theorem dX0_walkerAt_4 : decode cX0_walkerAt 4 = .ok (.invokevirtual 29, 3) := by decide +kernel
theorem dX0_walkerAt_7 : decode cX0_walkerAt 7 = .ok (.ireturn, 1) := by decide +kernel
set_option maxRecDepth 20000 in
theorem ggX0_whatAt_X0_keptAt : GoodIn wsX0_whatAt wsX0_keptAt := goodIn_r _ [5, 6, 7, 8, 9, 10, 11] (by decide +kernel) (by decide +kernel)
set_option maxRecDepth 20000 in
theorem gX0_whatAt_X0_keptAt : GoodIn wsX0_whatAt (wsV RX0 29 RX0 yX0_keptAt wsX0_keptAt) := goodIn_app (goodIn_of _ (by decide +kernel)) ggX0_whatAt_X0_keptAt
theorem dX0_whatAt_0 : decode cX0_whatAt 0 = .ok (.aload_n 0, 1) := by decide +kernel
theorem dX0_whatAt_1 : decode cX0_whatAt 1 = .ok (.iload_n 1, 1) := by decide +kernel
theorem dX0_whatAt_2 : decode cX0_whatAt 2 = .ok (.iconst 3, 1) := by decide +kernel
theorem dX0_whatAt_3 : decode cX0_whatAt 3 = .ok (.imul, 1) := by decide +kernel
theorem dX0_whatAt_4 : decode cX0_whatAt 4 = .ok (.iconst 1, 1) := by decide +kernel
theorem dX0_whatAt_5 : decode cX0_whatAt 5 = .ok (.iadd, 1) := by decide +kernel
theorem dX0_whatAt_6 : decode cX0_whatAt 6 = .ok (.invokevirtual 29, 3) := by decide +kernel
theorem dX0_whatAt_9 : decode cX0_whatAt 9 = .ok (.ireturn, 1) := by decide +kernel
set_option maxRecDepth 20000 in
theorem ggX0_wasAt_X0_keptAt : GoodIn wsX0_wasAt wsX0_keptAt := goodIn_r _ [5, 6, 7, 8, 9, 10, 11] (by decide +kernel) (by decide +kernel)
set_option maxRecDepth 20000 in
theorem gX0_wasAt_X0_keptAt : GoodIn wsX0_wasAt (wsV RX0 29 RX0 yX0_keptAt wsX0_keptAt) := goodIn_app (goodIn_of _ (by decide +kernel)) ggX0_wasAt_X0_keptAt
theorem dX0_wasAt_0 : decode cX0_wasAt 0 = .ok (.aload_n 0, 1) := by decide +kernel
theorem dX0_wasAt_1 : decode cX0_wasAt 1 = .ok (.iload_n 1, 1) := by decide +kernel
theorem dX0_wasAt_2 : decode cX0_wasAt 2 = .ok (.iconst 3, 1) := by decide +kernel
theorem dX0_wasAt_3 : decode cX0_wasAt 3 = .ok (.imul, 1) := by decide +kernel
theorem dX0_wasAt_4 : decode cX0_wasAt 4 = .ok (.iconst 2, 1) := by decide +kernel
theorem dX0_wasAt_5 : decode cX0_wasAt 5 = .ok (.iadd, 1) := by decide +kernel
theorem dX0_wasAt_6 : decode cX0_wasAt 6 = .ok (.invokevirtual 29, 3) := by decide +kernel
theorem dX0_wasAt_9 : decode cX0_wasAt 9 = .ok (.ireturn, 1) := by decide +kernel
set_option maxRecDepth 20000 in
theorem ggX0_setKept_X5_isBelow : GoodIn wsX0_setKept wsX5_isBelow := goodIn_r _ [4] (by decide +kernel) (by decide +kernel)
set_option maxRecDepth 20000 in
theorem gX0_setKept_X5_isBelow_n33 : GoodIn wsX0_setKept (wsX5_isBelow) := ggX0_setKept_X5_isBelow
theorem dX0_setKept_0 : decode cX0_setKept 0 = .ok (.iload_n 1, 1) := by decide +kernel
theorem dX0_setKept_1 : decode cX0_setKept 1 = .ok (.aload_n 0, 1) := by decide +kernel
theorem dX0_setKept_2 : decode cX0_setKept 2 = .ok (.getfield 15, 3) := by decide +kernel
theorem dX0_setKept_5 : decode cX0_setKept 5 = .ok (.arraylength, 1) := by decide +kernel
theorem dX0_setKept_6 : decode cX0_setKept 6 = .ok (.invokestatic 33, 3) := by decide +kernel
theorem dX0_setKept_9 : decode cX0_setKept 9 = .ok (.ifCond .eq 10, 3) := by decide +kernel
theorem dX0_setKept_12 : decode cX0_setKept 12 = .ok (.aload_n 0, 1) := by decide +kernel
theorem dX0_setKept_13 : decode cX0_setKept 13 = .ok (.getfield 15, 3) := by decide +kernel
theorem dX0_setKept_16 : decode cX0_setKept 16 = .ok (.iload_n 1, 1) := by decide +kernel
theorem dX0_setKept_17 : decode cX0_setKept 17 = .ok (.iload_n 2, 1) := by decide +kernel
theorem dX0_setKept_18 : decode cX0_setKept 18 = .ok (.iastore, 1) := by decide +kernel
theorem dX0_setKept_19 : decode cX0_setKept 19 = .ok (.return_, 1) := by decide +kernel
set_option maxRecDepth 20000 in
theorem ggX0_keptAt_X5_isBelow : GoodIn wsX0_keptAt wsX5_isBelow := goodIn_r _ [4] (by decide +kernel) (by decide +kernel)
set_option maxRecDepth 20000 in
theorem gX0_keptAt_X5_isBelow_n33 : GoodIn wsX0_keptAt (wsX5_isBelow) := ggX0_keptAt_X5_isBelow
theorem dX0_keptAt_0 : decode cX0_keptAt 0 = .ok (.iload_n 1, 1) := by decide +kernel
theorem dX0_keptAt_1 : decode cX0_keptAt 1 = .ok (.aload_n 0, 1) := by decide +kernel
theorem dX0_keptAt_2 : decode cX0_keptAt 2 = .ok (.getfield 15, 3) := by decide +kernel
theorem dX0_keptAt_5 : decode cX0_keptAt 5 = .ok (.arraylength, 1) := by decide +kernel
theorem dX0_keptAt_6 : decode cX0_keptAt 6 = .ok (.invokestatic 33, 3) := by decide +kernel
theorem dX0_keptAt_9 : decode cX0_keptAt 9 = .ok (.ifCond .eq 12, 3) := by decide +kernel
theorem dX0_keptAt_12 : decode cX0_keptAt 12 = .ok (.aload_n 0, 1) := by decide +kernel
theorem dX0_keptAt_13 : decode cX0_keptAt 13 = .ok (.getfield 15, 3) := by decide +kernel
theorem dX0_keptAt_16 : decode cX0_keptAt 16 = .ok (.iload_n 1, 1) := by decide +kernel
theorem dX0_keptAt_17 : decode cX0_keptAt 17 = .ok (.iaload, 1) := by decide +kernel
theorem dX0_keptAt_18 : decode cX0_keptAt 18 = .ok (.goto 4, 3) := by decide +kernel
theorem dX0_keptAt_21 : decode cX0_keptAt 21 = .ok (.iconst 0, 1) := by decide +kernel
theorem dX0_keptAt_22 : decode cX0_keptAt 22 = .ok (.ireturn, 1) := by decide +kernel
theorem dX1_init_0 : decode cX1_init 0 = .ok (.aload_n 0, 1) := by decide +kernel
theorem dX1_init_1 : decode cX1_init 1 = .ok (.invokespecial 3, 3) := by decide +kernel
theorem dX1_init_4 : decode cX1_init 4 = .ok (.aload_n 0, 1) := by decide +kernel
theorem dX1_init_5 : decode cX1_init 5 = .ok (.bipush 100, 2) := by decide +kernel
theorem dX1_init_7 : decode cX1_init 7 = .ok (.putfield 9, 3) := by decide +kernel
theorem dX1_init_10 : decode cX1_init 10 = .ok (.aload_n 0, 1) := by decide +kernel
theorem dX1_init_11 : decode cX1_init 11 = .ok (.iconst 0, 1) := by decide +kernel
theorem dX1_init_12 : decode cX1_init 12 = .ok (.putfield 15, 3) := by decide +kernel
theorem dX1_init_15 : decode cX1_init 15 = .ok (.aload_n 0, 1) := by decide +kernel
theorem dX1_init_16 : decode cX1_init 16 = .ok (.bipush 20, 2) := by decide +kernel
theorem dX1_init_18 : decode cX1_init 18 = .ok (.newarray .int, 2) := by decide +kernel
theorem dX1_init_20 : decode cX1_init 20 = .ok (.putfield 18, 3) := by decide +kernel
theorem dX1_init_23 : decode cX1_init 23 = .ok (.return_, 1) := by decide +kernel
set_option maxRecDepth 20000 in
theorem ggX1_has_X5_isBelow : GoodIn wsX1_has wsX5_isBelow := goodIn_r _ [4] (by decide +kernel) (by decide +kernel)
set_option maxRecDepth 20000 in
theorem gX1_has_X5_isBelow_n22 : GoodIn wsX1_has (wsX5_isBelow) := ggX1_has_X5_isBelow
theorem dX1_has_0 : decode cX1_has 0 = .ok (.iload_n 1, 1) := by decide +kernel
theorem dX1_has_1 : decode cX1_has 1 = .ok (.aload_n 0, 1) := by decide +kernel
theorem dX1_has_2 : decode cX1_has 2 = .ok (.getfield 15, 3) := by decide +kernel
theorem dX1_has_5 : decode cX1_has 5 = .ok (.invokestatic 22, 3) := by decide +kernel
theorem dX1_has_8 : decode cX1_has 8 = .ok (.ireturn, 1) := by decide +kernel
set_option maxRecDepth 20000 in
theorem ggX1_value_X5_isBelow : GoodIn wsX1_value wsX5_isBelow := goodIn_r _ [4] (by decide +kernel) (by decide +kernel)
set_option maxRecDepth 20000 in
theorem gX1_value_X5_isBelow_n22 : GoodIn wsX1_value (wsX5_isBelow) := ggX1_value_X5_isBelow
theorem dX1_value_0 : decode cX1_value 0 = .ok (.iload_n 1, 1) := by decide +kernel
theorem dX1_value_1 : decode cX1_value 1 = .ok (.iconst 4, 1) := by decide +kernel
theorem dX1_value_2 : decode cX1_value 2 = .ok (.imul, 1) := by decide +kernel
theorem dX1_value_3 : decode cX1_value 3 = .ok (.iload_n 2, 1) := by decide +kernel
theorem dX1_value_4 : decode cX1_value 4 = .ok (.iadd, 1) := by decide +kernel
theorem dX1_value_5 : decode cX1_value 5 = .ok (.istore_n 3, 1) := by decide +kernel
theorem dX1_value_6 : decode cX1_value 6 = .ok (.iload_n 3, 1) := by decide +kernel
theorem dX1_value_7 : decode cX1_value 7 = .ok (.aload_n 0, 1) := by decide +kernel
theorem dX1_value_8 : decode cX1_value 8 = .ok (.getfield 18, 3) := by decide +kernel
theorem dX1_value_11 : decode cX1_value 11 = .ok (.arraylength, 1) := by decide +kernel
theorem dX1_value_12 : decode cX1_value 12 = .ok (.invokestatic 22, 3) := by decide +kernel
theorem dX1_value_15 : decode cX1_value 15 = .ok (.ifCond .eq 12, 3) := by decide +kernel
theorem dX1_value_18 : decode cX1_value 18 = .ok (.aload_n 0, 1) := by decide +kernel
theorem dX1_value_19 : decode cX1_value 19 = .ok (.getfield 18, 3) := by decide +kernel
theorem dX1_value_22 : decode cX1_value 22 = .ok (.iload_n 3, 1) := by decide +kernel
theorem dX1_value_23 : decode cX1_value 23 = .ok (.iaload, 1) := by decide +kernel
theorem dX1_value_24 : decode cX1_value 24 = .ok (.goto 4, 3) := by decide +kernel
theorem dX1_value_27 : decode cX1_value 27 = .ok (.iconst 0, 1) := by decide +kernel
theorem dX1_value_28 : decode cX1_value 28 = .ok (.ireturn, 1) := by decide +kernel
set_option maxRecDepth 20000 in
theorem ggX1_setValue_X5_isBelow : GoodIn wsX1_setValue wsX5_isBelow := goodIn_r _ [4] (by decide +kernel) (by decide +kernel)
set_option maxRecDepth 20000 in
theorem gX1_setValue_X5_isBelow_n22 : GoodIn wsX1_setValue (wsX5_isBelow) := ggX1_setValue_X5_isBelow
theorem dX1_setValue_0 : decode cX1_setValue 0 = .ok (.iload_n 1, 1) := by decide +kernel
theorem dX1_setValue_1 : decode cX1_setValue 1 = .ok (.iconst 4, 1) := by decide +kernel
theorem dX1_setValue_2 : decode cX1_setValue 2 = .ok (.imul, 1) := by decide +kernel
theorem dX1_setValue_3 : decode cX1_setValue 3 = .ok (.iload_n 2, 1) := by decide +kernel
theorem dX1_setValue_4 : decode cX1_setValue 4 = .ok (.iadd, 1) := by decide +kernel
theorem dX1_setValue_5 : decode cX1_setValue 5 = .ok (.istore 4, 2) := by decide +kernel
theorem dX1_setValue_7 : decode cX1_setValue 7 = .ok (.iload 4, 2) := by decide +kernel
theorem dX1_setValue_9 : decode cX1_setValue 9 = .ok (.aload_n 0, 1) := by decide +kernel
theorem dX1_setValue_10 : decode cX1_setValue 10 = .ok (.getfield 18, 3) := by decide +kernel
theorem dX1_setValue_13 : decode cX1_setValue 13 = .ok (.arraylength, 1) := by decide +kernel
theorem dX1_setValue_14 : decode cX1_setValue 14 = .ok (.invokestatic 22, 3) := by decide +kernel
theorem dX1_setValue_17 : decode cX1_setValue 17 = .ok (.ifCond .eq 11, 3) := by decide +kernel
theorem dX1_setValue_20 : decode cX1_setValue 20 = .ok (.aload_n 0, 1) := by decide +kernel
theorem dX1_setValue_21 : decode cX1_setValue 21 = .ok (.getfield 18, 3) := by decide +kernel
theorem dX1_setValue_24 : decode cX1_setValue 24 = .ok (.iload 4, 2) := by decide +kernel
theorem dX1_setValue_26 : decode cX1_setValue 26 = .ok (.iload_n 3, 1) := by decide +kernel
theorem dX1_setValue_27 : decode cX1_setValue 27 = .ok (.iastore, 1) := by decide +kernel
theorem dX1_setValue_28 : decode cX1_setValue 28 = .ok (.return_, 1) := by decide +kernel
theorem dX1_greatest_0 : decode cX1_greatest 0 = .ok (.iload_n 1, 1) := by decide +kernel
theorem dX1_greatest_1 : decode cX1_greatest 1 = .ok (.lookupswitch 32 #[(0, 27), (3, 29)], 27) := by decide +kernel
theorem dX1_greatest_28 : decode cX1_greatest 28 = .ok (.iconst 5, 1) := by decide +kernel
theorem dX1_greatest_29 : decode cX1_greatest 29 = .ok (.ireturn, 1) := by decide +kernel
theorem dX1_greatest_30 : decode cX1_greatest 30 = .ok (.bipush 9, 2) := by decide +kernel
theorem dX1_greatest_32 : decode cX1_greatest 32 = .ok (.ireturn, 1) := by decide +kernel
theorem dX1_greatest_33 : decode cX1_greatest 33 = .ok (.aload_n 0, 1) := by decide +kernel
theorem dX1_greatest_34 : decode cX1_greatest 34 = .ok (.getfield 9, 3) := by decide +kernel
theorem dX1_greatest_37 : decode cX1_greatest 37 = .ok (.iconst 1, 1) := by decide +kernel
theorem dX1_greatest_38 : decode cX1_greatest 38 = .ok (.isub, 1) := by decide +kernel
theorem dX1_greatest_39 : decode cX1_greatest 39 = .ok (.ireturn, 1) := by decide +kernel
set_option maxRecDepth 20000 in
theorem ggX1_allBelow_X1_value : GoodIn wsX1_allBelow wsX1_value := goodIn_r _ [6, 7, 8, 9, 10, 11, 12, 13] (by decide +kernel) (by decide +kernel)
set_option maxRecDepth 20000 in
theorem gX1_allBelow_X1_value : GoodIn wsX1_allBelow (wsV RX1 26 RX1 yX1_value wsX1_value) := goodIn_app (goodIn_of _ (by decide +kernel)) ggX1_allBelow_X1_value
theorem dX1_allBelow_0 : decode cX1_allBelow 0 = .ok (.iconst 0, 1) := by decide +kernel
theorem dX1_allBelow_1 : decode cX1_allBelow 1 = .ok (.istore_n 2, 1) := by decide +kernel
theorem dX1_allBelow_2 : decode cX1_allBelow 2 = .ok (.iload_n 2, 1) := by decide +kernel
theorem dX1_allBelow_3 : decode cX1_allBelow 3 = .ok (.aload_n 0, 1) := by decide +kernel
theorem dX1_allBelow_4 : decode cX1_allBelow 4 = .ok (.getfield 15, 3) := by decide +kernel
theorem dX1_allBelow_7 : decode cX1_allBelow 7 = .ok (.if_icmp .ge 31, 3) := by decide +kernel
theorem dX1_allBelow_10 : decode cX1_allBelow 10 = .ok (.aload_n 0, 1) := by decide +kernel
theorem dX1_allBelow_11 : decode cX1_allBelow 11 = .ok (.iload_n 2, 1) := by decide +kernel
theorem dX1_allBelow_12 : decode cX1_allBelow 12 = .ok (.iconst 1, 1) := by decide +kernel
theorem dX1_allBelow_13 : decode cX1_allBelow 13 = .ok (.invokevirtual 26, 3) := by decide +kernel
theorem dX1_allBelow_16 : decode cX1_allBelow 16 = .ok (.iload_n 1, 1) := by decide +kernel
theorem dX1_allBelow_17 : decode cX1_allBelow 17 = .ok (.if_icmp .ge 13, 3) := by decide +kernel
theorem dX1_allBelow_20 : decode cX1_allBelow 20 = .ok (.aload_n 0, 1) := by decide +kernel
theorem dX1_allBelow_21 : decode cX1_allBelow 21 = .ok (.iload_n 2, 1) := by decide +kernel
theorem dX1_allBelow_22 : decode cX1_allBelow 22 = .ok (.iconst 2, 1) := by decide +kernel
theorem dX1_allBelow_23 : decode cX1_allBelow 23 = .ok (.invokevirtual 26, 3) := by decide +kernel
theorem dX1_allBelow_26 : decode cX1_allBelow 26 = .ok (.iload_n 1, 1) := by decide +kernel
theorem dX1_allBelow_27 : decode cX1_allBelow 27 = .ok (.if_icmp .lt 5, 3) := by decide +kernel
theorem dX1_allBelow_30 : decode cX1_allBelow 30 = .ok (.iconst 0, 1) := by decide +kernel
theorem dX1_allBelow_31 : decode cX1_allBelow 31 = .ok (.ireturn, 1) := by decide +kernel
theorem dX1_allBelow_32 : decode cX1_allBelow 32 = .ok (.iinc 2 1, 3) := by decide +kernel
theorem dX1_allBelow_35 : decode cX1_allBelow 35 = .ok (.goto (-33), 3) := by decide +kernel
theorem dX1_allBelow_38 : decode cX1_allBelow 38 = .ok (.iconst 1, 1) := by decide +kernel
theorem dX1_allBelow_39 : decode cX1_allBelow 39 = .ok (.ireturn, 1) := by decide +kernel
set_option maxRecDepth 20000 in
theorem ggX1_hasRoomFor_X1_greatest : GoodIn wsX1_hasRoomFor wsX1_greatest := goodIn_r _ [6, 7, 8, 9, 10] (by decide +kernel) (by decide +kernel)
set_option maxRecDepth 20000 in
theorem gX1_hasRoomFor_X1_greatest : GoodIn wsX1_hasRoomFor (wsV RX1 30 RX1 yX1_greatest wsX1_greatest) := goodIn_app (goodIn_of _ (by decide +kernel)) ggX1_hasRoomFor_X1_greatest
theorem dX1_hasRoomFor_0 : decode cX1_hasRoomFor 0 = .ok (.aload_n 0, 1) := by decide +kernel
theorem dX1_hasRoomFor_1 : decode cX1_hasRoomFor 1 = .ok (.getfield 15, 3) := by decide +kernel
theorem dX1_hasRoomFor_4 : decode cX1_hasRoomFor 4 = .ok (.iconst 5, 1) := by decide +kernel
theorem dX1_hasRoomFor_5 : decode cX1_hasRoomFor 5 = .ok (.if_icmp .ge 44, 3) := by decide +kernel
theorem dX1_hasRoomFor_8 : decode cX1_hasRoomFor 8 = .ok (.iload_n 1, 1) := by decide +kernel
theorem dX1_hasRoomFor_9 : decode cX1_hasRoomFor 9 = .ok (.aload_n 0, 1) := by decide +kernel
theorem dX1_hasRoomFor_10 : decode cX1_hasRoomFor 10 = .ok (.iconst 0, 1) := by decide +kernel
theorem dX1_hasRoomFor_11 : decode cX1_hasRoomFor 11 = .ok (.invokevirtual 30, 3) := by decide +kernel
theorem dX1_hasRoomFor_14 : decode cX1_hasRoomFor 14 = .ok (.if_icmp .gt 35, 3) := by decide +kernel
theorem dX1_hasRoomFor_17 : decode cX1_hasRoomFor 17 = .ok (.iload_n 2, 1) := by decide +kernel
theorem dX1_hasRoomFor_18 : decode cX1_hasRoomFor 18 = .ok (.aload_n 0, 1) := by decide +kernel
theorem dX1_hasRoomFor_19 : decode cX1_hasRoomFor 19 = .ok (.iconst 1, 1) := by decide +kernel
theorem dX1_hasRoomFor_20 : decode cX1_hasRoomFor 20 = .ok (.invokevirtual 30, 3) := by decide +kernel
theorem dX1_hasRoomFor_23 : decode cX1_hasRoomFor 23 = .ok (.if_icmp .gt 26, 3) := by decide +kernel
theorem dX1_hasRoomFor_26 : decode cX1_hasRoomFor 26 = .ok (.iload_n 3, 1) := by decide +kernel
theorem dX1_hasRoomFor_27 : decode cX1_hasRoomFor 27 = .ok (.aload_n 0, 1) := by decide +kernel
theorem dX1_hasRoomFor_28 : decode cX1_hasRoomFor 28 = .ok (.iconst 2, 1) := by decide +kernel
theorem dX1_hasRoomFor_29 : decode cX1_hasRoomFor 29 = .ok (.invokevirtual 30, 3) := by decide +kernel
theorem dX1_hasRoomFor_32 : decode cX1_hasRoomFor 32 = .ok (.if_icmp .gt 17, 3) := by decide +kernel
theorem dX1_hasRoomFor_35 : decode cX1_hasRoomFor 35 = .ok (.iload 4, 2) := by decide +kernel
theorem dX1_hasRoomFor_37 : decode cX1_hasRoomFor 37 = .ok (.aload_n 0, 1) := by decide +kernel
theorem dX1_hasRoomFor_38 : decode cX1_hasRoomFor 38 = .ok (.iconst 3, 1) := by decide +kernel
theorem dX1_hasRoomFor_39 : decode cX1_hasRoomFor 39 = .ok (.invokevirtual 30, 3) := by decide +kernel
theorem dX1_hasRoomFor_42 : decode cX1_hasRoomFor 42 = .ok (.if_icmp .gt 7, 3) := by decide +kernel
theorem dX1_hasRoomFor_45 : decode cX1_hasRoomFor 45 = .ok (.iconst 1, 1) := by decide +kernel
theorem dX1_hasRoomFor_46 : decode cX1_hasRoomFor 46 = .ok (.goto 4, 3) := by decide +kernel
theorem dX1_hasRoomFor_49 : decode cX1_hasRoomFor 49 = .ok (.iconst 0, 1) := by decide +kernel
theorem dX1_hasRoomFor_50 : decode cX1_hasRoomFor 50 = .ok (.ireturn, 1) := by decide +kernel
set_option maxRecDepth 20000 in
theorem ggX1_add_X1_setValue : GoodIn wsX1_add wsX1_setValue := goodIn_r _ [6, 7, 8, 9, 10, 11, 12, 13] (by decide +kernel) (by decide +kernel)
set_option maxRecDepth 20000 in
theorem gX1_add_X1_setValue : GoodIn wsX1_add (wsV RX1 34 RX1 yX1_setValue wsX1_setValue) := goodIn_app (goodIn_of _ (by decide +kernel)) ggX1_add_X1_setValue
theorem dX1_add_0 : decode cX1_add 0 = .ok (.aload_n 0, 1) := by decide +kernel
theorem dX1_add_1 : decode cX1_add 1 = .ok (.aload_n 0, 1) := by decide +kernel
theorem dX1_add_2 : decode cX1_add 2 = .ok (.getfield 15, 3) := by decide +kernel
theorem dX1_add_5 : decode cX1_add 5 = .ok (.iconst 0, 1) := by decide +kernel
theorem dX1_add_6 : decode cX1_add 6 = .ok (.iload_n 1, 1) := by decide +kernel
theorem dX1_add_7 : decode cX1_add 7 = .ok (.invokevirtual 34, 3) := by decide +kernel
theorem dX1_add_10 : decode cX1_add 10 = .ok (.aload_n 0, 1) := by decide +kernel
theorem dX1_add_11 : decode cX1_add 11 = .ok (.aload_n 0, 1) := by decide +kernel
theorem dX1_add_12 : decode cX1_add 12 = .ok (.getfield 15, 3) := by decide +kernel
theorem dX1_add_15 : decode cX1_add 15 = .ok (.iconst 1, 1) := by decide +kernel
theorem dX1_add_16 : decode cX1_add 16 = .ok (.iload_n 2, 1) := by decide +kernel
theorem dX1_add_17 : decode cX1_add 17 = .ok (.invokevirtual 34, 3) := by decide +kernel
theorem dX1_add_20 : decode cX1_add 20 = .ok (.aload_n 0, 1) := by decide +kernel
theorem dX1_add_21 : decode cX1_add 21 = .ok (.aload_n 0, 1) := by decide +kernel
theorem dX1_add_22 : decode cX1_add 22 = .ok (.getfield 15, 3) := by decide +kernel
theorem dX1_add_25 : decode cX1_add 25 = .ok (.iconst 2, 1) := by decide +kernel
theorem dX1_add_26 : decode cX1_add 26 = .ok (.iload_n 3, 1) := by decide +kernel
theorem dX1_add_27 : decode cX1_add 27 = .ok (.invokevirtual 34, 3) := by decide +kernel
theorem dX1_add_30 : decode cX1_add 30 = .ok (.aload_n 0, 1) := by decide +kernel
theorem dX1_add_31 : decode cX1_add 31 = .ok (.aload_n 0, 1) := by decide +kernel
theorem dX1_add_32 : decode cX1_add 32 = .ok (.getfield 15, 3) := by decide +kernel
theorem dX1_add_35 : decode cX1_add 35 = .ok (.iconst 3, 1) := by decide +kernel
theorem dX1_add_36 : decode cX1_add 36 = .ok (.iload 4, 2) := by decide +kernel
theorem dX1_add_38 : decode cX1_add 38 = .ok (.invokevirtual 34, 3) := by decide +kernel
theorem dX1_add_41 : decode cX1_add 41 = .ok (.aload_n 0, 1) := by decide +kernel
theorem dX1_add_42 : decode cX1_add 42 = .ok (.dup, 1) := by decide +kernel
theorem dX1_add_43 : decode cX1_add 43 = .ok (.getfield 15, 3) := by decide +kernel
theorem dX1_add_46 : decode cX1_add 46 = .ok (.iconst 1, 1) := by decide +kernel
theorem dX1_add_47 : decode cX1_add 47 = .ok (.iadd, 1) := by decide +kernel
theorem dX1_add_48 : decode cX1_add 48 = .ok (.putfield 15, 3) := by decide +kernel
theorem dX1_add_51 : decode cX1_add 51 = .ok (.return_, 1) := by decide +kernel
set_option maxRecDepth 20000 in
theorem ggX1_remove_X1_value : GoodIn wsX1_remove wsX1_value := goodIn_r _ [6, 7, 8, 9, 10, 15, 16, 17] (by decide +kernel) (by decide +kernel)
set_option maxRecDepth 20000 in
theorem gX1_remove_X1_value : GoodIn wsX1_remove (wsV RX1 26 RX1 yX1_value wsX1_value) := goodIn_app (goodIn_of _ (by decide +kernel)) ggX1_remove_X1_value
set_option maxRecDepth 20000 in
theorem ggX1_remove_X1_setValue : GoodIn wsX1_remove wsX1_setValue := goodIn_r _ [14, 7, 8, 9, 10, 15, 16, 17] (by decide +kernel) (by decide +kernel)
set_option maxRecDepth 20000 in
theorem gX1_remove_X1_setValue : GoodIn wsX1_remove (wsV RX1 34 RX1 yX1_setValue wsX1_setValue) := goodIn_app (goodIn_of _ (by decide +kernel)) ggX1_remove_X1_setValue
theorem dX1_remove_0 : decode cX1_remove 0 = .ok (.iload_n 1, 1) := by decide +kernel
theorem dX1_remove_1 : decode cX1_remove 1 = .ok (.istore_n 2, 1) := by decide +kernel
theorem dX1_remove_2 : decode cX1_remove 2 = .ok (.iload_n 2, 1) := by decide +kernel
theorem dX1_remove_3 : decode cX1_remove 3 = .ok (.aload_n 0, 1) := by decide +kernel
theorem dX1_remove_4 : decode cX1_remove 4 = .ok (.getfield 15, 3) := by decide +kernel
theorem dX1_remove_7 : decode cX1_remove 7 = .ok (.iconst 1, 1) := by decide +kernel
theorem dX1_remove_8 : decode cX1_remove 8 = .ok (.isub, 1) := by decide +kernel
theorem dX1_remove_9 : decode cX1_remove 9 = .ok (.if_icmp .ge 36, 3) := by decide +kernel
theorem dX1_remove_12 : decode cX1_remove 12 = .ok (.iconst 0, 1) := by decide +kernel
theorem dX1_remove_13 : decode cX1_remove 13 = .ok (.istore_n 3, 1) := by decide +kernel
theorem dX1_remove_14 : decode cX1_remove 14 = .ok (.iload_n 3, 1) := by decide +kernel
theorem dX1_remove_15 : decode cX1_remove 15 = .ok (.iconst 4, 1) := by decide +kernel
theorem dX1_remove_16 : decode cX1_remove 16 = .ok (.if_icmp .ge 23, 3) := by decide +kernel
theorem dX1_remove_19 : decode cX1_remove 19 = .ok (.aload_n 0, 1) := by decide +kernel
theorem dX1_remove_20 : decode cX1_remove 20 = .ok (.iload_n 2, 1) := by decide +kernel
theorem dX1_remove_21 : decode cX1_remove 21 = .ok (.iload_n 3, 1) := by decide +kernel
theorem dX1_remove_22 : decode cX1_remove 22 = .ok (.aload_n 0, 1) := by decide +kernel
theorem dX1_remove_23 : decode cX1_remove 23 = .ok (.iload_n 2, 1) := by decide +kernel
theorem dX1_remove_24 : decode cX1_remove 24 = .ok (.iconst 1, 1) := by decide +kernel
theorem dX1_remove_25 : decode cX1_remove 25 = .ok (.iadd, 1) := by decide +kernel
theorem dX1_remove_26 : decode cX1_remove 26 = .ok (.iload_n 3, 1) := by decide +kernel
theorem dX1_remove_27 : decode cX1_remove 27 = .ok (.invokevirtual 26, 3) := by decide +kernel
theorem dX1_remove_30 : decode cX1_remove 30 = .ok (.invokevirtual 34, 3) := by decide +kernel
theorem dX1_remove_33 : decode cX1_remove 33 = .ok (.iinc 3 1, 3) := by decide +kernel
theorem dX1_remove_36 : decode cX1_remove 36 = .ok (.goto (-22), 3) := by decide +kernel
theorem dX1_remove_39 : decode cX1_remove 39 = .ok (.iinc 2 1, 3) := by decide +kernel
theorem dX1_remove_42 : decode cX1_remove 42 = .ok (.goto (-40), 3) := by decide +kernel
theorem dX1_remove_45 : decode cX1_remove 45 = .ok (.aload_n 0, 1) := by decide +kernel
theorem dX1_remove_46 : decode cX1_remove 46 = .ok (.dup, 1) := by decide +kernel
theorem dX1_remove_47 : decode cX1_remove 47 = .ok (.getfield 15, 3) := by decide +kernel
theorem dX1_remove_50 : decode cX1_remove 50 = .ok (.iconst 1, 1) := by decide +kernel
theorem dX1_remove_51 : decode cX1_remove 51 = .ok (.isub, 1) := by decide +kernel
theorem dX1_remove_52 : decode cX1_remove 52 = .ok (.putfield 15, 3) := by decide +kernel
theorem dX1_remove_55 : decode cX1_remove 55 = .ok (.return_, 1) := by decide +kernel
theorem dX1_copyFrom_0 : decode cX1_copyFrom 0 = .ok (.aload_n 0, 1) := by decide +kernel
theorem dX1_copyFrom_1 : decode cX1_copyFrom 1 = .ok (.aload_n 1, 1) := by decide +kernel
theorem dX1_copyFrom_2 : decode cX1_copyFrom 2 = .ok (.getfield 9, 3) := by decide +kernel
theorem dX1_copyFrom_5 : decode cX1_copyFrom 5 = .ok (.putfield 9, 3) := by decide +kernel
theorem dX1_copyFrom_8 : decode cX1_copyFrom 8 = .ok (.aload_n 0, 1) := by decide +kernel
theorem dX1_copyFrom_9 : decode cX1_copyFrom 9 = .ok (.aload_n 1, 1) := by decide +kernel
theorem dX1_copyFrom_10 : decode cX1_copyFrom 10 = .ok (.getfield 15, 3) := by decide +kernel
theorem dX1_copyFrom_13 : decode cX1_copyFrom 13 = .ok (.putfield 15, 3) := by decide +kernel
theorem dX1_copyFrom_16 : decode cX1_copyFrom 16 = .ok (.iconst 0, 1) := by decide +kernel
theorem dX1_copyFrom_17 : decode cX1_copyFrom 17 = .ok (.istore_n 2, 1) := by decide +kernel
theorem dX1_copyFrom_18 : decode cX1_copyFrom 18 = .ok (.iload_n 2, 1) := by decide +kernel
theorem dX1_copyFrom_19 : decode cX1_copyFrom 19 = .ok (.aload_n 0, 1) := by decide +kernel
theorem dX1_copyFrom_20 : decode cX1_copyFrom 20 = .ok (.getfield 18, 3) := by decide +kernel
theorem dX1_copyFrom_23 : decode cX1_copyFrom 23 = .ok (.arraylength, 1) := by decide +kernel
theorem dX1_copyFrom_24 : decode cX1_copyFrom 24 = .ok (.if_icmp .ge 30, 3) := by decide +kernel
theorem dX1_copyFrom_27 : decode cX1_copyFrom 27 = .ok (.iload_n 2, 1) := by decide +kernel
theorem dX1_copyFrom_28 : decode cX1_copyFrom 28 = .ok (.aload_n 1, 1) := by decide +kernel
theorem dX1_copyFrom_29 : decode cX1_copyFrom 29 = .ok (.getfield 18, 3) := by decide +kernel
theorem dX1_copyFrom_32 : decode cX1_copyFrom 32 = .ok (.arraylength, 1) := by decide +kernel
theorem dX1_copyFrom_33 : decode cX1_copyFrom 33 = .ok (.if_icmp .ge 21, 3) := by decide +kernel
theorem dX1_copyFrom_36 : decode cX1_copyFrom 36 = .ok (.aload_n 0, 1) := by decide +kernel
theorem dX1_copyFrom_37 : decode cX1_copyFrom 37 = .ok (.getfield 18, 3) := by decide +kernel
theorem dX1_copyFrom_40 : decode cX1_copyFrom 40 = .ok (.iload_n 2, 1) := by decide +kernel
theorem dX1_copyFrom_41 : decode cX1_copyFrom 41 = .ok (.aload_n 1, 1) := by decide +kernel
theorem dX1_copyFrom_42 : decode cX1_copyFrom 42 = .ok (.getfield 18, 3) := by decide +kernel
theorem dX1_copyFrom_45 : decode cX1_copyFrom 45 = .ok (.iload_n 2, 1) := by decide +kernel
theorem dX1_copyFrom_46 : decode cX1_copyFrom 46 = .ok (.iaload, 1) := by decide +kernel
theorem dX1_copyFrom_47 : decode cX1_copyFrom 47 = .ok (.iastore, 1) := by decide +kernel
theorem dX1_copyFrom_48 : decode cX1_copyFrom 48 = .ok (.iinc 2 1, 3) := by decide +kernel
theorem dX1_copyFrom_51 : decode cX1_copyFrom 51 = .ok (.goto (-33), 3) := by decide +kernel
theorem dX1_copyFrom_54 : decode cX1_copyFrom 54 = .ok (.return_, 1) := by decide +kernel
set_option maxRecDepth 20000 in
theorem ggX1_around_X5_rest : GoodIn wsX1_around wsX5_rest := goodIn_r _ [4] (by decide +kernel) (by decide +kernel)
set_option maxRecDepth 20000 in
theorem gX1_around_X5_rest_n38 : GoodIn wsX1_around (wsX5_rest) := ggX1_around_X5_rest
theorem dX1_around_0 : decode cX1_around 0 = .ok (.lload_n 1, 1) := by decide +kernel
theorem dX1_around_1 : decode cX1_around 1 = .ok (.aload_n 0, 1) := by decide +kernel
theorem dX1_around_2 : decode cX1_around 2 = .ok (.getfield 9, 3) := by decide +kernel
theorem dX1_around_5 : decode cX1_around 5 = .ok (.i2l, 1) := by decide +kernel
theorem dX1_around_6 : decode cX1_around 6 = .ok (.invokestatic 38, 3) := by decide +kernel
theorem dX1_around_9 : decode cX1_around 9 = .ok (.l2i, 1) := by decide +kernel
theorem dX1_around_10 : decode cX1_around 10 = .ok (.istore_n 3, 1) := by decide +kernel
theorem dX1_around_11 : decode cX1_around 11 = .ok (.iload_n 3, 1) := by decide +kernel
theorem dX1_around_12 : decode cX1_around 12 = .ok (.ifCond .ge 12, 3) := by decide +kernel
theorem dX1_around_15 : decode cX1_around 15 = .ok (.iload_n 3, 1) := by decide +kernel
theorem dX1_around_16 : decode cX1_around 16 = .ok (.aload_n 0, 1) := by decide +kernel
theorem dX1_around_17 : decode cX1_around 17 = .ok (.getfield 9, 3) := by decide +kernel
theorem dX1_around_20 : decode cX1_around 20 = .ok (.iadd, 1) := by decide +kernel
theorem dX1_around_21 : decode cX1_around 21 = .ok (.goto 4, 3) := by decide +kernel
theorem dX1_around_24 : decode cX1_around 24 = .ok (.iload_n 3, 1) := by decide +kernel
theorem dX1_around_25 : decode cX1_around 25 = .ok (.ireturn, 1) := by decide +kernel
set_option maxRecDepth 20000 in
theorem ggX1_placeOf_X1_value : GoodIn wsX1_placeOf wsX1_value := goodIn_r _ [5, 6, 7, 8, 9, 24, 25, 26] (by decide +kernel) (by decide +kernel)
set_option maxRecDepth 20000 in
theorem gX1_placeOf_X1_value : GoodIn wsX1_placeOf (wsV RX1 26 RX1 yX1_value wsX1_value) := goodIn_app (goodIn_of _ (by decide +kernel)) ggX1_placeOf_X1_value
set_option maxRecDepth 20000 in
theorem ggX1_placeOf_X1_placeBy : GoodIn wsX1_placeOf wsX1_placeBy := goodIn_r _ [13, 14, 1, 2, 3, 4, 5, 6, 7, 8, 9, 15, 16, 17, 18, 19, 20, 21, 22, 23, 24, 25, 26] (by decide +kernel) (by decide +kernel)
set_option maxRecDepth 20000 in
theorem gX1_placeOf_X1_placeBy : GoodIn wsX1_placeOf (wsV RX1 42 RX1 yX1_placeBy wsX1_placeBy) := goodIn_app (goodIn_of _ (by decide +kernel)) ggX1_placeOf_X1_placeBy
theorem dX1_placeOf_0 : decode cX1_placeOf 0 = .ok (.aload_n 0, 1) := by decide +kernel
theorem dX1_placeOf_1 : decode cX1_placeOf 1 = .ok (.aload_n 0, 1) := by decide +kernel
theorem dX1_placeOf_2 : decode cX1_placeOf 2 = .ok (.iload_n 1, 1) := by decide +kernel
theorem dX1_placeOf_3 : decode cX1_placeOf 3 = .ok (.iconst 0, 1) := by decide +kernel
theorem dX1_placeOf_4 : decode cX1_placeOf 4 = .ok (.invokevirtual 26, 3) := by decide +kernel
theorem dX1_placeOf_7 : decode cX1_placeOf 7 = .ok (.iload_n 1, 1) := by decide +kernel
theorem dX1_placeOf_8 : decode cX1_placeOf 8 = .ok (.iload_n 2, 1) := by decide +kernel
theorem dX1_placeOf_9 : decode cX1_placeOf 9 = .ok (.i2l, 1) := by decide +kernel
theorem dX1_placeOf_10 : decode cX1_placeOf 10 = .ok (.invokevirtual 42, 3) := by decide +kernel
theorem dX1_placeOf_13 : decode cX1_placeOf 13 = .ok (.ireturn, 1) := by decide +kernel
set_option maxRecDepth 20000 in
theorem ggX1_placeBy_X1_value : GoodIn wsX1_placeBy wsX1_value := goodIn_r _ [6, 7, 8, 9, 10, 20, 21, 22] (by decide +kernel) (by decide +kernel)
set_option maxRecDepth 20000 in
theorem gX1_placeBy_X1_value : GoodIn wsX1_placeBy (wsV RX1 26 RX1 yX1_value wsX1_value) := goodIn_app (goodIn_of _ (by decide +kernel)) ggX1_placeBy_X1_value
set_option maxRecDepth 20000 in
theorem ggX1_placeBy_X1_around : GoodIn wsX1_placeBy wsX1_around := goodIn_r _ [14, 15, 16, 9, 17, 20, 21, 22] (by decide +kernel) (by decide +kernel)
set_option maxRecDepth 20000 in
theorem gX1_placeBy_X1_around : GoodIn wsX1_placeBy (wsV RX1 46 RX1 yX1_around wsX1_around) := goodIn_app (goodIn_of _ (by decide +kernel)) ggX1_placeBy_X1_around
set_option maxRecDepth 20000 in
theorem ggX1_placeBy_X5_quotient : GoodIn wsX1_placeBy wsX5_quotient := goodIn_r _ [19] (by decide +kernel) (by decide +kernel)
set_option maxRecDepth 20000 in
theorem gX1_placeBy_X5_quotient_n50 : GoodIn wsX1_placeBy (wsX5_quotient) := ggX1_placeBy_X5_quotient
theorem dX1_placeBy_0 : decode cX1_placeBy 0 = .ok (.aload_n 0, 1) := by decide +kernel
theorem dX1_placeBy_1 : decode cX1_placeBy 1 = .ok (.iload_n 2, 1) := by decide +kernel
theorem dX1_placeBy_2 : decode cX1_placeBy 2 = .ok (.iconst 1, 1) := by decide +kernel
theorem dX1_placeBy_3 : decode cX1_placeBy 3 = .ok (.invokevirtual 26, 3) := by decide +kernel
theorem dX1_placeBy_6 : decode cX1_placeBy 6 = .ok (.i2l, 1) := by decide +kernel
theorem dX1_placeBy_7 : decode cX1_placeBy 7 = .ok (.lstore 5, 2) := by decide +kernel
theorem dX1_placeBy_9 : decode cX1_placeBy 9 = .ok (.aload_n 0, 1) := by decide +kernel
theorem dX1_placeBy_10 : decode cX1_placeBy 10 = .ok (.iload_n 2, 1) := by decide +kernel
theorem dX1_placeBy_11 : decode cX1_placeBy 11 = .ok (.iconst 2, 1) := by decide +kernel
theorem dX1_placeBy_12 : decode cX1_placeBy 12 = .ok (.invokevirtual 26, 3) := by decide +kernel
theorem dX1_placeBy_15 : decode cX1_placeBy 15 = .ok (.i2l, 1) := by decide +kernel
theorem dX1_placeBy_16 : decode cX1_placeBy 16 = .ok (.lstore 7, 2) := by decide +kernel
theorem dX1_placeBy_18 : decode cX1_placeBy 18 = .ok (.aload_n 0, 1) := by decide +kernel
theorem dX1_placeBy_19 : decode cX1_placeBy 19 = .ok (.iload_n 2, 1) := by decide +kernel
theorem dX1_placeBy_20 : decode cX1_placeBy 20 = .ok (.iconst 3, 1) := by decide +kernel
theorem dX1_placeBy_21 : decode cX1_placeBy 21 = .ok (.invokevirtual 26, 3) := by decide +kernel
theorem dX1_placeBy_24 : decode cX1_placeBy 24 = .ok (.i2l, 1) := by decide +kernel
theorem dX1_placeBy_25 : decode cX1_placeBy 25 = .ok (.lstore 9, 2) := by decide +kernel
theorem dX1_placeBy_27 : decode cX1_placeBy 27 = .ok (.iload_n 1, 1) := by decide +kernel
theorem dX1_placeBy_28 : decode cX1_placeBy 28 = .ok (.tableswitch 144 1 5 #[36, 50, 62, 83, 125], 36) := by decide +kernel
theorem dX1_placeBy_64 : decode cX1_placeBy 64 = .ok (.aload_n 0, 1) := by decide +kernel
theorem dX1_placeBy_65 : decode cX1_placeBy 65 = .ok (.lload 7, 2) := by decide +kernel
theorem dX1_placeBy_67 : decode cX1_placeBy 67 = .ok (.lload_n 3, 1) := by decide +kernel
theorem dX1_placeBy_68 : decode cX1_placeBy 68 = .ok (.lload_n 3, 1) := by decide +kernel
theorem dX1_placeBy_69 : decode cX1_placeBy 69 = .ok (.lmul, 1) := by decide +kernel
theorem dX1_placeBy_70 : decode cX1_placeBy 70 = .ok (.lload 5, 2) := by decide +kernel
theorem dX1_placeBy_72 : decode cX1_placeBy 72 = .ok (.lmul, 1) := by decide +kernel
theorem dX1_placeBy_73 : decode cX1_placeBy 73 = .ok (.ladd, 1) := by decide +kernel
theorem dX1_placeBy_74 : decode cX1_placeBy 74 = .ok (.invokevirtual 46, 3) := by decide +kernel
theorem dX1_placeBy_77 : decode cX1_placeBy 77 = .ok (.ireturn, 1) := by decide +kernel
theorem dX1_placeBy_78 : decode cX1_placeBy 78 = .ok (.aload_n 0, 1) := by decide +kernel
theorem dX1_placeBy_79 : decode cX1_placeBy 79 = .ok (.lload 7, 2) := by decide +kernel
theorem dX1_placeBy_81 : decode cX1_placeBy 81 = .ok (.lload_n 3, 1) := by decide +kernel
theorem dX1_placeBy_82 : decode cX1_placeBy 82 = .ok (.lload 5, 2) := by decide +kernel
theorem dX1_placeBy_84 : decode cX1_placeBy 84 = .ok (.lmul, 1) := by decide +kernel
theorem dX1_placeBy_85 : decode cX1_placeBy 85 = .ok (.lsub, 1) := by decide +kernel
theorem dX1_placeBy_86 : decode cX1_placeBy 86 = .ok (.invokevirtual 46, 3) := by decide +kernel
theorem dX1_placeBy_89 : decode cX1_placeBy 89 = .ok (.ireturn, 1) := by decide +kernel
theorem dX1_placeBy_90 : decode cX1_placeBy 90 = .ok (.aload_n 0, 1) := by decide +kernel
theorem dX1_placeBy_91 : decode cX1_placeBy 91 = .ok (.lload 7, 2) := by decide +kernel
theorem dX1_placeBy_93 : decode cX1_placeBy 93 = .ok (.lload_n 3, 1) := by decide +kernel
theorem dX1_placeBy_94 : decode cX1_placeBy 94 = .ok (.lload_n 3, 1) := by decide +kernel
theorem dX1_placeBy_95 : decode cX1_placeBy 95 = .ok (.lload 9, 2) := by decide +kernel
theorem dX1_placeBy_97 : decode cX1_placeBy 97 = .ok (.lconst 1, 1) := by decide +kernel
theorem dX1_placeBy_98 : decode cX1_placeBy 98 = .ok (.ladd, 1) := by decide +kernel
theorem dX1_placeBy_99 : decode cX1_placeBy 99 = .ok (.invokestatic 50, 3) := by decide +kernel
theorem dX1_placeBy_102 : decode cX1_placeBy 102 = .ok (.ladd, 1) := by decide +kernel
theorem dX1_placeBy_103 : decode cX1_placeBy 103 = .ok (.lload 5, 2) := by decide +kernel
theorem dX1_placeBy_105 : decode cX1_placeBy 105 = .ok (.lmul, 1) := by decide +kernel
theorem dX1_placeBy_106 : decode cX1_placeBy 106 = .ok (.ladd, 1) := by decide +kernel
theorem dX1_placeBy_107 : decode cX1_placeBy 107 = .ok (.invokevirtual 46, 3) := by decide +kernel
theorem dX1_placeBy_110 : decode cX1_placeBy 110 = .ok (.ireturn, 1) := by decide +kernel
theorem dX1_placeBy_111 : decode cX1_placeBy 111 = .ok (.aload_n 0, 1) := by decide +kernel
theorem dX1_placeBy_112 : decode cX1_placeBy 112 = .ok (.lload_n 3, 1) := by decide +kernel
theorem dX1_placeBy_113 : decode cX1_placeBy 113 = .ok (.ldc2_w 53, 3) := by decide +kernel
theorem dX1_placeBy_116 : decode cX1_placeBy 116 = .ok (.lrem, 1) := by decide +kernel
theorem dX1_placeBy_117 : decode cX1_placeBy 117 = .ok (.lconst 0, 1) := by decide +kernel
theorem dX1_placeBy_118 : decode cX1_placeBy 118 = .ok (.lcmp, 1) := by decide +kernel
theorem dX1_placeBy_119 : decode cX1_placeBy 119 = .ok (.ifCond .ne 17, 3) := by decide +kernel
theorem dX1_placeBy_122 : decode cX1_placeBy 122 = .ok (.lload 7, 2) := by decide +kernel
theorem dX1_placeBy_124 : decode cX1_placeBy 124 = .ok (.lload_n 3, 1) := by decide +kernel
theorem dX1_placeBy_125 : decode cX1_placeBy 125 = .ok (.ldc2_w 53, 3) := by decide +kernel
theorem dX1_placeBy_128 : decode cX1_placeBy 128 = .ok (.ldiv, 1) := by decide +kernel
theorem dX1_placeBy_129 : decode cX1_placeBy 129 = .ok (.lload 5, 2) := by decide +kernel
theorem dX1_placeBy_131 : decode cX1_placeBy 131 = .ok (.lmul, 1) := by decide +kernel
theorem dX1_placeBy_132 : decode cX1_placeBy 132 = .ok (.lsub, 1) := by decide +kernel
theorem dX1_placeBy_133 : decode cX1_placeBy 133 = .ok (.goto 16, 3) := by decide +kernel
theorem dX1_placeBy_136 : decode cX1_placeBy 136 = .ok (.lload 7, 2) := by decide +kernel
theorem dX1_placeBy_138 : decode cX1_placeBy 138 = .ok (.lload_n 3, 1) := by decide +kernel
theorem dX1_placeBy_139 : decode cX1_placeBy 139 = .ok (.lconst 1, 1) := by decide +kernel
theorem dX1_placeBy_140 : decode cX1_placeBy 140 = .ok (.ladd, 1) := by decide +kernel
theorem dX1_placeBy_141 : decode cX1_placeBy 141 = .ok (.ldc2_w 53, 3) := by decide +kernel
theorem dX1_placeBy_144 : decode cX1_placeBy 144 = .ok (.ldiv, 1) := by decide +kernel
theorem dX1_placeBy_145 : decode cX1_placeBy 145 = .ok (.lload 5, 2) := by decide +kernel
theorem dX1_placeBy_147 : decode cX1_placeBy 147 = .ok (.lmul, 1) := by decide +kernel
theorem dX1_placeBy_148 : decode cX1_placeBy 148 = .ok (.ladd, 1) := by decide +kernel
theorem dX1_placeBy_149 : decode cX1_placeBy 149 = .ok (.invokevirtual 46, 3) := by decide +kernel
theorem dX1_placeBy_152 : decode cX1_placeBy 152 = .ok (.ireturn, 1) := by decide +kernel
theorem dX1_placeBy_153 : decode cX1_placeBy 153 = .ok (.aload_n 0, 1) := by decide +kernel
theorem dX1_placeBy_154 : decode cX1_placeBy 154 = .ok (.lload 7, 2) := by decide +kernel
theorem dX1_placeBy_156 : decode cX1_placeBy 156 = .ok (.lload_n 3, 1) := by decide +kernel
theorem dX1_placeBy_157 : decode cX1_placeBy 157 = .ok (.lload_n 3, 1) := by decide +kernel
theorem dX1_placeBy_158 : decode cX1_placeBy 158 = .ok (.lmul, 1) := by decide +kernel
theorem dX1_placeBy_159 : decode cX1_placeBy 159 = .ok (.lload 5, 2) := by decide +kernel
theorem dX1_placeBy_161 : decode cX1_placeBy 161 = .ok (.lmul, 1) := by decide +kernel
theorem dX1_placeBy_162 : decode cX1_placeBy 162 = .ok (.ladd, 1) := by decide +kernel
theorem dX1_placeBy_163 : decode cX1_placeBy 163 = .ok (.lload 9, 2) := by decide +kernel
theorem dX1_placeBy_165 : decode cX1_placeBy 165 = .ok (.lload_n 3, 1) := by decide +kernel
theorem dX1_placeBy_166 : decode cX1_placeBy 166 = .ok (.lmul, 1) := by decide +kernel
theorem dX1_placeBy_167 : decode cX1_placeBy 167 = .ok (.ladd, 1) := by decide +kernel
theorem dX1_placeBy_168 : decode cX1_placeBy 168 = .ok (.invokevirtual 46, 3) := by decide +kernel
theorem dX1_placeBy_171 : decode cX1_placeBy 171 = .ok (.ireturn, 1) := by decide +kernel
theorem dX1_placeBy_172 : decode cX1_placeBy 172 = .ok (.aload_n 0, 1) := by decide +kernel
theorem dX1_placeBy_173 : decode cX1_placeBy 173 = .ok (.lload 7, 2) := by decide +kernel
theorem dX1_placeBy_175 : decode cX1_placeBy 175 = .ok (.lload_n 3, 1) := by decide +kernel
theorem dX1_placeBy_176 : decode cX1_placeBy 176 = .ok (.lload 5, 2) := by decide +kernel
theorem dX1_placeBy_178 : decode cX1_placeBy 178 = .ok (.lmul, 1) := by decide +kernel
theorem dX1_placeBy_179 : decode cX1_placeBy 179 = .ok (.ladd, 1) := by decide +kernel
theorem dX1_placeBy_180 : decode cX1_placeBy 180 = .ok (.invokevirtual 46, 3) := by decide +kernel
theorem dX1_placeBy_183 : decode cX1_placeBy 183 = .ok (.ireturn, 1) := by decide +kernel
theorem dX2_init_0 : decode cX2_init 0 = .ok (.aload_n 0, 1) := by decide +kernel
theorem dX2_init_1 : decode cX2_init 1 = .ok (.invokespecial 3, 3) := by decide +kernel
theorem dX2_init_4 : decode cX2_init 4 = .ok (.aload_n 0, 1) := by decide +kernel
theorem dX2_init_5 : decode cX2_init 5 = .ok (.iconst (-1), 1) := by decide +kernel
theorem dX2_init_6 : decode cX2_init 6 = .ok (.putfield 11, 3) := by decide +kernel
theorem dX2_init_9 : decode cX2_init 9 = .ok (.aload_n 0, 1) := by decide +kernel
theorem dX2_init_10 : decode cX2_init 10 = .ok (.bipush 40, 2) := by decide +kernel
theorem dX2_init_12 : decode cX2_init 12 = .ok (.newarray .int, 2) := by decide +kernel
theorem dX2_init_14 : decode cX2_init 14 = .ok (.putfield 15, 3) := by decide +kernel
theorem dX2_init_17 : decode cX2_init 17 = .ok (.return_, 1) := by decide +kernel
theorem dX2_isMissing_0 : decode cX2_isMissing 0 = .ok (.aload_n 0, 1) := by decide +kernel
theorem dX2_isMissing_1 : decode cX2_isMissing 1 = .ok (.getfield 11, 3) := by decide +kernel
theorem dX2_isMissing_4 : decode cX2_isMissing 4 = .ok (.iconst (-1), 1) := by decide +kernel
theorem dX2_isMissing_5 : decode cX2_isMissing 5 = .ok (.if_icmp .ne 7, 3) := by decide +kernel
theorem dX2_isMissing_8 : decode cX2_isMissing 8 = .ok (.iconst 1, 1) := by decide +kernel
theorem dX2_isMissing_9 : decode cX2_isMissing 9 = .ok (.goto 4, 3) := by decide +kernel
theorem dX2_isMissing_12 : decode cX2_isMissing 12 = .ok (.iconst 0, 1) := by decide +kernel
theorem dX2_isMissing_13 : decode cX2_isMissing 13 = .ok (.ireturn, 1) := by decide +kernel
set_option maxRecDepth 20000 in
theorem ggX2_hasPlace_X5_isBelow : GoodIn wsX2_hasPlace wsX5_isBelow := goodIn_r _ [5] (by decide +kernel) (by decide +kernel)
set_option maxRecDepth 20000 in
theorem gX2_hasPlace_X5_isBelow_n19 : GoodIn wsX2_hasPlace (wsX5_isBelow) := ggX2_hasPlace_X5_isBelow
theorem dX2_hasPlace_0 : decode cX2_hasPlace 0 = .ok (.iload_n 1, 1) := by decide +kernel
theorem dX2_hasPlace_1 : decode cX2_hasPlace 1 = .ok (.aload_n 0, 1) := by decide +kernel
theorem dX2_hasPlace_2 : decode cX2_hasPlace 2 = .ok (.getfield 11, 3) := by decide +kernel
theorem dX2_hasPlace_5 : decode cX2_hasPlace 5 = .ok (.if_icmp .ge 19, 3) := by decide +kernel
theorem dX2_hasPlace_8 : decode cX2_hasPlace 8 = .ok (.iload_n 1, 1) := by decide +kernel
theorem dX2_hasPlace_9 : decode cX2_hasPlace 9 = .ok (.aload_n 0, 1) := by decide +kernel
theorem dX2_hasPlace_10 : decode cX2_hasPlace 10 = .ok (.getfield 15, 3) := by decide +kernel
theorem dX2_hasPlace_13 : decode cX2_hasPlace 13 = .ok (.arraylength, 1) := by decide +kernel
theorem dX2_hasPlace_14 : decode cX2_hasPlace 14 = .ok (.invokestatic 19, 3) := by decide +kernel
theorem dX2_hasPlace_17 : decode cX2_hasPlace 17 = .ok (.ifCond .eq 7, 3) := by decide +kernel
theorem dX2_hasPlace_20 : decode cX2_hasPlace 20 = .ok (.iconst 1, 1) := by decide +kernel
theorem dX2_hasPlace_21 : decode cX2_hasPlace 21 = .ok (.goto 4, 3) := by decide +kernel
theorem dX2_hasPlace_24 : decode cX2_hasPlace 24 = .ok (.iconst 0, 1) := by decide +kernel
theorem dX2_hasPlace_25 : decode cX2_hasPlace 25 = .ok (.ireturn, 1) := by decide +kernel
set_option maxRecDepth 20000 in
theorem ggX2_begin_J7_fill_53178 : GoodIn wsX2_begin wsJ7_fill_53178 := goodIn_r _ [6] (by decide +kernel) (by decide +kernel)
set_option maxRecDepth 20000 in
theorem gX2_begin_J7_fill_53178 : GoodIn wsX2_begin (va_wsS RX2 23 yJ7_fill_53178 wsJ7_fill_53178) := goodIn_app (goodIn_of _ (by decide +kernel)) ggX2_begin_J7_fill_53178
theorem dX2_begin_0 : decode cX2_begin 0 = .ok (.aload_n 0, 1) := by decide +kernel
theorem dX2_begin_1 : decode cX2_begin 1 = .ok (.getfield 15, 3) := by decide +kernel
theorem dX2_begin_4 : decode cX2_begin 4 = .ok (.iconst 0, 1) := by decide +kernel
theorem dX2_begin_5 : decode cX2_begin 5 = .ok (.invokestatic 23, 3) := by decide +kernel
theorem dX2_begin_8 : decode cX2_begin 8 = .ok (.aload_n 0, 1) := by decide +kernel
theorem dX2_begin_9 : decode cX2_begin 9 = .ok (.iload_n 1, 1) := by decide +kernel
theorem dX2_begin_10 : decode cX2_begin 10 = .ok (.putfield 11, 3) := by decide +kernel
theorem dX2_begin_13 : decode cX2_begin 13 = .ok (.return_, 1) := by decide +kernel
set_option maxRecDepth 20000 in
theorem ggX2_get_X2_hasPlace : GoodIn wsX2_get wsX2_hasPlace := goodIn_r _ [6, 7, 1, 8, 9, 10, 11, 12] (by decide +kernel) (by decide +kernel)
set_option maxRecDepth 20000 in
theorem gX2_get_X2_hasPlace : GoodIn wsX2_get (wsV RX2 29 RX2 yX2_hasPlace wsX2_hasPlace) := goodIn_app (goodIn_of _ (by decide +kernel)) ggX2_get_X2_hasPlace
theorem dX2_get_0 : decode cX2_get 0 = .ok (.aload_n 0, 1) := by decide +kernel
theorem dX2_get_1 : decode cX2_get 1 = .ok (.iload_n 1, 1) := by decide +kernel
theorem dX2_get_2 : decode cX2_get 2 = .ok (.invokevirtual 29, 3) := by decide +kernel
theorem dX2_get_5 : decode cX2_get 5 = .ok (.ifCond .eq 12, 3) := by decide +kernel
theorem dX2_get_8 : decode cX2_get 8 = .ok (.aload_n 0, 1) := by decide +kernel
theorem dX2_get_9 : decode cX2_get 9 = .ok (.getfield 15, 3) := by decide +kernel
theorem dX2_get_12 : decode cX2_get 12 = .ok (.iload_n 1, 1) := by decide +kernel
theorem dX2_get_13 : decode cX2_get 13 = .ok (.iaload, 1) := by decide +kernel
theorem dX2_get_14 : decode cX2_get 14 = .ok (.goto 4, 3) := by decide +kernel
theorem dX2_get_17 : decode cX2_get 17 = .ok (.iconst 0, 1) := by decide +kernel
theorem dX2_get_18 : decode cX2_get 18 = .ok (.ireturn, 1) := by decide +kernel
set_option maxRecDepth 20000 in
theorem ggX2_set_X2_hasPlace : GoodIn wsX2_set wsX2_hasPlace := goodIn_r _ [6, 7, 1, 8, 9, 10, 11, 12] (by decide +kernel) (by decide +kernel)
set_option maxRecDepth 20000 in
theorem gX2_set_X2_hasPlace : GoodIn wsX2_set (wsV RX2 29 RX2 yX2_hasPlace wsX2_hasPlace) := goodIn_app (goodIn_of _ (by decide +kernel)) ggX2_set_X2_hasPlace
theorem dX2_set_0 : decode cX2_set 0 = .ok (.aload_n 0, 1) := by decide +kernel
theorem dX2_set_1 : decode cX2_set 1 = .ok (.iload_n 1, 1) := by decide +kernel
theorem dX2_set_2 : decode cX2_set 2 = .ok (.invokevirtual 29, 3) := by decide +kernel
theorem dX2_set_5 : decode cX2_set 5 = .ok (.ifCond .eq 10, 3) := by decide +kernel
theorem dX2_set_8 : decode cX2_set 8 = .ok (.aload_n 0, 1) := by decide +kernel
theorem dX2_set_9 : decode cX2_set 9 = .ok (.getfield 15, 3) := by decide +kernel
theorem dX2_set_12 : decode cX2_set 12 = .ok (.iload_n 1, 1) := by decide +kernel
theorem dX2_set_13 : decode cX2_set 13 = .ok (.iload_n 2, 1) := by decide +kernel
theorem dX2_set_14 : decode cX2_set 14 = .ok (.iastore, 1) := by decide +kernel
theorem dX2_set_15 : decode cX2_set 15 = .ok (.return_, 1) := by decide +kernel
theorem dX3_init_0 : decode cX3_init 0 = .ok (.aload_n 0, 1) := by decide +kernel
theorem dX3_init_1 : decode cX3_init 1 = .ok (.invokespecial 3, 3) := by decide +kernel
theorem dX3_init_4 : decode cX3_init 4 = .ok (.aload_n 0, 1) := by decide +kernel
theorem dX3_init_5 : decode cX3_init 5 = .ok (.iconst 0, 1) := by decide +kernel
theorem dX3_init_6 : decode cX3_init 6 = .ok (.putfield 9, 3) := by decide +kernel
theorem dX3_init_9 : decode cX3_init 9 = .ok (.aload_n 0, 1) := by decide +kernel
theorem dX3_init_10 : decode cX3_init 10 = .ok (.sipush 200, 3) := by decide +kernel
theorem dX3_init_13 : decode cX3_init 13 = .ok (.newarray .int, 2) := by decide +kernel
theorem dX3_init_15 : decode cX3_init 15 = .ok (.putfield 15, 3) := by decide +kernel
theorem dX3_init_18 : decode cX3_init 18 = .ok (.return_, 1) := by decide +kernel
theorem dX3_clear_0 : decode cX3_clear 0 = .ok (.aload_n 0, 1) := by decide +kernel
theorem dX3_clear_1 : decode cX3_clear 1 = .ok (.iconst 0, 1) := by decide +kernel
theorem dX3_clear_2 : decode cX3_clear 2 = .ok (.putfield 9, 3) := by decide +kernel
theorem dX3_clear_5 : decode cX3_clear 5 = .ok (.return_, 1) := by decide +kernel
theorem dX3_get_0 : decode cX3_get 0 = .ok (.iload_n 1, 1) := by decide +kernel
theorem dX3_get_1 : decode cX3_get 1 = .ok (.ifCond .lt 29, 3) := by decide +kernel
theorem dX3_get_4 : decode cX3_get 4 = .ok (.iload_n 1, 1) := by decide +kernel
theorem dX3_get_5 : decode cX3_get 5 = .ok (.aload_n 0, 1) := by decide +kernel
theorem dX3_get_6 : decode cX3_get 6 = .ok (.getfield 9, 3) := by decide +kernel
theorem dX3_get_9 : decode cX3_get 9 = .ok (.if_icmp .ge 21, 3) := by decide +kernel
theorem dX3_get_12 : decode cX3_get 12 = .ok (.iload_n 1, 1) := by decide +kernel
theorem dX3_get_13 : decode cX3_get 13 = .ok (.aload_n 0, 1) := by decide +kernel
theorem dX3_get_14 : decode cX3_get 14 = .ok (.getfield 15, 3) := by decide +kernel
theorem dX3_get_17 : decode cX3_get 17 = .ok (.arraylength, 1) := by decide +kernel
theorem dX3_get_18 : decode cX3_get 18 = .ok (.if_icmp .ge 12, 3) := by decide +kernel
theorem dX3_get_21 : decode cX3_get 21 = .ok (.aload_n 0, 1) := by decide +kernel
theorem dX3_get_22 : decode cX3_get 22 = .ok (.getfield 15, 3) := by decide +kernel
theorem dX3_get_25 : decode cX3_get 25 = .ok (.iload_n 1, 1) := by decide +kernel
theorem dX3_get_26 : decode cX3_get 26 = .ok (.iaload, 1) := by decide +kernel
theorem dX3_get_27 : decode cX3_get 27 = .ok (.goto 4, 3) := by decide +kernel
theorem dX3_get_30 : decode cX3_get 30 = .ok (.iconst 0, 1) := by decide +kernel
theorem dX3_get_31 : decode cX3_get 31 = .ok (.ireturn, 1) := by decide +kernel
set_option maxRecDepth 20000 in
theorem ggX3_howManyBelow_X3_get : GoodIn wsX3_howManyBelow wsX3_get := goodIn_r _ [6, 1, 7, 8, 9] (by decide +kernel) (by decide +kernel)
set_option maxRecDepth 20000 in
theorem gX3_howManyBelow_X3_get : GoodIn wsX3_howManyBelow (wsV RX3 19 RX3 yX3_get wsX3_get) := goodIn_app (goodIn_of _ (by decide +kernel)) ggX3_howManyBelow_X3_get
theorem dX3_howManyBelow_0 : decode cX3_howManyBelow 0 = .ok (.iconst 0, 1) := by decide +kernel
theorem dX3_howManyBelow_1 : decode cX3_howManyBelow 1 = .ok (.istore_n 2, 1) := by decide +kernel
theorem dX3_howManyBelow_2 : decode cX3_howManyBelow 2 = .ok (.aload_n 0, 1) := by decide +kernel
theorem dX3_howManyBelow_3 : decode cX3_howManyBelow 3 = .ok (.getfield 9, 3) := by decide +kernel
theorem dX3_howManyBelow_6 : decode cX3_howManyBelow 6 = .ok (.istore_n 3, 1) := by decide +kernel
theorem dX3_howManyBelow_7 : decode cX3_howManyBelow 7 = .ok (.iconst 0, 1) := by decide +kernel
theorem dX3_howManyBelow_8 : decode cX3_howManyBelow 8 = .ok (.istore 4, 2) := by decide +kernel
theorem dX3_howManyBelow_10 : decode cX3_howManyBelow 10 = .ok (.iload 4, 2) := by decide +kernel
theorem dX3_howManyBelow_12 : decode cX3_howManyBelow 12 = .ok (.sipush 200, 3) := by decide +kernel
theorem dX3_howManyBelow_15 : decode cX3_howManyBelow 15 = .ok (.if_icmp .ge 42, 3) := by decide +kernel
theorem dX3_howManyBelow_18 : decode cX3_howManyBelow 18 = .ok (.iload_n 2, 1) := by decide +kernel
theorem dX3_howManyBelow_19 : decode cX3_howManyBelow 19 = .ok (.iload_n 3, 1) := by decide +kernel
theorem dX3_howManyBelow_20 : decode cX3_howManyBelow 20 = .ok (.if_icmp .ge 37, 3) := by decide +kernel
theorem dX3_howManyBelow_23 : decode cX3_howManyBelow 23 = .ok (.iload_n 2, 1) := by decide +kernel
theorem dX3_howManyBelow_24 : decode cX3_howManyBelow 24 = .ok (.iload_n 3, 1) := by decide +kernel
theorem dX3_howManyBelow_25 : decode cX3_howManyBelow 25 = .ok (.iadd, 1) := by decide +kernel
theorem dX3_howManyBelow_26 : decode cX3_howManyBelow 26 = .ok (.iconst 2, 1) := by decide +kernel
theorem dX3_howManyBelow_27 : decode cX3_howManyBelow 27 = .ok (.idiv, 1) := by decide +kernel
theorem dX3_howManyBelow_28 : decode cX3_howManyBelow 28 = .ok (.istore 5, 2) := by decide +kernel
theorem dX3_howManyBelow_30 : decode cX3_howManyBelow 30 = .ok (.aload_n 0, 1) := by decide +kernel
theorem dX3_howManyBelow_31 : decode cX3_howManyBelow 31 = .ok (.iload 5, 2) := by decide +kernel
theorem dX3_howManyBelow_33 : decode cX3_howManyBelow 33 = .ok (.invokevirtual 19, 3) := by decide +kernel
theorem dX3_howManyBelow_36 : decode cX3_howManyBelow 36 = .ok (.iload_n 1, 1) := by decide +kernel
theorem dX3_howManyBelow_37 : decode cX3_howManyBelow 37 = .ok (.if_icmp .ge 11, 3) := by decide +kernel
theorem dX3_howManyBelow_40 : decode cX3_howManyBelow 40 = .ok (.iload 5, 2) := by decide +kernel
theorem dX3_howManyBelow_42 : decode cX3_howManyBelow 42 = .ok (.iconst 1, 1) := by decide +kernel
theorem dX3_howManyBelow_43 : decode cX3_howManyBelow 43 = .ok (.iadd, 1) := by decide +kernel
theorem dX3_howManyBelow_44 : decode cX3_howManyBelow 44 = .ok (.istore_n 2, 1) := by decide +kernel
theorem dX3_howManyBelow_45 : decode cX3_howManyBelow 45 = .ok (.goto 6, 3) := by decide +kernel
theorem dX3_howManyBelow_48 : decode cX3_howManyBelow 48 = .ok (.iload 5, 2) := by decide +kernel
theorem dX3_howManyBelow_50 : decode cX3_howManyBelow 50 = .ok (.istore_n 3, 1) := by decide +kernel
theorem dX3_howManyBelow_51 : decode cX3_howManyBelow 51 = .ok (.iinc 4 1, 3) := by decide +kernel
theorem dX3_howManyBelow_54 : decode cX3_howManyBelow 54 = .ok (.goto (-44), 3) := by decide +kernel
theorem dX3_howManyBelow_57 : decode cX3_howManyBelow 57 = .ok (.iload_n 2, 1) := by decide +kernel
theorem dX3_howManyBelow_58 : decode cX3_howManyBelow 58 = .ok (.ireturn, 1) := by decide +kernel
set_option maxRecDepth 20000 in
theorem ggX3_has_X3_howManyBelow : GoodIn wsX3_has wsX3_howManyBelow := goodIn_r _ [6, 1, 7, 8, 9, 5, 10, 11, 12, 13] (by decide +kernel) (by decide +kernel)
set_option maxRecDepth 20000 in
theorem gX3_has_X3_howManyBelow : GoodIn wsX3_has (wsV RX3 23 RX3 yX3_howManyBelow wsX3_howManyBelow) := goodIn_app (goodIn_of _ (by decide +kernel)) ggX3_has_X3_howManyBelow
set_option maxRecDepth 20000 in
theorem ggX3_has_X3_get : GoodIn wsX3_has wsX3_get := goodIn_r _ [10, 1, 11, 12, 13] (by decide +kernel) (by decide +kernel)
set_option maxRecDepth 20000 in
theorem gX3_has_X3_get : GoodIn wsX3_has (wsV RX3 19 RX3 yX3_get wsX3_get) := goodIn_app (goodIn_of _ (by decide +kernel)) ggX3_has_X3_get
theorem dX3_has_0 : decode cX3_has 0 = .ok (.aload_n 0, 1) := by decide +kernel
theorem dX3_has_1 : decode cX3_has 1 = .ok (.iload_n 1, 1) := by decide +kernel
theorem dX3_has_2 : decode cX3_has 2 = .ok (.invokevirtual 23, 3) := by decide +kernel
theorem dX3_has_5 : decode cX3_has 5 = .ok (.istore_n 2, 1) := by decide +kernel
theorem dX3_has_6 : decode cX3_has 6 = .ok (.iload_n 2, 1) := by decide +kernel
theorem dX3_has_7 : decode cX3_has 7 = .ok (.aload_n 0, 1) := by decide +kernel
theorem dX3_has_8 : decode cX3_has 8 = .ok (.getfield 9, 3) := by decide +kernel
theorem dX3_has_11 : decode cX3_has 11 = .ok (.if_icmp .ge 16, 3) := by decide +kernel
theorem dX3_has_14 : decode cX3_has 14 = .ok (.aload_n 0, 1) := by decide +kernel
theorem dX3_has_15 : decode cX3_has 15 = .ok (.iload_n 2, 1) := by decide +kernel
theorem dX3_has_16 : decode cX3_has 16 = .ok (.invokevirtual 19, 3) := by decide +kernel
theorem dX3_has_19 : decode cX3_has 19 = .ok (.iload_n 1, 1) := by decide +kernel
theorem dX3_has_20 : decode cX3_has 20 = .ok (.if_icmp .ne 7, 3) := by decide +kernel
theorem dX3_has_23 : decode cX3_has 23 = .ok (.iconst 1, 1) := by decide +kernel
theorem dX3_has_24 : decode cX3_has 24 = .ok (.goto 4, 3) := by decide +kernel
theorem dX3_has_27 : decode cX3_has 27 = .ok (.iconst 0, 1) := by decide +kernel
theorem dX3_has_28 : decode cX3_has 28 = .ok (.ireturn, 1) := by decide +kernel
set_option maxRecDepth 20000 in
theorem ggX3_add_X3_howManyBelow : GoodIn wsX3_add wsX3_howManyBelow := goodIn_r _ [11, 1, 12, 13, 14, 10, 15, 2, 16, 17] (by decide +kernel) (by decide +kernel)
set_option maxRecDepth 20000 in
theorem gX3_add_X3_howManyBelow : GoodIn wsX3_add (wsV RX3 23 RX3 yX3_howManyBelow wsX3_howManyBelow) := goodIn_app (goodIn_of _ (by decide +kernel)) ggX3_add_X3_howManyBelow
theorem dX3_add_0 : decode cX3_add 0 = .ok (.aload_n 0, 1) := by decide +kernel
theorem dX3_add_1 : decode cX3_add 1 = .ok (.iload_n 1, 1) := by decide +kernel
theorem dX3_add_2 : decode cX3_add 2 = .ok (.invokevirtual 23, 3) := by decide +kernel
theorem dX3_add_5 : decode cX3_add 5 = .ok (.istore_n 2, 1) := by decide +kernel
theorem dX3_add_6 : decode cX3_add 6 = .ok (.aload_n 0, 1) := by decide +kernel
theorem dX3_add_7 : decode cX3_add 7 = .ok (.getfield 9, 3) := by decide +kernel
theorem dX3_add_10 : decode cX3_add 10 = .ok (.aload_n 0, 1) := by decide +kernel
theorem dX3_add_11 : decode cX3_add 11 = .ok (.getfield 15, 3) := by decide +kernel
theorem dX3_add_14 : decode cX3_add 14 = .ok (.arraylength, 1) := by decide +kernel
theorem dX3_add_15 : decode cX3_add 15 = .ok (.if_icmp .ge 49, 3) := by decide +kernel
theorem dX3_add_18 : decode cX3_add 18 = .ok (.iload_n 2, 1) := by decide +kernel
theorem dX3_add_19 : decode cX3_add 19 = .ok (.aload_n 0, 1) := by decide +kernel
theorem dX3_add_20 : decode cX3_add 20 = .ok (.getfield 9, 3) := by decide +kernel
theorem dX3_add_23 : decode cX3_add 23 = .ok (.if_icmp .gt 41, 3) := by decide +kernel
theorem dX3_add_26 : decode cX3_add 26 = .ok (.aload_n 0, 1) := by decide +kernel
theorem dX3_add_27 : decode cX3_add 27 = .ok (.getfield 15, 3) := by decide +kernel
theorem dX3_add_30 : decode cX3_add 30 = .ok (.iload_n 2, 1) := by decide +kernel
theorem dX3_add_31 : decode cX3_add 31 = .ok (.aload_n 0, 1) := by decide +kernel
theorem dX3_add_32 : decode cX3_add 32 = .ok (.getfield 15, 3) := by decide +kernel
theorem dX3_add_35 : decode cX3_add 35 = .ok (.iload_n 2, 1) := by decide +kernel
theorem dX3_add_36 : decode cX3_add 36 = .ok (.iconst 1, 1) := by decide +kernel
theorem dX3_add_37 : decode cX3_add 37 = .ok (.iadd, 1) := by decide +kernel
theorem dX3_add_38 : decode cX3_add 38 = .ok (.aload_n 0, 1) := by decide +kernel
theorem dX3_add_39 : decode cX3_add 39 = .ok (.getfield 9, 3) := by decide +kernel
theorem dX3_add_42 : decode cX3_add 42 = .ok (.iload_n 2, 1) := by decide +kernel
theorem dX3_add_43 : decode cX3_add 43 = .ok (.isub, 1) := by decide +kernel
theorem dX3_add_44 : decode cX3_add 44 = .ok (.invokestatic 26, 3) := by decide +kernel
theorem dX3_add_47 : decode cX3_add 47 = .ok (.aload_n 0, 1) := by decide +kernel
theorem dX3_add_48 : decode cX3_add 48 = .ok (.getfield 15, 3) := by decide +kernel
theorem dX3_add_51 : decode cX3_add 51 = .ok (.iload_n 2, 1) := by decide +kernel
theorem dX3_add_52 : decode cX3_add 52 = .ok (.iload_n 1, 1) := by decide +kernel
theorem dX3_add_53 : decode cX3_add 53 = .ok (.iastore, 1) := by decide +kernel
theorem dX3_add_54 : decode cX3_add 54 = .ok (.aload_n 0, 1) := by decide +kernel
theorem dX3_add_55 : decode cX3_add 55 = .ok (.dup, 1) := by decide +kernel
theorem dX3_add_56 : decode cX3_add 56 = .ok (.getfield 9, 3) := by decide +kernel
theorem dX3_add_59 : decode cX3_add 59 = .ok (.iconst 1, 1) := by decide +kernel
theorem dX3_add_60 : decode cX3_add 60 = .ok (.iadd, 1) := by decide +kernel
theorem dX3_add_61 : decode cX3_add 61 = .ok (.putfield 9, 3) := by decide +kernel
theorem dX3_add_64 : decode cX3_add 64 = .ok (.return_, 1) := by decide +kernel
set_option maxRecDepth 20000 in
theorem ggX3_addOnce_X3_has : GoodIn wsX3_addOnce wsX3_has := goodIn_r _ [5, 6, 7, 8, 9, 4, 10, 11, 12, 13, 14, 15, 24, 25] (by decide +kernel) (by decide +kernel)
set_option maxRecDepth 20000 in
theorem gX3_addOnce_X3_has : GoodIn wsX3_addOnce (wsV RX3 32 RX3 yX3_has wsX3_has) := goodIn_app (goodIn_of _ (by decide +kernel)) ggX3_addOnce_X3_has
set_option maxRecDepth 20000 in
theorem ggX3_addOnce_X3_add : GoodIn wsX3_addOnce wsX3_add := goodIn_r _ [19, 6, 15, 20, 21, 22, 23, 7, 8, 9, 4, 10, 11, 12, 13, 14, 24, 25] (by decide +kernel) (by decide +kernel)
set_option maxRecDepth 20000 in
theorem gX3_addOnce_X3_add : GoodIn wsX3_addOnce (wsV RX3 36 RX3 yX3_add wsX3_add) := goodIn_app (goodIn_of _ (by decide +kernel)) ggX3_addOnce_X3_add
theorem dX3_addOnce_0 : decode cX3_addOnce 0 = .ok (.aload_n 0, 1) := by decide +kernel
theorem dX3_addOnce_1 : decode cX3_addOnce 1 = .ok (.iload_n 1, 1) := by decide +kernel
theorem dX3_addOnce_2 : decode cX3_addOnce 2 = .ok (.invokevirtual 32, 3) := by decide +kernel
theorem dX3_addOnce_5 : decode cX3_addOnce 5 = .ok (.ifCond .ne 8, 3) := by decide +kernel
theorem dX3_addOnce_8 : decode cX3_addOnce 8 = .ok (.aload_n 0, 1) := by decide +kernel
theorem dX3_addOnce_9 : decode cX3_addOnce 9 = .ok (.iload_n 1, 1) := by decide +kernel
theorem dX3_addOnce_10 : decode cX3_addOnce 10 = .ok (.invokevirtual 36, 3) := by decide +kernel
theorem dX3_addOnce_13 : decode cX3_addOnce 13 = .ok (.return_, 1) := by decide +kernel
theorem dX4_init_0 : decode cX4_init 0 = .ok (.aload_n 0, 1) := by decide +kernel
theorem dX4_init_1 : decode cX4_init 1 = .ok (.invokespecial 3, 3) := by decide +kernel
theorem dX4_init_4 : decode cX4_init 4 = .ok (.aload_n 0, 1) := by decide +kernel
theorem dX4_init_5 : decode cX4_init 5 = .ok (.iconst 0, 1) := by decide +kernel
theorem dX4_init_6 : decode cX4_init 6 = .ok (.putfield 9, 3) := by decide +kernel
theorem dX4_init_9 : decode cX4_init 9 = .ok (.aload_n 0, 1) := by decide +kernel
theorem dX4_init_10 : decode cX4_init 10 = .ok (.bipush 72, 2) := by decide +kernel
theorem dX4_init_12 : decode cX4_init 12 = .ok (.newarray .int, 2) := by decide +kernel
theorem dX4_init_14 : decode cX4_init 14 = .ok (.putfield 15, 3) := by decide +kernel
theorem dX4_init_17 : decode cX4_init 17 = .ok (.return_, 1) := by decide +kernel
theorem dX4_isFull_0 : decode cX4_isFull 0 = .ok (.aload_n 0, 1) := by decide +kernel
theorem dX4_isFull_1 : decode cX4_isFull 1 = .ok (.getfield 9, 3) := by decide +kernel
theorem dX4_isFull_4 : decode cX4_isFull 4 = .ok (.aload_n 0, 1) := by decide +kernel
theorem dX4_isFull_5 : decode cX4_isFull 5 = .ok (.getfield 15, 3) := by decide +kernel
theorem dX4_isFull_8 : decode cX4_isFull 8 = .ok (.arraylength, 1) := by decide +kernel
theorem dX4_isFull_9 : decode cX4_isFull 9 = .ok (.if_icmp .lt 7, 3) := by decide +kernel
theorem dX4_isFull_12 : decode cX4_isFull 12 = .ok (.iconst 1, 1) := by decide +kernel
theorem dX4_isFull_13 : decode cX4_isFull 13 = .ok (.goto 4, 3) := by decide +kernel
theorem dX4_isFull_16 : decode cX4_isFull 16 = .ok (.iconst 0, 1) := by decide +kernel
theorem dX4_isFull_17 : decode cX4_isFull 17 = .ok (.ireturn, 1) := by decide +kernel
set_option maxRecDepth 20000 in
theorem ggX4_add_X5_isBelow : GoodIn wsX4_add wsX5_isBelow := goodIn_r _ [5] (by decide +kernel) (by decide +kernel)
set_option maxRecDepth 20000 in
theorem gX4_add_X5_isBelow_n19 : GoodIn wsX4_add (wsX5_isBelow) := ggX4_add_X5_isBelow
theorem dX4_add_0 : decode cX4_add 0 = .ok (.aload_n 0, 1) := by decide +kernel
theorem dX4_add_1 : decode cX4_add 1 = .ok (.getfield 9, 3) := by decide +kernel
theorem dX4_add_4 : decode cX4_add 4 = .ok (.aload_n 0, 1) := by decide +kernel
theorem dX4_add_5 : decode cX4_add 5 = .ok (.getfield 15, 3) := by decide +kernel
theorem dX4_add_8 : decode cX4_add 8 = .ok (.arraylength, 1) := by decide +kernel
theorem dX4_add_9 : decode cX4_add 9 = .ok (.invokestatic 19, 3) := by decide +kernel
theorem dX4_add_12 : decode cX4_add 12 = .ok (.ifCond .eq 23, 3) := by decide +kernel
theorem dX4_add_15 : decode cX4_add 15 = .ok (.aload_n 0, 1) := by decide +kernel
theorem dX4_add_16 : decode cX4_add 16 = .ok (.getfield 15, 3) := by decide +kernel
theorem dX4_add_19 : decode cX4_add 19 = .ok (.aload_n 0, 1) := by decide +kernel
theorem dX4_add_20 : decode cX4_add 20 = .ok (.getfield 9, 3) := by decide +kernel
theorem dX4_add_23 : decode cX4_add 23 = .ok (.iload_n 1, 1) := by decide +kernel
theorem dX4_add_24 : decode cX4_add 24 = .ok (.iastore, 1) := by decide +kernel
theorem dX4_add_25 : decode cX4_add 25 = .ok (.aload_n 0, 1) := by decide +kernel
theorem dX4_add_26 : decode cX4_add 26 = .ok (.dup, 1) := by decide +kernel
theorem dX4_add_27 : decode cX4_add 27 = .ok (.getfield 9, 3) := by decide +kernel
theorem dX4_add_30 : decode cX4_add 30 = .ok (.iconst 1, 1) := by decide +kernel
theorem dX4_add_31 : decode cX4_add 31 = .ok (.iadd, 1) := by decide +kernel
theorem dX4_add_32 : decode cX4_add 32 = .ok (.putfield 9, 3) := by decide +kernel
theorem dX4_add_35 : decode cX4_add 35 = .ok (.return_, 1) := by decide +kernel
theorem dX4_clear_0 : decode cX4_clear 0 = .ok (.aload_n 0, 1) := by decide +kernel
theorem dX4_clear_1 : decode cX4_clear 1 = .ok (.iconst 0, 1) := by decide +kernel
theorem dX4_clear_2 : decode cX4_clear 2 = .ok (.putfield 9, 3) := by decide +kernel
theorem dX4_clear_5 : decode cX4_clear 5 = .ok (.return_, 1) := by decide +kernel
set_option maxRecDepth 20000 in
theorem ggX4_get_X5_isBelow : GoodIn wsX4_get wsX5_isBelow := goodIn_r _ [5] (by decide +kernel) (by decide +kernel)
set_option maxRecDepth 20000 in
theorem gX4_get_X5_isBelow_n19 : GoodIn wsX4_get (wsX5_isBelow) := ggX4_get_X5_isBelow
theorem dX4_get_0 : decode cX4_get 0 = .ok (.iload_n 1, 1) := by decide +kernel
theorem dX4_get_1 : decode cX4_get 1 = .ok (.aload_n 0, 1) := by decide +kernel
theorem dX4_get_2 : decode cX4_get 2 = .ok (.getfield 9, 3) := by decide +kernel
theorem dX4_get_5 : decode cX4_get 5 = .ok (.if_icmp .ge 24, 3) := by decide +kernel
theorem dX4_get_8 : decode cX4_get 8 = .ok (.iload_n 1, 1) := by decide +kernel
theorem dX4_get_9 : decode cX4_get 9 = .ok (.aload_n 0, 1) := by decide +kernel
theorem dX4_get_10 : decode cX4_get 10 = .ok (.getfield 15, 3) := by decide +kernel
theorem dX4_get_13 : decode cX4_get 13 = .ok (.arraylength, 1) := by decide +kernel
theorem dX4_get_14 : decode cX4_get 14 = .ok (.invokestatic 19, 3) := by decide +kernel
theorem dX4_get_17 : decode cX4_get 17 = .ok (.ifCond .eq 12, 3) := by decide +kernel
theorem dX4_get_20 : decode cX4_get 20 = .ok (.aload_n 0, 1) := by decide +kernel
theorem dX4_get_21 : decode cX4_get 21 = .ok (.getfield 15, 3) := by decide +kernel
theorem dX4_get_24 : decode cX4_get 24 = .ok (.iload_n 1, 1) := by decide +kernel
theorem dX4_get_25 : decode cX4_get 25 = .ok (.iaload, 1) := by decide +kernel
theorem dX4_get_26 : decode cX4_get 26 = .ok (.goto 4, 3) := by decide +kernel
theorem dX4_get_29 : decode cX4_get 29 = .ok (.iconst (-1), 1) := by decide +kernel
theorem dX4_get_30 : decode cX4_get 30 = .ok (.ireturn, 1) := by decide +kernel
theorem dX4_digitsBehind_0 : decode cX4_digitsBehind 0 = .ok (.iload_n 0, 1) := by decide +kernel
theorem dX4_digitsBehind_1 : decode cX4_digitsBehind 1 = .ok (.lookupswitch 52 #[(99, 43), (115, 48), (119, 45), (120, 50)], 43) := by decide +kernel
theorem dX4_digitsBehind_44 : decode cX4_digitsBehind 44 = .ok (.iconst 4, 1) := by decide +kernel
theorem dX4_digitsBehind_45 : decode cX4_digitsBehind 45 = .ok (.ireturn, 1) := by decide +kernel
theorem dX4_digitsBehind_46 : decode cX4_digitsBehind 46 = .ok (.bipush 10, 2) := by decide +kernel
theorem dX4_digitsBehind_48 : decode cX4_digitsBehind 48 = .ok (.ireturn, 1) := by decide +kernel
theorem dX4_digitsBehind_49 : decode cX4_digitsBehind 49 = .ok (.iconst 5, 1) := by decide +kernel
theorem dX4_digitsBehind_50 : decode cX4_digitsBehind 50 = .ok (.ireturn, 1) := by decide +kernel
theorem dX4_digitsBehind_51 : decode cX4_digitsBehind 51 = .ok (.iconst 1, 1) := by decide +kernel
theorem dX4_digitsBehind_52 : decode cX4_digitsBehind 52 = .ok (.ireturn, 1) := by decide +kernel
theorem dX4_digitsBehind_53 : decode cX4_digitsBehind 53 = .ok (.iconst (-1), 1) := by decide +kernel
theorem dX4_digitsBehind_54 : decode cX4_digitsBehind 54 = .ok (.ireturn, 1) := by decide +kernel
set_option maxRecDepth 20000 in
theorem ggX4_statementLength_X4_get : GoodIn wsX4_statementLength wsX4_get := goodIn_r _ [5, 6, 7, 8, 9, 10, 14, 15] (by decide +kernel) (by decide +kernel)
set_option maxRecDepth 20000 in
theorem gX4_statementLength_X4_get : GoodIn wsX4_statementLength (wsV RX4 23 RX4 yX4_get wsX4_get) := goodIn_app (goodIn_of _ (by decide +kernel)) ggX4_statementLength_X4_get
set_option maxRecDepth 20000 in
theorem ggX4_statementLength_X4_digitsBehind : GoodIn wsX4_statementLength wsX4_digitsBehind := goodIn_r _ [13] (by decide +kernel) (by decide +kernel)
set_option maxRecDepth 20000 in
theorem gX4_statementLength_X4_digitsBehind : GoodIn wsX4_statementLength (va_wsS RX4 27 yX4_digitsBehind wsX4_digitsBehind) := goodIn_app (goodIn_of _ (by decide +kernel)) ggX4_statementLength_X4_digitsBehind
theorem dX4_statementLength_0 : decode cX4_statementLength 0 = .ok (.aload_n 0, 1) := by decide +kernel
theorem dX4_statementLength_1 : decode cX4_statementLength 1 = .ok (.iload_n 1, 1) := by decide +kernel
theorem dX4_statementLength_2 : decode cX4_statementLength 2 = .ok (.invokevirtual 23, 3) := by decide +kernel
theorem dX4_statementLength_5 : decode cX4_statementLength 5 = .ok (.invokestatic 27, 3) := by decide +kernel
theorem dX4_statementLength_8 : decode cX4_statementLength 8 = .ok (.iconst 2, 1) := by decide +kernel
theorem dX4_statementLength_9 : decode cX4_statementLength 9 = .ok (.iadd, 1) := by decide +kernel
theorem dX4_statementLength_10 : decode cX4_statementLength 10 = .ok (.ireturn, 1) := by decide +kernel
set_option maxRecDepth 20000 in
theorem ggX4_formFault_X4_statementFault : GoodIn wsX4_formFault wsX4_statementFault := goodIn_r _ [6, 7, 8, 9, 5, 10, 1, 11, 12, 13, 14, 15, 16, 17, 22, 23] (by decide +kernel) (by decide +kernel)
set_option maxRecDepth 20000 in
theorem gX4_formFault_X4_statementFault : GoodIn wsX4_formFault (wsV RX4 30 RX4 yX4_statementFault wsX4_statementFault) := goodIn_app (goodIn_of _ (by decide +kernel)) ggX4_formFault_X4_statementFault
set_option maxRecDepth 20000 in
theorem ggX4_formFault_X4_statementLength : GoodIn wsX4_formFault wsX4_statementLength := goodIn_r _ [21, 7, 8, 9, 5, 10, 1, 11, 12, 13, 14, 15, 16, 17, 22, 23] (by decide +kernel) (by decide +kernel)
set_option maxRecDepth 20000 in
theorem gX4_formFault_X4_statementLength : GoodIn wsX4_formFault (wsV RX4 33 RX4 yX4_statementLength wsX4_statementLength) := goodIn_app (goodIn_of _ (by decide +kernel)) ggX4_formFault_X4_statementLength
theorem dX4_formFault_0 : decode cX4_formFault 0 = .ok (.iconst 0, 1) := by decide +kernel
theorem dX4_formFault_1 : decode cX4_formFault 1 = .ok (.istore_n 1, 1) := by decide +kernel
theorem dX4_formFault_2 : decode cX4_formFault 2 = .ok (.iconst 0, 1) := by decide +kernel
theorem dX4_formFault_3 : decode cX4_formFault 3 = .ok (.istore_n 2, 1) := by decide +kernel
theorem dX4_formFault_4 : decode cX4_formFault 4 = .ok (.iload_n 2, 1) := by decide +kernel
theorem dX4_formFault_5 : decode cX4_formFault 5 = .ok (.bipush 72, 2) := by decide +kernel
theorem dX4_formFault_7 : decode cX4_formFault 7 = .ok (.if_icmp .ge 42, 3) := by decide +kernel
theorem dX4_formFault_10 : decode cX4_formFault 10 = .ok (.aload_n 0, 1) := by decide +kernel
theorem dX4_formFault_11 : decode cX4_formFault 11 = .ok (.iload_n 1, 1) := by decide +kernel
theorem dX4_formFault_12 : decode cX4_formFault 12 = .ok (.invokevirtual 30, 3) := by decide +kernel
theorem dX4_formFault_15 : decode cX4_formFault 15 = .ok (.istore_n 3, 1) := by decide +kernel
theorem dX4_formFault_16 : decode cX4_formFault 16 = .ok (.iload_n 3, 1) := by decide +kernel
theorem dX4_formFault_17 : decode cX4_formFault 17 = .ok (.bipush (-9), 2) := by decide +kernel
theorem dX4_formFault_19 : decode cX4_formFault 19 = .ok (.if_icmp .eq 5, 3) := by decide +kernel
theorem dX4_formFault_22 : decode cX4_formFault 22 = .ok (.iload_n 3, 1) := by decide +kernel
theorem dX4_formFault_23 : decode cX4_formFault 23 = .ok (.ireturn, 1) := by decide +kernel
theorem dX4_formFault_24 : decode cX4_formFault 24 = .ok (.iload_n 1, 1) := by decide +kernel
theorem dX4_formFault_25 : decode cX4_formFault 25 = .ok (.aload_n 0, 1) := by decide +kernel
theorem dX4_formFault_26 : decode cX4_formFault 26 = .ok (.iload_n 1, 1) := by decide +kernel
theorem dX4_formFault_27 : decode cX4_formFault 27 = .ok (.invokevirtual 33, 3) := by decide +kernel
theorem dX4_formFault_30 : decode cX4_formFault 30 = .ok (.iadd, 1) := by decide +kernel
theorem dX4_formFault_31 : decode cX4_formFault 31 = .ok (.istore_n 1, 1) := by decide +kernel
theorem dX4_formFault_32 : decode cX4_formFault 32 = .ok (.iload_n 1, 1) := by decide +kernel
theorem dX4_formFault_33 : decode cX4_formFault 33 = .ok (.aload_n 0, 1) := by decide +kernel
theorem dX4_formFault_34 : decode cX4_formFault 34 = .ok (.getfield 9, 3) := by decide +kernel
theorem dX4_formFault_37 : decode cX4_formFault 37 = .ok (.if_icmp .lt 6, 3) := by decide +kernel
theorem dX4_formFault_40 : decode cX4_formFault 40 = .ok (.bipush (-9), 2) := by decide +kernel
theorem dX4_formFault_42 : decode cX4_formFault 42 = .ok (.ireturn, 1) := by decide +kernel
theorem dX4_formFault_43 : decode cX4_formFault 43 = .ok (.iinc 2 1, 3) := by decide +kernel
theorem dX4_formFault_46 : decode cX4_formFault 46 = .ok (.goto (-42), 3) := by decide +kernel
theorem dX4_formFault_49 : decode cX4_formFault 49 = .ok (.bipush (-9), 2) := by decide +kernel
theorem dX4_formFault_51 : decode cX4_formFault 51 = .ok (.ireturn, 1) := by decide +kernel
set_option maxRecDepth 20000 in
theorem ggX4_statementFault_X4_get : GoodIn wsX4_statementFault wsX4_get := goodIn_r _ [5, 6, 7, 8, 9, 10, 14, 15] (by decide +kernel) (by decide +kernel)
set_option maxRecDepth 20000 in
theorem gX4_statementFault_X4_get : GoodIn wsX4_statementFault (wsV RX4 23 RX4 yX4_get wsX4_get) := goodIn_app (goodIn_of _ (by decide +kernel)) ggX4_statementFault_X4_get
set_option maxRecDepth 20000 in
theorem ggX4_statementFault_X4_digitsBehind : GoodIn wsX4_statementFault wsX4_digitsBehind := goodIn_r _ [13] (by decide +kernel) (by decide +kernel)
set_option maxRecDepth 20000 in
theorem gX4_statementFault_X4_digitsBehind : GoodIn wsX4_statementFault (va_wsS RX4 27 yX4_digitsBehind wsX4_digitsBehind) := goodIn_app (goodIn_of _ (by decide +kernel)) ggX4_statementFault_X4_digitsBehind
theorem dX4_statementFault_0 : decode cX4_statementFault 0 = .ok (.aload_n 0, 1) := by decide +kernel
theorem dX4_statementFault_1 : decode cX4_statementFault 1 = .ok (.iload_n 1, 1) := by decide +kernel
theorem dX4_statementFault_2 : decode cX4_statementFault 2 = .ok (.invokevirtual 23, 3) := by decide +kernel
theorem dX4_statementFault_5 : decode cX4_statementFault 5 = .ok (.invokestatic 27, 3) := by decide +kernel
theorem dX4_statementFault_8 : decode cX4_statementFault 8 = .ok (.istore_n 2, 1) := by decide +kernel
theorem dX4_statementFault_9 : decode cX4_statementFault 9 = .ok (.iload_n 2, 1) := by decide +kernel
theorem dX4_statementFault_10 : decode cX4_statementFault 10 = .ok (.ifCond .ge 5, 3) := by decide +kernel
theorem dX4_statementFault_13 : decode cX4_statementFault 13 = .ok (.iload_n 1, 1) := by decide +kernel
theorem dX4_statementFault_14 : decode cX4_statementFault 14 = .ok (.ireturn, 1) := by decide +kernel
theorem dX4_statementFault_15 : decode cX4_statementFault 15 = .ok (.iload_n 1, 1) := by decide +kernel
theorem dX4_statementFault_16 : decode cX4_statementFault 16 = .ok (.iconst 1, 1) := by decide +kernel
theorem dX4_statementFault_17 : decode cX4_statementFault 17 = .ok (.iadd, 1) := by decide +kernel
theorem dX4_statementFault_18 : decode cX4_statementFault 18 = .ok (.istore_n 3, 1) := by decide +kernel
theorem dX4_statementFault_19 : decode cX4_statementFault 19 = .ok (.iload_n 3, 1) := by decide +kernel
theorem dX4_statementFault_20 : decode cX4_statementFault 20 = .ok (.iload_n 1, 1) := by decide +kernel
theorem dX4_statementFault_21 : decode cX4_statementFault 21 = .ok (.iload_n 2, 1) := by decide +kernel
theorem dX4_statementFault_22 : decode cX4_statementFault 22 = .ok (.iadd, 1) := by decide +kernel
theorem dX4_statementFault_23 : decode cX4_statementFault 23 = .ok (.if_icmp .gt 31, 3) := by decide +kernel
theorem dX4_statementFault_26 : decode cX4_statementFault 26 = .ok (.aload_n 0, 1) := by decide +kernel
theorem dX4_statementFault_27 : decode cX4_statementFault 27 = .ok (.iload_n 3, 1) := by decide +kernel
theorem dX4_statementFault_28 : decode cX4_statementFault 28 = .ok (.invokevirtual 23, 3) := by decide +kernel
theorem dX4_statementFault_31 : decode cX4_statementFault 31 = .ok (.bipush 48, 2) := by decide +kernel
theorem dX4_statementFault_33 : decode cX4_statementFault 33 = .ok (.if_icmp .lt 13, 3) := by decide +kernel
theorem dX4_statementFault_36 : decode cX4_statementFault 36 = .ok (.aload_n 0, 1) := by decide +kernel
theorem dX4_statementFault_37 : decode cX4_statementFault 37 = .ok (.iload_n 3, 1) := by decide +kernel
theorem dX4_statementFault_38 : decode cX4_statementFault 38 = .ok (.invokevirtual 23, 3) := by decide +kernel
theorem dX4_statementFault_41 : decode cX4_statementFault 41 = .ok (.bipush 57, 2) := by decide +kernel
theorem dX4_statementFault_43 : decode cX4_statementFault 43 = .ok (.if_icmp .le 5, 3) := by decide +kernel
theorem dX4_statementFault_46 : decode cX4_statementFault 46 = .ok (.iload_n 3, 1) := by decide +kernel
theorem dX4_statementFault_47 : decode cX4_statementFault 47 = .ok (.ireturn, 1) := by decide +kernel
theorem dX4_statementFault_48 : decode cX4_statementFault 48 = .ok (.iinc 3 1, 3) := by decide +kernel
theorem dX4_statementFault_51 : decode cX4_statementFault 51 = .ok (.goto (-32), 3) := by decide +kernel
theorem dX4_statementFault_54 : decode cX4_statementFault 54 = .ok (.iload_n 1, 1) := by decide +kernel
theorem dX4_statementFault_55 : decode cX4_statementFault 55 = .ok (.iload_n 2, 1) := by decide +kernel
theorem dX4_statementFault_56 : decode cX4_statementFault 56 = .ok (.iadd, 1) := by decide +kernel
theorem dX4_statementFault_57 : decode cX4_statementFault 57 = .ok (.iconst 1, 1) := by decide +kernel
theorem dX4_statementFault_58 : decode cX4_statementFault 58 = .ok (.iadd, 1) := by decide +kernel
theorem dX4_statementFault_59 : decode cX4_statementFault 59 = .ok (.istore_n 3, 1) := by decide +kernel
theorem dX4_statementFault_60 : decode cX4_statementFault 60 = .ok (.aload_n 0, 1) := by decide +kernel
theorem dX4_statementFault_61 : decode cX4_statementFault 61 = .ok (.iload_n 3, 1) := by decide +kernel
theorem dX4_statementFault_62 : decode cX4_statementFault 62 = .ok (.invokevirtual 23, 3) := by decide +kernel
theorem dX4_statementFault_65 : decode cX4_statementFault 65 = .ok (.bipush 59, 2) := by decide +kernel
theorem dX4_statementFault_67 : decode cX4_statementFault 67 = .ok (.if_icmp .ne 8, 3) := by decide +kernel
theorem dX4_statementFault_70 : decode cX4_statementFault 70 = .ok (.bipush (-9), 2) := by decide +kernel
theorem dX4_statementFault_72 : decode cX4_statementFault 72 = .ok (.goto 4, 3) := by decide +kernel
theorem dX4_statementFault_75 : decode cX4_statementFault 75 = .ok (.iload_n 3, 1) := by decide +kernel
theorem dX4_statementFault_76 : decode cX4_statementFault 76 = .ok (.ireturn, 1) := by decide +kernel
set_option maxRecDepth 20000 in
theorem ggX4_number_X4_get : GoodIn wsX4_number wsX4_get := goodIn_r _ [5, 6, 7, 8, 9, 10, 11, 12] (by decide +kernel) (by decide +kernel)
set_option maxRecDepth 20000 in
theorem gX4_number_X4_get : GoodIn wsX4_number (wsV RX4 23 RX4 yX4_get wsX4_get) := goodIn_app (goodIn_of _ (by decide +kernel)) ggX4_number_X4_get
theorem dX4_number_0 : decode cX4_number 0 = .ok (.iconst 0, 1) := by decide +kernel
theorem dX4_number_1 : decode cX4_number 1 = .ok (.istore_n 3, 1) := by decide +kernel
theorem dX4_number_2 : decode cX4_number 2 = .ok (.iload_n 1, 1) := by decide +kernel
theorem dX4_number_3 : decode cX4_number 3 = .ok (.istore 4, 2) := by decide +kernel
theorem dX4_number_5 : decode cX4_number 5 = .ok (.iload 4, 2) := by decide +kernel
theorem dX4_number_7 : decode cX4_number 7 = .ok (.iload_n 1, 1) := by decide +kernel
theorem dX4_number_8 : decode cX4_number 8 = .ok (.iload_n 2, 1) := by decide +kernel
theorem dX4_number_9 : decode cX4_number 9 = .ok (.iadd, 1) := by decide +kernel
theorem dX4_number_10 : decode cX4_number 10 = .ok (.if_icmp .ge 24, 3) := by decide +kernel
theorem dX4_number_13 : decode cX4_number 13 = .ok (.iload_n 3, 1) := by decide +kernel
theorem dX4_number_14 : decode cX4_number 14 = .ok (.bipush 10, 2) := by decide +kernel
theorem dX4_number_16 : decode cX4_number 16 = .ok (.imul, 1) := by decide +kernel
theorem dX4_number_17 : decode cX4_number 17 = .ok (.aload_n 0, 1) := by decide +kernel
theorem dX4_number_18 : decode cX4_number 18 = .ok (.iload 4, 2) := by decide +kernel
theorem dX4_number_20 : decode cX4_number 20 = .ok (.invokevirtual 23, 3) := by decide +kernel
theorem dX4_number_23 : decode cX4_number 23 = .ok (.iadd, 1) := by decide +kernel
theorem dX4_number_24 : decode cX4_number 24 = .ok (.bipush 48, 2) := by decide +kernel
theorem dX4_number_26 : decode cX4_number 26 = .ok (.isub, 1) := by decide +kernel
theorem dX4_number_27 : decode cX4_number 27 = .ok (.istore_n 3, 1) := by decide +kernel
theorem dX4_number_28 : decode cX4_number 28 = .ok (.iinc 4 1, 3) := by decide +kernel
theorem dX4_number_31 : decode cX4_number 31 = .ok (.goto (-26), 3) := by decide +kernel
theorem dX4_number_34 : decode cX4_number 34 = .ok (.iload_n 3, 1) := by decide +kernel
theorem dX4_number_35 : decode cX4_number 35 = .ok (.ireturn, 1) := by decide +kernel
theorem dJ9_abs_067f4_0 : decode cJ9_abs_067f4 0 = .ok (.lload_n 0, 1) := by decide +kernel
theorem dJ9_abs_067f4_1 : decode cJ9_abs_067f4 1 = .ok (.lconst 0, 1) := by decide +kernel
theorem dJ9_abs_067f4_2 : decode cJ9_abs_067f4 2 = .ok (.lcmp, 1) := by decide +kernel
theorem dJ9_abs_067f4_3 : decode cJ9_abs_067f4 3 = .ok (.ifCond .ge 8, 3) := by decide +kernel
theorem dJ9_abs_067f4_6 : decode cJ9_abs_067f4 6 = .ok (.lload_n 0, 1) := by decide +kernel
theorem dJ9_abs_067f4_7 : decode cJ9_abs_067f4 7 = .ok (.lneg, 1) := by decide +kernel
theorem dJ9_abs_067f4_8 : decode cJ9_abs_067f4 8 = .ok (.goto 4, 3) := by decide +kernel
theorem dJ9_abs_067f4_11 : decode cJ9_abs_067f4 11 = .ok (.lload_n 0, 1) := by decide +kernel
theorem dJ9_abs_067f4_12 : decode cJ9_abs_067f4 12 = .ok (.lreturn, 1) := by decide +kernel
theorem dJ9_max_f86c9_0 : decode cJ9_max_f86c9 0 = .ok (.lload_n 0, 1) := by decide +kernel
theorem dJ9_max_f86c9_1 : decode cJ9_max_f86c9 1 = .ok (.lload_n 2, 1) := by decide +kernel
theorem dJ9_max_f86c9_2 : decode cJ9_max_f86c9 2 = .ok (.lcmp, 1) := by decide +kernel
theorem dJ9_max_f86c9_3 : decode cJ9_max_f86c9 3 = .ok (.ifCond .lt 7, 3) := by decide +kernel
theorem dJ9_max_f86c9_6 : decode cJ9_max_f86c9 6 = .ok (.lload_n 0, 1) := by decide +kernel
theorem dJ9_max_f86c9_7 : decode cJ9_max_f86c9 7 = .ok (.goto 4, 3) := by decide +kernel
theorem dJ9_max_f86c9_10 : decode cJ9_max_f86c9 10 = .ok (.lload_n 2, 1) := by decide +kernel
theorem dJ9_max_f86c9_11 : decode cJ9_max_f86c9 11 = .ok (.lreturn, 1) := by decide +kernel
theorem dJ9_min_7cf53_0 : decode cJ9_min_7cf53 0 = .ok (.iload_n 0, 1) := by decide +kernel
theorem dJ9_min_7cf53_1 : decode cJ9_min_7cf53 1 = .ok (.iload_n 1, 1) := by decide +kernel
theorem dJ9_min_7cf53_2 : decode cJ9_min_7cf53 2 = .ok (.if_icmp .gt 7, 3) := by decide +kernel
theorem dJ9_min_7cf53_5 : decode cJ9_min_7cf53 5 = .ok (.iload_n 0, 1) := by decide +kernel
theorem dJ9_min_7cf53_6 : decode cJ9_min_7cf53 6 = .ok (.goto 4, 3) := by decide +kernel
theorem dJ9_min_7cf53_9 : decode cJ9_min_7cf53 9 = .ok (.iload_n 1, 1) := by decide +kernel
theorem dJ9_min_7cf53_10 : decode cJ9_min_7cf53 10 = .ok (.ireturn, 1) := by decide +kernel
theorem dJ7_fill_53178_0 : decode cJ7_fill_53178 0 = .ok (.iconst 0, 1) := by decide +kernel
theorem dJ7_fill_53178_1 : decode cJ7_fill_53178 1 = .ok (.istore_n 2, 1) := by decide +kernel
theorem dJ7_fill_53178_2 : decode cJ7_fill_53178 2 = .ok (.aload_n 0, 1) := by decide +kernel
theorem dJ7_fill_53178_3 : decode cJ7_fill_53178 3 = .ok (.arraylength, 1) := by decide +kernel
theorem dJ7_fill_53178_4 : decode cJ7_fill_53178 4 = .ok (.istore_n 3, 1) := by decide +kernel
theorem dJ7_fill_53178_5 : decode cJ7_fill_53178 5 = .ok (.iload_n 2, 1) := by decide +kernel
theorem dJ7_fill_53178_6 : decode cJ7_fill_53178 6 = .ok (.iload_n 3, 1) := by decide +kernel
theorem dJ7_fill_53178_7 : decode cJ7_fill_53178 7 = .ok (.if_icmp .ge 13, 3) := by decide +kernel
theorem dJ7_fill_53178_10 : decode cJ7_fill_53178 10 = .ok (.aload_n 0, 1) := by decide +kernel
theorem dJ7_fill_53178_11 : decode cJ7_fill_53178 11 = .ok (.iload_n 2, 1) := by decide +kernel
theorem dJ7_fill_53178_12 : decode cJ7_fill_53178 12 = .ok (.iload_n 1, 1) := by decide +kernel
theorem dJ7_fill_53178_13 : decode cJ7_fill_53178 13 = .ok (.iastore, 1) := by decide +kernel
theorem dJ7_fill_53178_14 : decode cJ7_fill_53178 14 = .ok (.iinc 2 1, 3) := by decide +kernel
theorem dJ7_fill_53178_17 : decode cJ7_fill_53178 17 = .ok (.goto (-12), 3) := by decide +kernel
theorem dJ7_fill_53178_20 : decode cJ7_fill_53178 20 = .ok (.return_, 1) := by decide +kernel
