theorem dX6_odds_19 : decode cX6_odds 19 = .ok (.lreturn, 1) := by decide +kernel
theorem dX6_odds_20 : decode cX6_odds 20 = .ok (.iload_n 3, 1) := by decide +kernel
theorem dX6_odds_21 : decode cX6_odds 21 = .ok (.i2l, 1) := by decide +kernel
theorem dX6_odds_22 : decode cX6_odds 22 = .ok (.lconst 0, 1) := by decide +kernel
theorem dX6_odds_23 : decode cX6_odds 23 = .ok (.lconst 1, 1) := by decide +kernel
theorem dX6_odds_24 : decode cX6_odds 24 = .ok (.invokestatic 73, 3) := by decide +kernel
theorem dX6_odds_27 : decode cX6_odds 27 = .ok (.ifCond .ne 10, 3) := by decide +kernel
theorem dX6_odds_30 : decode cX6_odds 30 = .ok (.aload_n 0, 1) := by decide +kernel
theorem dX6_odds_31 : decode cX6_odds 31 = .ok (.bipush (-2), 2) := by decide +kernel
theorem dX6_odds_33 : decode cX6_odds 33 = .ok (.invokevirtual 172, 3) := by decide +kernel
theorem dX6_odds_36 : decode cX6_odds 36 = .ok (.lreturn, 1) := by decide +kernel
theorem dX6_odds_37 : decode cX6_odds 37 = .ok (.aload_n 0, 1) := by decide +kernel
theorem dX6_odds_38 : decode cX6_odds 38 = .ok (.iload_n 1, 1) := by decide +kernel
theorem dX6_odds_39 : decode cX6_odds 39 = .ok (.iload_n 2, 1) := by decide +kernel
theorem dX6_odds_40 : decode cX6_odds 40 = .ok (.invokevirtual 152, 3) := by decide +kernel
theorem dX6_odds_43 : decode cX6_odds 43 = .ok (.aload_n 0, 1) := by decide +kernel
theorem dX6_odds_44 : decode cX6_odds 44 = .ok (.getfield 146, 3) := by decide +kernel
theorem dX6_odds_47 : decode cX6_odds 47 = .ok (.i2l, 1) := by decide +kernel
theorem dX6_odds_48 : decode cX6_odds 48 = .ok (.aload_n 0, 1) := by decide +kernel
theorem dX6_odds_49 : decode cX6_odds 49 = .ok (.getfield 13, 3) := by decide +kernel
theorem dX6_odds_52 : decode cX6_odds 52 = .ok (.i2l, 1) := by decide +kernel
theorem dX6_odds_53 : decode cX6_odds 53 = .ok (.iload_n 3, 1) := by decide +kernel
theorem dX6_odds_54 : decode cX6_odds 54 = .ok (.invokestatic 176, 3) := by decide +kernel
theorem dX6_odds_57 : decode cX6_odds 57 = .ok (.lreturn, 1) := by decide +kernel
set_option maxRecDepth 20000 in
theorem ggX6_takesTerms_X6_at : GoodIn wsX6_takesTerms wsX6_at := goodIn_r _ [7, 8, 9, 10, 11, 12, 13, 14, 15, 16, 17, 18, 19, 20, 21, 22, 23, 24, 25, 26, 27, 28, 29, 30] (by decide +kernel) (by decide +kernel)
set_option maxRecDepth 20000 in
theorem gX6_takesTerms_X6_at : GoodIn wsX6_takesTerms (wsV RX6 81 RX6 yX6_at wsX6_at) := goodIn_app (goodIn_of _ (by decide +kernel)) ggX6_takesTerms_X6_at
theorem dX6_takesTerms_0 : decode cX6_takesTerms 0 = .ok (.aload_n 0, 1) := by decide +kernel
theorem dX6_takesTerms_1 : decode cX6_takesTerms 1 = .ok (.iload_n 1, 1) := by decide +kernel
theorem dX6_takesTerms_2 : decode cX6_takesTerms 2 = .ok (.iconst 1, 1) := by decide +kernel
theorem dX6_takesTerms_3 : decode cX6_takesTerms 3 = .ok (.invokevirtual 81, 3) := by decide +kernel
theorem dX6_takesTerms_6 : decode cX6_takesTerms 6 = .ok (.istore_n 2, 1) := by decide +kernel
theorem dX6_takesTerms_7 : decode cX6_takesTerms 7 = .ok (.aload_n 0, 1) := by decide +kernel
theorem dX6_takesTerms_8 : decode cX6_takesTerms 8 = .ok (.getfield 13, 3) := by decide +kernel
theorem dX6_takesTerms_11 : decode cX6_takesTerms 11 = .ok (.istore_n 3, 1) := by decide +kernel
theorem dX6_takesTerms_12 : decode cX6_takesTerms 12 = .ok (.iconst 0, 1) := by decide +kernel
theorem dX6_takesTerms_13 : decode cX6_takesTerms 13 = .ok (.istore 4, 2) := by decide +kernel
theorem dX6_takesTerms_15 : decode cX6_takesTerms 15 = .ok (.iload_n 3, 1) := by decide +kernel
theorem dX6_takesTerms_16 : decode cX6_takesTerms 16 = .ok (.ifCond .le 29, 3) := by decide +kernel
theorem dX6_takesTerms_19 : decode cX6_takesTerms 19 = .ok (.aload_n 0, 1) := by decide +kernel
theorem dX6_takesTerms_20 : decode cX6_takesTerms 20 = .ok (.getfield 41, 3) := by decide +kernel
theorem dX6_takesTerms_23 : decode cX6_takesTerms 23 = .ok (.iload 4, 2) := by decide +kernel
theorem dX6_takesTerms_25 : decode cX6_takesTerms 25 = .ok (.iload_n 2, 1) := by decide +kernel
theorem dX6_takesTerms_26 : decode cX6_takesTerms 26 = .ok (.iload_n 3, 1) := by decide +kernel
theorem dX6_takesTerms_27 : decode cX6_takesTerms 27 = .ok (.idiv, 1) := by decide +kernel
theorem dX6_takesTerms_28 : decode cX6_takesTerms 28 = .ok (.iastore, 1) := by decide +kernel
theorem dX6_takesTerms_29 : decode cX6_takesTerms 29 = .ok (.iinc 4 1, 3) := by decide +kernel
theorem dX6_takesTerms_32 : decode cX6_takesTerms 32 = .ok (.iload_n 2, 1) := by decide +kernel
theorem dX6_takesTerms_33 : decode cX6_takesTerms 33 = .ok (.iload_n 3, 1) := by decide +kernel
theorem dX6_takesTerms_34 : decode cX6_takesTerms 34 = .ok (.irem, 1) := by decide +kernel
theorem dX6_takesTerms_35 : decode cX6_takesTerms 35 = .ok (.istore 5, 2) := by decide +kernel
theorem dX6_takesTerms_37 : decode cX6_takesTerms 37 = .ok (.iload_n 3, 1) := by decide +kernel
theorem dX6_takesTerms_38 : decode cX6_takesTerms 38 = .ok (.istore_n 2, 1) := by decide +kernel
theorem dX6_takesTerms_39 : decode cX6_takesTerms 39 = .ok (.iload 5, 2) := by decide +kernel
theorem dX6_takesTerms_41 : decode cX6_takesTerms 41 = .ok (.istore_n 3, 1) := by decide +kernel
theorem dX6_takesTerms_42 : decode cX6_takesTerms 42 = .ok (.goto (-27), 3) := by decide +kernel
theorem dX6_takesTerms_45 : decode cX6_takesTerms 45 = .ok (.iload 4, 2) := by decide +kernel
theorem dX6_takesTerms_47 : decode cX6_takesTerms 47 = .ok (.ireturn, 1) := by decide +kernel
set_option maxRecDepth 20000 in
theorem ggX6_terms_X6_isWalker : GoodIn wsX6_terms wsX6_isWalker := goodIn_r _ [6, 7, 8, 9, 5, 10, 26, 27, 28, 29, 30, 31, 32, 33, 34, 35, 36, 37, 38, 39, 40, 41, 42, 43, 44, 45, 46, 47] (by decide +kernel) (by decide +kernel)
set_option maxRecDepth 20000 in
theorem gX6_terms_X6_isWalker : GoodIn wsX6_terms (wsV RX6 89 RX6 yX6_isWalker wsX6_isWalker) := goodIn_app (goodIn_of _ (by decide +kernel)) ggX6_terms_X6_isWalker
set_option maxRecDepth 20000 in
theorem ggX6_terms_X6_no : GoodIn wsX6_terms wsX6_no := goodIn_r _ [14, 15, 26, 27, 28, 29, 30, 31, 32, 33, 34, 35, 36, 37, 38, 39, 40, 41, 42, 43, 44, 45, 46, 47] (by decide +kernel) (by decide +kernel)
set_option maxRecDepth 20000 in
theorem gX6_terms_X6_no : GoodIn wsX6_terms (wsV RX6 66 RX6 yX6_no wsX6_no) := goodIn_app (goodIn_of _ (by decide +kernel)) ggX6_terms_X6_no
set_option maxRecDepth 20000 in
theorem ggX6_terms_X6_takesTerms : GoodIn wsX6_terms wsX6_takesTerms := goodIn_r _ [19, 20, 1, 21, 22, 23, 5, 24, 25, 26, 27, 28, 29, 30, 31, 32, 33, 34, 35, 36, 37, 38, 39, 40, 41, 42, 43, 44, 45, 46, 47] (by decide +kernel) (by decide +kernel)
set_option maxRecDepth 20000 in
theorem gX6_terms_X6_takesTerms : GoodIn wsX6_terms (wsV RX6 187 RX6 yX6_takesTerms wsX6_takesTerms) := goodIn_app (goodIn_of _ (by decide +kernel)) ggX6_terms_X6_takesTerms
theorem dX6_terms_0 : decode cX6_terms 0 = .ok (.aload_n 0, 1) := by decide +kernel
theorem dX6_terms_1 : decode cX6_terms 1 = .ok (.iload_n 1, 1) := by decide +kernel
theorem dX6_terms_2 : decode cX6_terms 2 = .ok (.invokevirtual 89, 3) := by decide +kernel
theorem dX6_terms_5 : decode cX6_terms 5 = .ok (.ifCond .ne 9, 3) := by decide +kernel
theorem dX6_terms_8 : decode cX6_terms 8 = .ok (.aload_n 0, 1) := by decide +kernel
theorem dX6_terms_9 : decode cX6_terms 9 = .ok (.iconst (-1), 1) := by decide +kernel
theorem dX6_terms_10 : decode cX6_terms 10 = .ok (.invokevirtual 66, 3) := by decide +kernel
theorem dX6_terms_13 : decode cX6_terms 13 = .ok (.ireturn, 1) := by decide +kernel
theorem dX6_terms_14 : decode cX6_terms 14 = .ok (.iload_n 2, 1) := by decide +kernel
theorem dX6_terms_15 : decode cX6_terms 15 = .ok (.iconst (-1), 1) := by decide +kernel
theorem dX6_terms_16 : decode cX6_terms 16 = .ok (.if_icmp .ge 10, 3) := by decide +kernel
theorem dX6_terms_19 : decode cX6_terms 19 = .ok (.aload_n 0, 1) := by decide +kernel
theorem dX6_terms_20 : decode cX6_terms 20 = .ok (.bipush (-4), 2) := by decide +kernel
theorem dX6_terms_22 : decode cX6_terms 22 = .ok (.invokevirtual 66, 3) := by decide +kernel
theorem dX6_terms_25 : decode cX6_terms 25 = .ok (.ireturn, 1) := by decide +kernel
theorem dX6_terms_26 : decode cX6_terms 26 = .ok (.aload_n 0, 1) := by decide +kernel
theorem dX6_terms_27 : decode cX6_terms 27 = .ok (.iload_n 1, 1) := by decide +kernel
theorem dX6_terms_28 : decode cX6_terms 28 = .ok (.invokevirtual 187, 3) := by decide +kernel
theorem dX6_terms_31 : decode cX6_terms 31 = .ok (.istore_n 3, 1) := by decide +kernel
theorem dX6_terms_32 : decode cX6_terms 32 = .ok (.iload_n 2, 1) := by decide +kernel
theorem dX6_terms_33 : decode cX6_terms 33 = .ok (.iconst (-1), 1) := by decide +kernel
theorem dX6_terms_34 : decode cX6_terms 34 = .ok (.if_icmp .ne 7, 3) := by decide +kernel
theorem dX6_terms_37 : decode cX6_terms 37 = .ok (.iload_n 3, 1) := by decide +kernel
theorem dX6_terms_38 : decode cX6_terms 38 = .ok (.goto 19, 3) := by decide +kernel
theorem dX6_terms_41 : decode cX6_terms 41 = .ok (.iload_n 2, 1) := by decide +kernel
theorem dX6_terms_42 : decode cX6_terms 42 = .ok (.iload_n 3, 1) := by decide +kernel
theorem dX6_terms_43 : decode cX6_terms 43 = .ok (.if_icmp .ge 12, 3) := by decide +kernel
theorem dX6_terms_46 : decode cX6_terms 46 = .ok (.aload_n 0, 1) := by decide +kernel
theorem dX6_terms_47 : decode cX6_terms 47 = .ok (.getfield 41, 3) := by decide +kernel
theorem dX6_terms_50 : decode cX6_terms 50 = .ok (.iload_n 2, 1) := by decide +kernel
theorem dX6_terms_51 : decode cX6_terms 51 = .ok (.iaload, 1) := by decide +kernel
theorem dX6_terms_52 : decode cX6_terms 52 = .ok (.goto 5, 3) := by decide +kernel
theorem dX6_terms_55 : decode cX6_terms 55 = .ok (.bipush (-9), 2) := by decide +kernel
theorem dX6_terms_57 : decode cX6_terms 57 = .ok (.ireturn, 1) := by decide +kernel
set_option maxRecDepth 20000 in
theorem ggX6_convergent_X6_isWalker : GoodIn wsX6_convergent wsX6_isWalker := goodIn_r _ [6, 7, 8, 9, 5, 10, 37, 38, 39, 40, 41, 42, 43, 44, 45, 46, 47, 48, 49, 50, 51, 52, 53, 54, 55, 56, 57, 58] (by decide +kernel) (by decide +kernel)
set_option maxRecDepth 20000 in
theorem gX6_convergent_X6_isWalker : GoodIn wsX6_convergent (wsV RX6 89 RX6 yX6_isWalker wsX6_isWalker) := goodIn_app (goodIn_of _ (by decide +kernel)) ggX6_convergent_X6_isWalker
set_option maxRecDepth 20000 in
theorem ggX6_convergent_X6_noLong : GoodIn wsX6_convergent wsX6_noLong := goodIn_r _ [14, 15, 16, 17, 18, 5, 19, 20, 37, 38, 39, 40, 41, 42, 43, 44, 45, 46, 47, 48, 49, 50, 51, 52, 53, 54, 55, 56, 57, 58] (by decide +kernel) (by decide +kernel)
set_option maxRecDepth 20000 in
theorem gX6_convergent_X6_noLong : GoodIn wsX6_convergent (wsV RX6 172 RX6 yX6_noLong wsX6_noLong) := goodIn_app (goodIn_of _ (by decide +kernel)) ggX6_convergent_X6_noLong
set_option maxRecDepth 20000 in
theorem ggX6_convergent_X6_takesTerms : GoodIn wsX6_convergent wsX6_takesTerms := goodIn_r _ [24, 25, 1, 26, 27, 28, 5, 29, 30, 37, 38, 39, 40, 41, 42, 43, 44, 45, 46, 47, 48, 49, 50, 51, 52, 53, 54, 55, 56, 57, 58] (by decide +kernel) (by decide +kernel)
set_option maxRecDepth 20000 in
theorem gX6_convergent_X6_takesTerms : GoodIn wsX6_convergent (wsV RX6 187 RX6 yX6_takesTerms wsX6_takesTerms) := goodIn_app (goodIn_of _ (by decide +kernel)) ggX6_convergent_X6_takesTerms
set_option maxRecDepth 20000 in
theorem ggX6_convergent_X6_in : GoodIn wsX6_convergent wsX6_in := goodIn_r _ [10] (by decide +kernel) (by decide +kernel)
set_option maxRecDepth 20000 in
theorem gX6_convergent_X6_in : GoodIn wsX6_convergent (va_wsS RX6 73 yX6_in wsX6_in) := goodIn_app (goodIn_of _ (by decide +kernel)) ggX6_convergent_X6_in
set_option maxRecDepth 20000 in
theorem ggX6_convergent_X6_part : GoodIn wsX6_convergent wsX6_part := goodIn_r _ [33, 34, 35, 5, 36] (by decide +kernel) (by decide +kernel)
set_option maxRecDepth 20000 in
theorem gX6_convergent_X6_part : GoodIn wsX6_convergent (va_wsS RX6 176 yX6_part wsX6_part) := goodIn_app (goodIn_of _ (by decide +kernel)) ggX6_convergent_X6_part
theorem dX6_convergent_0 : decode cX6_convergent 0 = .ok (.aload_n 0, 1) := by decide +kernel
theorem dX6_convergent_1 : decode cX6_convergent 1 = .ok (.iload_n 1, 1) := by decide +kernel
theorem dX6_convergent_2 : decode cX6_convergent 2 = .ok (.invokevirtual 89, 3) := by decide +kernel
theorem dX6_convergent_5 : decode cX6_convergent 5 = .ok (.ifCond .ne 9, 3) := by decide +kernel
theorem dX6_convergent_8 : decode cX6_convergent 8 = .ok (.aload_n 0, 1) := by decide +kernel
theorem dX6_convergent_9 : decode cX6_convergent 9 = .ok (.iconst (-1), 1) := by decide +kernel
theorem dX6_convergent_10 : decode cX6_convergent 10 = .ok (.invokevirtual 172, 3) := by decide +kernel
theorem dX6_convergent_13 : decode cX6_convergent 13 = .ok (.lreturn, 1) := by decide +kernel
theorem dX6_convergent_14 : decode cX6_convergent 14 = .ok (.iload_n 2, 1) := by decide +kernel
theorem dX6_convergent_15 : decode cX6_convergent 15 = .ok (.ifCond .ge 10, 3) := by decide +kernel
theorem dX6_convergent_18 : decode cX6_convergent 18 = .ok (.aload_n 0, 1) := by decide +kernel
theorem dX6_convergent_19 : decode cX6_convergent 19 = .ok (.bipush (-4), 2) := by decide +kernel
theorem dX6_convergent_21 : decode cX6_convergent 21 = .ok (.invokevirtual 172, 3) := by decide +kernel
theorem dX6_convergent_24 : decode cX6_convergent 24 = .ok (.lreturn, 1) := by decide +kernel
theorem dX6_convergent_25 : decode cX6_convergent 25 = .ok (.aload_n 0, 1) := by decide +kernel
theorem dX6_convergent_26 : decode cX6_convergent 26 = .ok (.iload_n 1, 1) := by decide +kernel
theorem dX6_convergent_27 : decode cX6_convergent 27 = .ok (.invokevirtual 187, 3) := by decide +kernel
theorem dX6_convergent_30 : decode cX6_convergent 30 = .ok (.istore 4, 2) := by decide +kernel
theorem dX6_convergent_32 : decode cX6_convergent 32 = .ok (.iload_n 2, 1) := by decide +kernel
theorem dX6_convergent_33 : decode cX6_convergent 33 = .ok (.iload 4, 2) := by decide +kernel
theorem dX6_convergent_35 : decode cX6_convergent 35 = .ok (.if_icmp .lt 10, 3) := by decide +kernel
theorem dX6_convergent_38 : decode cX6_convergent 38 = .ok (.aload_n 0, 1) := by decide +kernel
theorem dX6_convergent_39 : decode cX6_convergent 39 = .ok (.bipush (-6), 2) := by decide +kernel
theorem dX6_convergent_41 : decode cX6_convergent 41 = .ok (.invokevirtual 172, 3) := by decide +kernel
theorem dX6_convergent_44 : decode cX6_convergent 44 = .ok (.lreturn, 1) := by decide +kernel
theorem dX6_convergent_45 : decode cX6_convergent 45 = .ok (.iload_n 3, 1) := by decide +kernel
theorem dX6_convergent_46 : decode cX6_convergent 46 = .ok (.i2l, 1) := by decide +kernel
theorem dX6_convergent_47 : decode cX6_convergent 47 = .ok (.lconst 0, 1) := by decide +kernel
theorem dX6_convergent_48 : decode cX6_convergent 48 = .ok (.lconst 1, 1) := by decide +kernel
theorem dX6_convergent_49 : decode cX6_convergent 49 = .ok (.invokestatic 73, 3) := by decide +kernel
theorem dX6_convergent_52 : decode cX6_convergent 52 = .ok (.ifCond .ne 10, 3) := by decide +kernel
theorem dX6_convergent_55 : decode cX6_convergent 55 = .ok (.aload_n 0, 1) := by decide +kernel
theorem dX6_convergent_56 : decode cX6_convergent 56 = .ok (.bipush (-2), 2) := by decide +kernel
theorem dX6_convergent_58 : decode cX6_convergent 58 = .ok (.invokevirtual 172, 3) := by decide +kernel
theorem dX6_convergent_61 : decode cX6_convergent 61 = .ok (.lreturn, 1) := by decide +kernel
theorem dX6_convergent_62 : decode cX6_convergent 62 = .ok (.aload_n 0, 1) := by decide +kernel
theorem dX6_convergent_63 : decode cX6_convergent 63 = .ok (.getfield 41, 3) := by decide +kernel
theorem dX6_convergent_66 : decode cX6_convergent 66 = .ok (.iload_n 2, 1) := by decide +kernel
theorem dX6_convergent_67 : decode cX6_convergent 67 = .ok (.iaload, 1) := by decide +kernel
theorem dX6_convergent_68 : decode cX6_convergent 68 = .ok (.i2l, 1) := by decide +kernel
theorem dX6_convergent_69 : decode cX6_convergent 69 = .ok (.lstore 5, 2) := by decide +kernel
theorem dX6_convergent_71 : decode cX6_convergent 71 = .ok (.lconst 1, 1) := by decide +kernel
theorem dX6_convergent_72 : decode cX6_convergent 72 = .ok (.lstore 7, 2) := by decide +kernel
theorem dX6_convergent_74 : decode cX6_convergent 74 = .ok (.iload_n 2, 1) := by decide +kernel
theorem dX6_convergent_75 : decode cX6_convergent 75 = .ok (.iconst 1, 1) := by decide +kernel
theorem dX6_convergent_76 : decode cX6_convergent 76 = .ok (.isub, 1) := by decide +kernel
theorem dX6_convergent_77 : decode cX6_convergent 77 = .ok (.istore 9, 2) := by decide +kernel
theorem dX6_convergent_79 : decode cX6_convergent 79 = .ok (.iload 9, 2) := by decide +kernel
theorem dX6_convergent_81 : decode cX6_convergent 81 = .ok (.ifCond .lt 33, 3) := by decide +kernel
theorem dX6_convergent_84 : decode cX6_convergent 84 = .ok (.lload 5, 2) := by decide +kernel
theorem dX6_convergent_86 : decode cX6_convergent 86 = .ok (.lstore 10, 2) := by decide +kernel
theorem dX6_convergent_88 : decode cX6_convergent 88 = .ok (.aload_n 0, 1) := by decide +kernel
theorem dX6_convergent_89 : decode cX6_convergent 89 = .ok (.getfield 41, 3) := by decide +kernel
theorem dX6_convergent_92 : decode cX6_convergent 92 = .ok (.iload 9, 2) := by decide +kernel
theorem dX6_convergent_94 : decode cX6_convergent 94 = .ok (.iaload, 1) := by decide +kernel
theorem dX6_convergent_95 : decode cX6_convergent 95 = .ok (.i2l, 1) := by decide +kernel
theorem dX6_convergent_96 : decode cX6_convergent 96 = .ok (.lload 5, 2) := by decide +kernel
theorem dX6_convergent_98 : decode cX6_convergent 98 = .ok (.lmul, 1) := by decide +kernel
theorem dX6_convergent_99 : decode cX6_convergent 99 = .ok (.lload 7, 2) := by decide +kernel
theorem dX6_convergent_101 : decode cX6_convergent 101 = .ok (.ladd, 1) := by decide +kernel
theorem dX6_convergent_102 : decode cX6_convergent 102 = .ok (.lstore 5, 2) := by decide +kernel
theorem dX6_convergent_104 : decode cX6_convergent 104 = .ok (.lload 10, 2) := by decide +kernel
theorem dX6_convergent_106 : decode cX6_convergent 106 = .ok (.lstore 7, 2) := by decide +kernel
theorem dX6_convergent_108 : decode cX6_convergent 108 = .ok (.iinc 9 (-1), 3) := by decide +kernel
theorem dX6_convergent_111 : decode cX6_convergent 111 = .ok (.goto (-32), 3) := by decide +kernel
theorem dX6_convergent_114 : decode cX6_convergent 114 = .ok (.lload 5, 2) := by decide +kernel
theorem dX6_convergent_116 : decode cX6_convergent 116 = .ok (.lload 7, 2) := by decide +kernel
theorem dX6_convergent_118 : decode cX6_convergent 118 = .ok (.iload_n 3, 1) := by decide +kernel
theorem dX6_convergent_119 : decode cX6_convergent 119 = .ok (.invokestatic 176, 3) := by decide +kernel
theorem dX6_convergent_122 : decode cX6_convergent 122 = .ok (.lreturn, 1) := by decide +kernel
set_option maxRecDepth 20000 in
theorem ggX6_nearest_X6_isWalker : GoodIn wsX6_nearest wsX6_isWalker := goodIn_r _ [7, 8, 9, 10, 6, 11, 28, 29, 30, 31, 32, 33, 34, 35, 36, 37, 38, 39, 40, 41, 42, 43, 44, 45, 46, 47, 48, 49] (by decide +kernel) (by decide +kernel)
set_option maxRecDepth 20000 in
theorem gX6_nearest_X6_isWalker : GoodIn wsX6_nearest (wsV RX6 89 RX6 yX6_isWalker wsX6_isWalker) := goodIn_app (goodIn_of _ (by decide +kernel)) ggX6_nearest_X6_isWalker
set_option maxRecDepth 20000 in
theorem ggX6_nearest_X6_no : GoodIn wsX6_nearest wsX6_no := goodIn_r _ [15, 16, 28, 29, 30, 31, 32, 33, 34, 35, 36, 37, 38, 39, 40, 41, 42, 43, 44, 45, 46, 47, 48, 49] (by decide +kernel) (by decide +kernel)
set_option maxRecDepth 20000 in
theorem gX6_nearest_X6_no : GoodIn wsX6_nearest (wsV RX6 66 RX6 yX6_no wsX6_no) := goodIn_app (goodIn_of _ (by decide +kernel)) ggX6_nearest_X6_no
set_option maxRecDepth 20000 in
theorem ggX6_nearest_X6_range : GoodIn wsX6_nearest wsX6_range := goodIn_r _ [19] (by decide +kernel) (by decide +kernel)
set_option maxRecDepth 20000 in
theorem gX6_nearest_X6_range : GoodIn wsX6_nearest (va_wsS RX6 98 yX6_range wsX6_range) := goodIn_app (goodIn_of _ (by decide +kernel)) ggX6_nearest_X6_range
set_option maxRecDepth 20000 in
theorem ggX6_nearest_X6_in : GoodIn wsX6_nearest wsX6_in := goodIn_r _ [11] (by decide +kernel) (by decide +kernel)
set_option maxRecDepth 20000 in
theorem gX6_nearest_X6_in : GoodIn wsX6_nearest (va_wsS RX6 73 yX6_in wsX6_in) := goodIn_app (goodIn_of _ (by decide +kernel)) ggX6_nearest_X6_in
set_option maxRecDepth 20000 in
theorem ggX6_nearest_X6_at : GoodIn wsX6_nearest wsX6_at := goodIn_r _ [23, 24, 28, 29, 30, 31, 32, 33, 34, 35, 36, 37, 38, 39, 40, 41, 42, 43, 44, 45, 46, 47, 48, 49] (by decide +kernel) (by decide +kernel)
set_option maxRecDepth 20000 in
theorem gX6_nearest_X6_at : GoodIn wsX6_nearest (wsV RX6 81 RX6 yX6_at wsX6_at) := goodIn_app (goodIn_of _ (by decide +kernel)) ggX6_nearest_X6_at
set_option maxRecDepth 20000 in
theorem ggX6_nearest_X6_common : GoodIn wsX6_nearest wsX6_common := goodIn_r _ [27] (by decide +kernel) (by decide +kernel)
set_option maxRecDepth 20000 in
theorem gX6_nearest_X6_common : GoodIn wsX6_nearest (va_wsS RX6 60 yX6_common wsX6_common) := goodIn_app (goodIn_of _ (by decide +kernel)) ggX6_nearest_X6_common
theorem dX6_nearest_0 : decode cX6_nearest 0 = .ok (.aload_n 0, 1) := by decide +kernel
theorem dX6_nearest_1 : decode cX6_nearest 1 = .ok (.iload_n 1, 1) := by decide +kernel
theorem dX6_nearest_2 : decode cX6_nearest 2 = .ok (.invokevirtual 89, 3) := by decide +kernel
theorem dX6_nearest_5 : decode cX6_nearest 5 = .ok (.ifCond .ne 9, 3) := by decide +kernel
theorem dX6_nearest_8 : decode cX6_nearest 8 = .ok (.aload_n 0, 1) := by decide +kernel
theorem dX6_nearest_9 : decode cX6_nearest 9 = .ok (.iconst (-1), 1) := by decide +kernel
theorem dX6_nearest_10 : decode cX6_nearest 10 = .ok (.invokevirtual 66, 3) := by decide +kernel
theorem dX6_nearest_13 : decode cX6_nearest 13 = .ok (.ireturn, 1) := by decide +kernel
theorem dX6_nearest_14 : decode cX6_nearest 14 = .ok (.iload_n 2, 1) := by decide +kernel
theorem dX6_nearest_15 : decode cX6_nearest 15 = .ok (.iconst 1, 1) := by decide +kernel
theorem dX6_nearest_16 : decode cX6_nearest 16 = .ok (.bipush 99, 2) := by decide +kernel
theorem dX6_nearest_18 : decode cX6_nearest 18 = .ok (.invokestatic 98, 3) := by decide +kernel
theorem dX6_nearest_21 : decode cX6_nearest 21 = .ok (.istore 4, 2) := by decide +kernel
theorem dX6_nearest_23 : decode cX6_nearest 23 = .ok (.iload 4, 2) := by decide +kernel
theorem dX6_nearest_25 : decode cX6_nearest 25 = .ok (.ifCond .eq 10, 3) := by decide +kernel
theorem dX6_nearest_28 : decode cX6_nearest 28 = .ok (.aload_n 0, 1) := by decide +kernel
theorem dX6_nearest_29 : decode cX6_nearest 29 = .ok (.iload 4, 2) := by decide +kernel
theorem dX6_nearest_31 : decode cX6_nearest 31 = .ok (.invokevirtual 66, 3) := by decide +kernel
theorem dX6_nearest_34 : decode cX6_nearest 34 = .ok (.ireturn, 1) := by decide +kernel
theorem dX6_nearest_35 : decode cX6_nearest 35 = .ok (.iload_n 3, 1) := by decide +kernel
theorem dX6_nearest_36 : decode cX6_nearest 36 = .ok (.i2l, 1) := by decide +kernel
theorem dX6_nearest_37 : decode cX6_nearest 37 = .ok (.lconst 0, 1) := by decide +kernel
theorem dX6_nearest_38 : decode cX6_nearest 38 = .ok (.lconst 1, 1) := by decide +kernel
theorem dX6_nearest_39 : decode cX6_nearest 39 = .ok (.invokestatic 73, 3) := by decide +kernel
theorem dX6_nearest_42 : decode cX6_nearest 42 = .ok (.ifCond .ne 10, 3) := by decide +kernel
theorem dX6_nearest_45 : decode cX6_nearest 45 = .ok (.aload_n 0, 1) := by decide +kernel
theorem dX6_nearest_46 : decode cX6_nearest 46 = .ok (.bipush (-2), 2) := by decide +kernel
theorem dX6_nearest_48 : decode cX6_nearest 48 = .ok (.invokevirtual 66, 3) := by decide +kernel
theorem dX6_nearest_51 : decode cX6_nearest 51 = .ok (.ireturn, 1) := by decide +kernel
theorem dX6_nearest_52 : decode cX6_nearest 52 = .ok (.aload_n 0, 1) := by decide +kernel
theorem dX6_nearest_53 : decode cX6_nearest 53 = .ok (.iload_n 1, 1) := by decide +kernel
theorem dX6_nearest_54 : decode cX6_nearest 54 = .ok (.iconst 1, 1) := by decide +kernel
theorem dX6_nearest_55 : decode cX6_nearest 55 = .ok (.invokevirtual 81, 3) := by decide +kernel
theorem dX6_nearest_58 : decode cX6_nearest 58 = .ok (.i2l, 1) := by decide +kernel
theorem dX6_nearest_59 : decode cX6_nearest 59 = .ok (.lstore 5, 2) := by decide +kernel
theorem dX6_nearest_61 : decode cX6_nearest 61 = .ok (.ldc2_w 190, 3) := by decide +kernel
theorem dX6_nearest_64 : decode cX6_nearest 64 = .ok (.lstore 7, 2) := by decide +kernel
theorem dX6_nearest_66 : decode cX6_nearest 66 = .ok (.iconst 0, 1) := by decide +kernel
theorem dX6_nearest_67 : decode cX6_nearest 67 = .ok (.istore 9, 2) := by decide +kernel
theorem dX6_nearest_69 : decode cX6_nearest 69 = .ok (.iconst 1, 1) := by decide +kernel
theorem dX6_nearest_70 : decode cX6_nearest 70 = .ok (.istore 10, 2) := by decide +kernel
theorem dX6_nearest_72 : decode cX6_nearest 72 = .ok (.iconst 1, 1) := by decide +kernel
theorem dX6_nearest_73 : decode cX6_nearest 73 = .ok (.istore 11, 2) := by decide +kernel
theorem dX6_nearest_75 : decode cX6_nearest 75 = .ok (.iload 11, 2) := by decide +kernel
theorem dX6_nearest_77 : decode cX6_nearest 77 = .ok (.iload_n 2, 1) := by decide +kernel
theorem dX6_nearest_78 : decode cX6_nearest 78 = .ok (.if_icmp .gt 115, 3) := by decide +kernel
theorem dX6_nearest_81 : decode cX6_nearest 81 = .ok (.iconst 0, 1) := by decide +kernel
theorem dX6_nearest_82 : decode cX6_nearest 82 = .ok (.istore 12, 2) := by decide +kernel
theorem dX6_nearest_84 : decode cX6_nearest 84 = .ok (.iload 12, 2) := by decide +kernel
theorem dX6_nearest_86 : decode cX6_nearest 86 = .ok (.iload 11, 2) := by decide +kernel
theorem dX6_nearest_88 : decode cX6_nearest 88 = .ok (.if_icmp .gt 99, 3) := by decide +kernel
theorem dX6_nearest_91 : decode cX6_nearest 91 = .ok (.iload 12, 2) := by decide +kernel
theorem dX6_nearest_93 : decode cX6_nearest 93 = .ok (.i2l, 1) := by decide +kernel
theorem dX6_nearest_94 : decode cX6_nearest 94 = .ok (.iload 11, 2) := by decide +kernel
theorem dX6_nearest_96 : decode cX6_nearest 96 = .ok (.i2l, 1) := by decide +kernel
theorem dX6_nearest_97 : decode cX6_nearest 97 = .ok (.invokestatic 60, 3) := by decide +kernel
theorem dX6_nearest_100 : decode cX6_nearest 100 = .ok (.lconst 1, 1) := by decide +kernel
theorem dX6_nearest_101 : decode cX6_nearest 101 = .ok (.lcmp, 1) := by decide +kernel
theorem dX6_nearest_102 : decode cX6_nearest 102 = .ok (.ifCond .eq 6, 3) := by decide +kernel
theorem dX6_nearest_105 : decode cX6_nearest 105 = .ok (.goto 76, 3) := by decide +kernel
theorem dX6_nearest_108 : decode cX6_nearest 108 = .ok (.iload 12, 2) := by decide +kernel
theorem dX6_nearest_110 : decode cX6_nearest 110 = .ok (.i2l, 1) := by decide +kernel
theorem dX6_nearest_111 : decode cX6_nearest 111 = .ok (.aload_n 0, 1) := by decide +kernel
theorem dX6_nearest_112 : decode cX6_nearest 112 = .ok (.getfield 13, 3) := by decide +kernel
theorem dX6_nearest_115 : decode cX6_nearest 115 = .ok (.i2l, 1) := by decide +kernel
theorem dX6_nearest_116 : decode cX6_nearest 116 = .ok (.lmul, 1) := by decide +kernel
theorem dX6_nearest_117 : decode cX6_nearest 117 = .ok (.iload 11, 2) := by decide +kernel
theorem dX6_nearest_119 : decode cX6_nearest 119 = .ok (.i2l, 1) := by decide +kernel
theorem dX6_nearest_120 : decode cX6_nearest 120 = .ok (.lload 5, 2) := by decide +kernel
theorem dX6_nearest_122 : decode cX6_nearest 122 = .ok (.lmul, 1) := by decide +kernel
theorem dX6_nearest_123 : decode cX6_nearest 123 = .ok (.lsub, 1) := by decide +kernel
theorem dX6_nearest_124 : decode cX6_nearest 124 = .ok (.lstore 13, 2) := by decide +kernel
theorem dX6_nearest_126 : decode cX6_nearest 126 = .ok (.lload 13, 2) := by decide +kernel
theorem dX6_nearest_128 : decode cX6_nearest 128 = .ok (.lconst 0, 1) := by decide +kernel
theorem dX6_nearest_129 : decode cX6_nearest 129 = .ok (.lcmp, 1) := by decide +kernel
theorem dX6_nearest_130 : decode cX6_nearest 130 = .ok (.ifCond .ge 9, 3) := by decide +kernel
theorem dX6_nearest_133 : decode cX6_nearest 133 = .ok (.lload 13, 2) := by decide +kernel
theorem dX6_nearest_135 : decode cX6_nearest 135 = .ok (.lneg, 1) := by decide +kernel
theorem dX6_nearest_136 : decode cX6_nearest 136 = .ok (.goto 5, 3) := by decide +kernel
theorem dX6_nearest_139 : decode cX6_nearest 139 = .ok (.lload 13, 2) := by decide +kernel
theorem dX6_nearest_141 : decode cX6_nearest 141 = .ok (.lstore 13, 2) := by decide +kernel
theorem dX6_nearest_143 : decode cX6_nearest 143 = .ok (.lload 7, 2) := by decide +kernel
theorem dX6_nearest_145 : decode cX6_nearest 145 = .ok (.lconst 0, 1) := by decide +kernel
theorem dX6_nearest_146 : decode cX6_nearest 146 = .ok (.lcmp, 1) := by decide +kernel
theorem dX6_nearest_147 : decode cX6_nearest 147 = .ok (.ifCond .lt 22, 3) := by decide +kernel
theorem dX6_nearest_150 : decode cX6_nearest 150 = .ok (.lload 13, 2) := by decide +kernel
theorem dX6_nearest_152 : decode cX6_nearest 152 = .ok (.iload 10, 2) := by decide +kernel
theorem dX6_nearest_154 : decode cX6_nearest 154 = .ok (.i2l, 1) := by decide +kernel
theorem dX6_nearest_155 : decode cX6_nearest 155 = .ok (.lmul, 1) := by decide +kernel
theorem dX6_nearest_156 : decode cX6_nearest 156 = .ok (.lload 7, 2) := by decide +kernel
theorem dX6_nearest_158 : decode cX6_nearest 158 = .ok (.iload 11, 2) := by decide +kernel
theorem dX6_nearest_160 : decode cX6_nearest 160 = .ok (.i2l, 1) := by decide +kernel
theorem dX6_nearest_161 : decode cX6_nearest 161 = .ok (.lmul, 1) := by decide +kernel
theorem dX6_nearest_162 : decode cX6_nearest 162 = .ok (.lcmp, 1) := by decide +kernel
theorem dX6_nearest_163 : decode cX6_nearest 163 = .ok (.ifCond .lt 6, 3) := by decide +kernel
theorem dX6_nearest_166 : decode cX6_nearest 166 = .ok (.goto 15, 3) := by decide +kernel
theorem dX6_nearest_169 : decode cX6_nearest 169 = .ok (.lload 13, 2) := by decide +kernel
theorem dX6_nearest_171 : decode cX6_nearest 171 = .ok (.lstore 7, 2) := by decide +kernel
theorem dX6_nearest_173 : decode cX6_nearest 173 = .ok (.iload 12, 2) := by decide +kernel
theorem dX6_nearest_175 : decode cX6_nearest 175 = .ok (.istore 9, 2) := by decide +kernel
theorem dX6_nearest_177 : decode cX6_nearest 177 = .ok (.iload 11, 2) := by decide +kernel
theorem dX6_nearest_179 : decode cX6_nearest 179 = .ok (.istore 10, 2) := by decide +kernel
theorem dX6_nearest_181 : decode cX6_nearest 181 = .ok (.iinc 12 1, 3) := by decide +kernel
theorem dX6_nearest_184 : decode cX6_nearest 184 = .ok (.goto (-100), 3) := by decide +kernel
theorem dX6_nearest_187 : decode cX6_nearest 187 = .ok (.iinc 11 1, 3) := by decide +kernel
theorem dX6_nearest_190 : decode cX6_nearest 190 = .ok (.goto (-115), 3) := by decide +kernel
theorem dX6_nearest_193 : decode cX6_nearest 193 = .ok (.iload_n 3, 1) := by decide +kernel
theorem dX6_nearest_194 : decode cX6_nearest 194 = .ok (.ifCond .ne 8, 3) := by decide +kernel
theorem dX6_nearest_197 : decode cX6_nearest 197 = .ok (.iload 9, 2) := by decide +kernel
theorem dX6_nearest_199 : decode cX6_nearest 199 = .ok (.goto 5, 3) := by decide +kernel
theorem dX6_nearest_202 : decode cX6_nearest 202 = .ok (.iload 10, 2) := by decide +kernel
theorem dX6_nearest_204 : decode cX6_nearest 204 = .ok (.ireturn, 1) := by decide +kernel
theorem dX6_floorsOf_0 : decode cX6_floorsOf 0 = .ok (.lconst 0, 1) := by decide +kernel
theorem dX6_floorsOf_1 : decode cX6_floorsOf 1 = .ok (.lstore 6, 2) := by decide +kernel
theorem dX6_floorsOf_3 : decode cX6_floorsOf 3 = .ok (.lconst 0, 1) := by decide +kernel
theorem dX6_floorsOf_4 : decode cX6_floorsOf 4 = .ok (.lstore 8, 2) := by decide +kernel
theorem dX6_floorsOf_6 : decode cX6_floorsOf 6 = .ok (.lload 8, 2) := by decide +kernel
theorem dX6_floorsOf_8 : decode cX6_floorsOf 8 = .ok (.lload 4, 2) := by decide +kernel
theorem dX6_floorsOf_10 : decode cX6_floorsOf 10 = .ok (.lcmp, 1) := by decide +kernel
theorem dX6_floorsOf_11 : decode cX6_floorsOf 11 = .ok (.ifCond .ge 23, 3) := by decide +kernel
theorem dX6_floorsOf_14 : decode cX6_floorsOf 14 = .ok (.lload 6, 2) := by decide +kernel
theorem dX6_floorsOf_16 : decode cX6_floorsOf 16 = .ok (.lload 8, 2) := by decide +kernel
theorem dX6_floorsOf_18 : decode cX6_floorsOf 18 = .ok (.lload_n 0, 1) := by decide +kernel
theorem dX6_floorsOf_19 : decode cX6_floorsOf 19 = .ok (.lmul, 1) := by decide +kernel
theorem dX6_floorsOf_20 : decode cX6_floorsOf 20 = .ok (.lload_n 2, 1) := by decide +kernel
theorem dX6_floorsOf_21 : decode cX6_floorsOf 21 = .ok (.ldiv, 1) := by decide +kernel
theorem dX6_floorsOf_22 : decode cX6_floorsOf 22 = .ok (.ladd, 1) := by decide +kernel
theorem dX6_floorsOf_23 : decode cX6_floorsOf 23 = .ok (.lstore 6, 2) := by decide +kernel
theorem dX6_floorsOf_25 : decode cX6_floorsOf 25 = .ok (.lload 8, 2) := by decide +kernel
theorem dX6_floorsOf_27 : decode cX6_floorsOf 27 = .ok (.lconst 1, 1) := by decide +kernel
theorem dX6_floorsOf_28 : decode cX6_floorsOf 28 = .ok (.ladd, 1) := by decide +kernel
theorem dX6_floorsOf_29 : decode cX6_floorsOf 29 = .ok (.lstore 8, 2) := by decide +kernel
theorem dX6_floorsOf_31 : decode cX6_floorsOf 31 = .ok (.goto (-25), 3) := by decide +kernel
theorem dX6_floorsOf_34 : decode cX6_floorsOf 34 = .ok (.lload 6, 2) := by decide +kernel
theorem dX6_floorsOf_36 : decode cX6_floorsOf 36 = .ok (.lreturn, 1) := by decide +kernel
set_option maxRecDepth 20000 in
theorem ggX6_floors_X6_isWalker : GoodIn wsX6_floors wsX6_isWalker := goodIn_r _ [6, 7, 8, 9, 5, 10, 32, 33, 34, 35, 36, 37, 38, 39, 40, 41, 42, 43, 44, 45, 46, 47, 48, 49, 50, 51, 52, 53] (by decide +kernel) (by decide +kernel)
set_option maxRecDepth 20000 in
theorem gX6_floors_X6_isWalker : GoodIn wsX6_floors (wsV RX6 89 RX6 yX6_isWalker wsX6_isWalker) := goodIn_app (goodIn_of _ (by decide +kernel)) ggX6_floors_X6_isWalker
set_option maxRecDepth 20000 in
theorem ggX6_floors_X6_noLong : GoodIn wsX6_floors wsX6_noLong := goodIn_r _ [14, 15, 16, 17, 18, 5, 19, 20, 32, 33, 34, 35, 36, 37, 38, 39, 40, 41, 42, 43, 44, 45, 46, 47, 48, 49, 50, 51, 52, 53] (by decide +kernel) (by decide +kernel)
set_option maxRecDepth 20000 in
theorem gX6_floors_X6_noLong : GoodIn wsX6_floors (wsV RX6 172 RX6 yX6_noLong wsX6_noLong) := goodIn_app (goodIn_of _ (by decide +kernel)) ggX6_floors_X6_noLong
set_option maxRecDepth 20000 in
theorem ggX6_floors_X6_range : GoodIn wsX6_floors wsX6_range := goodIn_r _ [23] (by decide +kernel) (by decide +kernel)
set_option maxRecDepth 20000 in
theorem gX6_floors_X6_range : GoodIn wsX6_floors (va_wsS RX6 98 yX6_range wsX6_range) := goodIn_app (goodIn_of _ (by decide +kernel)) ggX6_floors_X6_range
set_option maxRecDepth 20000 in
theorem ggX6_floors_X6_at : GoodIn wsX6_floors wsX6_at := goodIn_r _ [27, 28, 32, 33, 34, 35, 36, 37, 38, 39, 40, 41, 42, 43, 44, 45, 46, 47, 48, 49, 50, 51, 52, 53] (by decide +kernel) (by decide +kernel)
set_option maxRecDepth 20000 in
theorem gX6_floors_X6_at : GoodIn wsX6_floors (wsV RX6 81 RX6 yX6_at wsX6_at) := goodIn_app (goodIn_of _ (by decide +kernel)) ggX6_floors_X6_at
set_option maxRecDepth 20000 in
theorem ggX6_floors_X6_floorsOf : GoodIn wsX6_floors wsX6_floorsOf := goodIn_r _ [31] (by decide +kernel) (by decide +kernel)
set_option maxRecDepth 20000 in
theorem gX6_floors_X6_floorsOf : GoodIn wsX6_floors (va_wsS RX6 192 yX6_floorsOf wsX6_floorsOf) := goodIn_app (goodIn_of _ (by decide +kernel)) ggX6_floors_X6_floorsOf
theorem dX6_floors_0 : decode cX6_floors 0 = .ok (.aload_n 0, 1) := by decide +kernel
theorem dX6_floors_1 : decode cX6_floors 1 = .ok (.iload_n 1, 1) := by decide +kernel
theorem dX6_floors_2 : decode cX6_floors 2 = .ok (.invokevirtual 89, 3) := by decide +kernel
theorem dX6_floors_5 : decode cX6_floors 5 = .ok (.ifCond .ne 9, 3) := by decide +kernel
theorem dX6_floors_8 : decode cX6_floors 8 = .ok (.aload_n 0, 1) := by decide +kernel
theorem dX6_floors_9 : decode cX6_floors 9 = .ok (.iconst (-1), 1) := by decide +kernel
theorem dX6_floors_10 : decode cX6_floors 10 = .ok (.invokevirtual 172, 3) := by decide +kernel
theorem dX6_floors_13 : decode cX6_floors 13 = .ok (.lreturn, 1) := by decide +kernel
theorem dX6_floors_14 : decode cX6_floors 14 = .ok (.iload_n 2, 1) := by decide +kernel
theorem dX6_floors_15 : decode cX6_floors 15 = .ok (.iconst 0, 1) := by decide +kernel
theorem dX6_floors_16 : decode cX6_floors 16 = .ok (.sipush 4000, 3) := by decide +kernel
theorem dX6_floors_19 : decode cX6_floors 19 = .ok (.invokestatic 98, 3) := by decide +kernel
theorem dX6_floors_22 : decode cX6_floors 22 = .ok (.istore_n 3, 1) := by decide +kernel
theorem dX6_floors_23 : decode cX6_floors 23 = .ok (.iload_n 3, 1) := by decide +kernel
theorem dX6_floors_24 : decode cX6_floors 24 = .ok (.ifCond .eq 11, 3) := by decide +kernel
theorem dX6_floors_27 : decode cX6_floors 27 = .ok (.aload_n 0, 1) := by decide +kernel
theorem dX6_floors_28 : decode cX6_floors 28 = .ok (.iload_n 3, 1) := by decide +kernel
theorem dX6_floors_29 : decode cX6_floors 29 = .ok (.invokevirtual 172, 3) := by decide +kernel
theorem dX6_floors_32 : decode cX6_floors 32 = .ok (.goto 20, 3) := by decide +kernel
theorem dX6_floors_35 : decode cX6_floors 35 = .ok (.aload_n 0, 1) := by decide +kernel
theorem dX6_floors_36 : decode cX6_floors 36 = .ok (.iload_n 1, 1) := by decide +kernel
theorem dX6_floors_37 : decode cX6_floors 37 = .ok (.iconst 1, 1) := by decide +kernel
theorem dX6_floors_38 : decode cX6_floors 38 = .ok (.invokevirtual 81, 3) := by decide +kernel
theorem dX6_floors_41 : decode cX6_floors 41 = .ok (.i2l, 1) := by decide +kernel
theorem dX6_floors_42 : decode cX6_floors 42 = .ok (.aload_n 0, 1) := by decide +kernel
theorem dX6_floors_43 : decode cX6_floors 43 = .ok (.getfield 13, 3) := by decide +kernel
theorem dX6_floors_46 : decode cX6_floors 46 = .ok (.i2l, 1) := by decide +kernel
theorem dX6_floors_47 : decode cX6_floors 47 = .ok (.iload_n 2, 1) := by decide +kernel
theorem dX6_floors_48 : decode cX6_floors 48 = .ok (.i2l, 1) := by decide +kernel
theorem dX6_floors_49 : decode cX6_floors 49 = .ok (.invokestatic 192, 3) := by decide +kernel
theorem dX6_floors_52 : decode cX6_floors 52 = .ok (.lreturn, 1) := by decide +kernel
set_option maxRecDepth 20000 in
theorem ggX6_rests_X6_isWalker : GoodIn wsX6_rests wsX6_isWalker := goodIn_r _ [6, 7, 8, 9, 5, 10, 29, 30, 31, 32, 33, 34, 35, 36, 37, 38, 39, 40, 41, 42, 43, 44, 45, 46, 47, 48, 49, 50] (by decide +kernel) (by decide +kernel)
set_option maxRecDepth 20000 in
theorem gX6_rests_X6_isWalker : GoodIn wsX6_rests (wsV RX6 89 RX6 yX6_isWalker wsX6_isWalker) := goodIn_app (goodIn_of _ (by decide +kernel)) ggX6_rests_X6_isWalker
set_option maxRecDepth 20000 in
theorem ggX6_rests_X6_noLong : GoodIn wsX6_rests wsX6_noLong := goodIn_r _ [14, 15, 16, 17, 18, 5, 19, 20, 29, 30, 31, 32, 33, 34, 35, 36, 37, 38, 39, 40, 41, 42, 43, 44, 45, 46, 47, 48, 49, 50] (by decide +kernel) (by decide +kernel)
set_option maxRecDepth 20000 in
theorem gX6_rests_X6_noLong : GoodIn wsX6_rests (wsV RX6 172 RX6 yX6_noLong wsX6_noLong) := goodIn_app (goodIn_of _ (by decide +kernel)) ggX6_rests_X6_noLong
set_option maxRecDepth 20000 in
theorem ggX6_rests_X6_range : GoodIn wsX6_rests wsX6_range := goodIn_r _ [23] (by decide +kernel) (by decide +kernel)
set_option maxRecDepth 20000 in
theorem gX6_rests_X6_range : GoodIn wsX6_rests (va_wsS RX6 98 yX6_range wsX6_range) := goodIn_app (goodIn_of _ (by decide +kernel)) ggX6_rests_X6_range
set_option maxRecDepth 20000 in
theorem ggX6_rests_X6_at : GoodIn wsX6_rests wsX6_at := goodIn_r _ [27, 28, 29, 30, 31, 32, 33, 34, 35, 36, 37, 38, 39, 40, 41, 42, 43, 44, 45, 46, 47, 48, 49, 50] (by decide +kernel) (by decide +kernel)
set_option maxRecDepth 20000 in
theorem gX6_rests_X6_at : GoodIn wsX6_rests (wsV RX6 81 RX6 yX6_at wsX6_at) := goodIn_app (goodIn_of _ (by decide +kernel)) ggX6_rests_X6_at
theorem dX6_rests_0 : decode cX6_rests 0 = .ok (.aload_n 0, 1) := by decide +kernel
theorem dX6_rests_1 : decode cX6_rests 1 = .ok (.iload_n 1, 1) := by decide +kernel
theorem dX6_rests_2 : decode cX6_rests 2 = .ok (.invokevirtual 89, 3) := by decide +kernel
theorem dX6_rests_5 : decode cX6_rests 5 = .ok (.ifCond .ne 9, 3) := by decide +kernel
theorem dX6_rests_8 : decode cX6_rests 8 = .ok (.aload_n 0, 1) := by decide +kernel
theorem dX6_rests_9 : decode cX6_rests 9 = .ok (.iconst (-1), 1) := by decide +kernel
theorem dX6_rests_10 : decode cX6_rests 10 = .ok (.invokevirtual 172, 3) := by decide +kernel
theorem dX6_rests_13 : decode cX6_rests 13 = .ok (.lreturn, 1) := by decide +kernel
theorem dX6_rests_14 : decode cX6_rests 14 = .ok (.iload_n 2, 1) := by decide +kernel
theorem dX6_rests_15 : decode cX6_rests 15 = .ok (.iconst 0, 1) := by decide +kernel
theorem dX6_rests_16 : decode cX6_rests 16 = .ok (.sipush 4000, 3) := by decide +kernel
theorem dX6_rests_19 : decode cX6_rests 19 = .ok (.invokestatic 98, 3) := by decide +kernel
theorem dX6_rests_22 : decode cX6_rests 22 = .ok (.istore_n 3, 1) := by decide +kernel
theorem dX6_rests_23 : decode cX6_rests 23 = .ok (.iload_n 3, 1) := by decide +kernel
theorem dX6_rests_24 : decode cX6_rests 24 = .ok (.ifCond .eq 9, 3) := by decide +kernel
theorem dX6_rests_27 : decode cX6_rests 27 = .ok (.aload_n 0, 1) := by decide +kernel
theorem dX6_rests_28 : decode cX6_rests 28 = .ok (.iload_n 3, 1) := by decide +kernel
theorem dX6_rests_29 : decode cX6_rests 29 = .ok (.invokevirtual 172, 3) := by decide +kernel
theorem dX6_rests_32 : decode cX6_rests 32 = .ok (.lreturn, 1) := by decide +kernel
theorem dX6_rests_33 : decode cX6_rests 33 = .ok (.lconst 0, 1) := by decide +kernel
theorem dX6_rests_34 : decode cX6_rests 34 = .ok (.lstore 4, 2) := by decide +kernel
theorem dX6_rests_36 : decode cX6_rests 36 = .ok (.lconst 0, 1) := by decide +kernel
theorem dX6_rests_37 : decode cX6_rests 37 = .ok (.lstore 6, 2) := by decide +kernel
theorem dX6_rests_39 : decode cX6_rests 39 = .ok (.lload 6, 2) := by decide +kernel
theorem dX6_rests_41 : decode cX6_rests 41 = .ok (.iload_n 2, 1) := by decide +kernel
theorem dX6_rests_42 : decode cX6_rests 42 = .ok (.i2l, 1) := by decide +kernel
theorem dX6_rests_43 : decode cX6_rests 43 = .ok (.lcmp, 1) := by decide +kernel
theorem dX6_rests_44 : decode cX6_rests 44 = .ok (.ifCond .ge 33, 3) := by decide +kernel
theorem dX6_rests_47 : decode cX6_rests 47 = .ok (.lload 4, 2) := by decide +kernel
theorem dX6_rests_49 : decode cX6_rests 49 = .ok (.lload 6, 2) := by decide +kernel
theorem dX6_rests_51 : decode cX6_rests 51 = .ok (.aload_n 0, 1) := by decide +kernel
theorem dX6_rests_52 : decode cX6_rests 52 = .ok (.iload_n 1, 1) := by decide +kernel
theorem dX6_rests_53 : decode cX6_rests 53 = .ok (.iconst 1, 1) := by decide +kernel
theorem dX6_rests_54 : decode cX6_rests 54 = .ok (.invokevirtual 81, 3) := by decide +kernel
theorem dX6_rests_57 : decode cX6_rests 57 = .ok (.i2l, 1) := by decide +kernel
theorem dX6_rests_58 : decode cX6_rests 58 = .ok (.lmul, 1) := by decide +kernel
theorem dX6_rests_59 : decode cX6_rests 59 = .ok (.aload_n 0, 1) := by decide +kernel
theorem dX6_rests_60 : decode cX6_rests 60 = .ok (.getfield 13, 3) := by decide +kernel
theorem dX6_rests_63 : decode cX6_rests 63 = .ok (.i2l, 1) := by decide +kernel
theorem dX6_rests_64 : decode cX6_rests 64 = .ok (.lrem, 1) := by decide +kernel
theorem dX6_rests_65 : decode cX6_rests 65 = .ok (.ladd, 1) := by decide +kernel
theorem dX6_rests_66 : decode cX6_rests 66 = .ok (.lstore 4, 2) := by decide +kernel
theorem dX6_rests_68 : decode cX6_rests 68 = .ok (.lload 6, 2) := by decide +kernel
theorem dX6_rests_70 : decode cX6_rests 70 = .ok (.lconst 1, 1) := by decide +kernel
theorem dX6_rests_71 : decode cX6_rests 71 = .ok (.ladd, 1) := by decide +kernel
theorem dX6_rests_72 : decode cX6_rests 72 = .ok (.lstore 6, 2) := by decide +kernel
theorem dX6_rests_74 : decode cX6_rests 74 = .ok (.goto (-35), 3) := by decide +kernel
theorem dX6_rests_77 : decode cX6_rests 77 = .ok (.lload 4, 2) := by decide +kernel
theorem dX6_rests_79 : decode cX6_rests 79 = .ok (.lreturn, 1) := by decide +kernel
set_option maxRecDepth 20000 in
theorem ggX6_reciprocal_X6_isWalker : GoodIn wsX6_reciprocal wsX6_isWalker := goodIn_r _ [6, 7, 8, 9, 5, 10, 29, 30, 31, 32, 33, 34, 35, 36, 37, 38, 39, 40, 41, 42, 43, 44, 45, 46, 47, 48, 49, 50] (by decide +kernel) (by decide +kernel)
set_option maxRecDepth 20000 in
theorem gX6_reciprocal_X6_isWalker : GoodIn wsX6_reciprocal (wsV RX6 89 RX6 yX6_isWalker wsX6_isWalker) := goodIn_app (goodIn_of _ (by decide +kernel)) ggX6_reciprocal_X6_isWalker
set_option maxRecDepth 20000 in
theorem ggX6_reciprocal_X6_noLong : GoodIn wsX6_reciprocal wsX6_noLong := goodIn_r _ [14, 15, 16, 17, 18, 5, 19, 20, 29, 30, 31, 32, 33, 34, 35, 36, 37, 38, 39, 40, 41, 42, 43, 44, 45, 46, 47, 48, 49, 50] (by decide +kernel) (by decide +kernel)
set_option maxRecDepth 20000 in
theorem gX6_reciprocal_X6_noLong : GoodIn wsX6_reciprocal (wsV RX6 172 RX6 yX6_noLong wsX6_noLong) := goodIn_app (goodIn_of _ (by decide +kernel)) ggX6_reciprocal_X6_noLong
set_option maxRecDepth 20000 in
theorem ggX6_reciprocal_X6_at : GoodIn wsX6_reciprocal wsX6_at := goodIn_r _ [24, 25, 29, 30, 31, 32, 33, 34, 35, 36, 37, 38, 39, 40, 41, 42, 43, 44, 45, 46, 47, 48, 49, 50] (by decide +kernel) (by decide +kernel)
set_option maxRecDepth 20000 in
theorem gX6_reciprocal_X6_at : GoodIn wsX6_reciprocal (wsV RX6 81 RX6 yX6_at wsX6_at) := goodIn_app (goodIn_of _ (by decide +kernel)) ggX6_reciprocal_X6_at
set_option maxRecDepth 20000 in
theorem ggX6_reciprocal_X6_floorsOf : GoodIn wsX6_reciprocal wsX6_floorsOf := goodIn_r _ [28] (by decide +kernel) (by decide +kernel)
set_option maxRecDepth 20000 in
theorem gX6_reciprocal_X6_floorsOf : GoodIn wsX6_reciprocal (va_wsS RX6 192 yX6_floorsOf wsX6_floorsOf) := goodIn_app (goodIn_of _ (by decide +kernel)) ggX6_reciprocal_X6_floorsOf
theorem dX6_reciprocal_0 : decode cX6_reciprocal 0 = .ok (.aload_n 0, 1) := by decide +kernel
theorem dX6_reciprocal_1 : decode cX6_reciprocal 1 = .ok (.iload_n 1, 1) := by decide +kernel
theorem dX6_reciprocal_2 : decode cX6_reciprocal 2 = .ok (.invokevirtual 89, 3) := by decide +kernel
theorem dX6_reciprocal_5 : decode cX6_reciprocal 5 = .ok (.ifCond .ne 9, 3) := by decide +kernel
theorem dX6_reciprocal_8 : decode cX6_reciprocal 8 = .ok (.aload_n 0, 1) := by decide +kernel
theorem dX6_reciprocal_9 : decode cX6_reciprocal 9 = .ok (.iconst (-1), 1) := by decide +kernel
theorem dX6_reciprocal_10 : decode cX6_reciprocal 10 = .ok (.invokevirtual 172, 3) := by decide +kernel
theorem dX6_reciprocal_13 : decode cX6_reciprocal 13 = .ok (.lreturn, 1) := by decide +kernel
theorem dX6_reciprocal_14 : decode cX6_reciprocal 14 = .ok (.aload_n 0, 1) := by decide +kernel
theorem dX6_reciprocal_15 : decode cX6_reciprocal 15 = .ok (.iload_n 1, 1) := by decide +kernel
theorem dX6_reciprocal_16 : decode cX6_reciprocal 16 = .ok (.iconst 1, 1) := by decide +kernel
theorem dX6_reciprocal_17 : decode cX6_reciprocal 17 = .ok (.invokevirtual 81, 3) := by decide +kernel
theorem dX6_reciprocal_20 : decode cX6_reciprocal 20 = .ok (.istore_n 2, 1) := by decide +kernel
theorem dX6_reciprocal_21 : decode cX6_reciprocal 21 = .ok (.iload_n 2, 1) := by decide +kernel
theorem dX6_reciprocal_22 : decode cX6_reciprocal 22 = .ok (.ifCond .ne 7, 3) := by decide +kernel
theorem dX6_reciprocal_25 : decode cX6_reciprocal 25 = .ok (.lconst 0, 1) := by decide +kernel
theorem dX6_reciprocal_26 : decode cX6_reciprocal 26 = .ok (.goto 31, 3) := by decide +kernel
theorem dX6_reciprocal_29 : decode cX6_reciprocal 29 = .ok (.iload_n 2, 1) := by decide +kernel
theorem dX6_reciprocal_30 : decode cX6_reciprocal 30 = .ok (.i2l, 1) := by decide +kernel
theorem dX6_reciprocal_31 : decode cX6_reciprocal 31 = .ok (.aload_n 0, 1) := by decide +kernel
theorem dX6_reciprocal_32 : decode cX6_reciprocal 32 = .ok (.getfield 13, 3) := by decide +kernel
theorem dX6_reciprocal_35 : decode cX6_reciprocal 35 = .ok (.i2l, 1) := by decide +kernel
theorem dX6_reciprocal_36 : decode cX6_reciprocal 36 = .ok (.aload_n 0, 1) := by decide +kernel
theorem dX6_reciprocal_37 : decode cX6_reciprocal 37 = .ok (.getfield 13, 3) := by decide +kernel
theorem dX6_reciprocal_40 : decode cX6_reciprocal 40 = .ok (.i2l, 1) := by decide +kernel
theorem dX6_reciprocal_41 : decode cX6_reciprocal 41 = .ok (.invokestatic 192, 3) := by decide +kernel
theorem dX6_reciprocal_44 : decode cX6_reciprocal 44 = .ok (.aload_n 0, 1) := by decide +kernel
theorem dX6_reciprocal_45 : decode cX6_reciprocal 45 = .ok (.getfield 13, 3) := by decide +kernel
theorem dX6_reciprocal_48 : decode cX6_reciprocal 48 = .ok (.i2l, 1) := by decide +kernel
theorem dX6_reciprocal_49 : decode cX6_reciprocal 49 = .ok (.iload_n 2, 1) := by decide +kernel
theorem dX6_reciprocal_50 : decode cX6_reciprocal 50 = .ok (.i2l, 1) := by decide +kernel
theorem dX6_reciprocal_51 : decode cX6_reciprocal 51 = .ok (.iload_n 2, 1) := by decide +kernel
theorem dX6_reciprocal_52 : decode cX6_reciprocal 52 = .ok (.i2l, 1) := by decide +kernel
theorem dX6_reciprocal_53 : decode cX6_reciprocal 53 = .ok (.invokestatic 192, 3) := by decide +kernel
theorem dX6_reciprocal_56 : decode cX6_reciprocal 56 = .ok (.ladd, 1) := by decide +kernel
theorem dX6_reciprocal_57 : decode cX6_reciprocal 57 = .ok (.lreturn, 1) := by decide +kernel
theorem dX6_draw_0 : decode cX6_draw 0 = .ok (.aload_n 0, 1) := by decide +kernel
theorem dX6_draw_1 : decode cX6_draw 1 = .ok (.aload_n 0, 1) := by decide +kernel
theorem dX6_draw_2 : decode cX6_draw 2 = .ok (.getfield 195, 3) := by decide +kernel
theorem dX6_draw_5 : decode cX6_draw 5 = .ok (.ldc 198, 2) := by decide +kernel
theorem dX6_draw_7 : decode cX6_draw 7 = .ok (.imul, 1) := by decide +kernel
theorem dX6_draw_8 : decode cX6_draw 8 = .ok (.ldc 199, 2) := by decide +kernel
theorem dX6_draw_10 : decode cX6_draw 10 = .ok (.iadd, 1) := by decide +kernel
theorem dX6_draw_11 : decode cX6_draw 11 = .ok (.putfield 195, 3) := by decide +kernel
theorem dX6_draw_14 : decode cX6_draw 14 = .ok (.aload_n 0, 1) := by decide +kernel
theorem dX6_draw_15 : decode cX6_draw 15 = .ok (.getfield 195, 3) := by decide +kernel
theorem dX6_draw_18 : decode cX6_draw 18 = .ok (.ldc 202, 2) := by decide +kernel
theorem dX6_draw_20 : decode cX6_draw 20 = .ok (.iand, 1) := by decide +kernel
theorem dX6_draw_21 : decode cX6_draw 21 = .ok (.sipush 256, 3) := by decide +kernel
theorem dX6_draw_24 : decode cX6_draw 24 = .ok (.idiv, 1) := by decide +kernel
theorem dX6_draw_25 : decode cX6_draw 25 = .ok (.iload_n 1, 1) := by decide +kernel
theorem dX6_draw_26 : decode cX6_draw 26 = .ok (.irem, 1) := by decide +kernel
theorem dX6_draw_27 : decode cX6_draw 27 = .ok (.ireturn, 1) := by decide +kernel
set_option maxRecDepth 20000 in
theorem ggX6_lots_X6_range : GoodIn wsX6_lots wsX6_range := goodIn_r _ [7] (by decide +kernel) (by decide +kernel)
set_option maxRecDepth 20000 in
theorem gX6_lots_X6_range : GoodIn wsX6_lots (va_wsS RX6 98 yX6_range wsX6_range) := goodIn_app (goodIn_of _ (by decide +kernel)) ggX6_lots_X6_range
set_option maxRecDepth 20000 in
theorem ggX6_lots_X6_no : GoodIn wsX6_lots wsX6_no := goodIn_r _ [11, 12, 40, 41, 42, 43, 44, 45, 46, 47, 48, 49, 50, 51, 52, 53, 54, 55, 56, 57, 58, 59, 60, 61] (by decide +kernel) (by decide +kernel)
set_option maxRecDepth 20000 in
theorem gX6_lots_X6_no : GoodIn wsX6_lots (wsV RX6 66 RX6 yX6_no wsX6_no) := goodIn_app (goodIn_of _ (by decide +kernel)) ggX6_lots_X6_no
set_option maxRecDepth 20000 in
theorem ggX6_lots_X6_in : GoodIn wsX6_lots wsX6_in := goodIn_r _ [15] (by decide +kernel) (by decide +kernel)
set_option maxRecDepth 20000 in
theorem gX6_lots_X6_in : GoodIn wsX6_lots (va_wsS RX6 73 yX6_in wsX6_in) := goodIn_app (goodIn_of _ (by decide +kernel)) ggX6_lots_X6_in
set_option maxRecDepth 20000 in
theorem ggX6_lots_X6_draw : GoodIn wsX6_lots wsX6_draw := goodIn_r _ [19, 2, 20, 21, 22, 40, 41, 42, 43, 44, 45, 46, 47, 48, 49, 50, 51, 52, 53, 54, 55, 56, 57, 58, 59, 60, 61] (by decide +kernel) (by decide +kernel)
set_option maxRecDepth 20000 in
theorem gX6_lots_X6_draw : GoodIn wsX6_lots (wsV RX6 203 RX6 yX6_draw wsX6_draw) := goodIn_app (goodIn_of _ (by decide +kernel)) ggX6_lots_X6_draw
set_option maxRecDepth 20000 in
theorem ggX6_lots_X6_placeOf : GoodIn wsX6_lots wsX6_placeOf := goodIn_r _ [26, 27, 28, 29, 6, 30, 31, 32, 33, 34, 35, 36, 37, 38, 39, 40, 41, 42, 43, 44, 45, 46, 47, 48, 49, 50, 51, 52, 53, 54, 55, 56, 57, 58, 59, 60, 61] (by decide +kernel) (by decide +kernel)
set_option maxRecDepth 20000 in
theorem gX6_lots_X6_placeOf : GoodIn wsX6_lots (wsV RX6 111 RX6 yX6_placeOf wsX6_placeOf) := goodIn_app (goodIn_of _ (by decide +kernel)) ggX6_lots_X6_placeOf
theorem dX6_lots_0 : decode cX6_lots 0 = .ok (.iload_n 1, 1) := by decide +kernel
theorem dX6_lots_1 : decode cX6_lots 1 = .ok (.iconst 1, 1) := by decide +kernel
theorem dX6_lots_2 : decode cX6_lots 2 = .ok (.bipush 50, 2) := by decide +kernel
theorem dX6_lots_4 : decode cX6_lots 4 = .ok (.invokestatic 98, 3) := by decide +kernel
theorem dX6_lots_7 : decode cX6_lots 7 = .ok (.istore 4, 2) := by decide +kernel
theorem dX6_lots_9 : decode cX6_lots 9 = .ok (.iload 4, 2) := by decide +kernel
theorem dX6_lots_11 : decode cX6_lots 11 = .ok (.ifCond .eq 10, 3) := by decide +kernel
theorem dX6_lots_14 : decode cX6_lots 14 = .ok (.aload_n 0, 1) := by decide +kernel
theorem dX6_lots_15 : decode cX6_lots 15 = .ok (.iload 4, 2) := by decide +kernel
theorem dX6_lots_17 : decode cX6_lots 17 = .ok (.invokevirtual 66, 3) := by decide +kernel
theorem dX6_lots_20 : decode cX6_lots 20 = .ok (.ireturn, 1) := by decide +kernel
theorem dX6_lots_21 : decode cX6_lots 21 = .ok (.iload_n 3, 1) := by decide +kernel
theorem dX6_lots_22 : decode cX6_lots 22 = .ok (.i2l, 1) := by decide +kernel
theorem dX6_lots_23 : decode cX6_lots 23 = .ok (.lconst 0, 1) := by decide +kernel
theorem dX6_lots_24 : decode cX6_lots 24 = .ok (.lconst 1, 1) := by decide +kernel
theorem dX6_lots_25 : decode cX6_lots 25 = .ok (.invokestatic 73, 3) := by decide +kernel
theorem dX6_lots_28 : decode cX6_lots 28 = .ok (.ifCond .ne 10, 3) := by decide +kernel
theorem dX6_lots_31 : decode cX6_lots 31 = .ok (.aload_n 0, 1) := by decide +kernel
theorem dX6_lots_32 : decode cX6_lots 32 = .ok (.bipush (-2), 2) := by decide +kernel
theorem dX6_lots_34 : decode cX6_lots 34 = .ok (.invokevirtual 66, 3) := by decide +kernel
theorem dX6_lots_37 : decode cX6_lots 37 = .ok (.ireturn, 1) := by decide +kernel
theorem dX6_lots_38 : decode cX6_lots 38 = .ok (.aload_n 0, 1) := by decide +kernel
theorem dX6_lots_39 : decode cX6_lots 39 = .ok (.getfield 70, 3) := by decide +kernel
theorem dX6_lots_42 : decode cX6_lots 42 = .ok (.ifCond .ne 10, 3) := by decide +kernel
theorem dX6_lots_45 : decode cX6_lots 45 = .ok (.aload_n 0, 1) := by decide +kernel
theorem dX6_lots_46 : decode cX6_lots 46 = .ok (.bipush (-3), 2) := by decide +kernel
theorem dX6_lots_48 : decode cX6_lots 48 = .ok (.invokevirtual 66, 3) := by decide +kernel
theorem dX6_lots_51 : decode cX6_lots 51 = .ok (.ireturn, 1) := by decide +kernel
theorem dX6_lots_52 : decode cX6_lots 52 = .ok (.aload_n 0, 1) := by decide +kernel
theorem dX6_lots_53 : decode cX6_lots 53 = .ok (.iload_n 2, 1) := by decide +kernel
theorem dX6_lots_54 : decode cX6_lots 54 = .ok (.putfield 195, 3) := by decide +kernel
theorem dX6_lots_57 : decode cX6_lots 57 = .ok (.iconst 0, 1) := by decide +kernel
theorem dX6_lots_58 : decode cX6_lots 58 = .ok (.istore 5, 2) := by decide +kernel
theorem dX6_lots_60 : decode cX6_lots 60 = .ok (.iconst 0, 1) := by decide +kernel
theorem dX6_lots_61 : decode cX6_lots 61 = .ok (.istore 6, 2) := by decide +kernel
theorem dX6_lots_63 : decode cX6_lots 63 = .ok (.iconst 0, 1) := by decide +kernel
theorem dX6_lots_64 : decode cX6_lots 64 = .ok (.istore 7, 2) := by decide +kernel
theorem dX6_lots_66 : decode cX6_lots 66 = .ok (.iload 7, 2) := by decide +kernel
theorem dX6_lots_68 : decode cX6_lots 68 = .ok (.iload_n 1, 1) := by decide +kernel
theorem dX6_lots_69 : decode cX6_lots 69 = .ok (.if_icmp .ge 101, 3) := by decide +kernel
theorem dX6_lots_72 : decode cX6_lots 72 = .ok (.aload_n 0, 1) := by decide +kernel
theorem dX6_lots_73 : decode cX6_lots 73 = .ok (.aload_n 0, 1) := by decide +kernel
theorem dX6_lots_74 : decode cX6_lots 74 = .ok (.getfield 70, 3) := by decide +kernel
theorem dX6_lots_77 : decode cX6_lots 77 = .ok (.invokevirtual 203, 3) := by decide +kernel
theorem dX6_lots_80 : decode cX6_lots 80 = .ok (.istore 8, 2) := by decide +kernel
theorem dX6_lots_82 : decode cX6_lots 82 = .ok (.aload_n 0, 1) := by decide +kernel
theorem dX6_lots_83 : decode cX6_lots 83 = .ok (.iload 8, 2) := by decide +kernel
theorem dX6_lots_85 : decode cX6_lots 85 = .ok (.aload_n 0, 1) := by decide +kernel
theorem dX6_lots_86 : decode cX6_lots 86 = .ok (.sipush 200, 3) := by decide +kernel
theorem dX6_lots_89 : decode cX6_lots 89 = .ok (.invokevirtual 203, 3) := by decide +kernel
theorem dX6_lots_92 : decode cX6_lots 92 = .ok (.invokevirtual 111, 3) := by decide +kernel
theorem dX6_lots_95 : decode cX6_lots 95 = .ok (.istore 9, 2) := by decide +kernel
theorem dX6_lots_97 : decode cX6_lots 97 = .ok (.iload 6, 2) := by decide +kernel
theorem dX6_lots_99 : decode cX6_lots 99 = .ok (.iload 9, 2) := by decide +kernel
theorem dX6_lots_101 : decode cX6_lots 101 = .ok (.iadd, 1) := by decide +kernel
theorem dX6_lots_102 : decode cX6_lots 102 = .ok (.istore 6, 2) := by decide +kernel
theorem dX6_lots_104 : decode cX6_lots 104 = .ok (.iconst 0, 1) := by decide +kernel
theorem dX6_lots_105 : decode cX6_lots 105 = .ok (.istore 10, 2) := by decide +kernel
theorem dX6_lots_107 : decode cX6_lots 107 = .ok (.iconst 0, 1) := by decide +kernel
theorem dX6_lots_108 : decode cX6_lots 108 = .ok (.istore 11, 2) := by decide +kernel
theorem dX6_lots_110 : decode cX6_lots 110 = .ok (.iload 11, 2) := by decide +kernel
theorem dX6_lots_112 : decode cX6_lots 112 = .ok (.iload 5, 2) := by decide +kernel
theorem dX6_lots_114 : decode cX6_lots 114 = .ok (.if_icmp .ge 33, 3) := by decide +kernel
theorem dX6_lots_117 : decode cX6_lots 117 = .ok (.iload 10, 2) := by decide +kernel
theorem dX6_lots_119 : decode cX6_lots 119 = .ok (.ifCond .ne 15, 3) := by decide +kernel
theorem dX6_lots_122 : decode cX6_lots 122 = .ok (.aload_n 0, 1) := by decide +kernel
theorem dX6_lots_123 : decode cX6_lots 123 = .ok (.getfield 35, 3) := by decide +kernel
theorem dX6_lots_126 : decode cX6_lots 126 = .ok (.iload 11, 2) := by decide +kernel
theorem dX6_lots_128 : decode cX6_lots 128 = .ok (.iaload, 1) := by decide +kernel
theorem dX6_lots_129 : decode cX6_lots 129 = .ok (.iload 9, 2) := by decide +kernel
theorem dX6_lots_131 : decode cX6_lots 131 = .ok (.if_icmp .ne 7, 3) := by decide +kernel
theorem dX6_lots_134 : decode cX6_lots 134 = .ok (.iconst 1, 1) := by decide +kernel
theorem dX6_lots_135 : decode cX6_lots 135 = .ok (.goto 4, 3) := by decide +kernel
theorem dX6_lots_138 : decode cX6_lots 138 = .ok (.iconst 0, 1) := by decide +kernel
theorem dX6_lots_139 : decode cX6_lots 139 = .ok (.istore 10, 2) := by decide +kernel
theorem dX6_lots_141 : decode cX6_lots 141 = .ok (.iinc 11 1, 3) := by decide +kernel
theorem dX6_lots_144 : decode cX6_lots 144 = .ok (.goto (-34), 3) := by decide +kernel
theorem dX6_lots_147 : decode cX6_lots 147 = .ok (.iload 10, 2) := by decide +kernel
theorem dX6_lots_149 : decode cX6_lots 149 = .ok (.ifCond .ne 15, 3) := by decide +kernel
theorem dX6_lots_152 : decode cX6_lots 152 = .ok (.aload_n 0, 1) := by decide +kernel
theorem dX6_lots_153 : decode cX6_lots 153 = .ok (.getfield 35, 3) := by decide +kernel
theorem dX6_lots_156 : decode cX6_lots 156 = .ok (.iload 5, 2) := by decide +kernel
theorem dX6_lots_158 : decode cX6_lots 158 = .ok (.iload 9, 2) := by decide +kernel
theorem dX6_lots_160 : decode cX6_lots 160 = .ok (.iastore, 1) := by decide +kernel
theorem dX6_lots_161 : decode cX6_lots 161 = .ok (.iinc 5 1, 3) := by decide +kernel
theorem dX6_lots_164 : decode cX6_lots 164 = .ok (.iinc 7 1, 3) := by decide +kernel
theorem dX6_lots_167 : decode cX6_lots 167 = .ok (.goto (-101), 3) := by decide +kernel
theorem dX6_lots_170 : decode cX6_lots 170 = .ok (.iload_n 3, 1) := by decide +kernel
theorem dX6_lots_171 : decode cX6_lots 171 = .ok (.ifCond .ne 8, 3) := by decide +kernel
theorem dX6_lots_174 : decode cX6_lots 174 = .ok (.iload 5, 2) := by decide +kernel
theorem dX6_lots_176 : decode cX6_lots 176 = .ok (.goto 5, 3) := by decide +kernel
theorem dX6_lots_179 : decode cX6_lots 179 = .ok (.iload 6, 2) := by decide +kernel
theorem dX6_lots_181 : decode cX6_lots 181 = .ok (.ireturn, 1) := by decide +kernel
set_option maxRecDepth 20000 in
theorem ggX6_isList_X6_in : GoodIn wsX6_isList wsX6_in := goodIn_r _ [5] (by decide +kernel) (by decide +kernel)
set_option maxRecDepth 20000 in
theorem gX6_isList_X6_in : GoodIn wsX6_isList (va_wsS RX6 73 yX6_in wsX6_in) := goodIn_app (goodIn_of _ (by decide +kernel)) ggX6_isList_X6_in
theorem dX6_isList_0 : decode cX6_isList 0 = .ok (.iload_n 0, 1) := by decide +kernel
theorem dX6_isList_1 : decode cX6_isList 1 = .ok (.i2l, 1) := by decide +kernel
theorem dX6_isList_2 : decode cX6_isList 2 = .ok (.lconst 0, 1) := by decide +kernel
theorem dX6_isList_3 : decode cX6_isList 3 = .ok (.ldc2_w 135, 3) := by decide +kernel
theorem dX6_isList_6 : decode cX6_isList 6 = .ok (.invokestatic 73, 3) := by decide +kernel
theorem dX6_isList_9 : decode cX6_isList 9 = .ok (.ireturn, 1) := by decide +kernel
set_option maxRecDepth 20000 in
theorem ggX6_list_X6_isList : GoodIn wsX6_list wsX6_isList := goodIn_r _ [7, 8, 9, 10, 6, 11] (by decide +kernel) (by decide +kernel)
set_option maxRecDepth 20000 in
theorem gX6_list_X6_isList : GoodIn wsX6_list (va_wsS RX6 206 yX6_isList wsX6_isList) := goodIn_app (goodIn_of _ (by decide +kernel)) ggX6_list_X6_isList
set_option maxRecDepth 20000 in
theorem ggX6_list_X6_no : GoodIn wsX6_list wsX6_no := goodIn_r _ [15, 16, 17, 18, 19, 20, 21, 22, 23, 24, 25, 26, 27, 28, 29, 30, 31, 32, 33, 34, 35, 36, 37, 38] (by decide +kernel) (by decide +kernel)
set_option maxRecDepth 20000 in
theorem gX6_list_X6_no : GoodIn wsX6_list (wsV RX6 66 RX6 yX6_no wsX6_no) := goodIn_app (goodIn_of _ (by decide +kernel)) ggX6_list_X6_no
theorem dX6_list_0 : decode cX6_list 0 = .ok (.iload_n 1, 1) := by decide +kernel
theorem dX6_list_1 : decode cX6_list 1 = .ok (.invokestatic 206, 3) := by decide +kernel
theorem dX6_list_4 : decode cX6_list 4 = .ok (.ifCond .ne 9, 3) := by decide +kernel
theorem dX6_list_7 : decode cX6_list 7 = .ok (.aload_n 0, 1) := by decide +kernel
theorem dX6_list_8 : decode cX6_list 8 = .ok (.iconst (-1), 1) := by decide +kernel
theorem dX6_list_9 : decode cX6_list 9 = .ok (.invokevirtual 66, 3) := by decide +kernel
theorem dX6_list_12 : decode cX6_list 12 = .ok (.ireturn, 1) := by decide +kernel
theorem dX6_list_13 : decode cX6_list 13 = .ok (.iload_n 2, 1) := by decide +kernel
theorem dX6_list_14 : decode cX6_list 14 = .ok (.bipush 40, 2) := by decide +kernel
theorem dX6_list_16 : decode cX6_list 16 = .ok (.if_icmp .le 10, 3) := by decide +kernel
theorem dX6_list_19 : decode cX6_list 19 = .ok (.aload_n 0, 1) := by decide +kernel
theorem dX6_list_20 : decode cX6_list 20 = .ok (.bipush (-6), 2) := by decide +kernel
theorem dX6_list_22 : decode cX6_list 22 = .ok (.invokevirtual 66, 3) := by decide +kernel
theorem dX6_list_25 : decode cX6_list 25 = .ok (.ireturn, 1) := by decide +kernel
theorem dX6_list_26 : decode cX6_list 26 = .ok (.iload_n 2, 1) := by decide +kernel
theorem dX6_list_27 : decode cX6_list 27 = .ok (.ifCond .ge 6, 3) := by decide +kernel
theorem dX6_list_30 : decode cX6_list 30 = .ok (.bipush (-14), 2) := by decide +kernel
theorem dX6_list_32 : decode cX6_list 32 = .ok (.ireturn, 1) := by decide +kernel
theorem dX6_list_33 : decode cX6_list 33 = .ok (.aload_n 0, 1) := by decide +kernel
theorem dX6_list_34 : decode cX6_list 34 = .ok (.getfield 44, 3) := by decide +kernel
theorem dX6_list_37 : decode cX6_list 37 = .ok (.iload_n 1, 1) := by decide +kernel
theorem dX6_list_38 : decode cX6_list 38 = .ok (.iconst 1, 1) := by decide +kernel
theorem dX6_list_39 : decode cX6_list 39 = .ok (.bastore, 1) := by decide +kernel
theorem dX6_list_40 : decode cX6_list 40 = .ok (.aload_n 0, 1) := by decide +kernel
theorem dX6_list_41 : decode cX6_list 41 = .ok (.getfield 48, 3) := by decide +kernel
theorem dX6_list_44 : decode cX6_list 44 = .ok (.iload_n 1, 1) := by decide +kernel
theorem dX6_list_45 : decode cX6_list 45 = .ok (.iload_n 2, 1) := by decide +kernel
theorem dX6_list_46 : decode cX6_list 46 = .ok (.iastore, 1) := by decide +kernel
theorem dX6_list_47 : decode cX6_list 47 = .ok (.iconst 0, 1) := by decide +kernel
theorem dX6_list_48 : decode cX6_list 48 = .ok (.istore_n 3, 1) := by decide +kernel
theorem dX6_list_49 : decode cX6_list 49 = .ok (.iload_n 3, 1) := by decide +kernel
theorem dX6_list_50 : decode cX6_list 50 = .ok (.bipush 40, 2) := by decide +kernel
theorem dX6_list_52 : decode cX6_list 52 = .ok (.if_icmp .ge 21, 3) := by decide +kernel
theorem dX6_list_55 : decode cX6_list 55 = .ok (.aload_n 0, 1) := by decide +kernel
theorem dX6_list_56 : decode cX6_list 56 = .ok (.getfield 51, 3) := by decide +kernel
theorem dX6_list_59 : decode cX6_list 59 = .ok (.bipush 40, 2) := by decide +kernel
theorem dX6_list_61 : decode cX6_list 61 = .ok (.iload_n 1, 1) := by decide +kernel
theorem dX6_list_62 : decode cX6_list 62 = .ok (.imul, 1) := by decide +kernel
theorem dX6_list_63 : decode cX6_list 63 = .ok (.iload_n 3, 1) := by decide +kernel
theorem dX6_list_64 : decode cX6_list 64 = .ok (.iadd, 1) := by decide +kernel
theorem dX6_list_65 : decode cX6_list 65 = .ok (.iconst 0, 1) := by decide +kernel
theorem dX6_list_66 : decode cX6_list 66 = .ok (.iastore, 1) := by decide +kernel
theorem dX6_list_67 : decode cX6_list 67 = .ok (.iinc 3 1, 3) := by decide +kernel
theorem dX6_list_70 : decode cX6_list 70 = .ok (.goto (-21), 3) := by decide +kernel
theorem dX6_list_73 : decode cX6_list 73 = .ok (.iconst 1, 1) := by decide +kernel
theorem dX6_list_74 : decode cX6_list 74 = .ok (.ireturn, 1) := by decide +kernel
set_option maxRecDepth 20000 in
theorem ggX6_put_X6_isList : GoodIn wsX6_put wsX6_isList := goodIn_r _ [7, 8, 9, 10, 6, 11] (by decide +kernel) (by decide +kernel)
set_option maxRecDepth 20000 in
theorem gX6_put_X6_isList : GoodIn wsX6_put (va_wsS RX6 206 yX6_isList wsX6_isList) := goodIn_app (goodIn_of _ (by decide +kernel)) ggX6_put_X6_isList
set_option maxRecDepth 20000 in
theorem ggX6_put_X6_no : GoodIn wsX6_put wsX6_no := goodIn_r _ [15, 16, 17, 18, 19, 20, 21, 22, 23, 24, 25, 26, 27, 28, 29, 30, 31, 32, 33, 34, 35, 36, 37, 38] (by decide +kernel) (by decide +kernel)
set_option maxRecDepth 20000 in
theorem gX6_put_X6_no : GoodIn wsX6_put (wsV RX6 66 RX6 yX6_no wsX6_no) := goodIn_app (goodIn_of _ (by decide +kernel)) ggX6_put_X6_no
set_option maxRecDepth 20000 in
theorem ggX6_put_X6_in : GoodIn wsX6_put wsX6_in := goodIn_r _ [11] (by decide +kernel) (by decide +kernel)
set_option maxRecDepth 20000 in
theorem gX6_put_X6_in : GoodIn wsX6_put (va_wsS RX6 73 yX6_in wsX6_in) := goodIn_app (goodIn_of _ (by decide +kernel)) ggX6_put_X6_in
theorem dX6_put_0 : decode cX6_put 0 = .ok (.iload_n 1, 1) := by decide +kernel
theorem dX6_put_1 : decode cX6_put 1 = .ok (.invokestatic 206, 3) := by decide +kernel
theorem dX6_put_4 : decode cX6_put 4 = .ok (.ifCond .ne 9, 3) := by decide +kernel
theorem dX6_put_7 : decode cX6_put 7 = .ok (.aload_n 0, 1) := by decide +kernel
theorem dX6_put_8 : decode cX6_put 8 = .ok (.iconst (-1), 1) := by decide +kernel
theorem dX6_put_9 : decode cX6_put 9 = .ok (.invokevirtual 66, 3) := by decide +kernel
theorem dX6_put_12 : decode cX6_put 12 = .ok (.ireturn, 1) := by decide +kernel
theorem dX6_put_13 : decode cX6_put 13 = .ok (.aload_n 0, 1) := by decide +kernel
theorem dX6_put_14 : decode cX6_put 14 = .ok (.getfield 44, 3) := by decide +kernel
theorem dX6_put_17 : decode cX6_put 17 = .ok (.iload_n 1, 1) := by decide +kernel
theorem dX6_put_18 : decode cX6_put 18 = .ok (.baload, 1) := by decide +kernel
theorem dX6_put_19 : decode cX6_put 19 = .ok (.ifCond .ne 6, 3) := by decide +kernel
theorem dX6_put_22 : decode cX6_put 22 = .ok (.bipush (-11), 2) := by decide +kernel
theorem dX6_put_24 : decode cX6_put 24 = .ok (.ireturn, 1) := by decide +kernel
theorem dX6_put_25 : decode cX6_put 25 = .ok (.iload_n 2, 1) := by decide +kernel
theorem dX6_put_26 : decode cX6_put 26 = .ok (.i2l, 1) := by decide +kernel
theorem dX6_put_27 : decode cX6_put 27 = .ok (.lconst 0, 1) := by decide +kernel
theorem dX6_put_28 : decode cX6_put 28 = .ok (.aload_n 0, 1) := by decide +kernel
theorem dX6_put_29 : decode cX6_put 29 = .ok (.getfield 48, 3) := by decide +kernel
theorem dX6_put_32 : decode cX6_put 32 = .ok (.iload_n 1, 1) := by decide +kernel
theorem dX6_put_33 : decode cX6_put 33 = .ok (.iaload, 1) := by decide +kernel
theorem dX6_put_34 : decode cX6_put 34 = .ok (.iconst 1, 1) := by decide +kernel
theorem dX6_put_35 : decode cX6_put 35 = .ok (.isub, 1) := by decide +kernel
theorem dX6_put_36 : decode cX6_put 36 = .ok (.i2l, 1) := by decide +kernel
theorem dX6_put_37 : decode cX6_put 37 = .ok (.invokestatic 73, 3) := by decide +kernel
theorem dX6_put_40 : decode cX6_put 40 = .ok (.ifCond .ne 6, 3) := by decide +kernel
theorem dX6_put_43 : decode cX6_put 43 = .ok (.bipush (-13), 2) := by decide +kernel
theorem dX6_put_45 : decode cX6_put 45 = .ok (.ireturn, 1) := by decide +kernel
theorem dX6_put_46 : decode cX6_put 46 = .ok (.aload_n 0, 1) := by decide +kernel
theorem dX6_put_47 : decode cX6_put 47 = .ok (.getfield 51, 3) := by decide +kernel
theorem dX6_put_50 : decode cX6_put 50 = .ok (.bipush 40, 2) := by decide +kernel
theorem dX6_put_52 : decode cX6_put 52 = .ok (.iload_n 1, 1) := by decide +kernel
theorem dX6_put_53 : decode cX6_put 53 = .ok (.imul, 1) := by decide +kernel
theorem dX6_put_54 : decode cX6_put 54 = .ok (.iload_n 2, 1) := by decide +kernel
theorem dX6_put_55 : decode cX6_put 55 = .ok (.iadd, 1) := by decide +kernel
theorem dX6_put_56 : decode cX6_put 56 = .ok (.iload_n 3, 1) := by decide +kernel
theorem dX6_put_57 : decode cX6_put 57 = .ok (.iastore, 1) := by decide +kernel
theorem dX6_put_58 : decode cX6_put 58 = .ok (.iconst 1, 1) := by decide +kernel
theorem dX6_put_59 : decode cX6_put 59 = .ok (.ireturn, 1) := by decide +kernel
set_option maxRecDepth 20000 in
theorem ggX6_look_X6_isList : GoodIn wsX6_look wsX6_isList := goodIn_r _ [7, 8, 9, 10, 6, 11] (by decide +kernel) (by decide +kernel)
set_option maxRecDepth 20000 in
theorem gX6_look_X6_isList : GoodIn wsX6_look (va_wsS RX6 206 yX6_isList wsX6_isList) := goodIn_app (goodIn_of _ (by decide +kernel)) ggX6_look_X6_isList
set_option maxRecDepth 20000 in
theorem ggX6_look_X6_noLong : GoodIn wsX6_look wsX6_noLong := goodIn_r _ [15, 16, 17, 18, 19, 6, 20, 21, 22, 23, 24, 25, 26, 27, 28, 29, 30, 31, 32, 33, 34, 35, 36, 37, 38, 39, 40, 41, 42, 43] (by decide +kernel) (by decide +kernel)
set_option maxRecDepth 20000 in
theorem gX6_look_X6_noLong : GoodIn wsX6_look (wsV RX6 172 RX6 yX6_noLong wsX6_noLong) := goodIn_app (goodIn_of _ (by decide +kernel)) ggX6_look_X6_noLong
set_option maxRecDepth 20000 in
theorem ggX6_look_X6_in : GoodIn wsX6_look wsX6_in := goodIn_r _ [11] (by decide +kernel) (by decide +kernel)
set_option maxRecDepth 20000 in
theorem gX6_look_X6_in : GoodIn wsX6_look (va_wsS RX6 73 yX6_in wsX6_in) := goodIn_app (goodIn_of _ (by decide +kernel)) ggX6_look_X6_in
theorem dX6_look_0 : decode cX6_look 0 = .ok (.iload_n 1, 1) := by decide +kernel
theorem dX6_look_1 : decode cX6_look 1 = .ok (.invokestatic 206, 3) := by decide +kernel
theorem dX6_look_4 : decode cX6_look 4 = .ok (.ifCond .ne 9, 3) := by decide +kernel
theorem dX6_look_7 : decode cX6_look 7 = .ok (.aload_n 0, 1) := by decide +kernel
theorem dX6_look_8 : decode cX6_look 8 = .ok (.iconst (-1), 1) := by decide +kernel
theorem dX6_look_9 : decode cX6_look 9 = .ok (.invokevirtual 172, 3) := by decide +kernel
theorem dX6_look_12 : decode cX6_look 12 = .ok (.lreturn, 1) := by decide +kernel
theorem dX6_look_13 : decode cX6_look 13 = .ok (.aload_n 0, 1) := by decide +kernel
theorem dX6_look_14 : decode cX6_look 14 = .ok (.getfield 44, 3) := by decide +kernel
theorem dX6_look_17 : decode cX6_look 17 = .ok (.iload_n 1, 1) := by decide +kernel
theorem dX6_look_18 : decode cX6_look 18 = .ok (.baload, 1) := by decide +kernel
theorem dX6_look_19 : decode cX6_look 19 = .ok (.ifCond .ne 10, 3) := by decide +kernel
theorem dX6_look_22 : decode cX6_look 22 = .ok (.aload_n 0, 1) := by decide +kernel
theorem dX6_look_23 : decode cX6_look 23 = .ok (.bipush (-11), 2) := by decide +kernel
theorem dX6_look_25 : decode cX6_look 25 = .ok (.invokevirtual 172, 3) := by decide +kernel
theorem dX6_look_28 : decode cX6_look 28 = .ok (.lreturn, 1) := by decide +kernel
theorem dX6_look_29 : decode cX6_look 29 = .ok (.iload_n 2, 1) := by decide +kernel
theorem dX6_look_30 : decode cX6_look 30 = .ok (.i2l, 1) := by decide +kernel
theorem dX6_look_31 : decode cX6_look 31 = .ok (.lconst 0, 1) := by decide +kernel
theorem dX6_look_32 : decode cX6_look 32 = .ok (.aload_n 0, 1) := by decide +kernel
theorem dX6_look_33 : decode cX6_look 33 = .ok (.getfield 48, 3) := by decide +kernel
theorem dX6_look_36 : decode cX6_look 36 = .ok (.iload_n 1, 1) := by decide +kernel
theorem dX6_look_37 : decode cX6_look 37 = .ok (.iaload, 1) := by decide +kernel
theorem dX6_look_38 : decode cX6_look 38 = .ok (.iconst 1, 1) := by decide +kernel
theorem dX6_look_39 : decode cX6_look 39 = .ok (.isub, 1) := by decide +kernel
theorem dX6_look_40 : decode cX6_look 40 = .ok (.i2l, 1) := by decide +kernel
theorem dX6_look_41 : decode cX6_look 41 = .ok (.invokestatic 73, 3) := by decide +kernel
theorem dX6_look_44 : decode cX6_look 44 = .ok (.ifCond .eq 18, 3) := by decide +kernel
theorem dX6_look_47 : decode cX6_look 47 = .ok (.aload_n 0, 1) := by decide +kernel
theorem dX6_look_48 : decode cX6_look 48 = .ok (.getfield 51, 3) := by decide +kernel
theorem dX6_look_51 : decode cX6_look 51 = .ok (.bipush 40, 2) := by decide +kernel
theorem dX6_look_53 : decode cX6_look 53 = .ok (.iload_n 1, 1) := by decide +kernel
theorem dX6_look_54 : decode cX6_look 54 = .ok (.imul, 1) := by decide +kernel
theorem dX6_look_55 : decode cX6_look 55 = .ok (.iload_n 2, 1) := by decide +kernel
theorem dX6_look_56 : decode cX6_look 56 = .ok (.iadd, 1) := by decide +kernel
theorem dX6_look_57 : decode cX6_look 57 = .ok (.iaload, 1) := by decide +kernel
theorem dX6_look_58 : decode cX6_look 58 = .ok (.i2l, 1) := by decide +kernel
theorem dX6_look_59 : decode cX6_look 59 = .ok (.goto 9, 3) := by decide +kernel
theorem dX6_look_62 : decode cX6_look 62 = .ok (.aload_n 0, 1) := by decide +kernel
theorem dX6_look_63 : decode cX6_look 63 = .ok (.bipush (-13), 2) := by decide +kernel
theorem dX6_look_65 : decode cX6_look 65 = .ok (.invokevirtual 172, 3) := by decide +kernel
theorem dX6_look_68 : decode cX6_look 68 = .ok (.lreturn, 1) := by decide +kernel
set_option maxRecDepth 20000 in
theorem ggX6_lays_X6_isList : GoodIn wsX6_lays wsX6_isList := goodIn_r _ [7, 8, 9, 10, 6, 11] (by decide +kernel) (by decide +kernel)
set_option maxRecDepth 20000 in
theorem gX6_lays_X6_isList : GoodIn wsX6_lays (va_wsS RX6 206 yX6_isList wsX6_isList) := goodIn_app (goodIn_of _ (by decide +kernel)) ggX6_lays_X6_isList
set_option maxRecDepth 20000 in
theorem ggX6_lays_X6_isWalker : GoodIn wsX6_lays wsX6_isWalker := goodIn_r _ [15, 16, 9, 10, 6, 11, 39, 40, 41, 42, 43, 44, 45, 46, 47, 48, 49, 50, 51, 52, 53, 54, 55, 56, 57, 58, 59, 60] (by decide +kernel) (by decide +kernel)
set_option maxRecDepth 20000 in
theorem gX6_lays_X6_isWalker : GoodIn wsX6_lays (wsV RX6 89 RX6 yX6_isWalker wsX6_isWalker) := goodIn_app (goodIn_of _ (by decide +kernel)) ggX6_lays_X6_isWalker
set_option maxRecDepth 20000 in
theorem ggX6_lays_X6_no : GoodIn wsX6_lays wsX6_no := goodIn_r _ [20, 21, 39, 40, 41, 42, 43, 44, 45, 46, 47, 48, 49, 50, 51, 52, 53, 54, 55, 56, 57, 58, 59, 60] (by decide +kernel) (by decide +kernel)
set_option maxRecDepth 20000 in
theorem gX6_lays_X6_no : GoodIn wsX6_lays (wsV RX6 66 RX6 yX6_no wsX6_no) := goodIn_app (goodIn_of _ (by decide +kernel)) ggX6_lays_X6_no
set_option maxRecDepth 20000 in
theorem ggX6_lays_X6_in : GoodIn wsX6_lays wsX6_in := goodIn_r _ [11] (by decide +kernel) (by decide +kernel)
set_option maxRecDepth 20000 in
theorem gX6_lays_X6_in : GoodIn wsX6_lays (va_wsS RX6 73 yX6_in wsX6_in) := goodIn_app (goodIn_of _ (by decide +kernel)) ggX6_lays_X6_in
set_option maxRecDepth 20000 in
theorem ggX6_lays_X6_placeOf : GoodIn wsX6_lays wsX6_placeOf := goodIn_r _ [25, 26, 27, 28, 6, 29, 30, 31, 32, 33, 34, 35, 36, 37, 38, 39, 40, 41, 42, 43, 44, 45, 46, 47, 48, 49, 50, 51, 52, 53, 54, 55, 56, 57, 58, 59, 60] (by decide +kernel) (by decide +kernel)
set_option maxRecDepth 20000 in
theorem gX6_lays_X6_placeOf : GoodIn wsX6_lays (wsV RX6 111 RX6 yX6_placeOf wsX6_placeOf) := goodIn_app (goodIn_of _ (by decide +kernel)) ggX6_lays_X6_placeOf
theorem dX6_lays_0 : decode cX6_lays 0 = .ok (.iload_n 1, 1) := by decide +kernel
theorem dX6_lays_1 : decode cX6_lays 1 = .ok (.invokestatic 206, 3) := by decide +kernel
theorem dX6_lays_4 : decode cX6_lays 4 = .ok (.ifCond .eq 11, 3) := by decide +kernel
theorem dX6_lays_7 : decode cX6_lays 7 = .ok (.aload_n 0, 1) := by decide +kernel
theorem dX6_lays_8 : decode cX6_lays 8 = .ok (.iload_n 3, 1) := by decide +kernel
theorem dX6_lays_9 : decode cX6_lays 9 = .ok (.invokevirtual 89, 3) := by decide +kernel
theorem dX6_lays_12 : decode cX6_lays 12 = .ok (.ifCond .ne 9, 3) := by decide +kernel
theorem dX6_lays_15 : decode cX6_lays 15 = .ok (.aload_n 0, 1) := by decide +kernel
theorem dX6_lays_16 : decode cX6_lays 16 = .ok (.iconst (-1), 1) := by decide +kernel
theorem dX6_lays_17 : decode cX6_lays 17 = .ok (.invokevirtual 66, 3) := by decide +kernel
theorem dX6_lays_20 : decode cX6_lays 20 = .ok (.ireturn, 1) := by decide +kernel
theorem dX6_lays_21 : decode cX6_lays 21 = .ok (.aload_n 0, 1) := by decide +kernel
theorem dX6_lays_22 : decode cX6_lays 22 = .ok (.getfield 44, 3) := by decide +kernel
theorem dX6_lays_25 : decode cX6_lays 25 = .ok (.iload_n 1, 1) := by decide +kernel
theorem dX6_lays_26 : decode cX6_lays 26 = .ok (.baload, 1) := by decide +kernel
theorem dX6_lays_27 : decode cX6_lays 27 = .ok (.ifCond .ne 6, 3) := by decide +kernel
theorem dX6_lays_30 : decode cX6_lays 30 = .ok (.bipush (-11), 2) := by decide +kernel
theorem dX6_lays_32 : decode cX6_lays 32 = .ok (.ireturn, 1) := by decide +kernel
theorem dX6_lays_33 : decode cX6_lays 33 = .ok (.iload_n 2, 1) := by decide +kernel
theorem dX6_lays_34 : decode cX6_lays 34 = .ok (.i2l, 1) := by decide +kernel
theorem dX6_lays_35 : decode cX6_lays 35 = .ok (.lconst 0, 1) := by decide +kernel
theorem dX6_lays_36 : decode cX6_lays 36 = .ok (.aload_n 0, 1) := by decide +kernel
theorem dX6_lays_37 : decode cX6_lays 37 = .ok (.getfield 48, 3) := by decide +kernel
theorem dX6_lays_40 : decode cX6_lays 40 = .ok (.iload_n 1, 1) := by decide +kernel
theorem dX6_lays_41 : decode cX6_lays 41 = .ok (.iaload, 1) := by decide +kernel
theorem dX6_lays_42 : decode cX6_lays 42 = .ok (.iconst 1, 1) := by decide +kernel
theorem dX6_lays_43 : decode cX6_lays 43 = .ok (.isub, 1) := by decide +kernel
theorem dX6_lays_44 : decode cX6_lays 44 = .ok (.i2l, 1) := by decide +kernel
theorem dX6_lays_45 : decode cX6_lays 45 = .ok (.invokestatic 73, 3) := by decide +kernel
theorem dX6_lays_48 : decode cX6_lays 48 = .ok (.ifCond .ne 6, 3) := by decide +kernel
theorem dX6_lays_51 : decode cX6_lays 51 = .ok (.bipush (-13), 2) := by decide +kernel
theorem dX6_lays_53 : decode cX6_lays 53 = .ok (.ireturn, 1) := by decide +kernel
theorem dX6_lays_54 : decode cX6_lays 54 = .ok (.iconst 0, 1) := by decide +kernel
theorem dX6_lays_55 : decode cX6_lays 55 = .ok (.istore 4, 2) := by decide +kernel
theorem dX6_lays_57 : decode cX6_lays 57 = .ok (.iload_n 2, 1) := by decide +kernel
theorem dX6_lays_58 : decode cX6_lays 58 = .ok (.iload 4, 2) := by decide +kernel
theorem dX6_lays_60 : decode cX6_lays 60 = .ok (.iadd, 1) := by decide +kernel
theorem dX6_lays_61 : decode cX6_lays 61 = .ok (.aload_n 0, 1) := by decide +kernel
theorem dX6_lays_62 : decode cX6_lays 62 = .ok (.getfield 48, 3) := by decide +kernel
theorem dX6_lays_65 : decode cX6_lays 65 = .ok (.iload_n 1, 1) := by decide +kernel
theorem dX6_lays_66 : decode cX6_lays 66 = .ok (.iaload, 1) := by decide +kernel
theorem dX6_lays_67 : decode cX6_lays 67 = .ok (.if_icmp .ge 30, 3) := by decide +kernel
theorem dX6_lays_70 : decode cX6_lays 70 = .ok (.aload_n 0, 1) := by decide +kernel
theorem dX6_lays_71 : decode cX6_lays 71 = .ok (.getfield 51, 3) := by decide +kernel
theorem dX6_lays_74 : decode cX6_lays 74 = .ok (.bipush 40, 2) := by decide +kernel
theorem dX6_lays_76 : decode cX6_lays 76 = .ok (.iload_n 1, 1) := by decide +kernel
theorem dX6_lays_77 : decode cX6_lays 77 = .ok (.imul, 1) := by decide +kernel
theorem dX6_lays_78 : decode cX6_lays 78 = .ok (.iload_n 2, 1) := by decide +kernel
theorem dX6_lays_79 : decode cX6_lays 79 = .ok (.iadd, 1) := by decide +kernel
theorem dX6_lays_80 : decode cX6_lays 80 = .ok (.iload 4, 2) := by decide +kernel
theorem dX6_lays_82 : decode cX6_lays 82 = .ok (.iadd, 1) := by decide +kernel
theorem dX6_lays_83 : decode cX6_lays 83 = .ok (.aload_n 0, 1) := by decide +kernel
theorem dX6_lays_84 : decode cX6_lays 84 = .ok (.iload_n 3, 1) := by decide +kernel
theorem dX6_lays_85 : decode cX6_lays 85 = .ok (.iload 4, 2) := by decide +kernel
theorem dX6_lays_87 : decode cX6_lays 87 = .ok (.invokevirtual 111, 3) := by decide +kernel
theorem dX6_lays_90 : decode cX6_lays 90 = .ok (.iastore, 1) := by decide +kernel
theorem dX6_lays_91 : decode cX6_lays 91 = .ok (.iinc 4 1, 3) := by decide +kernel
theorem dX6_lays_94 : decode cX6_lays 94 = .ok (.goto (-37), 3) := by decide +kernel
theorem dX6_lays_97 : decode cX6_lays 97 = .ok (.aload_n 0, 1) := by decide +kernel
theorem dX6_lays_98 : decode cX6_lays 98 = .ok (.getfield 48, 3) := by decide +kernel
theorem dX6_lays_101 : decode cX6_lays 101 = .ok (.iload_n 1, 1) := by decide +kernel
theorem dX6_lays_102 : decode cX6_lays 102 = .ok (.iaload, 1) := by decide +kernel
theorem dX6_lays_103 : decode cX6_lays 103 = .ok (.iload_n 2, 1) := by decide +kernel
theorem dX6_lays_104 : decode cX6_lays 104 = .ok (.isub, 1) := by decide +kernel
theorem dX6_lays_105 : decode cX6_lays 105 = .ok (.ireturn, 1) := by decide +kernel
set_option maxRecDepth 20000 in
theorem ggX6_judge_X6_isList : GoodIn wsX6_judge wsX6_isList := goodIn_r _ [7, 8, 9, 10, 6, 11] (by decide +kernel) (by decide +kernel)
set_option maxRecDepth 20000 in
theorem gX6_judge_X6_isList : GoodIn wsX6_judge (va_wsS RX6 206 yX6_isList wsX6_isList) := goodIn_app (goodIn_of _ (by decide +kernel)) ggX6_judge_X6_isList
set_option maxRecDepth 20000 in
theorem ggX6_judge_X6_isWalker : GoodIn wsX6_judge wsX6_isWalker := goodIn_r _ [15, 16, 9, 10, 6, 11, 39, 40, 41, 42, 43, 44, 45, 46, 47, 48, 49, 50, 51, 52, 53, 54, 55, 56, 57, 58, 59, 60] (by decide +kernel) (by decide +kernel)
set_option maxRecDepth 20000 in
theorem gX6_judge_X6_isWalker : GoodIn wsX6_judge (wsV RX6 89 RX6 yX6_isWalker wsX6_isWalker) := goodIn_app (goodIn_of _ (by decide +kernel)) ggX6_judge_X6_isWalker
set_option maxRecDepth 20000 in
theorem ggX6_judge_X6_no : GoodIn wsX6_judge wsX6_no := goodIn_r _ [20, 21, 39, 40, 41, 42, 43, 44, 45, 46, 47, 48, 49, 50, 51, 52, 53, 54, 55, 56, 57, 58, 59, 60] (by decide +kernel) (by decide +kernel)
set_option maxRecDepth 20000 in
theorem gX6_judge_X6_no : GoodIn wsX6_judge (wsV RX6 66 RX6 yX6_no wsX6_no) := goodIn_app (goodIn_of _ (by decide +kernel)) ggX6_judge_X6_no
set_option maxRecDepth 20000 in
theorem ggX6_judge_X6_placeOf : GoodIn wsX6_judge wsX6_placeOf := goodIn_r _ [25, 26, 27, 28, 6, 29, 30, 31, 32, 33, 34, 35, 36, 37, 38, 39, 40, 41, 42, 43, 44, 45, 46, 47, 48, 49, 50, 51, 52, 53, 54, 55, 56, 57, 58, 59, 60] (by decide +kernel) (by decide +kernel)
set_option maxRecDepth 20000 in
theorem gX6_judge_X6_placeOf : GoodIn wsX6_judge (wsV RX6 111 RX6 yX6_placeOf wsX6_placeOf) := goodIn_app (goodIn_of _ (by decide +kernel)) ggX6_judge_X6_placeOf
theorem dX6_judge_0 : decode cX6_judge 0 = .ok (.iload_n 1, 1) := by decide +kernel
theorem dX6_judge_1 : decode cX6_judge 1 = .ok (.invokestatic 206, 3) := by decide +kernel
theorem dX6_judge_4 : decode cX6_judge 4 = .ok (.ifCond .eq 11, 3) := by decide +kernel
theorem dX6_judge_7 : decode cX6_judge 7 = .ok (.aload_n 0, 1) := by decide +kernel
theorem dX6_judge_8 : decode cX6_judge 8 = .ok (.iload_n 2, 1) := by decide +kernel
theorem dX6_judge_9 : decode cX6_judge 9 = .ok (.invokevirtual 89, 3) := by decide +kernel
theorem dX6_judge_12 : decode cX6_judge 12 = .ok (.ifCond .ne 9, 3) := by decide +kernel
theorem dX6_judge_15 : decode cX6_judge 15 = .ok (.aload_n 0, 1) := by decide +kernel
theorem dX6_judge_16 : decode cX6_judge 16 = .ok (.iconst (-1), 1) := by decide +kernel
theorem dX6_judge_17 : decode cX6_judge 17 = .ok (.invokevirtual 66, 3) := by decide +kernel
theorem dX6_judge_20 : decode cX6_judge 20 = .ok (.ireturn, 1) := by decide +kernel
theorem dX6_judge_21 : decode cX6_judge 21 = .ok (.aload_n 0, 1) := by decide +kernel
theorem dX6_judge_22 : decode cX6_judge 22 = .ok (.getfield 44, 3) := by decide +kernel
theorem dX6_judge_25 : decode cX6_judge 25 = .ok (.iload_n 1, 1) := by decide +kernel
theorem dX6_judge_26 : decode cX6_judge 26 = .ok (.baload, 1) := by decide +kernel
theorem dX6_judge_27 : decode cX6_judge 27 = .ok (.ifCond .ne 6, 3) := by decide +kernel
theorem dX6_judge_30 : decode cX6_judge 30 = .ok (.bipush (-11), 2) := by decide +kernel
theorem dX6_judge_32 : decode cX6_judge 32 = .ok (.ireturn, 1) := by decide +kernel
theorem dX6_judge_33 : decode cX6_judge 33 = .ok (.iconst 0, 1) := by decide +kernel
theorem dX6_judge_34 : decode cX6_judge 34 = .ok (.istore_n 3, 1) := by decide +kernel
theorem dX6_judge_35 : decode cX6_judge 35 = .ok (.iload_n 3, 1) := by decide +kernel
theorem dX6_judge_36 : decode cX6_judge 36 = .ok (.aload_n 0, 1) := by decide +kernel
theorem dX6_judge_37 : decode cX6_judge 37 = .ok (.getfield 48, 3) := by decide +kernel
theorem dX6_judge_40 : decode cX6_judge 40 = .ok (.iload_n 1, 1) := by decide +kernel
theorem dX6_judge_41 : decode cX6_judge 41 = .ok (.iaload, 1) := by decide +kernel
theorem dX6_judge_42 : decode cX6_judge 42 = .ok (.if_icmp .ge 31, 3) := by decide +kernel
theorem dX6_judge_45 : decode cX6_judge 45 = .ok (.aload_n 0, 1) := by decide +kernel
theorem dX6_judge_46 : decode cX6_judge 46 = .ok (.getfield 51, 3) := by decide +kernel
theorem dX6_judge_49 : decode cX6_judge 49 = .ok (.bipush 40, 2) := by decide +kernel
theorem dX6_judge_51 : decode cX6_judge 51 = .ok (.iload_n 1, 1) := by decide +kernel
theorem dX6_judge_52 : decode cX6_judge 52 = .ok (.imul, 1) := by decide +kernel
theorem dX6_judge_53 : decode cX6_judge 53 = .ok (.iload_n 3, 1) := by decide +kernel
theorem dX6_judge_54 : decode cX6_judge 54 = .ok (.iadd, 1) := by decide +kernel
theorem dX6_judge_55 : decode cX6_judge 55 = .ok (.iaload, 1) := by decide +kernel
theorem dX6_judge_56 : decode cX6_judge 56 = .ok (.aload_n 0, 1) := by decide +kernel
theorem dX6_judge_57 : decode cX6_judge 57 = .ok (.iload_n 2, 1) := by decide +kernel
theorem dX6_judge_58 : decode cX6_judge 58 = .ok (.iload_n 3, 1) := by decide +kernel
theorem dX6_judge_59 : decode cX6_judge 59 = .ok (.invokevirtual 111, 3) := by decide +kernel
theorem dX6_judge_62 : decode cX6_judge 62 = .ok (.if_icmp .eq 5, 3) := by decide +kernel
theorem dX6_judge_65 : decode cX6_judge 65 = .ok (.iload_n 3, 1) := by decide +kernel
theorem dX6_judge_66 : decode cX6_judge 66 = .ok (.ireturn, 1) := by decide +kernel
theorem dX6_judge_67 : decode cX6_judge 67 = .ok (.iinc 3 1, 3) := by decide +kernel
theorem dX6_judge_70 : decode cX6_judge 70 = .ok (.goto (-35), 3) := by decide +kernel
theorem dX6_judge_73 : decode cX6_judge 73 = .ok (.bipush (-9), 2) := by decide +kernel
theorem dX6_judge_75 : decode cX6_judge 75 = .ok (.ireturn, 1) := by decide +kernel
set_option maxRecDepth 20000 in
theorem ggX6_tellsPlaces_X6_in : GoodIn wsX6_tellsPlaces wsX6_in := goodIn_r _ [7] (by decide +kernel) (by decide +kernel)
set_option maxRecDepth 20000 in
theorem gX6_tellsPlaces_X6_in : GoodIn wsX6_tellsPlaces (va_wsS RX6 73 yX6_in wsX6_in) := goodIn_app (goodIn_of _ (by decide +kernel)) ggX6_tellsPlaces_X6_in
theorem dX6_tellsPlaces_0 : decode cX6_tellsPlaces 0 = .ok (.aload_n 0, 1) := by decide +kernel
theorem dX6_tellsPlaces_1 : decode cX6_tellsPlaces 1 = .ok (.getfield 48, 3) := by decide +kernel
theorem dX6_tellsPlaces_4 : decode cX6_tellsPlaces 4 = .ok (.iload_n 1, 1) := by decide +kernel
theorem dX6_tellsPlaces_5 : decode cX6_tellsPlaces 5 = .ok (.iaload, 1) := by decide +kernel
theorem dX6_tellsPlaces_6 : decode cX6_tellsPlaces 6 = .ok (.iconst 1, 1) := by decide +kernel
theorem dX6_tellsPlaces_7 : decode cX6_tellsPlaces 7 = .ok (.if_icmp .le 7, 3) := by decide +kernel
theorem dX6_tellsPlaces_10 : decode cX6_tellsPlaces 10 = .ok (.iconst 1, 1) := by decide +kernel
theorem dX6_tellsPlaces_11 : decode cX6_tellsPlaces 11 = .ok (.goto 4, 3) := by decide +kernel
theorem dX6_tellsPlaces_14 : decode cX6_tellsPlaces 14 = .ok (.iconst 0, 1) := by decide +kernel
theorem dX6_tellsPlaces_15 : decode cX6_tellsPlaces 15 = .ok (.istore_n 2, 1) := by decide +kernel
theorem dX6_tellsPlaces_16 : decode cX6_tellsPlaces 16 = .ok (.iconst 0, 1) := by decide +kernel
theorem dX6_tellsPlaces_17 : decode cX6_tellsPlaces 17 = .ok (.istore_n 3, 1) := by decide +kernel
theorem dX6_tellsPlaces_18 : decode cX6_tellsPlaces 18 = .ok (.iload_n 3, 1) := by decide +kernel
theorem dX6_tellsPlaces_19 : decode cX6_tellsPlaces 19 = .ok (.aload_n 0, 1) := by decide +kernel
theorem dX6_tellsPlaces_20 : decode cX6_tellsPlaces 20 = .ok (.getfield 48, 3) := by decide +kernel
theorem dX6_tellsPlaces_23 : decode cX6_tellsPlaces 23 = .ok (.iload_n 1, 1) := by decide +kernel
theorem dX6_tellsPlaces_24 : decode cX6_tellsPlaces 24 = .ok (.iaload, 1) := by decide +kernel
theorem dX6_tellsPlaces_25 : decode cX6_tellsPlaces 25 = .ok (.if_icmp .ge 45, 3) := by decide +kernel
theorem dX6_tellsPlaces_28 : decode cX6_tellsPlaces 28 = .ok (.iload_n 2, 1) := by decide +kernel
theorem dX6_tellsPlaces_29 : decode cX6_tellsPlaces 29 = .ok (.ifCond .eq 33, 3) := by decide +kernel
theorem dX6_tellsPlaces_32 : decode cX6_tellsPlaces 32 = .ok (.aload_n 0, 1) := by decide +kernel
theorem dX6_tellsPlaces_33 : decode cX6_tellsPlaces 33 = .ok (.getfield 51, 3) := by decide +kernel
theorem dX6_tellsPlaces_36 : decode cX6_tellsPlaces 36 = .ok (.bipush 40, 2) := by decide +kernel
theorem dX6_tellsPlaces_38 : decode cX6_tellsPlaces 38 = .ok (.iload_n 1, 1) := by decide +kernel
theorem dX6_tellsPlaces_39 : decode cX6_tellsPlaces 39 = .ok (.imul, 1) := by decide +kernel
theorem dX6_tellsPlaces_40 : decode cX6_tellsPlaces 40 = .ok (.iload_n 3, 1) := by decide +kernel
theorem dX6_tellsPlaces_41 : decode cX6_tellsPlaces 41 = .ok (.iadd, 1) := by decide +kernel
theorem dX6_tellsPlaces_42 : decode cX6_tellsPlaces 42 = .ok (.iaload, 1) := by decide +kernel
theorem dX6_tellsPlaces_43 : decode cX6_tellsPlaces 43 = .ok (.i2l, 1) := by decide +kernel
theorem dX6_tellsPlaces_44 : decode cX6_tellsPlaces 44 = .ok (.lconst 0, 1) := by decide +kernel
theorem dX6_tellsPlaces_45 : decode cX6_tellsPlaces 45 = .ok (.aload_n 0, 1) := by decide +kernel
theorem dX6_tellsPlaces_46 : decode cX6_tellsPlaces 46 = .ok (.getfield 13, 3) := by decide +kernel
theorem dX6_tellsPlaces_49 : decode cX6_tellsPlaces 49 = .ok (.iconst 1, 1) := by decide +kernel
theorem dX6_tellsPlaces_50 : decode cX6_tellsPlaces 50 = .ok (.isub, 1) := by decide +kernel
theorem dX6_tellsPlaces_51 : decode cX6_tellsPlaces 51 = .ok (.i2l, 1) := by decide +kernel
theorem dX6_tellsPlaces_52 : decode cX6_tellsPlaces 52 = .ok (.invokestatic 73, 3) := by decide +kernel
theorem dX6_tellsPlaces_55 : decode cX6_tellsPlaces 55 = .ok (.ifCond .eq 7, 3) := by decide +kernel
theorem dX6_tellsPlaces_58 : decode cX6_tellsPlaces 58 = .ok (.iconst 1, 1) := by decide +kernel
theorem dX6_tellsPlaces_59 : decode cX6_tellsPlaces 59 = .ok (.goto 4, 3) := by decide +kernel
theorem dX6_tellsPlaces_62 : decode cX6_tellsPlaces 62 = .ok (.iconst 0, 1) := by decide +kernel
theorem dX6_tellsPlaces_63 : decode cX6_tellsPlaces 63 = .ok (.istore_n 2, 1) := by decide +kernel
theorem dX6_tellsPlaces_64 : decode cX6_tellsPlaces 64 = .ok (.iinc 3 1, 3) := by decide +kernel
theorem dX6_tellsPlaces_67 : decode cX6_tellsPlaces 67 = .ok (.goto (-49), 3) := by decide +kernel
theorem dX6_tellsPlaces_70 : decode cX6_tellsPlaces 70 = .ok (.iload_n 2, 1) := by decide +kernel
theorem dX6_tellsPlaces_71 : decode cX6_tellsPlaces 71 = .ok (.ireturn, 1) := by decide +kernel
set_option maxRecDepth 20000 in
theorem ggX6_hasAll_X6_placeBy : GoodIn wsX6_hasAll wsX6_placeBy := goodIn_r _ [7, 8, 9, 10, 6, 11, 12, 13, 14, 15, 16, 17, 18, 19, 20, 21, 22, 23, 24, 25, 26, 27, 28, 29, 30, 31, 32, 33] (by decide +kernel) (by decide +kernel)
set_option maxRecDepth 20000 in
theorem gX6_hasAll_X6_placeBy : GoodIn wsX6_hasAll (wsV RX6 85 RX6 yX6_placeBy wsX6_placeBy) := goodIn_app (goodIn_of _ (by decide +kernel)) ggX6_hasAll_X6_placeBy
theorem dX6_hasAll_0 : decode cX6_hasAll 0 = .ok (.iconst 0, 1) := by decide +kernel
theorem dX6_hasAll_1 : decode cX6_hasAll 1 = .ok (.istore 6, 2) := by decide +kernel
theorem dX6_hasAll_3 : decode cX6_hasAll 3 = .ok (.iload 6, 2) := by decide +kernel
theorem dX6_hasAll_5 : decode cX6_hasAll 5 = .ok (.aload_n 0, 1) := by decide +kernel
theorem dX6_hasAll_6 : decode cX6_hasAll 6 = .ok (.getfield 48, 3) := by decide +kernel
theorem dX6_hasAll_9 : decode cX6_hasAll 9 = .ok (.iload_n 1, 1) := by decide +kernel
theorem dX6_hasAll_10 : decode cX6_hasAll 10 = .ok (.iaload, 1) := by decide +kernel
theorem dX6_hasAll_11 : decode cX6_hasAll 11 = .ok (.if_icmp .ge 38, 3) := by decide +kernel
theorem dX6_hasAll_14 : decode cX6_hasAll 14 = .ok (.aload_n 0, 1) := by decide +kernel
theorem dX6_hasAll_15 : decode cX6_hasAll 15 = .ok (.getfield 51, 3) := by decide +kernel
theorem dX6_hasAll_18 : decode cX6_hasAll 18 = .ok (.bipush 40, 2) := by decide +kernel
theorem dX6_hasAll_20 : decode cX6_hasAll 20 = .ok (.iload_n 1, 1) := by decide +kernel
theorem dX6_hasAll_21 : decode cX6_hasAll 21 = .ok (.imul, 1) := by decide +kernel
theorem dX6_hasAll_22 : decode cX6_hasAll 22 = .ok (.iload 6, 2) := by decide +kernel
theorem dX6_hasAll_24 : decode cX6_hasAll 24 = .ok (.iadd, 1) := by decide +kernel
theorem dX6_hasAll_25 : decode cX6_hasAll 25 = .ok (.iaload, 1) := by decide +kernel
theorem dX6_hasAll_26 : decode cX6_hasAll 26 = .ok (.aload_n 0, 1) := by decide +kernel
theorem dX6_hasAll_27 : decode cX6_hasAll 27 = .ok (.iload_n 2, 1) := by decide +kernel
theorem dX6_hasAll_28 : decode cX6_hasAll 28 = .ok (.iload_n 3, 1) := by decide +kernel
theorem dX6_hasAll_29 : decode cX6_hasAll 29 = .ok (.iload 4, 2) := by decide +kernel
theorem dX6_hasAll_31 : decode cX6_hasAll 31 = .ok (.iload 5, 2) := by decide +kernel
theorem dX6_hasAll_33 : decode cX6_hasAll 33 = .ok (.iload 6, 2) := by decide +kernel
theorem dX6_hasAll_35 : decode cX6_hasAll 35 = .ok (.invokevirtual 85, 3) := by decide +kernel
theorem dX6_hasAll_38 : decode cX6_hasAll 38 = .ok (.if_icmp .eq 5, 3) := by decide +kernel
theorem dX6_hasAll_41 : decode cX6_hasAll 41 = .ok (.iconst 0, 1) := by decide +kernel
theorem dX6_hasAll_42 : decode cX6_hasAll 42 = .ok (.ireturn, 1) := by decide +kernel
theorem dX6_hasAll_43 : decode cX6_hasAll 43 = .ok (.iinc 6 1, 3) := by decide +kernel
theorem dX6_hasAll_46 : decode cX6_hasAll 46 = .ok (.goto (-43), 3) := by decide +kernel
theorem dX6_hasAll_49 : decode cX6_hasAll 49 = .ok (.iconst 1, 1) := by decide +kernel
theorem dX6_hasAll_50 : decode cX6_hasAll 50 = .ok (.ireturn, 1) := by decide +kernel
set_option maxRecDepth 20000 in
theorem ggX6_steps_X6_isList : GoodIn wsX6_steps wsX6_isList := goodIn_r _ [7, 8, 9, 10, 6, 11] (by decide +kernel) (by decide +kernel)
set_option maxRecDepth 20000 in
theorem gX6_steps_X6_isList : GoodIn wsX6_steps (va_wsS RX6 206 yX6_isList wsX6_isList) := goodIn_app (goodIn_of _ (by decide +kernel)) ggX6_steps_X6_isList
set_option maxRecDepth 20000 in
theorem ggX6_steps_X6_no : GoodIn wsX6_steps wsX6_no := goodIn_r _ [15, 16, 33, 34, 35, 36, 37, 38, 39, 40, 41, 42, 43, 44, 45, 46, 47, 48, 49, 50, 51, 52, 53, 54] (by decide +kernel) (by decide +kernel)
set_option maxRecDepth 20000 in
theorem gX6_steps_X6_no : GoodIn wsX6_steps (wsV RX6 66 RX6 yX6_no wsX6_no) := goodIn_app (goodIn_of _ (by decide +kernel)) ggX6_steps_X6_no
set_option maxRecDepth 20000 in
theorem ggX6_steps_X6_in : GoodIn wsX6_steps wsX6_in := goodIn_r _ [11] (by decide +kernel) (by decide +kernel)
set_option maxRecDepth 20000 in
theorem gX6_steps_X6_in : GoodIn wsX6_steps (va_wsS RX6 73 yX6_in wsX6_in) := goodIn_app (goodIn_of _ (by decide +kernel)) ggX6_steps_X6_in
set_option maxRecDepth 20000 in
theorem ggX6_steps_X6_tellsPlaces : GoodIn wsX6_steps wsX6_tellsPlaces := goodIn_r _ [20, 21, 3, 2, 9, 10, 6, 11, 33, 34, 35, 36, 37, 38, 39, 40, 41, 42, 43, 44, 45, 46, 47, 48, 49, 50, 51, 52, 53, 54] (by decide +kernel) (by decide +kernel)
set_option maxRecDepth 20000 in
theorem gX6_steps_X6_tellsPlaces : GoodIn wsX6_steps (wsV RX6 209 RX6 yX6_tellsPlaces wsX6_tellsPlaces) := goodIn_app (goodIn_of _ (by decide +kernel)) ggX6_steps_X6_tellsPlaces
set_option maxRecDepth 20000 in
theorem ggX6_steps_X6_hasAll : GoodIn wsX6_steps wsX6_hasAll := goodIn_r _ [25, 21, 3, 26, 27, 28, 6, 29, 2, 30, 31, 32, 33, 34, 35, 36, 37, 38, 39, 40, 41, 42, 43, 44, 45, 46, 47, 48, 49, 50, 51, 52, 53, 54] (by decide +kernel) (by decide +kernel)
set_option maxRecDepth 20000 in
theorem gX6_steps_X6_hasAll : GoodIn wsX6_steps (wsV RX6 212 RX6 yX6_hasAll wsX6_hasAll) := goodIn_app (goodIn_of _ (by decide +kernel)) ggX6_steps_X6_hasAll
theorem dX6_steps_0 : decode cX6_steps 0 = .ok (.iload_n 1, 1) := by decide +kernel
theorem dX6_steps_1 : decode cX6_steps 1 = .ok (.invokestatic 206, 3) := by decide +kernel
theorem dX6_steps_4 : decode cX6_steps 4 = .ok (.ifCond .ne 9, 3) := by decide +kernel
theorem dX6_steps_7 : decode cX6_steps 7 = .ok (.aload_n 0, 1) := by decide +kernel
theorem dX6_steps_8 : decode cX6_steps 8 = .ok (.iconst (-1), 1) := by decide +kernel
theorem dX6_steps_9 : decode cX6_steps 9 = .ok (.invokevirtual 66, 3) := by decide +kernel
theorem dX6_steps_12 : decode cX6_steps 12 = .ok (.ireturn, 1) := by decide +kernel
theorem dX6_steps_13 : decode cX6_steps 13 = .ok (.iload_n 2, 1) := by decide +kernel
theorem dX6_steps_14 : decode cX6_steps 14 = .ok (.i2l, 1) := by decide +kernel
theorem dX6_steps_15 : decode cX6_steps 15 = .ok (.lconst 0, 1) := by decide +kernel
theorem dX6_steps_16 : decode cX6_steps 16 = .ok (.lconst 1, 1) := by decide +kernel
theorem dX6_steps_17 : decode cX6_steps 17 = .ok (.invokestatic 73, 3) := by decide +kernel
theorem dX6_steps_20 : decode cX6_steps 20 = .ok (.ifCond .ne 10, 3) := by decide +kernel
theorem dX6_steps_23 : decode cX6_steps 23 = .ok (.aload_n 0, 1) := by decide +kernel
theorem dX6_steps_24 : decode cX6_steps 24 = .ok (.bipush (-2), 2) := by decide +kernel
theorem dX6_steps_26 : decode cX6_steps 26 = .ok (.invokevirtual 66, 3) := by decide +kernel
theorem dX6_steps_29 : decode cX6_steps 29 = .ok (.ireturn, 1) := by decide +kernel
theorem dX6_steps_30 : decode cX6_steps 30 = .ok (.aload_n 0, 1) := by decide +kernel
theorem dX6_steps_31 : decode cX6_steps 31 = .ok (.getfield 44, 3) := by decide +kernel
theorem dX6_steps_34 : decode cX6_steps 34 = .ok (.iload_n 1, 1) := by decide +kernel
theorem dX6_steps_35 : decode cX6_steps 35 = .ok (.baload, 1) := by decide +kernel
theorem dX6_steps_36 : decode cX6_steps 36 = .ok (.ifCond .ne 6, 3) := by decide +kernel
theorem dX6_steps_39 : decode cX6_steps 39 = .ok (.bipush (-11), 2) := by decide +kernel
theorem dX6_steps_41 : decode cX6_steps 41 = .ok (.ireturn, 1) := by decide +kernel
theorem dX6_steps_42 : decode cX6_steps 42 = .ok (.aload_n 0, 1) := by decide +kernel
theorem dX6_steps_43 : decode cX6_steps 43 = .ok (.iload_n 1, 1) := by decide +kernel
theorem dX6_steps_44 : decode cX6_steps 44 = .ok (.invokevirtual 209, 3) := by decide +kernel
theorem dX6_steps_47 : decode cX6_steps 47 = .ok (.ifCond .ne 10, 3) := by decide +kernel
theorem dX6_steps_50 : decode cX6_steps 50 = .ok (.aload_n 0, 1) := by decide +kernel
theorem dX6_steps_51 : decode cX6_steps 51 = .ok (.bipush (-3), 2) := by decide +kernel
theorem dX6_steps_53 : decode cX6_steps 53 = .ok (.invokevirtual 66, 3) := by decide +kernel
theorem dX6_steps_56 : decode cX6_steps 56 = .ok (.ireturn, 1) := by decide +kernel
theorem dX6_steps_57 : decode cX6_steps 57 = .ok (.iconst 0, 1) := by decide +kernel
theorem dX6_steps_58 : decode cX6_steps 58 = .ok (.istore_n 3, 1) := by decide +kernel
theorem dX6_steps_59 : decode cX6_steps 59 = .ok (.bipush (-9), 2) := by decide +kernel
theorem dX6_steps_61 : decode cX6_steps 61 = .ok (.istore 4, 2) := by decide +kernel
theorem dX6_steps_63 : decode cX6_steps 63 = .ok (.iconst 0, 1) := by decide +kernel
theorem dX6_steps_64 : decode cX6_steps 64 = .ok (.istore 5, 2) := by decide +kernel
theorem dX6_steps_66 : decode cX6_steps 66 = .ok (.iload 5, 2) := by decide +kernel
theorem dX6_steps_68 : decode cX6_steps 68 = .ok (.aload_n 0, 1) := by decide +kernel
theorem dX6_steps_69 : decode cX6_steps 69 = .ok (.getfield 13, 3) := by decide +kernel
theorem dX6_steps_72 : decode cX6_steps 72 = .ok (.if_icmp .ge 49, 3) := by decide +kernel
theorem dX6_steps_75 : decode cX6_steps 75 = .ok (.aload_n 0, 1) := by decide +kernel
theorem dX6_steps_76 : decode cX6_steps 76 = .ok (.iload_n 1, 1) := by decide +kernel
theorem dX6_steps_77 : decode cX6_steps 77 = .ok (.iconst 0, 1) := by decide +kernel
theorem dX6_steps_78 : decode cX6_steps 78 = .ok (.iload 5, 2) := by decide +kernel
theorem dX6_steps_80 : decode cX6_steps 80 = .ok (.aload_n 0, 1) := by decide +kernel
theorem dX6_steps_81 : decode cX6_steps 81 = .ok (.getfield 51, 3) := by decide +kernel
theorem dX6_steps_84 : decode cX6_steps 84 = .ok (.bipush 40, 2) := by decide +kernel
theorem dX6_steps_86 : decode cX6_steps 86 = .ok (.iload_n 1, 1) := by decide +kernel
theorem dX6_steps_87 : decode cX6_steps 87 = .ok (.imul, 1) := by decide +kernel
theorem dX6_steps_88 : decode cX6_steps 88 = .ok (.iaload, 1) := by decide +kernel
theorem dX6_steps_89 : decode cX6_steps 89 = .ok (.iconst 0, 1) := by decide +kernel
theorem dX6_steps_90 : decode cX6_steps 90 = .ok (.invokevirtual 212, 3) := by decide +kernel
theorem dX6_steps_93 : decode cX6_steps 93 = .ok (.ifCond .ne 6, 3) := by decide +kernel
theorem dX6_steps_96 : decode cX6_steps 96 = .ok (.goto 19, 3) := by decide +kernel
theorem dX6_steps_99 : decode cX6_steps 99 = .ok (.iload_n 3, 1) := by decide +kernel
theorem dX6_steps_100 : decode cX6_steps 100 = .ok (.ifCond .ne 8, 3) := by decide +kernel
theorem dX6_steps_103 : decode cX6_steps 103 = .ok (.iload 5, 2) := by decide +kernel
theorem dX6_steps_105 : decode cX6_steps 105 = .ok (.goto 5, 3) := by decide +kernel
theorem dX6_steps_108 : decode cX6_steps 108 = .ok (.iload 4, 2) := by decide +kernel
theorem dX6_steps_110 : decode cX6_steps 110 = .ok (.istore 4, 2) := by decide +kernel
theorem dX6_steps_112 : decode cX6_steps 112 = .ok (.iinc 3 1, 3) := by decide +kernel
theorem dX6_steps_115 : decode cX6_steps 115 = .ok (.iinc 5 1, 3) := by decide +kernel
theorem dX6_steps_118 : decode cX6_steps 118 = .ok (.goto (-52), 3) := by decide +kernel
theorem dX6_steps_121 : decode cX6_steps 121 = .ok (.iload_n 2, 1) := by decide +kernel
theorem dX6_steps_122 : decode cX6_steps 122 = .ok (.ifCond .ne 7, 3) := by decide +kernel
theorem dX6_steps_125 : decode cX6_steps 125 = .ok (.iload_n 3, 1) := by decide +kernel
theorem dX6_steps_126 : decode cX6_steps 126 = .ok (.goto 5, 3) := by decide +kernel
theorem dX6_steps_129 : decode cX6_steps 129 = .ok (.iload 4, 2) := by decide +kernel
theorem dX6_steps_131 : decode cX6_steps 131 = .ok (.ireturn, 1) := by decide +kernel
set_option maxRecDepth 20000 in
theorem ggX6_kinds_X6_isList : GoodIn wsX6_kinds wsX6_isList := goodIn_r _ [5, 6, 7, 8, 4, 9] (by decide +kernel) (by decide +kernel)
set_option maxRecDepth 20000 in
theorem gX6_kinds_X6_isList : GoodIn wsX6_kinds (va_wsS RX6 206 yX6_isList wsX6_isList) := goodIn_app (goodIn_of _ (by decide +kernel)) ggX6_kinds_X6_isList
set_option maxRecDepth 20000 in
theorem ggX6_kinds_X6_isWalker : GoodIn wsX6_kinds wsX6_isWalker := goodIn_r _ [13, 14, 7, 8, 4, 9, 43, 44, 45, 46, 47, 48, 49, 50, 51, 52, 53, 54, 55, 56, 57, 58, 59, 60, 61, 62, 63, 64] (by decide +kernel) (by decide +kernel)
set_option maxRecDepth 20000 in
theorem gX6_kinds_X6_isWalker : GoodIn wsX6_kinds (wsV RX6 89 RX6 yX6_isWalker wsX6_isWalker) := goodIn_app (goodIn_of _ (by decide +kernel)) ggX6_kinds_X6_isWalker
set_option maxRecDepth 20000 in
theorem ggX6_kinds_X6_no : GoodIn wsX6_kinds wsX6_no := goodIn_r _ [18, 19, 43, 44, 45, 46, 47, 48, 49, 50, 51, 52, 53, 54, 55, 56, 57, 58, 59, 60, 61, 62, 63, 64] (by decide +kernel) (by decide +kernel)
set_option maxRecDepth 20000 in
theorem gX6_kinds_X6_no : GoodIn wsX6_kinds (wsV RX6 66 RX6 yX6_no wsX6_no) := goodIn_app (goodIn_of _ (by decide +kernel)) ggX6_kinds_X6_no
set_option maxRecDepth 20000 in
theorem ggX6_kinds_X6_tellsPlaces : GoodIn wsX6_kinds wsX6_tellsPlaces := goodIn_r _ [23, 24, 25, 26, 7, 8, 4, 9, 43, 44, 45, 46, 47, 48, 49, 50, 51, 52, 53, 54, 55, 56, 57, 58, 59, 60, 61, 62, 63, 64] (by decide +kernel) (by decide +kernel)
set_option maxRecDepth 20000 in
theorem gX6_kinds_X6_tellsPlaces : GoodIn wsX6_kinds (wsV RX6 209 RX6 yX6_tellsPlaces wsX6_tellsPlaces) := goodIn_app (goodIn_of _ (by decide +kernel)) ggX6_kinds_X6_tellsPlaces
set_option maxRecDepth 20000 in
theorem ggX6_kinds_X6_at : GoodIn wsX6_kinds wsX6_at := goodIn_r _ [30, 31, 43, 44, 45, 46, 47, 48, 49, 50, 51, 52, 53, 54, 55, 56, 57, 58, 59, 60, 61, 62, 63, 64] (by decide +kernel) (by decide +kernel)
set_option maxRecDepth 20000 in
theorem gX6_kinds_X6_at : GoodIn wsX6_kinds (wsV RX6 81 RX6 yX6_at wsX6_at) := goodIn_app (goodIn_of _ (by decide +kernel)) ggX6_kinds_X6_at
set_option maxRecDepth 20000 in
theorem ggX6_kinds_X6_hasAll : GoodIn wsX6_kinds wsX6_hasAll := goodIn_r _ [35, 24, 25, 36, 37, 38, 4, 39, 26, 40, 41, 42, 43, 44, 45, 46, 47, 48, 49, 50, 51, 52, 53, 54, 55, 56, 57, 58, 59, 60, 61, 62, 63, 64] (by decide +kernel) (by decide +kernel)
set_option maxRecDepth 20000 in
theorem gX6_kinds_X6_hasAll : GoodIn wsX6_kinds (wsV RX6 212 RX6 yX6_hasAll wsX6_hasAll) := goodIn_app (goodIn_of _ (by decide +kernel)) ggX6_kinds_X6_hasAll
theorem dX6_kinds_0 : decode cX6_kinds 0 = .ok (.iload_n 1, 1) := by decide +kernel
theorem dX6_kinds_1 : decode cX6_kinds 1 = .ok (.invokestatic 206, 3) := by decide +kernel
theorem dX6_kinds_4 : decode cX6_kinds 4 = .ok (.ifCond .eq 11, 3) := by decide +kernel
theorem dX6_kinds_7 : decode cX6_kinds 7 = .ok (.aload_n 0, 1) := by decide +kernel
theorem dX6_kinds_8 : decode cX6_kinds 8 = .ok (.iload_n 2, 1) := by decide +kernel
theorem dX6_kinds_9 : decode cX6_kinds 9 = .ok (.invokevirtual 89, 3) := by decide +kernel
theorem dX6_kinds_12 : decode cX6_kinds 12 = .ok (.ifCond .ne 9, 3) := by decide +kernel
theorem dX6_kinds_15 : decode cX6_kinds 15 = .ok (.aload_n 0, 1) := by decide +kernel
theorem dX6_kinds_16 : decode cX6_kinds 16 = .ok (.iconst (-1), 1) := by decide +kernel
theorem dX6_kinds_17 : decode cX6_kinds 17 = .ok (.invokevirtual 66, 3) := by decide +kernel
theorem dX6_kinds_20 : decode cX6_kinds 20 = .ok (.ireturn, 1) := by decide +kernel
theorem dX6_kinds_21 : decode cX6_kinds 21 = .ok (.aload_n 0, 1) := by decide +kernel
theorem dX6_kinds_22 : decode cX6_kinds 22 = .ok (.getfield 44, 3) := by decide +kernel
theorem dX6_kinds_25 : decode cX6_kinds 25 = .ok (.iload_n 1, 1) := by decide +kernel
theorem dX6_kinds_26 : decode cX6_kinds 26 = .ok (.baload, 1) := by decide +kernel
theorem dX6_kinds_27 : decode cX6_kinds 27 = .ok (.ifCond .ne 6, 3) := by decide +kernel
theorem dX6_kinds_30 : decode cX6_kinds 30 = .ok (.bipush (-11), 2) := by decide +kernel
theorem dX6_kinds_32 : decode cX6_kinds 32 = .ok (.ireturn, 1) := by decide +kernel
theorem dX6_kinds_33 : decode cX6_kinds 33 = .ok (.aload_n 0, 1) := by decide +kernel
theorem dX6_kinds_34 : decode cX6_kinds 34 = .ok (.iload_n 1, 1) := by decide +kernel
theorem dX6_kinds_35 : decode cX6_kinds 35 = .ok (.invokevirtual 209, 3) := by decide +kernel
theorem dX6_kinds_38 : decode cX6_kinds 38 = .ok (.ifCond .ne 10, 3) := by decide +kernel
theorem dX6_kinds_41 : decode cX6_kinds 41 = .ok (.aload_n 0, 1) := by decide +kernel
theorem dX6_kinds_42 : decode cX6_kinds 42 = .ok (.bipush (-3), 2) := by decide +kernel
theorem dX6_kinds_44 : decode cX6_kinds 44 = .ok (.invokevirtual 66, 3) := by decide +kernel
theorem dX6_kinds_47 : decode cX6_kinds 47 = .ok (.ireturn, 1) := by decide +kernel
theorem dX6_kinds_48 : decode cX6_kinds 48 = .ok (.iconst 0, 1) := by decide +kernel
theorem dX6_kinds_49 : decode cX6_kinds 49 = .ok (.istore_n 3, 1) := by decide +kernel
theorem dX6_kinds_50 : decode cX6_kinds 50 = .ok (.iconst 0, 1) := by decide +kernel
theorem dX6_kinds_51 : decode cX6_kinds 51 = .ok (.istore 4, 2) := by decide +kernel
theorem dX6_kinds_53 : decode cX6_kinds 53 = .ok (.iload 4, 2) := by decide +kernel
theorem dX6_kinds_55 : decode cX6_kinds 55 = .ok (.bipush 6, 2) := by decide +kernel
theorem dX6_kinds_57 : decode cX6_kinds 57 = .ok (.if_icmp .ge 48, 3) := by decide +kernel
theorem dX6_kinds_60 : decode cX6_kinds 60 = .ok (.iload_n 3, 1) := by decide +kernel
theorem dX6_kinds_61 : decode cX6_kinds 61 = .ok (.aload_n 0, 1) := by decide +kernel
theorem dX6_kinds_62 : decode cX6_kinds 62 = .ok (.iload_n 1, 1) := by decide +kernel
theorem dX6_kinds_63 : decode cX6_kinds 63 = .ok (.iload 4, 2) := by decide +kernel
theorem dX6_kinds_65 : decode cX6_kinds 65 = .ok (.aload_n 0, 1) := by decide +kernel
theorem dX6_kinds_66 : decode cX6_kinds 66 = .ok (.iload_n 2, 1) := by decide +kernel
theorem dX6_kinds_67 : decode cX6_kinds 67 = .ok (.iconst 1, 1) := by decide +kernel
theorem dX6_kinds_68 : decode cX6_kinds 68 = .ok (.invokevirtual 81, 3) := by decide +kernel
theorem dX6_kinds_71 : decode cX6_kinds 71 = .ok (.aload_n 0, 1) := by decide +kernel
theorem dX6_kinds_72 : decode cX6_kinds 72 = .ok (.iload_n 2, 1) := by decide +kernel
theorem dX6_kinds_73 : decode cX6_kinds 73 = .ok (.iconst 2, 1) := by decide +kernel
theorem dX6_kinds_74 : decode cX6_kinds 74 = .ok (.invokevirtual 81, 3) := by decide +kernel
theorem dX6_kinds_77 : decode cX6_kinds 77 = .ok (.aload_n 0, 1) := by decide +kernel
theorem dX6_kinds_78 : decode cX6_kinds 78 = .ok (.iload_n 2, 1) := by decide +kernel
theorem dX6_kinds_79 : decode cX6_kinds 79 = .ok (.iconst 3, 1) := by decide +kernel
theorem dX6_kinds_80 : decode cX6_kinds 80 = .ok (.invokevirtual 81, 3) := by decide +kernel
theorem dX6_kinds_83 : decode cX6_kinds 83 = .ok (.invokevirtual 212, 3) := by decide +kernel
theorem dX6_kinds_86 : decode cX6_kinds 86 = .ok (.ifCond .eq 10, 3) := by decide +kernel
theorem dX6_kinds_89 : decode cX6_kinds 89 = .ok (.iconst 1, 1) := by decide +kernel
theorem dX6_kinds_90 : decode cX6_kinds 90 = .ok (.iload 4, 2) := by decide +kernel
theorem dX6_kinds_92 : decode cX6_kinds 92 = .ok (.ishl, 1) := by decide +kernel
theorem dX6_kinds_93 : decode cX6_kinds 93 = .ok (.goto 4, 3) := by decide +kernel
theorem dX6_kinds_96 : decode cX6_kinds 96 = .ok (.iconst 0, 1) := by decide +kernel
theorem dX6_kinds_97 : decode cX6_kinds 97 = .ok (.ior, 1) := by decide +kernel
theorem dX6_kinds_98 : decode cX6_kinds 98 = .ok (.istore_n 3, 1) := by decide +kernel
theorem dX6_kinds_99 : decode cX6_kinds 99 = .ok (.iinc 4 1, 3) := by decide +kernel
theorem dX6_kinds_102 : decode cX6_kinds 102 = .ok (.goto (-49), 3) := by decide +kernel
theorem dX6_kinds_105 : decode cX6_kinds 105 = .ok (.iload_n 3, 1) := by decide +kernel
theorem dX6_kinds_106 : decode cX6_kinds 106 = .ok (.ireturn, 1) := by decide +kernel
theorem dX6_image_0 : decode cX6_image 0 = .ok (.iconst 0, 1) := by decide +kernel
theorem dX6_image_1 : decode cX6_image 1 = .ok (.istore_n 1, 1) := by decide +kernel
theorem dX6_image_2 : decode cX6_image 2 = .ok (.iload_n 1, 1) := by decide +kernel
theorem dX6_image_3 : decode cX6_image 3 = .ok (.bipush 20, 2) := by decide +kernel
theorem dX6_image_5 : decode cX6_image 5 = .ok (.if_icmp .ge 21, 3) := by decide +kernel
theorem dX6_image_8 : decode cX6_image 8 = .ok (.aload_n 0, 1) := by decide +kernel
theorem dX6_image_9 : decode cX6_image 9 = .ok (.getfield 54, 3) := by decide +kernel
theorem dX6_image_12 : decode cX6_image 12 = .ok (.iload_n 1, 1) := by decide +kernel
theorem dX6_image_13 : decode cX6_image 13 = .ok (.aload_n 0, 1) := by decide +kernel
theorem dX6_image_14 : decode cX6_image 14 = .ok (.getfield 17, 3) := by decide +kernel
theorem dX6_image_17 : decode cX6_image 17 = .ok (.iload_n 1, 1) := by decide +kernel
theorem dX6_image_18 : decode cX6_image 18 = .ok (.iaload, 1) := by decide +kernel
theorem dX6_image_19 : decode cX6_image 19 = .ok (.iastore, 1) := by decide +kernel
theorem dX6_image_20 : decode cX6_image 20 = .ok (.iinc 1 1, 3) := by decide +kernel
theorem dX6_image_23 : decode cX6_image 23 = .ok (.goto (-21), 3) := by decide +kernel
theorem dX6_image_26 : decode cX6_image 26 = .ok (.aload_n 0, 1) := by decide +kernel
theorem dX6_image_27 : decode cX6_image 27 = .ok (.aload_n 0, 1) := by decide +kernel
theorem dX6_image_28 : decode cX6_image 28 = .ok (.getfield 70, 3) := by decide +kernel
theorem dX6_image_31 : decode cX6_image 31 = .ok (.putfield 57, 3) := by decide +kernel
theorem dX6_image_34 : decode cX6_image 34 = .ok (.aload_n 0, 1) := by decide +kernel
theorem dX6_image_35 : decode cX6_image 35 = .ok (.aload_n 0, 1) := by decide +kernel
theorem dX6_image_36 : decode cX6_image 36 = .ok (.getfield 13, 3) := by decide +kernel
theorem dX6_image_39 : decode cX6_image 39 = .ok (.putfield 216, 3) := by decide +kernel
theorem dX6_image_42 : decode cX6_image 42 = .ok (.aload_n 0, 1) := by decide +kernel
theorem dX6_image_43 : decode cX6_image 43 = .ok (.getfield 70, 3) := by decide +kernel
theorem dX6_image_46 : decode cX6_image 46 = .ok (.ireturn, 1) := by decide +kernel
set_option maxRecDepth 20000 in
theorem ggX6_on_X6_no : GoodIn wsX6_on wsX6_no := goodIn_r _ [12, 13, 14, 15, 16, 17, 18, 19, 20, 21, 22, 23, 24, 25, 26, 27, 28, 29, 30, 31, 32, 33, 34, 35] (by decide +kernel) (by decide +kernel)
set_option maxRecDepth 20000 in
theorem gX6_on_X6_no : GoodIn wsX6_on (wsV RX6 66 RX6 yX6_no wsX6_no) := goodIn_app (goodIn_of _ (by decide +kernel)) ggX6_on_X6_no
theorem dX6_on_0 : decode cX6_on 0 = .ok (.aload_n 0, 1) := by decide +kernel
theorem dX6_on_1 : decode cX6_on 1 = .ok (.getfield 57, 3) := by decide +kernel
theorem dX6_on_4 : decode cX6_on 4 = .ok (.bipush (-9), 2) := by decide +kernel
theorem dX6_on_6 : decode cX6_on 6 = .ok (.if_icmp .ne 10, 3) := by decide +kernel
theorem dX6_on_9 : decode cX6_on 9 = .ok (.aload_n 0, 1) := by decide +kernel
theorem dX6_on_10 : decode cX6_on 10 = .ok (.bipush (-3), 2) := by decide +kernel
theorem dX6_on_12 : decode cX6_on 12 = .ok (.invokevirtual 66, 3) := by decide +kernel
theorem dX6_on_15 : decode cX6_on 15 = .ok (.ireturn, 1) := by decide +kernel
theorem dX6_on_16 : decode cX6_on 16 = .ok (.iconst 0, 1) := by decide +kernel
theorem dX6_on_17 : decode cX6_on 17 = .ok (.istore_n 1, 1) := by decide +kernel
theorem dX6_on_18 : decode cX6_on 18 = .ok (.iload_n 1, 1) := by decide +kernel
theorem dX6_on_19 : decode cX6_on 19 = .ok (.bipush 20, 2) := by decide +kernel
theorem dX6_on_21 : decode cX6_on 21 = .ok (.if_icmp .ge 21, 3) := by decide +kernel
theorem dX6_on_24 : decode cX6_on 24 = .ok (.aload_n 0, 1) := by decide +kernel
theorem dX6_on_25 : decode cX6_on 25 = .ok (.getfield 17, 3) := by decide +kernel
theorem dX6_on_28 : decode cX6_on 28 = .ok (.iload_n 1, 1) := by decide +kernel
theorem dX6_on_29 : decode cX6_on 29 = .ok (.aload_n 0, 1) := by decide +kernel
theorem dX6_on_30 : decode cX6_on 30 = .ok (.getfield 54, 3) := by decide +kernel
theorem dX6_on_33 : decode cX6_on 33 = .ok (.iload_n 1, 1) := by decide +kernel
theorem dX6_on_34 : decode cX6_on 34 = .ok (.iaload, 1) := by decide +kernel
theorem dX6_on_35 : decode cX6_on 35 = .ok (.iastore, 1) := by decide +kernel
theorem dX6_on_36 : decode cX6_on 36 = .ok (.iinc 1 1, 3) := by decide +kernel
theorem dX6_on_39 : decode cX6_on 39 = .ok (.goto (-21), 3) := by decide +kernel
theorem dX6_on_42 : decode cX6_on 42 = .ok (.aload_n 0, 1) := by decide +kernel
theorem dX6_on_43 : decode cX6_on 43 = .ok (.aload_n 0, 1) := by decide +kernel
theorem dX6_on_44 : decode cX6_on 44 = .ok (.getfield 57, 3) := by decide +kernel
theorem dX6_on_47 : decode cX6_on 47 = .ok (.putfield 70, 3) := by decide +kernel
theorem dX6_on_50 : decode cX6_on 50 = .ok (.aload_n 0, 1) := by decide +kernel
theorem dX6_on_51 : decode cX6_on 51 = .ok (.aload_n 0, 1) := by decide +kernel
theorem dX6_on_52 : decode cX6_on 52 = .ok (.getfield 216, 3) := by decide +kernel
theorem dX6_on_55 : decode cX6_on 55 = .ok (.putfield 13, 3) := by decide +kernel
theorem dX6_on_58 : decode cX6_on 58 = .ok (.aload_n 0, 1) := by decide +kernel
theorem dX6_on_59 : decode cX6_on 59 = .ok (.iconst 0, 1) := by decide +kernel
theorem dX6_on_60 : decode cX6_on 60 = .ok (.putfield 102, 3) := by decide +kernel
theorem dX6_on_63 : decode cX6_on 63 = .ok (.aload_n 0, 1) := by decide +kernel
theorem dX6_on_64 : decode cX6_on 64 = .ok (.getfield 70, 3) := by decide +kernel
theorem dX6_on_67 : decode cX6_on 67 = .ok (.ireturn, 1) := by decide +kernel
theorem dX6_count_0 : decode cX6_count 0 = .ok (.iload_n 1, 1) := by decide +kernel
theorem dX6_count_1 : decode cX6_count 1 = .ok (.tableswitch 113 0 16 #[83, 88, 93, 98, 113, 113, 113, 113, 113, 113, 113, 103, 103, 103, 103, 103, 103], 83) := by decide +kernel
theorem dX6_count_84 : decode cX6_count 84 = .ok (.aload_n 0, 1) := by decide +kernel
theorem dX6_count_85 : decode cX6_count 85 = .ok (.getfield 70, 3) := by decide +kernel
theorem dX6_count_88 : decode cX6_count 88 = .ok (.ireturn, 1) := by decide +kernel
theorem dX6_count_89 : decode cX6_count 89 = .ok (.aload_n 0, 1) := by decide +kernel
theorem dX6_count_90 : decode cX6_count 90 = .ok (.getfield 13, 3) := by decide +kernel
theorem dX6_count_93 : decode cX6_count 93 = .ok (.ireturn, 1) := by decide +kernel
theorem dX6_count_94 : decode cX6_count 94 = .ok (.aload_n 0, 1) := by decide +kernel
theorem dX6_count_95 : decode cX6_count 95 = .ok (.getfield 122, 3) := by decide +kernel
theorem dX6_count_98 : decode cX6_count 98 = .ok (.ireturn, 1) := by decide +kernel
theorem dX6_count_99 : decode cX6_count 99 = .ok (.aload_n 0, 1) := by decide +kernel
theorem dX6_count_100 : decode cX6_count 100 = .ok (.getfield 102, 3) := by decide +kernel
theorem dX6_count_103 : decode cX6_count 103 = .ok (.ireturn, 1) := by decide +kernel
theorem dX6_count_104 : decode cX6_count 104 = .ok (.aload_n 0, 1) := by decide +kernel
theorem dX6_count_105 : decode cX6_count 105 = .ok (.getfield 7, 3) := by decide +kernel
theorem dX6_count_108 : decode cX6_count 108 = .ok (.iload_n 1, 1) := by decide +kernel
theorem dX6_count_109 : decode cX6_count 109 = .ok (.bipush 10, 2) := by decide +kernel
theorem dX6_count_111 : decode cX6_count 111 = .ok (.isub, 1) := by decide +kernel
theorem dX6_count_112 : decode cX6_count 112 = .ok (.iaload, 1) := by decide +kernel
theorem dX6_count_113 : decode cX6_count 113 = .ok (.ireturn, 1) := by decide +kernel
theorem dX6_count_114 : decode cX6_count 114 = .ok (.bipush (-9), 2) := by decide +kernel
theorem dX6_count_116 : decode cX6_count 116 = .ok (.ireturn, 1) := by decide +kernel
