theorem dX5_meeting_11 : decode cX5_meeting 11 = .ok (.invokevirtual 64, 3) := by decide +kernel
theorem dX5_meeting_14 : decode cX5_meeting 14 = .ok (.ireturn, 1) := by decide +kernel
theorem dX5_meeting_15 : decode cX5_meeting 15 = .ok (.iload_n 3, 1) := by decide +kernel
theorem dX5_meeting_16 : decode cX5_meeting 16 = .ok (.iconst 2, 1) := by decide +kernel
theorem dX5_meeting_17 : decode cX5_meeting 17 = .ok (.invokestatic 109, 3) := by decide +kernel
theorem dX5_meeting_20 : decode cX5_meeting 20 = .ok (.ifCond .ne 10, 3) := by decide +kernel
theorem dX5_meeting_23 : decode cX5_meeting 23 = .ok (.aload_n 0, 1) := by decide +kernel
theorem dX5_meeting_24 : decode cX5_meeting 24 = .ok (.bipush (-2), 2) := by decide +kernel
theorem dX5_meeting_26 : decode cX5_meeting 26 = .ok (.invokevirtual 64, 3) := by decide +kernel
theorem dX5_meeting_29 : decode cX5_meeting 29 = .ok (.ireturn, 1) := by decide +kernel
theorem dX5_meeting_30 : decode cX5_meeting 30 = .ok (.iconst 0, 1) := by decide +kernel
theorem dX5_meeting_31 : decode cX5_meeting 31 = .ok (.istore 4, 2) := by decide +kernel
theorem dX5_meeting_33 : decode cX5_meeting 33 = .ok (.iload 4, 2) := by decide +kernel
theorem dX5_meeting_35 : decode cX5_meeting 35 = .ok (.sipush 2000, 3) := by decide +kernel
theorem dX5_meeting_38 : decode cX5_meeting 38 = .ok (.if_icmp .gt 48, 3) := by decide +kernel
theorem dX5_meeting_41 : decode cX5_meeting 41 = .ok (.aload_n 0, 1) := by decide +kernel
theorem dX5_meeting_42 : decode cX5_meeting 42 = .ok (.getfield 10, 3) := by decide +kernel
theorem dX5_meeting_45 : decode cX5_meeting 45 = .ok (.iload_n 1, 1) := by decide +kernel
theorem dX5_meeting_46 : decode cX5_meeting 46 = .ok (.iload 4, 2) := by decide +kernel
theorem dX5_meeting_48 : decode cX5_meeting 48 = .ok (.invokevirtual 140, 3) := by decide +kernel
theorem dX5_meeting_51 : decode cX5_meeting 51 = .ok (.istore 5, 2) := by decide +kernel
theorem dX5_meeting_53 : decode cX5_meeting 53 = .ok (.iload 5, 2) := by decide +kernel
theorem dX5_meeting_55 : decode cX5_meeting 55 = .ok (.aload_n 0, 1) := by decide +kernel
theorem dX5_meeting_56 : decode cX5_meeting 56 = .ok (.getfield 10, 3) := by decide +kernel
theorem dX5_meeting_59 : decode cX5_meeting 59 = .ok (.iload_n 2, 1) := by decide +kernel
theorem dX5_meeting_60 : decode cX5_meeting 60 = .ok (.iload 4, 2) := by decide +kernel
theorem dX5_meeting_62 : decode cX5_meeting 62 = .ok (.invokevirtual 140, 3) := by decide +kernel
theorem dX5_meeting_65 : decode cX5_meeting 65 = .ok (.if_icmp .ne 15, 3) := by decide +kernel
theorem dX5_meeting_68 : decode cX5_meeting 68 = .ok (.iload_n 3, 1) := by decide +kernel
theorem dX5_meeting_69 : decode cX5_meeting 69 = .ok (.ifCond .ne 8, 3) := by decide +kernel
theorem dX5_meeting_72 : decode cX5_meeting 72 = .ok (.iload 4, 2) := by decide +kernel
theorem dX5_meeting_74 : decode cX5_meeting 74 = .ok (.goto 5, 3) := by decide +kernel
theorem dX5_meeting_77 : decode cX5_meeting 77 = .ok (.iload 5, 2) := by decide +kernel
theorem dX5_meeting_79 : decode cX5_meeting 79 = .ok (.ireturn, 1) := by decide +kernel
theorem dX5_meeting_80 : decode cX5_meeting 80 = .ok (.iinc 4 1, 3) := by decide +kernel
theorem dX5_meeting_83 : decode cX5_meeting 83 = .ok (.goto (-50), 3) := by decide +kernel
theorem dX5_meeting_86 : decode cX5_meeting 86 = .ok (.bipush (-9), 2) := by decide +kernel
theorem dX5_meeting_88 : decode cX5_meeting 88 = .ok (.ireturn, 1) := by decide +kernel
set_option maxRecDepth 20000 in
theorem ggX5_shared_X5_areTwo : GoodIn wsX5_shared wsX5_areTwo := goodIn_r _ [8, 9, 10, 11, 12, 13, 14, 15, 16, 7, 17, 92, 93, 94, 95, 96, 97, 98, 99, 100, 101, 102, 105, 106, 107] (by decide +kernel) (by decide +kernel)
set_option maxRecDepth 20000 in
theorem gX5_shared_X5_areTwo : GoodIn wsX5_shared (wsV RX5 211 RX5 yX5_areTwo wsX5_areTwo) := goodIn_app (goodIn_of _ (by decide +kernel)) ggX5_shared_X5_areTwo
set_option maxRecDepth 20000 in
theorem ggX5_shared_X5_refuse : GoodIn wsX5_shared wsX5_refuse := goodIn_r _ [21, 22, 23, 16, 7, 17, 92, 93, 94, 95, 96, 97, 98, 99, 100, 101, 102] (by decide +kernel) (by decide +kernel)
set_option maxRecDepth 20000 in
theorem gX5_shared_X5_refuse : GoodIn wsX5_shared (wsV RX5 64 RX5 yX5_refuse wsX5_refuse) := goodIn_app (goodIn_of _ (by decide +kernel)) ggX5_shared_X5_refuse
set_option maxRecDepth 20000 in
theorem ggX5_shared_X5_refusalBehind : GoodIn wsX5_shared wsX5_refusalBehind := goodIn_r _ [27, 28, 29, 30, 7, 31, 9, 10, 11, 12, 13, 14, 15, 16, 17, 23, 92, 93, 94, 95, 96, 97, 98, 99, 100, 101, 102, 105, 106, 107] (by decide +kernel) (by decide +kernel)
set_option maxRecDepth 20000 in
theorem gX5_shared_X5_refusalBehind : GoodIn wsX5_shared (wsV RX5 143 RX5 yX5_refusalBehind wsX5_refusalBehind) := goodIn_app (goodIn_of _ (by decide +kernel)) ggX5_shared_X5_refusalBehind
set_option maxRecDepth 20000 in
theorem ggX5_shared_X5_takeMarks : GoodIn wsX5_shared wsX5_takeMarks := goodIn_r _ [35, 9, 36, 37, 38, 39, 40, 41, 42, 43, 44, 13, 45, 46, 47, 48, 49, 50, 16, 7, 17, 51, 52, 53, 54, 55, 56, 57, 58, 59, 60, 61, 62, 63, 64, 65, 66, 67, 68, 69, 70, 71, 72, 73, 74, 75, 76, 77, 78, 79, 80, 81, 82, 83, 84, 85, 86, 87, 88, 89, 92, 93, 94, 95, 96, 97, 98, 99, 100, 101, 102, 103, 104, 105, 106, 107] (by decide +kernel) (by decide +kernel)
set_option maxRecDepth 20000 in
theorem gX5_shared_X5_takeMarks : GoodIn wsX5_shared (wsV RX5 146 RX5 yX5_takeMarks wsX5_takeMarks) := goodIn_app (goodIn_of _ (by decide +kernel)) ggX5_shared_X5_takeMarks
set_option maxRecDepth 20000 in
theorem ggX5_shared_X3_get : GoodIn wsX5_shared wsX3_get := goodIn_r _ [80, 41, 81, 103, 104] (by decide +kernel) (by decide +kernel)
set_option maxRecDepth 20000 in
theorem gX5_shared_X3_get : GoodIn wsX5_shared (wsV RX5 151 RX3 yX3_get wsX3_get) := goodIn_app (goodIn_of _ (by decide +kernel)) ggX5_shared_X3_get
set_option maxRecDepth 20000 in
theorem ggX5_shared_X3_has : GoodIn wsX5_shared wsX3_has := goodIn_r _ [72, 41, 73, 74, 75, 39, 76, 77, 78, 79, 80, 81, 103, 104] (by decide +kernel) (by decide +kernel)
set_option maxRecDepth 20000 in
theorem gX5_shared_X3_has : GoodIn wsX5_shared (wsV RX5 168 RX3 yX3_has wsX3_has) := goodIn_app (goodIn_of _ (by decide +kernel)) ggX5_shared_X3_has
theorem dX5_shared_0 : decode cX5_shared 0 = .ok (.aload_n 0, 1) := by decide +kernel
theorem dX5_shared_1 : decode cX5_shared 1 = .ok (.iload_n 1, 1) := by decide +kernel
theorem dX5_shared_2 : decode cX5_shared 2 = .ok (.iload_n 2, 1) := by decide +kernel
theorem dX5_shared_3 : decode cX5_shared 3 = .ok (.invokevirtual 211, 3) := by decide +kernel
theorem dX5_shared_6 : decode cX5_shared 6 = .ok (.ifCond .ne 9, 3) := by decide +kernel
theorem dX5_shared_9 : decode cX5_shared 9 = .ok (.aload_n 0, 1) := by decide +kernel
theorem dX5_shared_10 : decode cX5_shared 10 = .ok (.iconst (-1), 1) := by decide +kernel
theorem dX5_shared_11 : decode cX5_shared 11 = .ok (.invokevirtual 64, 3) := by decide +kernel
theorem dX5_shared_14 : decode cX5_shared 14 = .ok (.ireturn, 1) := by decide +kernel
theorem dX5_shared_15 : decode cX5_shared 15 = .ok (.aload_n 0, 1) := by decide +kernel
theorem dX5_shared_16 : decode cX5_shared 16 = .ok (.iload_n 1, 1) := by decide +kernel
theorem dX5_shared_17 : decode cX5_shared 17 = .ok (.iload_n 3, 1) := by decide +kernel
theorem dX5_shared_18 : decode cX5_shared 18 = .ok (.iload 4, 2) := by decide +kernel
theorem dX5_shared_20 : decode cX5_shared 20 = .ok (.iconst 2, 1) := by decide +kernel
theorem dX5_shared_21 : decode cX5_shared 21 = .ok (.invokevirtual 143, 3) := by decide +kernel
theorem dX5_shared_24 : decode cX5_shared 24 = .ok (.istore 5, 2) := by decide +kernel
theorem dX5_shared_26 : decode cX5_shared 26 = .ok (.iload 5, 2) := by decide +kernel
theorem dX5_shared_28 : decode cX5_shared 28 = .ok (.ifCond .eq 10, 3) := by decide +kernel
theorem dX5_shared_31 : decode cX5_shared 31 = .ok (.aload_n 0, 1) := by decide +kernel
theorem dX5_shared_32 : decode cX5_shared 32 = .ok (.iload 5, 2) := by decide +kernel
theorem dX5_shared_34 : decode cX5_shared 34 = .ok (.invokevirtual 64, 3) := by decide +kernel
theorem dX5_shared_37 : decode cX5_shared 37 = .ok (.ireturn, 1) := by decide +kernel
theorem dX5_shared_38 : decode cX5_shared 38 = .ok (.aload_n 0, 1) := by decide +kernel
theorem dX5_shared_39 : decode cX5_shared 39 = .ok (.aload_n 0, 1) := by decide +kernel
theorem dX5_shared_40 : decode cX5_shared 40 = .ok (.getfield 53, 3) := by decide +kernel
theorem dX5_shared_43 : decode cX5_shared 43 = .ok (.iload_n 1, 1) := by decide +kernel
theorem dX5_shared_44 : decode cX5_shared 44 = .ok (.iload_n 3, 1) := by decide +kernel
theorem dX5_shared_45 : decode cX5_shared 45 = .ok (.invokevirtual 146, 3) := by decide +kernel
theorem dX5_shared_48 : decode cX5_shared 48 = .ok (.aload_n 0, 1) := by decide +kernel
theorem dX5_shared_49 : decode cX5_shared 49 = .ok (.aload_n 0, 1) := by decide +kernel
theorem dX5_shared_50 : decode cX5_shared 50 = .ok (.getfield 57, 3) := by decide +kernel
theorem dX5_shared_53 : decode cX5_shared 53 = .ok (.iload_n 2, 1) := by decide +kernel
theorem dX5_shared_54 : decode cX5_shared 54 = .ok (.iload_n 3, 1) := by decide +kernel
theorem dX5_shared_55 : decode cX5_shared 55 = .ok (.invokevirtual 146, 3) := by decide +kernel
theorem dX5_shared_58 : decode cX5_shared 58 = .ok (.iconst 0, 1) := by decide +kernel
theorem dX5_shared_59 : decode cX5_shared 59 = .ok (.istore 6, 2) := by decide +kernel
theorem dX5_shared_61 : decode cX5_shared 61 = .ok (.bipush (-9), 2) := by decide +kernel
theorem dX5_shared_63 : decode cX5_shared 63 = .ok (.istore 7, 2) := by decide +kernel
theorem dX5_shared_65 : decode cX5_shared 65 = .ok (.aload_n 0, 1) := by decide +kernel
theorem dX5_shared_66 : decode cX5_shared 66 = .ok (.getfield 53, 3) := by decide +kernel
theorem dX5_shared_69 : decode cX5_shared 69 = .ok (.getfield 150, 3) := by decide +kernel
theorem dX5_shared_72 : decode cX5_shared 72 = .ok (.iconst 1, 1) := by decide +kernel
theorem dX5_shared_73 : decode cX5_shared 73 = .ok (.isub, 1) := by decide +kernel
theorem dX5_shared_74 : decode cX5_shared 74 = .ok (.istore 8, 2) := by decide +kernel
theorem dX5_shared_76 : decode cX5_shared 76 = .ok (.iload 8, 2) := by decide +kernel
theorem dX5_shared_78 : decode cX5_shared 78 = .ok (.ifCond .lt 42, 3) := by decide +kernel
theorem dX5_shared_81 : decode cX5_shared 81 = .ok (.aload_n 0, 1) := by decide +kernel
theorem dX5_shared_82 : decode cX5_shared 82 = .ok (.getfield 57, 3) := by decide +kernel
theorem dX5_shared_85 : decode cX5_shared 85 = .ok (.aload_n 0, 1) := by decide +kernel
theorem dX5_shared_86 : decode cX5_shared 86 = .ok (.getfield 53, 3) := by decide +kernel
theorem dX5_shared_89 : decode cX5_shared 89 = .ok (.iload 8, 2) := by decide +kernel
theorem dX5_shared_91 : decode cX5_shared 91 = .ok (.invokevirtual 151, 3) := by decide +kernel
theorem dX5_shared_94 : decode cX5_shared 94 = .ok (.invokevirtual 168, 3) := by decide +kernel
theorem dX5_shared_97 : decode cX5_shared 97 = .ok (.ifCond .eq 17, 3) := by decide +kernel
theorem dX5_shared_100 : decode cX5_shared 100 = .ok (.iinc 6 1, 3) := by decide +kernel
theorem dX5_shared_103 : decode cX5_shared 103 = .ok (.aload_n 0, 1) := by decide +kernel
theorem dX5_shared_104 : decode cX5_shared 104 = .ok (.getfield 53, 3) := by decide +kernel
theorem dX5_shared_107 : decode cX5_shared 107 = .ok (.iload 8, 2) := by decide +kernel
theorem dX5_shared_109 : decode cX5_shared 109 = .ok (.invokevirtual 151, 3) := by decide +kernel
theorem dX5_shared_112 : decode cX5_shared 112 = .ok (.istore 7, 2) := by decide +kernel
theorem dX5_shared_114 : decode cX5_shared 114 = .ok (.iinc 8 (-1), 3) := by decide +kernel
theorem dX5_shared_117 : decode cX5_shared 117 = .ok (.goto (-41), 3) := by decide +kernel
theorem dX5_shared_120 : decode cX5_shared 120 = .ok (.iload 4, 2) := by decide +kernel
theorem dX5_shared_122 : decode cX5_shared 122 = .ok (.ifCond .ne 8, 3) := by decide +kernel
theorem dX5_shared_125 : decode cX5_shared 125 = .ok (.iload 6, 2) := by decide +kernel
theorem dX5_shared_127 : decode cX5_shared 127 = .ok (.goto 5, 3) := by decide +kernel
theorem dX5_shared_130 : decode cX5_shared 130 = .ok (.iload 7, 2) := by decide +kernel
theorem dX5_shared_132 : decode cX5_shared 132 = .ok (.ireturn, 1) := by decide +kernel
set_option maxRecDepth 20000 in
theorem ggX5_odds_X5_refusalBehind : GoodIn wsX5_odds wsX5_refusalBehind := goodIn_r _ [9, 10, 11, 12, 8, 13, 3, 14, 15, 16, 17, 18, 19, 20, 21, 22, 98, 99, 100, 101, 102, 103, 104, 105, 106, 107, 108, 111, 112, 113] (by decide +kernel) (by decide +kernel)
set_option maxRecDepth 20000 in
theorem gX5_odds_X5_refusalBehind : GoodIn wsX5_odds (wsV RX5 143 RX5 yX5_refusalBehind wsX5_refusalBehind) := goodIn_app (goodIn_of _ (by decide +kernel)) ggX5_odds_X5_refusalBehind
set_option maxRecDepth 20000 in
theorem ggX5_odds_X5_refuseLong : GoodIn wsX5_odds wsX5_refuseLong := goodIn_r _ [26, 27, 28, 29, 30, 8, 31, 32, 22, 20, 21, 98, 99, 100, 101, 102, 103, 104, 105, 106, 107, 108] (by decide +kernel) (by decide +kernel)
set_option maxRecDepth 20000 in
theorem gX5_odds_X5_refuseLong : GoodIn wsX5_odds (wsV RX5 179 RX5 yX5_refuseLong wsX5_refuseLong) := goodIn_app (goodIn_of _ (by decide +kernel)) ggX5_odds_X5_refuseLong
set_option maxRecDepth 20000 in
theorem ggX5_odds_X5_takeMarks : GoodIn wsX5_odds wsX5_takeMarks := goodIn_r _ [36, 3, 37, 38, 39, 40, 41, 42, 43, 44, 45, 17, 46, 47, 48, 49, 50, 51, 20, 8, 21, 52, 53, 54, 55, 56, 57, 58, 59, 60, 61, 62, 63, 64, 65, 66, 67, 68, 69, 70, 71, 72, 73, 74, 75, 76, 77, 78, 79, 80, 81, 82, 83, 84, 85, 86, 87, 88, 89, 90, 98, 99, 100, 101, 102, 103, 104, 105, 106, 107, 108, 109, 110, 111, 112, 113] (by decide +kernel) (by decide +kernel)
set_option maxRecDepth 20000 in
theorem gX5_odds_X5_takeMarks : GoodIn wsX5_odds (wsV RX5 146 RX5 yX5_takeMarks wsX5_takeMarks) := goodIn_app (goodIn_of _ (by decide +kernel)) ggX5_odds_X5_takeMarks
set_option maxRecDepth 20000 in
theorem ggX5_odds_X5_partOf : GoodIn wsX5_odds wsX5_partOf := goodIn_r _ [93, 94, 95, 8, 96, 97, 64, 65] (by decide +kernel) (by decide +kernel)
set_option maxRecDepth 20000 in
theorem gX5_odds_X5_partOf : GoodIn wsX5_odds (va_wsS RX5 192 yX5_partOf wsX5_partOf) := goodIn_app (goodIn_of _ (by decide +kernel)) ggX5_odds_X5_partOf
theorem dX5_odds_0 : decode cX5_odds 0 = .ok (.aload_n 0, 1) := by decide +kernel
theorem dX5_odds_1 : decode cX5_odds 1 = .ok (.iload_n 1, 1) := by decide +kernel
theorem dX5_odds_2 : decode cX5_odds 2 = .ok (.iload_n 2, 1) := by decide +kernel
theorem dX5_odds_3 : decode cX5_odds 3 = .ok (.iload_n 3, 1) := by decide +kernel
theorem dX5_odds_4 : decode cX5_odds 4 = .ok (.iconst 2, 1) := by decide +kernel
theorem dX5_odds_5 : decode cX5_odds 5 = .ok (.invokevirtual 143, 3) := by decide +kernel
theorem dX5_odds_8 : decode cX5_odds 8 = .ok (.istore 4, 2) := by decide +kernel
theorem dX5_odds_10 : decode cX5_odds 10 = .ok (.iload 4, 2) := by decide +kernel
theorem dX5_odds_12 : decode cX5_odds 12 = .ok (.ifCond .eq 10, 3) := by decide +kernel
theorem dX5_odds_15 : decode cX5_odds 15 = .ok (.aload_n 0, 1) := by decide +kernel
theorem dX5_odds_16 : decode cX5_odds 16 = .ok (.iload 4, 2) := by decide +kernel
theorem dX5_odds_18 : decode cX5_odds 18 = .ok (.invokevirtual 179, 3) := by decide +kernel
theorem dX5_odds_21 : decode cX5_odds 21 = .ok (.lreturn, 1) := by decide +kernel
theorem dX5_odds_22 : decode cX5_odds 22 = .ok (.aload_n 0, 1) := by decide +kernel
theorem dX5_odds_23 : decode cX5_odds 23 = .ok (.aload_n 0, 1) := by decide +kernel
theorem dX5_odds_24 : decode cX5_odds 24 = .ok (.getfield 53, 3) := by decide +kernel
theorem dX5_odds_27 : decode cX5_odds 27 = .ok (.iload_n 1, 1) := by decide +kernel
theorem dX5_odds_28 : decode cX5_odds 28 = .ok (.iload_n 2, 1) := by decide +kernel
theorem dX5_odds_29 : decode cX5_odds 29 = .ok (.invokevirtual 146, 3) := by decide +kernel
theorem dX5_odds_32 : decode cX5_odds 32 = .ok (.aload_n 0, 1) := by decide +kernel
theorem dX5_odds_33 : decode cX5_odds 33 = .ok (.getfield 53, 3) := by decide +kernel
theorem dX5_odds_36 : decode cX5_odds 36 = .ok (.getfield 150, 3) := by decide +kernel
theorem dX5_odds_39 : decode cX5_odds 39 = .ok (.i2l, 1) := by decide +kernel
theorem dX5_odds_40 : decode cX5_odds 40 = .ok (.aload_n 0, 1) := by decide +kernel
theorem dX5_odds_41 : decode cX5_odds 41 = .ok (.getfield 10, 3) := by decide +kernel
theorem dX5_odds_44 : decode cX5_odds 44 = .ok (.getfield 91, 3) := by decide +kernel
theorem dX5_odds_47 : decode cX5_odds 47 = .ok (.i2l, 1) := by decide +kernel
theorem dX5_odds_48 : decode cX5_odds 48 = .ok (.iload_n 3, 1) := by decide +kernel
theorem dX5_odds_49 : decode cX5_odds 49 = .ok (.invokestatic 192, 3) := by decide +kernel
theorem dX5_odds_52 : decode cX5_odds 52 = .ok (.lreturn, 1) := by decide +kernel
set_option maxRecDepth 20000 in
theorem ggX5_terms_X1_has : GoodIn wsX5_terms wsX1_has := goodIn_r _ [7, 8, 9, 10, 11, 40, 41, 42] (by decide +kernel) (by decide +kernel)
set_option maxRecDepth 20000 in
theorem gX5_terms_X1_has : GoodIn wsX5_terms (wsV RX5 106 RX1 yX1_has wsX1_has) := goodIn_app (goodIn_of _ (by decide +kernel)) ggX5_terms_X1_has
set_option maxRecDepth 20000 in
theorem ggX5_terms_X5_refuse : GoodIn wsX5_terms wsX5_refuse := goodIn_r _ [15, 16, 17, 9, 10, 11, 29, 30, 31, 32, 33, 34, 35, 36, 37, 38, 39] (by decide +kernel) (by decide +kernel)
set_option maxRecDepth 20000 in
theorem gX5_terms_X5_refuse : GoodIn wsX5_terms (wsV RX5 64 RX5 yX5_refuse wsX5_refuse) := goodIn_app (goodIn_of _ (by decide +kernel)) ggX5_terms_X5_refuse
set_option maxRecDepth 20000 in
theorem ggX5_terms_X1_value : GoodIn wsX5_terms wsX1_value := goodIn_r _ [21, 22, 9, 10, 11, 40, 41, 42] (by decide +kernel) (by decide +kernel)
set_option maxRecDepth 20000 in
theorem gX5_terms_X1_value : GoodIn wsX5_terms (wsV RX5 116 RX1 yX1_value wsX1_value) := goodIn_app (goodIn_of _ (by decide +kernel)) ggX5_terms_X1_value
set_option maxRecDepth 20000 in
theorem ggX5_terms_X5_howManyTerms : GoodIn wsX5_terms wsX5_howManyTerms := goodIn_r _ [25, 26, 27, 10, 28] (by decide +kernel) (by decide +kernel)
set_option maxRecDepth 20000 in
theorem gX5_terms_X5_howManyTerms : GoodIn wsX5_terms (va_wsS RX5 214 yX5_howManyTerms wsX5_howManyTerms) := goodIn_app (goodIn_of _ (by decide +kernel)) ggX5_terms_X5_howManyTerms
set_option maxRecDepth 20000 in
theorem ggX5_terms_X5_termAt : GoodIn wsX5_terms wsX5_termAt := goodIn_r _ [28] (by decide +kernel) (by decide +kernel)
set_option maxRecDepth 20000 in
theorem gX5_terms_X5_termAt : GoodIn wsX5_terms (va_wsS RX5 217 yX5_termAt wsX5_termAt) := goodIn_app (goodIn_of _ (by decide +kernel)) ggX5_terms_X5_termAt
theorem dX5_terms_0 : decode cX5_terms 0 = .ok (.aload_n 0, 1) := by decide +kernel
theorem dX5_terms_1 : decode cX5_terms 1 = .ok (.getfield 10, 3) := by decide +kernel
theorem dX5_terms_4 : decode cX5_terms 4 = .ok (.iload_n 1, 1) := by decide +kernel
theorem dX5_terms_5 : decode cX5_terms 5 = .ok (.invokevirtual 106, 3) := by decide +kernel
theorem dX5_terms_8 : decode cX5_terms 8 = .ok (.ifCond .ne 9, 3) := by decide +kernel
theorem dX5_terms_11 : decode cX5_terms 11 = .ok (.aload_n 0, 1) := by decide +kernel
theorem dX5_terms_12 : decode cX5_terms 12 = .ok (.iconst (-1), 1) := by decide +kernel
theorem dX5_terms_13 : decode cX5_terms 13 = .ok (.invokevirtual 64, 3) := by decide +kernel
theorem dX5_terms_16 : decode cX5_terms 16 = .ok (.ireturn, 1) := by decide +kernel
theorem dX5_terms_17 : decode cX5_terms 17 = .ok (.iload_n 2, 1) := by decide +kernel
theorem dX5_terms_18 : decode cX5_terms 18 = .ok (.iconst (-1), 1) := by decide +kernel
theorem dX5_terms_19 : decode cX5_terms 19 = .ok (.if_icmp .ge 10, 3) := by decide +kernel
theorem dX5_terms_22 : decode cX5_terms 22 = .ok (.aload_n 0, 1) := by decide +kernel
theorem dX5_terms_23 : decode cX5_terms 23 = .ok (.bipush (-4), 2) := by decide +kernel
theorem dX5_terms_25 : decode cX5_terms 25 = .ok (.invokevirtual 64, 3) := by decide +kernel
theorem dX5_terms_28 : decode cX5_terms 28 = .ok (.ireturn, 1) := by decide +kernel
theorem dX5_terms_29 : decode cX5_terms 29 = .ok (.aload_n 0, 1) := by decide +kernel
theorem dX5_terms_30 : decode cX5_terms 30 = .ok (.getfield 10, 3) := by decide +kernel
theorem dX5_terms_33 : decode cX5_terms 33 = .ok (.iload_n 1, 1) := by decide +kernel
theorem dX5_terms_34 : decode cX5_terms 34 = .ok (.iconst 1, 1) := by decide +kernel
theorem dX5_terms_35 : decode cX5_terms 35 = .ok (.invokevirtual 116, 3) := by decide +kernel
theorem dX5_terms_38 : decode cX5_terms 38 = .ok (.istore_n 3, 1) := by decide +kernel
theorem dX5_terms_39 : decode cX5_terms 39 = .ok (.iload_n 2, 1) := by decide +kernel
theorem dX5_terms_40 : decode cX5_terms 40 = .ok (.iconst (-1), 1) := by decide +kernel
theorem dX5_terms_41 : decode cX5_terms 41 = .ok (.if_icmp .ne 17, 3) := by decide +kernel
theorem dX5_terms_44 : decode cX5_terms 44 = .ok (.iload_n 3, 1) := by decide +kernel
theorem dX5_terms_45 : decode cX5_terms 45 = .ok (.aload_n 0, 1) := by decide +kernel
theorem dX5_terms_46 : decode cX5_terms 46 = .ok (.getfield 10, 3) := by decide +kernel
theorem dX5_terms_49 : decode cX5_terms 49 = .ok (.getfield 91, 3) := by decide +kernel
theorem dX5_terms_52 : decode cX5_terms 52 = .ok (.invokestatic 214, 3) := by decide +kernel
theorem dX5_terms_55 : decode cX5_terms 55 = .ok (.goto 15, 3) := by decide +kernel
theorem dX5_terms_58 : decode cX5_terms 58 = .ok (.iload_n 3, 1) := by decide +kernel
theorem dX5_terms_59 : decode cX5_terms 59 = .ok (.aload_n 0, 1) := by decide +kernel
theorem dX5_terms_60 : decode cX5_terms 60 = .ok (.getfield 10, 3) := by decide +kernel
theorem dX5_terms_63 : decode cX5_terms 63 = .ok (.getfield 91, 3) := by decide +kernel
theorem dX5_terms_66 : decode cX5_terms 66 = .ok (.iload_n 2, 1) := by decide +kernel
theorem dX5_terms_67 : decode cX5_terms 67 = .ok (.invokestatic 217, 3) := by decide +kernel
theorem dX5_terms_70 : decode cX5_terms 70 = .ok (.ireturn, 1) := by decide +kernel
set_option maxRecDepth 20000 in
theorem ggX5_convergent_X1_has : GoodIn wsX5_convergent wsX1_has := goodIn_r _ [7, 8, 9, 10, 11, 49, 50, 51] (by decide +kernel) (by decide +kernel)
set_option maxRecDepth 20000 in
theorem gX5_convergent_X1_has : GoodIn wsX5_convergent (wsV RX5 106 RX1 yX1_has wsX1_has) := goodIn_app (goodIn_of _ (by decide +kernel)) ggX5_convergent_X1_has
set_option maxRecDepth 20000 in
theorem ggX5_convergent_X5_refuseLong : GoodIn wsX5_convergent wsX5_refuseLong := goodIn_r _ [15, 16, 17, 18, 19, 10, 20, 21, 22, 9, 11, 38, 39, 40, 41, 42, 43, 44, 45, 46, 47, 48] (by decide +kernel) (by decide +kernel)
set_option maxRecDepth 20000 in
theorem gX5_convergent_X5_refuseLong : GoodIn wsX5_convergent (wsV RX5 179 RX5 yX5_refuseLong wsX5_refuseLong) := goodIn_app (goodIn_of _ (by decide +kernel)) ggX5_convergent_X5_refuseLong
set_option maxRecDepth 20000 in
theorem ggX5_convergent_X1_value : GoodIn wsX5_convergent wsX1_value := goodIn_r _ [26, 27, 9, 10, 11, 49, 50, 51] (by decide +kernel) (by decide +kernel)
set_option maxRecDepth 20000 in
theorem gX5_convergent_X1_value : GoodIn wsX5_convergent (wsV RX5 116 RX1 yX1_value wsX1_value) := goodIn_app (goodIn_of _ (by decide +kernel)) ggX5_convergent_X1_value
set_option maxRecDepth 20000 in
theorem ggX5_convergent_X5_howManyTerms : GoodIn wsX5_convergent wsX5_howManyTerms := goodIn_r _ [30, 31, 32, 10, 33] (by decide +kernel) (by decide +kernel)
set_option maxRecDepth 20000 in
theorem gX5_convergent_X5_howManyTerms : GoodIn wsX5_convergent (va_wsS RX5 214 yX5_howManyTerms wsX5_howManyTerms) := goodIn_app (goodIn_of _ (by decide +kernel)) ggX5_convergent_X5_howManyTerms
set_option maxRecDepth 20000 in
theorem ggX5_convergent_X5_isBelow : GoodIn wsX5_convergent wsX5_isBelow := goodIn_r _ [11] (by decide +kernel) (by decide +kernel)
set_option maxRecDepth 20000 in
theorem gX5_convergent_X5_isBelow : GoodIn wsX5_convergent (va_wsS RX5 109 yX5_isBelow wsX5_isBelow) := goodIn_app (goodIn_of _ (by decide +kernel)) ggX5_convergent_X5_isBelow
set_option maxRecDepth 20000 in
theorem ggX5_convergent_X5_convergentPart : GoodIn wsX5_convergent wsX5_convergentPart := goodIn_r _ [37, 1, 2, 31, 32, 10, 33, 38, 39, 40, 41, 42, 43, 44, 45, 46, 47, 48, 49, 50, 51] (by decide +kernel) (by decide +kernel)
set_option maxRecDepth 20000 in
theorem gX5_convergent_X5_convergentPart : GoodIn wsX5_convergent (wsV RX5 221 RX5 yX5_convergentPart wsX5_convergentPart) := goodIn_app (goodIn_of _ (by decide +kernel)) ggX5_convergent_X5_convergentPart
theorem dX5_convergent_0 : decode cX5_convergent 0 = .ok (.aload_n 0, 1) := by decide +kernel
theorem dX5_convergent_1 : decode cX5_convergent 1 = .ok (.getfield 10, 3) := by decide +kernel
theorem dX5_convergent_4 : decode cX5_convergent 4 = .ok (.iload_n 1, 1) := by decide +kernel
theorem dX5_convergent_5 : decode cX5_convergent 5 = .ok (.invokevirtual 106, 3) := by decide +kernel
theorem dX5_convergent_8 : decode cX5_convergent 8 = .ok (.ifCond .ne 9, 3) := by decide +kernel
theorem dX5_convergent_11 : decode cX5_convergent 11 = .ok (.aload_n 0, 1) := by decide +kernel
theorem dX5_convergent_12 : decode cX5_convergent 12 = .ok (.iconst (-1), 1) := by decide +kernel
theorem dX5_convergent_13 : decode cX5_convergent 13 = .ok (.invokevirtual 179, 3) := by decide +kernel
theorem dX5_convergent_16 : decode cX5_convergent 16 = .ok (.lreturn, 1) := by decide +kernel
theorem dX5_convergent_17 : decode cX5_convergent 17 = .ok (.iload_n 2, 1) := by decide +kernel
theorem dX5_convergent_18 : decode cX5_convergent 18 = .ok (.ifCond .ge 10, 3) := by decide +kernel
theorem dX5_convergent_21 : decode cX5_convergent 21 = .ok (.aload_n 0, 1) := by decide +kernel
theorem dX5_convergent_22 : decode cX5_convergent 22 = .ok (.bipush (-4), 2) := by decide +kernel
theorem dX5_convergent_24 : decode cX5_convergent 24 = .ok (.invokevirtual 179, 3) := by decide +kernel
theorem dX5_convergent_27 : decode cX5_convergent 27 = .ok (.lreturn, 1) := by decide +kernel
theorem dX5_convergent_28 : decode cX5_convergent 28 = .ok (.aload_n 0, 1) := by decide +kernel
theorem dX5_convergent_29 : decode cX5_convergent 29 = .ok (.getfield 10, 3) := by decide +kernel
theorem dX5_convergent_32 : decode cX5_convergent 32 = .ok (.iload_n 1, 1) := by decide +kernel
theorem dX5_convergent_33 : decode cX5_convergent 33 = .ok (.iconst 1, 1) := by decide +kernel
theorem dX5_convergent_34 : decode cX5_convergent 34 = .ok (.invokevirtual 116, 3) := by decide +kernel
theorem dX5_convergent_37 : decode cX5_convergent 37 = .ok (.istore 4, 2) := by decide +kernel
theorem dX5_convergent_39 : decode cX5_convergent 39 = .ok (.iload_n 2, 1) := by decide +kernel
theorem dX5_convergent_40 : decode cX5_convergent 40 = .ok (.iload 4, 2) := by decide +kernel
theorem dX5_convergent_42 : decode cX5_convergent 42 = .ok (.aload_n 0, 1) := by decide +kernel
theorem dX5_convergent_43 : decode cX5_convergent 43 = .ok (.getfield 10, 3) := by decide +kernel
theorem dX5_convergent_46 : decode cX5_convergent 46 = .ok (.getfield 91, 3) := by decide +kernel
theorem dX5_convergent_49 : decode cX5_convergent 49 = .ok (.invokestatic 214, 3) := by decide +kernel
theorem dX5_convergent_52 : decode cX5_convergent 52 = .ok (.if_icmp .lt 10, 3) := by decide +kernel
theorem dX5_convergent_55 : decode cX5_convergent 55 = .ok (.aload_n 0, 1) := by decide +kernel
theorem dX5_convergent_56 : decode cX5_convergent 56 = .ok (.bipush (-6), 2) := by decide +kernel
theorem dX5_convergent_58 : decode cX5_convergent 58 = .ok (.invokevirtual 179, 3) := by decide +kernel
theorem dX5_convergent_61 : decode cX5_convergent 61 = .ok (.lreturn, 1) := by decide +kernel
theorem dX5_convergent_62 : decode cX5_convergent 62 = .ok (.iload_n 3, 1) := by decide +kernel
theorem dX5_convergent_63 : decode cX5_convergent 63 = .ok (.iconst 2, 1) := by decide +kernel
theorem dX5_convergent_64 : decode cX5_convergent 64 = .ok (.invokestatic 109, 3) := by decide +kernel
theorem dX5_convergent_67 : decode cX5_convergent 67 = .ok (.ifCond .ne 10, 3) := by decide +kernel
theorem dX5_convergent_70 : decode cX5_convergent 70 = .ok (.aload_n 0, 1) := by decide +kernel
theorem dX5_convergent_71 : decode cX5_convergent 71 = .ok (.bipush (-2), 2) := by decide +kernel
theorem dX5_convergent_73 : decode cX5_convergent 73 = .ok (.invokevirtual 179, 3) := by decide +kernel
theorem dX5_convergent_76 : decode cX5_convergent 76 = .ok (.lreturn, 1) := by decide +kernel
theorem dX5_convergent_77 : decode cX5_convergent 77 = .ok (.iload_n 3, 1) := by decide +kernel
theorem dX5_convergent_78 : decode cX5_convergent 78 = .ok (.ifCond .ne 15, 3) := by decide +kernel
theorem dX5_convergent_81 : decode cX5_convergent 81 = .ok (.aload_n 0, 1) := by decide +kernel
theorem dX5_convergent_82 : decode cX5_convergent 82 = .ok (.iload 4, 2) := by decide +kernel
theorem dX5_convergent_84 : decode cX5_convergent 84 = .ok (.iload_n 2, 1) := by decide +kernel
theorem dX5_convergent_85 : decode cX5_convergent 85 = .ok (.lconst 0, 1) := by decide +kernel
theorem dX5_convergent_86 : decode cX5_convergent 86 = .ok (.lconst 1, 1) := by decide +kernel
theorem dX5_convergent_87 : decode cX5_convergent 87 = .ok (.invokevirtual 221, 3) := by decide +kernel
theorem dX5_convergent_90 : decode cX5_convergent 90 = .ok (.goto 12, 3) := by decide +kernel
theorem dX5_convergent_93 : decode cX5_convergent 93 = .ok (.aload_n 0, 1) := by decide +kernel
theorem dX5_convergent_94 : decode cX5_convergent 94 = .ok (.iload 4, 2) := by decide +kernel
theorem dX5_convergent_96 : decode cX5_convergent 96 = .ok (.iload_n 2, 1) := by decide +kernel
theorem dX5_convergent_97 : decode cX5_convergent 97 = .ok (.lconst 1, 1) := by decide +kernel
theorem dX5_convergent_98 : decode cX5_convergent 98 = .ok (.lconst 0, 1) := by decide +kernel
theorem dX5_convergent_99 : decode cX5_convergent 99 = .ok (.invokevirtual 221, 3) := by decide +kernel
theorem dX5_convergent_102 : decode cX5_convergent 102 = .ok (.lreturn, 1) := by decide +kernel
set_option maxRecDepth 20000 in
theorem ggX5_nearest_X5_refusalOfNumber : GoodIn wsX5_nearest wsX5_refusalOfNumber := goodIn_r _ [7, 1, 8, 9, 10, 11, 12, 13, 14, 6, 15, 38, 39, 40, 41, 42, 43, 44, 45, 46, 47, 48, 49, 50, 51] (by decide +kernel) (by decide +kernel)
set_option maxRecDepth 20000 in
theorem gX5_nearest_X5_refusalOfNumber : GoodIn wsX5_nearest (wsV RX5 136 RX5 yX5_refusalOfNumber wsX5_refusalOfNumber) := goodIn_app (goodIn_of _ (by decide +kernel)) ggX5_nearest_X5_refusalOfNumber
set_option maxRecDepth 20000 in
theorem ggX5_nearest_X5_refuse : GoodIn wsX5_nearest wsX5_refuse := goodIn_r _ [19, 20, 21, 14, 6, 15, 38, 39, 40, 41, 42, 43, 44, 45, 46, 47, 48] (by decide +kernel) (by decide +kernel)
set_option maxRecDepth 20000 in
theorem gX5_nearest_X5_refuse : GoodIn wsX5_nearest (wsV RX5 64 RX5 yX5_refuse wsX5_refuse) := goodIn_app (goodIn_of _ (by decide +kernel)) ggX5_nearest_X5_refuse
set_option maxRecDepth 20000 in
theorem ggX5_nearest_X5_isBelow : GoodIn wsX5_nearest wsX5_isBelow := goodIn_r _ [15] (by decide +kernel) (by decide +kernel)
set_option maxRecDepth 20000 in
theorem gX5_nearest_X5_isBelow : GoodIn wsX5_nearest (va_wsS RX5 109 yX5_isBelow wsX5_isBelow) := goodIn_app (goodIn_of _ (by decide +kernel)) ggX5_nearest_X5_isBelow
set_option maxRecDepth 20000 in
theorem ggX5_nearest_X1_value : GoodIn wsX5_nearest wsX1_value := goodIn_r _ [25, 26, 14, 6, 15, 49, 50, 51] (by decide +kernel) (by decide +kernel)
set_option maxRecDepth 20000 in
theorem gX5_nearest_X1_value : GoodIn wsX5_nearest (wsV RX5 116 RX1 yX1_value wsX1_value) := goodIn_app (goodIn_of _ (by decide +kernel)) ggX5_nearest_X1_value
set_option maxRecDepth 20000 in
theorem ggX5_nearest_X5_quotient : GoodIn wsX5_nearest wsX5_quotient := goodIn_r _ [29] (by decide +kernel) (by decide +kernel)
set_option maxRecDepth 20000 in
theorem gX5_nearest_X5_quotient : GoodIn wsX5_nearest (va_wsS RX5 225 yX5_quotient wsX5_quotient) := goodIn_app (goodIn_of _ (by decide +kernel)) ggX5_nearest_X5_quotient
set_option maxRecDepth 20000 in
theorem ggX5_nearest_X5_apart : GoodIn wsX5_nearest wsX5_apart := goodIn_r _ [33, 1, 2, 34, 35, 36, 37, 38, 39, 40, 41, 42, 43, 44, 45, 46, 47, 48, 49, 50, 51] (by decide +kernel) (by decide +kernel)
set_option maxRecDepth 20000 in
theorem gX5_nearest_X5_apart : GoodIn wsX5_nearest (wsV RX5 228 RX5 yX5_apart wsX5_apart) := goodIn_app (goodIn_of _ (by decide +kernel)) ggX5_nearest_X5_apart
theorem dX5_nearest_0 : decode cX5_nearest 0 = .ok (.aload_n 0, 1) := by decide +kernel
theorem dX5_nearest_1 : decode cX5_nearest 1 = .ok (.iload_n 1, 1) := by decide +kernel
theorem dX5_nearest_2 : decode cX5_nearest 2 = .ok (.iload_n 2, 1) := by decide +kernel
theorem dX5_nearest_3 : decode cX5_nearest 3 = .ok (.iconst 1, 1) := by decide +kernel
theorem dX5_nearest_4 : decode cX5_nearest 4 = .ok (.bipush 99, 2) := by decide +kernel
theorem dX5_nearest_6 : decode cX5_nearest 6 = .ok (.invokevirtual 136, 3) := by decide +kernel
theorem dX5_nearest_9 : decode cX5_nearest 9 = .ok (.istore 4, 2) := by decide +kernel
theorem dX5_nearest_11 : decode cX5_nearest 11 = .ok (.iload 4, 2) := by decide +kernel
theorem dX5_nearest_13 : decode cX5_nearest 13 = .ok (.ifCond .eq 10, 3) := by decide +kernel
theorem dX5_nearest_16 : decode cX5_nearest 16 = .ok (.aload_n 0, 1) := by decide +kernel
theorem dX5_nearest_17 : decode cX5_nearest 17 = .ok (.iload 4, 2) := by decide +kernel
theorem dX5_nearest_19 : decode cX5_nearest 19 = .ok (.invokevirtual 64, 3) := by decide +kernel
theorem dX5_nearest_22 : decode cX5_nearest 22 = .ok (.ireturn, 1) := by decide +kernel
theorem dX5_nearest_23 : decode cX5_nearest 23 = .ok (.iload_n 3, 1) := by decide +kernel
theorem dX5_nearest_24 : decode cX5_nearest 24 = .ok (.iconst 2, 1) := by decide +kernel
theorem dX5_nearest_25 : decode cX5_nearest 25 = .ok (.invokestatic 109, 3) := by decide +kernel
theorem dX5_nearest_28 : decode cX5_nearest 28 = .ok (.ifCond .ne 10, 3) := by decide +kernel
theorem dX5_nearest_31 : decode cX5_nearest 31 = .ok (.aload_n 0, 1) := by decide +kernel
theorem dX5_nearest_32 : decode cX5_nearest 32 = .ok (.bipush (-2), 2) := by decide +kernel
theorem dX5_nearest_34 : decode cX5_nearest 34 = .ok (.invokevirtual 64, 3) := by decide +kernel
theorem dX5_nearest_37 : decode cX5_nearest 37 = .ok (.ireturn, 1) := by decide +kernel
theorem dX5_nearest_38 : decode cX5_nearest 38 = .ok (.aload_n 0, 1) := by decide +kernel
theorem dX5_nearest_39 : decode cX5_nearest 39 = .ok (.getfield 10, 3) := by decide +kernel
theorem dX5_nearest_42 : decode cX5_nearest 42 = .ok (.iload_n 1, 1) := by decide +kernel
theorem dX5_nearest_43 : decode cX5_nearest 43 = .ok (.iconst 1, 1) := by decide +kernel
theorem dX5_nearest_44 : decode cX5_nearest 44 = .ok (.invokevirtual 116, 3) := by decide +kernel
theorem dX5_nearest_47 : decode cX5_nearest 47 = .ok (.istore 5, 2) := by decide +kernel
theorem dX5_nearest_49 : decode cX5_nearest 49 = .ok (.iconst 0, 1) := by decide +kernel
theorem dX5_nearest_50 : decode cX5_nearest 50 = .ok (.istore 6, 2) := by decide +kernel
theorem dX5_nearest_52 : decode cX5_nearest 52 = .ok (.iconst 1, 1) := by decide +kernel
theorem dX5_nearest_53 : decode cX5_nearest 53 = .ok (.istore 7, 2) := by decide +kernel
theorem dX5_nearest_55 : decode cX5_nearest 55 = .ok (.iconst 1, 1) := by decide +kernel
theorem dX5_nearest_56 : decode cX5_nearest 56 = .ok (.istore 8, 2) := by decide +kernel
theorem dX5_nearest_58 : decode cX5_nearest 58 = .ok (.iload 8, 2) := by decide +kernel
theorem dX5_nearest_60 : decode cX5_nearest 60 = .ok (.iload_n 2, 1) := by decide +kernel
theorem dX5_nearest_61 : decode cX5_nearest 61 = .ok (.if_icmp .gt 89, 3) := by decide +kernel
theorem dX5_nearest_64 : decode cX5_nearest 64 = .ok (.iload 8, 2) := by decide +kernel
theorem dX5_nearest_66 : decode cX5_nearest 66 = .ok (.i2l, 1) := by decide +kernel
theorem dX5_nearest_67 : decode cX5_nearest 67 = .ok (.iload 5, 2) := by decide +kernel
theorem dX5_nearest_69 : decode cX5_nearest 69 = .ok (.i2l, 1) := by decide +kernel
theorem dX5_nearest_70 : decode cX5_nearest 70 = .ok (.lmul, 1) := by decide +kernel
theorem dX5_nearest_71 : decode cX5_nearest 71 = .ok (.aload_n 0, 1) := by decide +kernel
theorem dX5_nearest_72 : decode cX5_nearest 72 = .ok (.getfield 10, 3) := by decide +kernel
theorem dX5_nearest_75 : decode cX5_nearest 75 = .ok (.getfield 91, 3) := by decide +kernel
theorem dX5_nearest_78 : decode cX5_nearest 78 = .ok (.i2l, 1) := by decide +kernel
theorem dX5_nearest_79 : decode cX5_nearest 79 = .ok (.invokestatic 225, 3) := by decide +kernel
theorem dX5_nearest_82 : decode cX5_nearest 82 = .ok (.l2i, 1) := by decide +kernel
theorem dX5_nearest_83 : decode cX5_nearest 83 = .ok (.istore 9, 2) := by decide +kernel
theorem dX5_nearest_85 : decode cX5_nearest 85 = .ok (.iload 9, 2) := by decide +kernel
theorem dX5_nearest_87 : decode cX5_nearest 87 = .ok (.istore 10, 2) := by decide +kernel
theorem dX5_nearest_89 : decode cX5_nearest 89 = .ok (.iload 10, 2) := by decide +kernel
theorem dX5_nearest_91 : decode cX5_nearest 91 = .ok (.iload 9, 2) := by decide +kernel
theorem dX5_nearest_93 : decode cX5_nearest 93 = .ok (.iconst 1, 1) := by decide +kernel
theorem dX5_nearest_94 : decode cX5_nearest 94 = .ok (.iadd, 1) := by decide +kernel
theorem dX5_nearest_95 : decode cX5_nearest 95 = .ok (.if_icmp .gt 49, 3) := by decide +kernel
theorem dX5_nearest_98 : decode cX5_nearest 98 = .ok (.aload_n 0, 1) := by decide +kernel
theorem dX5_nearest_99 : decode cX5_nearest 99 = .ok (.iload 10, 2) := by decide +kernel
theorem dX5_nearest_101 : decode cX5_nearest 101 = .ok (.iload 8, 2) := by decide +kernel
theorem dX5_nearest_103 : decode cX5_nearest 103 = .ok (.iload 5, 2) := by decide +kernel
theorem dX5_nearest_105 : decode cX5_nearest 105 = .ok (.invokevirtual 228, 3) := by decide +kernel
theorem dX5_nearest_108 : decode cX5_nearest 108 = .ok (.iload 7, 2) := by decide +kernel
theorem dX5_nearest_110 : decode cX5_nearest 110 = .ok (.i2l, 1) := by decide +kernel
theorem dX5_nearest_111 : decode cX5_nearest 111 = .ok (.lmul, 1) := by decide +kernel
theorem dX5_nearest_112 : decode cX5_nearest 112 = .ok (.aload_n 0, 1) := by decide +kernel
theorem dX5_nearest_113 : decode cX5_nearest 113 = .ok (.iload 6, 2) := by decide +kernel
theorem dX5_nearest_115 : decode cX5_nearest 115 = .ok (.iload 7, 2) := by decide +kernel
theorem dX5_nearest_117 : decode cX5_nearest 117 = .ok (.iload 5, 2) := by decide +kernel
theorem dX5_nearest_119 : decode cX5_nearest 119 = .ok (.invokevirtual 228, 3) := by decide +kernel
theorem dX5_nearest_122 : decode cX5_nearest 122 = .ok (.iload 8, 2) := by decide +kernel
theorem dX5_nearest_124 : decode cX5_nearest 124 = .ok (.i2l, 1) := by decide +kernel
theorem dX5_nearest_125 : decode cX5_nearest 125 = .ok (.lmul, 1) := by decide +kernel
theorem dX5_nearest_126 : decode cX5_nearest 126 = .ok (.lcmp, 1) := by decide +kernel
theorem dX5_nearest_127 : decode cX5_nearest 127 = .ok (.ifCond .ge 11, 3) := by decide +kernel
theorem dX5_nearest_130 : decode cX5_nearest 130 = .ok (.iload 10, 2) := by decide +kernel
theorem dX5_nearest_132 : decode cX5_nearest 132 = .ok (.istore 6, 2) := by decide +kernel
theorem dX5_nearest_134 : decode cX5_nearest 134 = .ok (.iload 8, 2) := by decide +kernel
theorem dX5_nearest_136 : decode cX5_nearest 136 = .ok (.istore 7, 2) := by decide +kernel
theorem dX5_nearest_138 : decode cX5_nearest 138 = .ok (.iinc 10 1, 3) := by decide +kernel
theorem dX5_nearest_141 : decode cX5_nearest 141 = .ok (.goto (-52), 3) := by decide +kernel
theorem dX5_nearest_144 : decode cX5_nearest 144 = .ok (.iinc 8 1, 3) := by decide +kernel
theorem dX5_nearest_147 : decode cX5_nearest 147 = .ok (.goto (-89), 3) := by decide +kernel
theorem dX5_nearest_150 : decode cX5_nearest 150 = .ok (.iload_n 3, 1) := by decide +kernel
theorem dX5_nearest_151 : decode cX5_nearest 151 = .ok (.ifCond .ne 8, 3) := by decide +kernel
theorem dX5_nearest_154 : decode cX5_nearest 154 = .ok (.iload 6, 2) := by decide +kernel
theorem dX5_nearest_156 : decode cX5_nearest 156 = .ok (.goto 5, 3) := by decide +kernel
theorem dX5_nearest_159 : decode cX5_nearest 159 = .ok (.iload 7, 2) := by decide +kernel
theorem dX5_nearest_161 : decode cX5_nearest 161 = .ok (.ireturn, 1) := by decide +kernel
set_option maxRecDepth 20000 in
theorem ggX5_floors_X5_refusalOfNumber : GoodIn wsX5_floors wsX5_refusalOfNumber := goodIn_r _ [7, 1, 8, 9, 10, 11, 12, 13, 14, 6, 15, 38, 39, 40, 41, 42, 43, 44, 45, 46, 47, 48, 49, 50, 51] (by decide +kernel) (by decide +kernel)
set_option maxRecDepth 20000 in
theorem gX5_floors_X5_refusalOfNumber : GoodIn wsX5_floors (wsV RX5 136 RX5 yX5_refusalOfNumber wsX5_refusalOfNumber) := goodIn_app (goodIn_of _ (by decide +kernel)) ggX5_floors_X5_refusalOfNumber
set_option maxRecDepth 20000 in
theorem ggX5_floors_X5_refuseLong : GoodIn wsX5_floors wsX5_refuseLong := goodIn_r _ [19, 20, 21, 22, 23, 6, 24, 25, 26, 14, 15, 38, 39, 40, 41, 42, 43, 44, 45, 46, 47, 48] (by decide +kernel) (by decide +kernel)
set_option maxRecDepth 20000 in
theorem gX5_floors_X5_refuseLong : GoodIn wsX5_floors (wsV RX5 179 RX5 yX5_refuseLong wsX5_refuseLong) := goodIn_app (goodIn_of _ (by decide +kernel)) ggX5_floors_X5_refuseLong
set_option maxRecDepth 20000 in
theorem ggX5_floors_X1_value : GoodIn wsX5_floors wsX1_value := goodIn_r _ [30, 31, 14, 6, 15, 49, 50, 51] (by decide +kernel) (by decide +kernel)
set_option maxRecDepth 20000 in
theorem gX5_floors_X1_value : GoodIn wsX5_floors (wsV RX5 116 RX1 yX1_value wsX1_value) := goodIn_app (goodIn_of _ (by decide +kernel)) ggX5_floors_X1_value
set_option maxRecDepth 20000 in
theorem ggX5_floors_X5_sumOfFloors : GoodIn wsX5_floors wsX5_sumOfFloors := goodIn_r _ [34, 35, 36, 6, 37] (by decide +kernel) (by decide +kernel)
set_option maxRecDepth 20000 in
theorem gX5_floors_X5_sumOfFloors : GoodIn wsX5_floors (va_wsS RX5 232 yX5_sumOfFloors wsX5_sumOfFloors) := goodIn_app (goodIn_of _ (by decide +kernel)) ggX5_floors_X5_sumOfFloors
theorem dX5_floors_0 : decode cX5_floors 0 = .ok (.aload_n 0, 1) := by decide +kernel
theorem dX5_floors_1 : decode cX5_floors 1 = .ok (.iload_n 1, 1) := by decide +kernel
theorem dX5_floors_2 : decode cX5_floors 2 = .ok (.iload_n 2, 1) := by decide +kernel
theorem dX5_floors_3 : decode cX5_floors 3 = .ok (.iconst 0, 1) := by decide +kernel
theorem dX5_floors_4 : decode cX5_floors 4 = .ok (.sipush 4000, 3) := by decide +kernel
theorem dX5_floors_7 : decode cX5_floors 7 = .ok (.invokevirtual 136, 3) := by decide +kernel
theorem dX5_floors_10 : decode cX5_floors 10 = .ok (.istore_n 3, 1) := by decide +kernel
theorem dX5_floors_11 : decode cX5_floors 11 = .ok (.iload_n 3, 1) := by decide +kernel
theorem dX5_floors_12 : decode cX5_floors 12 = .ok (.ifCond .eq 9, 3) := by decide +kernel
theorem dX5_floors_15 : decode cX5_floors 15 = .ok (.aload_n 0, 1) := by decide +kernel
theorem dX5_floors_16 : decode cX5_floors 16 = .ok (.iload_n 3, 1) := by decide +kernel
theorem dX5_floors_17 : decode cX5_floors 17 = .ok (.invokevirtual 179, 3) := by decide +kernel
theorem dX5_floors_20 : decode cX5_floors 20 = .ok (.lreturn, 1) := by decide +kernel
theorem dX5_floors_21 : decode cX5_floors 21 = .ok (.aload_n 0, 1) := by decide +kernel
theorem dX5_floors_22 : decode cX5_floors 22 = .ok (.getfield 10, 3) := by decide +kernel
theorem dX5_floors_25 : decode cX5_floors 25 = .ok (.iload_n 1, 1) := by decide +kernel
theorem dX5_floors_26 : decode cX5_floors 26 = .ok (.iconst 1, 1) := by decide +kernel
theorem dX5_floors_27 : decode cX5_floors 27 = .ok (.invokevirtual 116, 3) := by decide +kernel
theorem dX5_floors_30 : decode cX5_floors 30 = .ok (.i2l, 1) := by decide +kernel
theorem dX5_floors_31 : decode cX5_floors 31 = .ok (.aload_n 0, 1) := by decide +kernel
theorem dX5_floors_32 : decode cX5_floors 32 = .ok (.getfield 10, 3) := by decide +kernel
theorem dX5_floors_35 : decode cX5_floors 35 = .ok (.getfield 91, 3) := by decide +kernel
theorem dX5_floors_38 : decode cX5_floors 38 = .ok (.i2l, 1) := by decide +kernel
theorem dX5_floors_39 : decode cX5_floors 39 = .ok (.iload_n 2, 1) := by decide +kernel
theorem dX5_floors_40 : decode cX5_floors 40 = .ok (.invokestatic 232, 3) := by decide +kernel
theorem dX5_floors_43 : decode cX5_floors 43 = .ok (.lreturn, 1) := by decide +kernel
set_option maxRecDepth 20000 in
theorem ggX5_rests_X5_refusalOfNumber : GoodIn wsX5_rests wsX5_refusalOfNumber := goodIn_r _ [7, 1, 8, 9, 10, 11, 12, 13, 14, 6, 15, 35, 36, 37, 38, 39, 40, 41, 42, 43, 44, 45, 46, 47, 48] (by decide +kernel) (by decide +kernel)
set_option maxRecDepth 20000 in
theorem gX5_rests_X5_refusalOfNumber : GoodIn wsX5_rests (wsV RX5 136 RX5 yX5_refusalOfNumber wsX5_refusalOfNumber) := goodIn_app (goodIn_of _ (by decide +kernel)) ggX5_rests_X5_refusalOfNumber
set_option maxRecDepth 20000 in
theorem ggX5_rests_X5_refuseLong : GoodIn wsX5_rests wsX5_refuseLong := goodIn_r _ [19, 20, 21, 22, 23, 6, 24, 25, 26, 14, 15, 35, 36, 37, 38, 39, 40, 41, 42, 43, 44, 45] (by decide +kernel) (by decide +kernel)
set_option maxRecDepth 20000 in
theorem gX5_rests_X5_refuseLong : GoodIn wsX5_rests (wsV RX5 179 RX5 yX5_refuseLong wsX5_refuseLong) := goodIn_app (goodIn_of _ (by decide +kernel)) ggX5_rests_X5_refuseLong
set_option maxRecDepth 20000 in
theorem ggX5_rests_X1_value : GoodIn wsX5_rests wsX1_value := goodIn_r _ [30, 31, 14, 6, 15, 46, 47, 48] (by decide +kernel) (by decide +kernel)
set_option maxRecDepth 20000 in
theorem gX5_rests_X1_value : GoodIn wsX5_rests (wsV RX5 116 RX1 yX1_value wsX1_value) := goodIn_app (goodIn_of _ (by decide +kernel)) ggX5_rests_X1_value
set_option maxRecDepth 20000 in
theorem ggX5_rests_X5_rest : GoodIn wsX5_rests wsX5_rest := goodIn_r _ [34] (by decide +kernel) (by decide +kernel)
set_option maxRecDepth 20000 in
theorem gX5_rests_X5_rest : GoodIn wsX5_rests (va_wsS RX5 208 yX5_rest wsX5_rest) := goodIn_app (goodIn_of _ (by decide +kernel)) ggX5_rests_X5_rest
theorem dX5_rests_0 : decode cX5_rests 0 = .ok (.aload_n 0, 1) := by decide +kernel
theorem dX5_rests_1 : decode cX5_rests 1 = .ok (.iload_n 1, 1) := by decide +kernel
theorem dX5_rests_2 : decode cX5_rests 2 = .ok (.iload_n 2, 1) := by decide +kernel
theorem dX5_rests_3 : decode cX5_rests 3 = .ok (.iconst 0, 1) := by decide +kernel
theorem dX5_rests_4 : decode cX5_rests 4 = .ok (.sipush 4000, 3) := by decide +kernel
theorem dX5_rests_7 : decode cX5_rests 7 = .ok (.invokevirtual 136, 3) := by decide +kernel
theorem dX5_rests_10 : decode cX5_rests 10 = .ok (.istore_n 3, 1) := by decide +kernel
theorem dX5_rests_11 : decode cX5_rests 11 = .ok (.iload_n 3, 1) := by decide +kernel
theorem dX5_rests_12 : decode cX5_rests 12 = .ok (.ifCond .eq 9, 3) := by decide +kernel
theorem dX5_rests_15 : decode cX5_rests 15 = .ok (.aload_n 0, 1) := by decide +kernel
theorem dX5_rests_16 : decode cX5_rests 16 = .ok (.iload_n 3, 1) := by decide +kernel
theorem dX5_rests_17 : decode cX5_rests 17 = .ok (.invokevirtual 179, 3) := by decide +kernel
theorem dX5_rests_20 : decode cX5_rests 20 = .ok (.lreturn, 1) := by decide +kernel
theorem dX5_rests_21 : decode cX5_rests 21 = .ok (.aload_n 0, 1) := by decide +kernel
theorem dX5_rests_22 : decode cX5_rests 22 = .ok (.getfield 10, 3) := by decide +kernel
theorem dX5_rests_25 : decode cX5_rests 25 = .ok (.iload_n 1, 1) := by decide +kernel
theorem dX5_rests_26 : decode cX5_rests 26 = .ok (.iconst 1, 1) := by decide +kernel
theorem dX5_rests_27 : decode cX5_rests 27 = .ok (.invokevirtual 116, 3) := by decide +kernel
theorem dX5_rests_30 : decode cX5_rests 30 = .ok (.i2l, 1) := by decide +kernel
theorem dX5_rests_31 : decode cX5_rests 31 = .ok (.lstore 4, 2) := by decide +kernel
theorem dX5_rests_33 : decode cX5_rests 33 = .ok (.lconst 0, 1) := by decide +kernel
theorem dX5_rests_34 : decode cX5_rests 34 = .ok (.lstore 6, 2) := by decide +kernel
theorem dX5_rests_36 : decode cX5_rests 36 = .ok (.iconst 0, 1) := by decide +kernel
theorem dX5_rests_37 : decode cX5_rests 37 = .ok (.istore 8, 2) := by decide +kernel
theorem dX5_rests_39 : decode cX5_rests 39 = .ok (.iload 8, 2) := by decide +kernel
theorem dX5_rests_41 : decode cX5_rests 41 = .ok (.iload_n 2, 1) := by decide +kernel
theorem dX5_rests_42 : decode cX5_rests 42 = .ok (.if_icmp .ge 31, 3) := by decide +kernel
theorem dX5_rests_45 : decode cX5_rests 45 = .ok (.lload 6, 2) := by decide +kernel
theorem dX5_rests_47 : decode cX5_rests 47 = .ok (.iload 8, 2) := by decide +kernel
theorem dX5_rests_49 : decode cX5_rests 49 = .ok (.i2l, 1) := by decide +kernel
theorem dX5_rests_50 : decode cX5_rests 50 = .ok (.lload 4, 2) := by decide +kernel
theorem dX5_rests_52 : decode cX5_rests 52 = .ok (.lmul, 1) := by decide +kernel
theorem dX5_rests_53 : decode cX5_rests 53 = .ok (.aload_n 0, 1) := by decide +kernel
theorem dX5_rests_54 : decode cX5_rests 54 = .ok (.getfield 10, 3) := by decide +kernel
theorem dX5_rests_57 : decode cX5_rests 57 = .ok (.getfield 91, 3) := by decide +kernel
theorem dX5_rests_60 : decode cX5_rests 60 = .ok (.i2l, 1) := by decide +kernel
theorem dX5_rests_61 : decode cX5_rests 61 = .ok (.invokestatic 208, 3) := by decide +kernel
theorem dX5_rests_64 : decode cX5_rests 64 = .ok (.ladd, 1) := by decide +kernel
theorem dX5_rests_65 : decode cX5_rests 65 = .ok (.lstore 6, 2) := by decide +kernel
theorem dX5_rests_67 : decode cX5_rests 67 = .ok (.iinc 8 1, 3) := by decide +kernel
theorem dX5_rests_70 : decode cX5_rests 70 = .ok (.goto (-31), 3) := by decide +kernel
theorem dX5_rests_73 : decode cX5_rests 73 = .ok (.lload 6, 2) := by decide +kernel
theorem dX5_rests_75 : decode cX5_rests 75 = .ok (.lreturn, 1) := by decide +kernel
set_option maxRecDepth 20000 in
theorem ggX5_reciprocal_X1_has : GoodIn wsX5_reciprocal wsX1_has := goodIn_r _ [7, 8, 9, 10, 11, 45, 46, 47] (by decide +kernel) (by decide +kernel)
set_option maxRecDepth 20000 in
theorem gX5_reciprocal_X1_has : GoodIn wsX5_reciprocal (wsV RX5 106 RX1 yX1_has wsX1_has) := goodIn_app (goodIn_of _ (by decide +kernel)) ggX5_reciprocal_X1_has
set_option maxRecDepth 20000 in
theorem ggX5_reciprocal_X5_refuseLong : GoodIn wsX5_reciprocal wsX5_refuseLong := goodIn_r _ [15, 16, 17, 18, 19, 10, 20, 21, 22, 9, 11, 34, 35, 36, 37, 38, 39, 40, 41, 42, 43, 44] (by decide +kernel) (by decide +kernel)
set_option maxRecDepth 20000 in
theorem gX5_reciprocal_X5_refuseLong : GoodIn wsX5_reciprocal (wsV RX5 179 RX5 yX5_refuseLong wsX5_refuseLong) := goodIn_app (goodIn_of _ (by decide +kernel)) ggX5_reciprocal_X5_refuseLong
set_option maxRecDepth 20000 in
theorem ggX5_reciprocal_X1_value : GoodIn wsX5_reciprocal wsX1_value := goodIn_r _ [26, 27, 9, 10, 11, 45, 46, 47] (by decide +kernel) (by decide +kernel)
set_option maxRecDepth 20000 in
theorem gX5_reciprocal_X1_value : GoodIn wsX5_reciprocal (wsV RX5 116 RX1 yX1_value wsX1_value) := goodIn_app (goodIn_of _ (by decide +kernel)) ggX5_reciprocal_X1_value
set_option maxRecDepth 20000 in
theorem ggX5_reciprocal_X5_sumOfFloors : GoodIn wsX5_reciprocal wsX5_sumOfFloors := goodIn_r _ [30, 31, 32, 10, 33] (by decide +kernel) (by decide +kernel)
set_option maxRecDepth 20000 in
theorem gX5_reciprocal_X5_sumOfFloors : GoodIn wsX5_reciprocal (va_wsS RX5 232 yX5_sumOfFloors wsX5_sumOfFloors) := goodIn_app (goodIn_of _ (by decide +kernel)) ggX5_reciprocal_X5_sumOfFloors
theorem dX5_reciprocal_0 : decode cX5_reciprocal 0 = .ok (.aload_n 0, 1) := by decide +kernel
theorem dX5_reciprocal_1 : decode cX5_reciprocal 1 = .ok (.getfield 10, 3) := by decide +kernel
theorem dX5_reciprocal_4 : decode cX5_reciprocal 4 = .ok (.iload_n 1, 1) := by decide +kernel
theorem dX5_reciprocal_5 : decode cX5_reciprocal 5 = .ok (.invokevirtual 106, 3) := by decide +kernel
theorem dX5_reciprocal_8 : decode cX5_reciprocal 8 = .ok (.ifCond .ne 9, 3) := by decide +kernel
theorem dX5_reciprocal_11 : decode cX5_reciprocal 11 = .ok (.aload_n 0, 1) := by decide +kernel
theorem dX5_reciprocal_12 : decode cX5_reciprocal 12 = .ok (.iconst (-1), 1) := by decide +kernel
theorem dX5_reciprocal_13 : decode cX5_reciprocal 13 = .ok (.invokevirtual 179, 3) := by decide +kernel
theorem dX5_reciprocal_16 : decode cX5_reciprocal 16 = .ok (.lreturn, 1) := by decide +kernel
theorem dX5_reciprocal_17 : decode cX5_reciprocal 17 = .ok (.aload_n 0, 1) := by decide +kernel
theorem dX5_reciprocal_18 : decode cX5_reciprocal 18 = .ok (.getfield 10, 3) := by decide +kernel
theorem dX5_reciprocal_21 : decode cX5_reciprocal 21 = .ok (.iload_n 1, 1) := by decide +kernel
theorem dX5_reciprocal_22 : decode cX5_reciprocal 22 = .ok (.iconst 1, 1) := by decide +kernel
theorem dX5_reciprocal_23 : decode cX5_reciprocal 23 = .ok (.invokevirtual 116, 3) := by decide +kernel
theorem dX5_reciprocal_26 : decode cX5_reciprocal 26 = .ok (.istore_n 2, 1) := by decide +kernel
theorem dX5_reciprocal_27 : decode cX5_reciprocal 27 = .ok (.iload_n 2, 1) := by decide +kernel
theorem dX5_reciprocal_28 : decode cX5_reciprocal 28 = .ok (.i2l, 1) := by decide +kernel
theorem dX5_reciprocal_29 : decode cX5_reciprocal 29 = .ok (.aload_n 0, 1) := by decide +kernel
theorem dX5_reciprocal_30 : decode cX5_reciprocal 30 = .ok (.getfield 10, 3) := by decide +kernel
theorem dX5_reciprocal_33 : decode cX5_reciprocal 33 = .ok (.getfield 91, 3) := by decide +kernel
theorem dX5_reciprocal_36 : decode cX5_reciprocal 36 = .ok (.i2l, 1) := by decide +kernel
theorem dX5_reciprocal_37 : decode cX5_reciprocal 37 = .ok (.aload_n 0, 1) := by decide +kernel
theorem dX5_reciprocal_38 : decode cX5_reciprocal 38 = .ok (.getfield 10, 3) := by decide +kernel
theorem dX5_reciprocal_41 : decode cX5_reciprocal 41 = .ok (.getfield 91, 3) := by decide +kernel
theorem dX5_reciprocal_44 : decode cX5_reciprocal 44 = .ok (.invokestatic 232, 3) := by decide +kernel
theorem dX5_reciprocal_47 : decode cX5_reciprocal 47 = .ok (.aload_n 0, 1) := by decide +kernel
theorem dX5_reciprocal_48 : decode cX5_reciprocal 48 = .ok (.getfield 10, 3) := by decide +kernel
theorem dX5_reciprocal_51 : decode cX5_reciprocal 51 = .ok (.getfield 91, 3) := by decide +kernel
theorem dX5_reciprocal_54 : decode cX5_reciprocal 54 = .ok (.i2l, 1) := by decide +kernel
theorem dX5_reciprocal_55 : decode cX5_reciprocal 55 = .ok (.iload_n 2, 1) := by decide +kernel
theorem dX5_reciprocal_56 : decode cX5_reciprocal 56 = .ok (.i2l, 1) := by decide +kernel
theorem dX5_reciprocal_57 : decode cX5_reciprocal 57 = .ok (.iload_n 2, 1) := by decide +kernel
theorem dX5_reciprocal_58 : decode cX5_reciprocal 58 = .ok (.invokestatic 232, 3) := by decide +kernel
theorem dX5_reciprocal_61 : decode cX5_reciprocal 61 = .ok (.ladd, 1) := by decide +kernel
theorem dX5_reciprocal_62 : decode cX5_reciprocal 62 = .ok (.lreturn, 1) := by decide +kernel
set_option maxRecDepth 20000 in
theorem ggX5_lots_X5_refuse : GoodIn wsX5_lots wsX5_refuse := goodIn_r _ [9, 10, 11, 12, 8, 13, 79, 80, 81, 82, 83, 84, 85, 86, 87, 88, 89] (by decide +kernel) (by decide +kernel)
set_option maxRecDepth 20000 in
theorem gX5_lots_X5_refuse : GoodIn wsX5_lots (wsV RX5 64 RX5 yX5_refuse wsX5_refuse) := goodIn_app (goodIn_of _ (by decide +kernel)) ggX5_lots_X5_refuse
set_option maxRecDepth 20000 in
theorem ggX5_lots_X5_isBelow : GoodIn wsX5_lots wsX5_isBelow := goodIn_r _ [13] (by decide +kernel) (by decide +kernel)
set_option maxRecDepth 20000 in
theorem gX5_lots_X5_isBelow : GoodIn wsX5_lots (va_wsS RX5 109 yX5_isBelow wsX5_isBelow) := goodIn_app (goodIn_of _ (by decide +kernel)) ggX5_lots_X5_isBelow
set_option maxRecDepth 20000 in
theorem ggX5_lots_X3_clear : GoodIn wsX5_lots wsX3_clear := goodIn_r _ [18, 19, 93, 94] (by decide +kernel) (by decide +kernel)
set_option maxRecDepth 20000 in
theorem gX5_lots_X3_clear : GoodIn wsX5_lots (wsV RX5 164 RX3 yX3_clear wsX3_clear) := goodIn_app (goodIn_of _ (by decide +kernel)) ggX5_lots_X3_clear
set_option maxRecDepth 20000 in
theorem ggX5_lots_X5_nextSeed : GoodIn wsX5_lots wsX5_nextSeed := goodIn_r _ [22, 23, 24] (by decide +kernel) (by decide +kernel)
set_option maxRecDepth 20000 in
theorem gX5_lots_X5_nextSeed : GoodIn wsX5_lots (va_wsS RX5 235 yX5_nextSeed wsX5_nextSeed) := goodIn_app (goodIn_of _ (by decide +kernel)) ggX5_lots_X5_nextSeed
set_option maxRecDepth 20000 in
theorem ggX5_lots_X5_drawn : GoodIn wsX5_lots wsX5_drawn := goodIn_r _ [27, 28, 29, 30, 8, 31] (by decide +kernel) (by decide +kernel)
set_option maxRecDepth 20000 in
theorem gX5_lots_X5_drawn : GoodIn wsX5_lots (va_wsS RX5 238 yX5_drawn wsX5_drawn) := goodIn_app (goodIn_of _ (by decide +kernel)) ggX5_lots_X5_drawn
set_option maxRecDepth 20000 in
theorem ggX5_lots_X1_placeOf : GoodIn wsX5_lots wsX1_placeOf := goodIn_r _ [36, 37, 38, 39, 35, 40, 41, 12, 8, 13, 42, 43, 44, 45, 46, 47, 48, 49, 50, 51, 30, 31, 52, 53, 90, 91, 92] (by decide +kernel) (by decide +kernel)
set_option maxRecDepth 20000 in
theorem gX5_lots_X1_placeOf : GoodIn wsX5_lots (wsV RX5 140 RX1 yX1_placeOf wsX1_placeOf) := goodIn_app (goodIn_of _ (by decide +kernel)) ggX5_lots_X1_placeOf
set_option maxRecDepth 20000 in
theorem ggX5_lots_X3_addOnce : GoodIn wsX5_lots wsX3_addOnce := goodIn_r _ [57, 58, 59, 60, 17, 61, 19, 62, 63, 64, 65, 66, 67, 68, 69, 70, 71, 72, 73, 74, 75, 76, 77, 78, 93, 94] (by decide +kernel) (by decide +kernel)
set_option maxRecDepth 20000 in
theorem gX5_lots_X3_addOnce : GoodIn wsX5_lots (wsV RX5 169 RX3 yX3_addOnce wsX3_addOnce) := goodIn_app (goodIn_of _ (by decide +kernel)) ggX5_lots_X3_addOnce
theorem dX5_lots_0 : decode cX5_lots 0 = .ok (.iload_n 1, 1) := by decide +kernel
theorem dX5_lots_1 : decode cX5_lots 1 = .ok (.iconst 1, 1) := by decide +kernel
theorem dX5_lots_2 : decode cX5_lots 2 = .ok (.if_icmp .ge 10, 3) := by decide +kernel
theorem dX5_lots_5 : decode cX5_lots 5 = .ok (.aload_n 0, 1) := by decide +kernel
theorem dX5_lots_6 : decode cX5_lots 6 = .ok (.bipush (-4), 2) := by decide +kernel
theorem dX5_lots_8 : decode cX5_lots 8 = .ok (.invokevirtual 64, 3) := by decide +kernel
theorem dX5_lots_11 : decode cX5_lots 11 = .ok (.ireturn, 1) := by decide +kernel
theorem dX5_lots_12 : decode cX5_lots 12 = .ok (.iload_n 1, 1) := by decide +kernel
theorem dX5_lots_13 : decode cX5_lots 13 = .ok (.bipush 50, 2) := by decide +kernel
theorem dX5_lots_15 : decode cX5_lots 15 = .ok (.if_icmp .le 10, 3) := by decide +kernel
theorem dX5_lots_18 : decode cX5_lots 18 = .ok (.aload_n 0, 1) := by decide +kernel
theorem dX5_lots_19 : decode cX5_lots 19 = .ok (.bipush (-6), 2) := by decide +kernel
theorem dX5_lots_21 : decode cX5_lots 21 = .ok (.invokevirtual 64, 3) := by decide +kernel
theorem dX5_lots_24 : decode cX5_lots 24 = .ok (.ireturn, 1) := by decide +kernel
theorem dX5_lots_25 : decode cX5_lots 25 = .ok (.iload_n 3, 1) := by decide +kernel
theorem dX5_lots_26 : decode cX5_lots 26 = .ok (.iconst 2, 1) := by decide +kernel
theorem dX5_lots_27 : decode cX5_lots 27 = .ok (.invokestatic 109, 3) := by decide +kernel
theorem dX5_lots_30 : decode cX5_lots 30 = .ok (.ifCond .ne 10, 3) := by decide +kernel
theorem dX5_lots_33 : decode cX5_lots 33 = .ok (.aload_n 0, 1) := by decide +kernel
theorem dX5_lots_34 : decode cX5_lots 34 = .ok (.bipush (-2), 2) := by decide +kernel
theorem dX5_lots_36 : decode cX5_lots 36 = .ok (.invokevirtual 64, 3) := by decide +kernel
theorem dX5_lots_39 : decode cX5_lots 39 = .ok (.ireturn, 1) := by decide +kernel
theorem dX5_lots_40 : decode cX5_lots 40 = .ok (.aload_n 0, 1) := by decide +kernel
theorem dX5_lots_41 : decode cX5_lots 41 = .ok (.getfield 10, 3) := by decide +kernel
theorem dX5_lots_44 : decode cX5_lots 44 = .ok (.getfield 103, 3) := by decide +kernel
theorem dX5_lots_47 : decode cX5_lots 47 = .ok (.ifCond .ne 10, 3) := by decide +kernel
theorem dX5_lots_50 : decode cX5_lots 50 = .ok (.aload_n 0, 1) := by decide +kernel
theorem dX5_lots_51 : decode cX5_lots 51 = .ok (.bipush (-3), 2) := by decide +kernel
theorem dX5_lots_53 : decode cX5_lots 53 = .ok (.invokevirtual 64, 3) := by decide +kernel
theorem dX5_lots_56 : decode cX5_lots 56 = .ok (.ireturn, 1) := by decide +kernel
theorem dX5_lots_57 : decode cX5_lots 57 = .ok (.aload_n 0, 1) := by decide +kernel
theorem dX5_lots_58 : decode cX5_lots 58 = .ok (.getfield 57, 3) := by decide +kernel
theorem dX5_lots_61 : decode cX5_lots 61 = .ok (.invokevirtual 164, 3) := by decide +kernel
theorem dX5_lots_64 : decode cX5_lots 64 = .ok (.iload_n 2, 1) := by decide +kernel
theorem dX5_lots_65 : decode cX5_lots 65 = .ok (.istore 4, 2) := by decide +kernel
theorem dX5_lots_67 : decode cX5_lots 67 = .ok (.iconst 0, 1) := by decide +kernel
theorem dX5_lots_68 : decode cX5_lots 68 = .ok (.istore 5, 2) := by decide +kernel
theorem dX5_lots_70 : decode cX5_lots 70 = .ok (.iconst 0, 1) := by decide +kernel
theorem dX5_lots_71 : decode cX5_lots 71 = .ok (.istore 6, 2) := by decide +kernel
theorem dX5_lots_73 : decode cX5_lots 73 = .ok (.iload 6, 2) := by decide +kernel
theorem dX5_lots_75 : decode cX5_lots 75 = .ok (.iload_n 1, 1) := by decide +kernel
theorem dX5_lots_76 : decode cX5_lots 76 = .ok (.if_icmp .ge 72, 3) := by decide +kernel
theorem dX5_lots_79 : decode cX5_lots 79 = .ok (.iload 4, 2) := by decide +kernel
theorem dX5_lots_81 : decode cX5_lots 81 = .ok (.invokestatic 235, 3) := by decide +kernel
theorem dX5_lots_84 : decode cX5_lots 84 = .ok (.istore 4, 2) := by decide +kernel
theorem dX5_lots_86 : decode cX5_lots 86 = .ok (.iload 4, 2) := by decide +kernel
theorem dX5_lots_88 : decode cX5_lots 88 = .ok (.aload_n 0, 1) := by decide +kernel
theorem dX5_lots_89 : decode cX5_lots 89 = .ok (.getfield 10, 3) := by decide +kernel
theorem dX5_lots_92 : decode cX5_lots 92 = .ok (.getfield 103, 3) := by decide +kernel
theorem dX5_lots_95 : decode cX5_lots 95 = .ok (.invokestatic 238, 3) := by decide +kernel
theorem dX5_lots_98 : decode cX5_lots 98 = .ok (.istore 7, 2) := by decide +kernel
theorem dX5_lots_100 : decode cX5_lots 100 = .ok (.iload 4, 2) := by decide +kernel
theorem dX5_lots_102 : decode cX5_lots 102 = .ok (.invokestatic 235, 3) := by decide +kernel
theorem dX5_lots_105 : decode cX5_lots 105 = .ok (.istore 4, 2) := by decide +kernel
theorem dX5_lots_107 : decode cX5_lots 107 = .ok (.aload_n 0, 1) := by decide +kernel
theorem dX5_lots_108 : decode cX5_lots 108 = .ok (.getfield 10, 3) := by decide +kernel
theorem dX5_lots_111 : decode cX5_lots 111 = .ok (.iload 7, 2) := by decide +kernel
theorem dX5_lots_113 : decode cX5_lots 113 = .ok (.iload 4, 2) := by decide +kernel
theorem dX5_lots_115 : decode cX5_lots 115 = .ok (.sipush 200, 3) := by decide +kernel
theorem dX5_lots_118 : decode cX5_lots 118 = .ok (.invokestatic 238, 3) := by decide +kernel
theorem dX5_lots_121 : decode cX5_lots 121 = .ok (.invokevirtual 140, 3) := by decide +kernel
theorem dX5_lots_124 : decode cX5_lots 124 = .ok (.istore 8, 2) := by decide +kernel
theorem dX5_lots_126 : decode cX5_lots 126 = .ok (.aload_n 0, 1) := by decide +kernel
theorem dX5_lots_127 : decode cX5_lots 127 = .ok (.getfield 57, 3) := by decide +kernel
theorem dX5_lots_130 : decode cX5_lots 130 = .ok (.iload 8, 2) := by decide +kernel
theorem dX5_lots_132 : decode cX5_lots 132 = .ok (.invokevirtual 169, 3) := by decide +kernel
theorem dX5_lots_135 : decode cX5_lots 135 = .ok (.iload 5, 2) := by decide +kernel
theorem dX5_lots_137 : decode cX5_lots 137 = .ok (.iload 8, 2) := by decide +kernel
theorem dX5_lots_139 : decode cX5_lots 139 = .ok (.iadd, 1) := by decide +kernel
theorem dX5_lots_140 : decode cX5_lots 140 = .ok (.istore 5, 2) := by decide +kernel
theorem dX5_lots_142 : decode cX5_lots 142 = .ok (.iinc 6 1, 3) := by decide +kernel
theorem dX5_lots_145 : decode cX5_lots 145 = .ok (.goto (-72), 3) := by decide +kernel
theorem dX5_lots_148 : decode cX5_lots 148 = .ok (.iload_n 3, 1) := by decide +kernel
theorem dX5_lots_149 : decode cX5_lots 149 = .ok (.ifCond .ne 13, 3) := by decide +kernel
theorem dX5_lots_152 : decode cX5_lots 152 = .ok (.aload_n 0, 1) := by decide +kernel
theorem dX5_lots_153 : decode cX5_lots 153 = .ok (.getfield 57, 3) := by decide +kernel
theorem dX5_lots_156 : decode cX5_lots 156 = .ok (.getfield 150, 3) := by decide +kernel
theorem dX5_lots_159 : decode cX5_lots 159 = .ok (.goto 5, 3) := by decide +kernel
theorem dX5_lots_162 : decode cX5_lots 162 = .ok (.iload 5, 2) := by decide +kernel
theorem dX5_lots_164 : decode cX5_lots 164 = .ok (.ireturn, 1) := by decide +kernel
set_option maxRecDepth 20000 in
theorem ggX5_list_X5_rowOf : GoodIn wsX5_list wsX5_rowOf := goodIn_r _ [5, 6, 7, 8, 4, 9, 26, 27, 28, 29, 30, 31, 32, 33, 34, 35, 36] (by decide +kernel) (by decide +kernel)
set_option maxRecDepth 20000 in
theorem gX5_list_X5_rowOf : GoodIn wsX5_list (wsV RX5 241 RX5 yX5_rowOf wsX5_rowOf) := goodIn_app (goodIn_of _ (by decide +kernel)) ggX5_list_X5_rowOf
set_option maxRecDepth 20000 in
theorem ggX5_list_X5_refuse : GoodIn wsX5_list wsX5_refuse := goodIn_r _ [13, 14, 7, 8, 4, 9, 26, 27, 28, 29, 30, 31, 32, 33, 34, 35, 36] (by decide +kernel) (by decide +kernel)
set_option maxRecDepth 20000 in
theorem gX5_list_X5_refuse : GoodIn wsX5_list (wsV RX5 64 RX5 yX5_refuse wsX5_refuse) := goodIn_app (goodIn_of _ (by decide +kernel)) ggX5_list_X5_refuse
set_option maxRecDepth 20000 in
theorem ggX5_list_X2_begin : GoodIn wsX5_list wsX2_begin := goodIn_r _ [19, 20, 21, 22, 23, 24, 25, 37, 38] (by decide +kernel) (by decide +kernel)
set_option maxRecDepth 20000 in
theorem gX5_list_X2_begin : GoodIn wsX5_list (wsV RX5 245 RX2 yX2_begin wsX2_begin) := goodIn_app (goodIn_of _ (by decide +kernel)) ggX5_list_X2_begin
theorem dX5_list_0 : decode cX5_list 0 = .ok (.aload_n 0, 1) := by decide +kernel
theorem dX5_list_1 : decode cX5_list 1 = .ok (.iload_n 1, 1) := by decide +kernel
theorem dX5_list_2 : decode cX5_list 2 = .ok (.invokevirtual 241, 3) := by decide +kernel
theorem dX5_list_5 : decode cX5_list 5 = .ok (.astore_n 3, 1) := by decide +kernel
theorem dX5_list_6 : decode cX5_list 6 = .ok (.aload_n 3, 1) := by decide +kernel
theorem dX5_list_7 : decode cX5_list 7 = .ok (.ifnonnull 9, 3) := by decide +kernel
theorem dX5_list_10 : decode cX5_list 10 = .ok (.aload_n 0, 1) := by decide +kernel
theorem dX5_list_11 : decode cX5_list 11 = .ok (.iconst (-1), 1) := by decide +kernel
theorem dX5_list_12 : decode cX5_list 12 = .ok (.invokevirtual 64, 3) := by decide +kernel
theorem dX5_list_15 : decode cX5_list 15 = .ok (.ireturn, 1) := by decide +kernel
theorem dX5_list_16 : decode cX5_list 16 = .ok (.iload_n 2, 1) := by decide +kernel
theorem dX5_list_17 : decode cX5_list 17 = .ok (.bipush 40, 2) := by decide +kernel
theorem dX5_list_19 : decode cX5_list 19 = .ok (.if_icmp .le 10, 3) := by decide +kernel
theorem dX5_list_22 : decode cX5_list 22 = .ok (.aload_n 0, 1) := by decide +kernel
theorem dX5_list_23 : decode cX5_list 23 = .ok (.bipush (-6), 2) := by decide +kernel
theorem dX5_list_25 : decode cX5_list 25 = .ok (.invokevirtual 64, 3) := by decide +kernel
theorem dX5_list_28 : decode cX5_list 28 = .ok (.ireturn, 1) := by decide +kernel
theorem dX5_list_29 : decode cX5_list 29 = .ok (.iload_n 2, 1) := by decide +kernel
theorem dX5_list_30 : decode cX5_list 30 = .ok (.ifCond .ge 6, 3) := by decide +kernel
theorem dX5_list_33 : decode cX5_list 33 = .ok (.bipush (-14), 2) := by decide +kernel
theorem dX5_list_35 : decode cX5_list 35 = .ok (.ireturn, 1) := by decide +kernel
theorem dX5_list_36 : decode cX5_list 36 = .ok (.aload_n 3, 1) := by decide +kernel
theorem dX5_list_37 : decode cX5_list 37 = .ok (.iload_n 2, 1) := by decide +kernel
theorem dX5_list_38 : decode cX5_list 38 = .ok (.invokevirtual 245, 3) := by decide +kernel
theorem dX5_list_41 : decode cX5_list 41 = .ok (.iconst 1, 1) := by decide +kernel
theorem dX5_list_42 : decode cX5_list 42 = .ok (.ireturn, 1) := by decide +kernel
set_option maxRecDepth 20000 in
theorem ggX5_put_X5_rowOf : GoodIn wsX5_put wsX5_rowOf := goodIn_r _ [5, 6, 7, 8, 4, 9, 31, 32, 33, 34, 35, 36, 37, 38, 39, 40, 41] (by decide +kernel) (by decide +kernel)
set_option maxRecDepth 20000 in
theorem gX5_put_X5_rowOf : GoodIn wsX5_put (wsV RX5 241 RX5 yX5_rowOf wsX5_rowOf) := goodIn_app (goodIn_of _ (by decide +kernel)) ggX5_put_X5_rowOf
set_option maxRecDepth 20000 in
theorem ggX5_put_X5_refuse : GoodIn wsX5_put wsX5_refuse := goodIn_r _ [13, 14, 7, 8, 4, 9, 31, 32, 33, 34, 35, 36, 37, 38, 39, 40, 41] (by decide +kernel) (by decide +kernel)
set_option maxRecDepth 20000 in
theorem gX5_put_X5_refuse : GoodIn wsX5_put (wsV RX5 64 RX5 yX5_refuse wsX5_refuse) := goodIn_app (goodIn_of _ (by decide +kernel)) ggX5_put_X5_refuse
set_option maxRecDepth 20000 in
theorem ggX5_put_X2_isMissing : GoodIn wsX5_put wsX2_isMissing := goodIn_r _ [19, 20, 42, 43] (by decide +kernel) (by decide +kernel)
set_option maxRecDepth 20000 in
theorem gX5_put_X2_isMissing : GoodIn wsX5_put (wsV RX5 248 RX2 yX2_isMissing wsX2_isMissing) := goodIn_app (goodIn_of _ (by decide +kernel)) ggX5_put_X2_isMissing
set_option maxRecDepth 20000 in
theorem ggX5_put_X2_hasPlace : GoodIn wsX5_put wsX2_hasPlace := goodIn_r _ [24, 20, 25, 8, 4, 9, 42, 43] (by decide +kernel) (by decide +kernel)
set_option maxRecDepth 20000 in
theorem gX5_put_X2_hasPlace : GoodIn wsX5_put (wsV RX5 251 RX2 yX2_hasPlace wsX2_hasPlace) := goodIn_app (goodIn_of _ (by decide +kernel)) ggX5_put_X2_hasPlace
set_option maxRecDepth 20000 in
theorem ggX5_put_X2_set : GoodIn wsX5_put wsX2_set := goodIn_r _ [29, 25, 30, 22, 23, 18, 24, 20, 8, 4, 9, 42, 43] (by decide +kernel) (by decide +kernel)
set_option maxRecDepth 20000 in
theorem gX5_put_X2_set : GoodIn wsX5_put (wsV RX5 254 RX2 yX2_set wsX2_set) := goodIn_app (goodIn_of _ (by decide +kernel)) ggX5_put_X2_set
theorem dX5_put_0 : decode cX5_put 0 = .ok (.aload_n 0, 1) := by decide +kernel
theorem dX5_put_1 : decode cX5_put 1 = .ok (.iload_n 1, 1) := by decide +kernel
theorem dX5_put_2 : decode cX5_put 2 = .ok (.invokevirtual 241, 3) := by decide +kernel
theorem dX5_put_5 : decode cX5_put 5 = .ok (.astore 4, 2) := by decide +kernel
theorem dX5_put_7 : decode cX5_put 7 = .ok (.aload 4, 2) := by decide +kernel
theorem dX5_put_9 : decode cX5_put 9 = .ok (.ifnonnull 9, 3) := by decide +kernel
theorem dX5_put_12 : decode cX5_put 12 = .ok (.aload_n 0, 1) := by decide +kernel
theorem dX5_put_13 : decode cX5_put 13 = .ok (.iconst (-1), 1) := by decide +kernel
theorem dX5_put_14 : decode cX5_put 14 = .ok (.invokevirtual 64, 3) := by decide +kernel
theorem dX5_put_17 : decode cX5_put 17 = .ok (.ireturn, 1) := by decide +kernel
theorem dX5_put_18 : decode cX5_put 18 = .ok (.aload 4, 2) := by decide +kernel
theorem dX5_put_20 : decode cX5_put 20 = .ok (.invokevirtual 248, 3) := by decide +kernel
theorem dX5_put_23 : decode cX5_put 23 = .ok (.ifCond .eq 6, 3) := by decide +kernel
theorem dX5_put_26 : decode cX5_put 26 = .ok (.bipush (-11), 2) := by decide +kernel
theorem dX5_put_28 : decode cX5_put 28 = .ok (.ireturn, 1) := by decide +kernel
theorem dX5_put_29 : decode cX5_put 29 = .ok (.aload 4, 2) := by decide +kernel
theorem dX5_put_31 : decode cX5_put 31 = .ok (.iload_n 2, 1) := by decide +kernel
theorem dX5_put_32 : decode cX5_put 32 = .ok (.invokevirtual 251, 3) := by decide +kernel
theorem dX5_put_35 : decode cX5_put 35 = .ok (.ifCond .ne 6, 3) := by decide +kernel
theorem dX5_put_38 : decode cX5_put 38 = .ok (.bipush (-13), 2) := by decide +kernel
theorem dX5_put_40 : decode cX5_put 40 = .ok (.ireturn, 1) := by decide +kernel
theorem dX5_put_41 : decode cX5_put 41 = .ok (.aload 4, 2) := by decide +kernel
theorem dX5_put_43 : decode cX5_put 43 = .ok (.iload_n 2, 1) := by decide +kernel
theorem dX5_put_44 : decode cX5_put 44 = .ok (.iload_n 3, 1) := by decide +kernel
theorem dX5_put_45 : decode cX5_put 45 = .ok (.invokevirtual 254, 3) := by decide +kernel
theorem dX5_put_48 : decode cX5_put 48 = .ok (.iconst 1, 1) := by decide +kernel
theorem dX5_put_49 : decode cX5_put 49 = .ok (.ireturn, 1) := by decide +kernel
set_option maxRecDepth 20000 in
theorem ggX5_look_X5_rowOf : GoodIn wsX5_look wsX5_rowOf := goodIn_r _ [7, 8, 9, 10, 6, 11, 38, 39, 40, 41, 42, 43, 44, 45, 46, 47, 48] (by decide +kernel) (by decide +kernel)
set_option maxRecDepth 20000 in
theorem gX5_look_X5_rowOf : GoodIn wsX5_look (wsV RX5 241 RX5 yX5_rowOf wsX5_rowOf) := goodIn_app (goodIn_of _ (by decide +kernel)) ggX5_look_X5_rowOf
set_option maxRecDepth 20000 in
theorem ggX5_look_X5_refuseLong : GoodIn wsX5_look wsX5_refuseLong := goodIn_r _ [15, 16, 17, 18, 19, 6, 20, 21, 9, 10, 11, 38, 39, 40, 41, 42, 43, 44, 45, 46, 47, 48] (by decide +kernel) (by decide +kernel)
set_option maxRecDepth 20000 in
theorem gX5_look_X5_refuseLong : GoodIn wsX5_look (wsV RX5 179 RX5 yX5_refuseLong wsX5_refuseLong) := goodIn_app (goodIn_of _ (by decide +kernel)) ggX5_look_X5_refuseLong
set_option maxRecDepth 20000 in
theorem ggX5_look_X2_isMissing : GoodIn wsX5_look wsX2_isMissing := goodIn_r _ [26, 27, 49, 50] (by decide +kernel) (by decide +kernel)
set_option maxRecDepth 20000 in
theorem gX5_look_X2_isMissing : GoodIn wsX5_look (wsV RX5 248 RX2 yX2_isMissing wsX2_isMissing) := goodIn_app (goodIn_of _ (by decide +kernel)) ggX5_look_X2_isMissing
set_option maxRecDepth 20000 in
theorem ggX5_look_X2_hasPlace : GoodIn wsX5_look wsX2_hasPlace := goodIn_r _ [31, 27, 32, 10, 6, 11, 49, 50] (by decide +kernel) (by decide +kernel)
set_option maxRecDepth 20000 in
theorem gX5_look_X2_hasPlace : GoodIn wsX5_look (wsV RX5 251 RX2 yX2_hasPlace wsX2_hasPlace) := goodIn_app (goodIn_of _ (by decide +kernel)) ggX5_look_X2_hasPlace
set_option maxRecDepth 20000 in
theorem ggX5_look_X2_get : GoodIn wsX5_look wsX2_get := goodIn_r _ [36, 32, 37, 29, 30, 25, 31, 27, 10, 6, 11, 49, 50] (by decide +kernel) (by decide +kernel)
set_option maxRecDepth 20000 in
theorem gX5_look_X2_get : GoodIn wsX5_look (wsV RX5 261 RX2 yX2_get wsX2_get) := goodIn_app (goodIn_of _ (by decide +kernel)) ggX5_look_X2_get
theorem dX5_look_0 : decode cX5_look 0 = .ok (.aload_n 0, 1) := by decide +kernel
theorem dX5_look_1 : decode cX5_look 1 = .ok (.iload_n 1, 1) := by decide +kernel
theorem dX5_look_2 : decode cX5_look 2 = .ok (.invokevirtual 241, 3) := by decide +kernel
theorem dX5_look_5 : decode cX5_look 5 = .ok (.astore_n 3, 1) := by decide +kernel
theorem dX5_look_6 : decode cX5_look 6 = .ok (.aload_n 3, 1) := by decide +kernel
theorem dX5_look_7 : decode cX5_look 7 = .ok (.ifnonnull 9, 3) := by decide +kernel
theorem dX5_look_10 : decode cX5_look 10 = .ok (.aload_n 0, 1) := by decide +kernel
theorem dX5_look_11 : decode cX5_look 11 = .ok (.iconst (-1), 1) := by decide +kernel
theorem dX5_look_12 : decode cX5_look 12 = .ok (.invokevirtual 179, 3) := by decide +kernel
theorem dX5_look_15 : decode cX5_look 15 = .ok (.lreturn, 1) := by decide +kernel
theorem dX5_look_16 : decode cX5_look 16 = .ok (.aload_n 3, 1) := by decide +kernel
theorem dX5_look_17 : decode cX5_look 17 = .ok (.invokevirtual 248, 3) := by decide +kernel
theorem dX5_look_20 : decode cX5_look 20 = .ok (.ifCond .eq 7, 3) := by decide +kernel
theorem dX5_look_23 : decode cX5_look 23 = .ok (.ldc2_w 257, 3) := by decide +kernel
theorem dX5_look_26 : decode cX5_look 26 = .ok (.lreturn, 1) := by decide +kernel
theorem dX5_look_27 : decode cX5_look 27 = .ok (.aload_n 3, 1) := by decide +kernel
theorem dX5_look_28 : decode cX5_look 28 = .ok (.iload_n 2, 1) := by decide +kernel
theorem dX5_look_29 : decode cX5_look 29 = .ok (.invokevirtual 251, 3) := by decide +kernel
theorem dX5_look_32 : decode cX5_look 32 = .ok (.ifCond .ne 7, 3) := by decide +kernel
theorem dX5_look_35 : decode cX5_look 35 = .ok (.ldc2_w 259, 3) := by decide +kernel
theorem dX5_look_38 : decode cX5_look 38 = .ok (.lreturn, 1) := by decide +kernel
theorem dX5_look_39 : decode cX5_look 39 = .ok (.aload_n 3, 1) := by decide +kernel
theorem dX5_look_40 : decode cX5_look 40 = .ok (.iload_n 2, 1) := by decide +kernel
theorem dX5_look_41 : decode cX5_look 41 = .ok (.invokevirtual 261, 3) := by decide +kernel
theorem dX5_look_44 : decode cX5_look 44 = .ok (.i2l, 1) := by decide +kernel
theorem dX5_look_45 : decode cX5_look 45 = .ok (.lreturn, 1) := by decide +kernel
set_option maxRecDepth 20000 in
theorem ggX5_lays_X5_rowOf : GoodIn wsX5_lays wsX5_rowOf := goodIn_r _ [7, 8, 9, 10, 6, 11, 62, 63, 64, 65, 66, 67, 68, 69, 70, 71, 72] (by decide +kernel) (by decide +kernel)
set_option maxRecDepth 20000 in
theorem gX5_lays_X5_rowOf : GoodIn wsX5_lays (wsV RX5 241 RX5 yX5_rowOf wsX5_rowOf) := goodIn_app (goodIn_of _ (by decide +kernel)) ggX5_lays_X5_rowOf
set_option maxRecDepth 20000 in
theorem ggX5_lays_X1_has : GoodIn wsX5_lays wsX1_has := goodIn_r _ [16, 17, 10, 6, 11, 75, 76, 77] (by decide +kernel) (by decide +kernel)
set_option maxRecDepth 20000 in
theorem gX5_lays_X1_has : GoodIn wsX5_lays (wsV RX5 106 RX1 yX1_has wsX1_has) := goodIn_app (goodIn_of _ (by decide +kernel)) ggX5_lays_X1_has
set_option maxRecDepth 20000 in
theorem ggX5_lays_X5_refuse : GoodIn wsX5_lays wsX5_refuse := goodIn_r _ [21, 22, 9, 10, 6, 11, 62, 63, 64, 65, 66, 67, 68, 69, 70, 71, 72] (by decide +kernel) (by decide +kernel)
set_option maxRecDepth 20000 in
theorem gX5_lays_X5_refuse : GoodIn wsX5_lays (wsV RX5 64 RX5 yX5_refuse wsX5_refuse) := goodIn_app (goodIn_of _ (by decide +kernel)) ggX5_lays_X5_refuse
set_option maxRecDepth 20000 in
theorem ggX5_lays_X2_isMissing : GoodIn wsX5_lays wsX2_isMissing := goodIn_r _ [27, 28, 73, 74] (by decide +kernel) (by decide +kernel)
set_option maxRecDepth 20000 in
theorem gX5_lays_X2_isMissing : GoodIn wsX5_lays (wsV RX5 248 RX2 yX2_isMissing wsX2_isMissing) := goodIn_app (goodIn_of _ (by decide +kernel)) ggX5_lays_X2_isMissing
set_option maxRecDepth 20000 in
theorem ggX5_lays_X2_hasPlace : GoodIn wsX5_lays wsX2_hasPlace := goodIn_r _ [32, 28, 33, 10, 6, 11, 73, 74] (by decide +kernel) (by decide +kernel)
set_option maxRecDepth 20000 in
theorem gX5_lays_X2_hasPlace : GoodIn wsX5_lays (wsV RX5 251 RX2 yX2_hasPlace wsX2_hasPlace) := goodIn_app (goodIn_of _ (by decide +kernel)) ggX5_lays_X2_hasPlace
set_option maxRecDepth 20000 in
theorem ggX5_lays_X1_placeOf : GoodIn wsX5_lays wsX1_placeOf := goodIn_r _ [37, 38, 39, 40, 15, 41, 42, 10, 6, 11, 43, 44, 45, 46, 47, 48, 49, 50, 51, 52, 53, 54, 55, 56, 75, 76, 77] (by decide +kernel) (by decide +kernel)
set_option maxRecDepth 20000 in
theorem gX5_lays_X1_placeOf : GoodIn wsX5_lays (wsV RX5 140 RX1 yX1_placeOf wsX1_placeOf) := goodIn_app (goodIn_of _ (by decide +kernel)) ggX5_lays_X1_placeOf
set_option maxRecDepth 20000 in
theorem ggX5_lays_X2_set : GoodIn wsX5_lays wsX2_set := goodIn_r _ [60, 33, 61, 30, 31, 26, 32, 28, 10, 6, 11, 73, 74] (by decide +kernel) (by decide +kernel)
set_option maxRecDepth 20000 in
theorem gX5_lays_X2_set : GoodIn wsX5_lays (wsV RX5 254 RX2 yX2_set wsX2_set) := goodIn_app (goodIn_of _ (by decide +kernel)) ggX5_lays_X2_set
theorem dX5_lays_0 : decode cX5_lays 0 = .ok (.aload_n 0, 1) := by decide +kernel
theorem dX5_lays_1 : decode cX5_lays 1 = .ok (.iload_n 1, 1) := by decide +kernel
theorem dX5_lays_2 : decode cX5_lays 2 = .ok (.invokevirtual 241, 3) := by decide +kernel
theorem dX5_lays_5 : decode cX5_lays 5 = .ok (.astore 4, 2) := by decide +kernel
theorem dX5_lays_7 : decode cX5_lays 7 = .ok (.aload 4, 2) := by decide +kernel
theorem dX5_lays_9 : decode cX5_lays 9 = .ok (.ifnull 14, 3) := by decide +kernel
theorem dX5_lays_12 : decode cX5_lays 12 = .ok (.aload_n 0, 1) := by decide +kernel
theorem dX5_lays_13 : decode cX5_lays 13 = .ok (.getfield 10, 3) := by decide +kernel
theorem dX5_lays_16 : decode cX5_lays 16 = .ok (.iload_n 3, 1) := by decide +kernel
theorem dX5_lays_17 : decode cX5_lays 17 = .ok (.invokevirtual 106, 3) := by decide +kernel
theorem dX5_lays_20 : decode cX5_lays 20 = .ok (.ifCond .ne 9, 3) := by decide +kernel
theorem dX5_lays_23 : decode cX5_lays 23 = .ok (.aload_n 0, 1) := by decide +kernel
theorem dX5_lays_24 : decode cX5_lays 24 = .ok (.iconst (-1), 1) := by decide +kernel
theorem dX5_lays_25 : decode cX5_lays 25 = .ok (.invokevirtual 64, 3) := by decide +kernel
theorem dX5_lays_28 : decode cX5_lays 28 = .ok (.ireturn, 1) := by decide +kernel
theorem dX5_lays_29 : decode cX5_lays 29 = .ok (.aload 4, 2) := by decide +kernel
theorem dX5_lays_31 : decode cX5_lays 31 = .ok (.invokevirtual 248, 3) := by decide +kernel
theorem dX5_lays_34 : decode cX5_lays 34 = .ok (.ifCond .eq 6, 3) := by decide +kernel
theorem dX5_lays_37 : decode cX5_lays 37 = .ok (.bipush (-11), 2) := by decide +kernel
theorem dX5_lays_39 : decode cX5_lays 39 = .ok (.ireturn, 1) := by decide +kernel
theorem dX5_lays_40 : decode cX5_lays 40 = .ok (.aload 4, 2) := by decide +kernel
theorem dX5_lays_42 : decode cX5_lays 42 = .ok (.iload_n 2, 1) := by decide +kernel
theorem dX5_lays_43 : decode cX5_lays 43 = .ok (.invokevirtual 251, 3) := by decide +kernel
theorem dX5_lays_46 : decode cX5_lays 46 = .ok (.ifCond .ne 6, 3) := by decide +kernel
theorem dX5_lays_49 : decode cX5_lays 49 = .ok (.bipush (-13), 2) := by decide +kernel
theorem dX5_lays_51 : decode cX5_lays 51 = .ok (.ireturn, 1) := by decide +kernel
theorem dX5_lays_52 : decode cX5_lays 52 = .ok (.iload_n 2, 1) := by decide +kernel
theorem dX5_lays_53 : decode cX5_lays 53 = .ok (.istore 5, 2) := by decide +kernel
theorem dX5_lays_55 : decode cX5_lays 55 = .ok (.iload 5, 2) := by decide +kernel
theorem dX5_lays_57 : decode cX5_lays 57 = .ok (.aload 4, 2) := by decide +kernel
theorem dX5_lays_59 : decode cX5_lays 59 = .ok (.getfield 262, 3) := by decide +kernel
theorem dX5_lays_62 : decode cX5_lays 62 = .ok (.if_icmp .ge 28, 3) := by decide +kernel
theorem dX5_lays_65 : decode cX5_lays 65 = .ok (.aload 4, 2) := by decide +kernel
theorem dX5_lays_67 : decode cX5_lays 67 = .ok (.iload 5, 2) := by decide +kernel
theorem dX5_lays_69 : decode cX5_lays 69 = .ok (.aload_n 0, 1) := by decide +kernel
theorem dX5_lays_70 : decode cX5_lays 70 = .ok (.getfield 10, 3) := by decide +kernel
theorem dX5_lays_73 : decode cX5_lays 73 = .ok (.iload_n 3, 1) := by decide +kernel
theorem dX5_lays_74 : decode cX5_lays 74 = .ok (.iload 5, 2) := by decide +kernel
theorem dX5_lays_76 : decode cX5_lays 76 = .ok (.iload_n 2, 1) := by decide +kernel
theorem dX5_lays_77 : decode cX5_lays 77 = .ok (.isub, 1) := by decide +kernel
theorem dX5_lays_78 : decode cX5_lays 78 = .ok (.invokevirtual 140, 3) := by decide +kernel
theorem dX5_lays_81 : decode cX5_lays 81 = .ok (.invokevirtual 254, 3) := by decide +kernel
theorem dX5_lays_84 : decode cX5_lays 84 = .ok (.iinc 5 1, 3) := by decide +kernel
theorem dX5_lays_87 : decode cX5_lays 87 = .ok (.goto (-32), 3) := by decide +kernel
theorem dX5_lays_90 : decode cX5_lays 90 = .ok (.aload 4, 2) := by decide +kernel
theorem dX5_lays_92 : decode cX5_lays 92 = .ok (.getfield 262, 3) := by decide +kernel
theorem dX5_lays_95 : decode cX5_lays 95 = .ok (.iload_n 2, 1) := by decide +kernel
theorem dX5_lays_96 : decode cX5_lays 96 = .ok (.isub, 1) := by decide +kernel
theorem dX5_lays_97 : decode cX5_lays 97 = .ok (.ireturn, 1) := by decide +kernel
set_option maxRecDepth 20000 in
theorem ggX5_judge_X5_rowOf : GoodIn wsX5_judge wsX5_rowOf := goodIn_r _ [6, 7, 8, 9, 5, 10, 62, 63, 64, 65, 66, 67, 68, 69, 70, 71, 72] (by decide +kernel) (by decide +kernel)
set_option maxRecDepth 20000 in
theorem gX5_judge_X5_rowOf : GoodIn wsX5_judge (wsV RX5 241 RX5 yX5_rowOf wsX5_rowOf) := goodIn_app (goodIn_of _ (by decide +kernel)) ggX5_judge_X5_rowOf
set_option maxRecDepth 20000 in
theorem ggX5_judge_X1_has : GoodIn wsX5_judge wsX1_has := goodIn_r _ [15, 16, 9, 5, 10, 73, 74, 75] (by decide +kernel) (by decide +kernel)
set_option maxRecDepth 20000 in
theorem gX5_judge_X1_has : GoodIn wsX5_judge (wsV RX5 106 RX1 yX1_has wsX1_has) := goodIn_app (goodIn_of _ (by decide +kernel)) ggX5_judge_X1_has
set_option maxRecDepth 20000 in
theorem ggX5_judge_X5_refuse : GoodIn wsX5_judge wsX5_refuse := goodIn_r _ [20, 21, 8, 9, 5, 10, 62, 63, 64, 65, 66, 67, 68, 69, 70, 71, 72] (by decide +kernel) (by decide +kernel)
set_option maxRecDepth 20000 in
theorem gX5_judge_X5_refuse : GoodIn wsX5_judge (wsV RX5 64 RX5 yX5_refuse wsX5_refuse) := goodIn_app (goodIn_of _ (by decide +kernel)) ggX5_judge_X5_refuse
set_option maxRecDepth 20000 in
theorem ggX5_judge_X2_isMissing : GoodIn wsX5_judge wsX2_isMissing := goodIn_r _ [26, 27, 76, 77] (by decide +kernel) (by decide +kernel)
set_option maxRecDepth 20000 in
theorem gX5_judge_X2_isMissing : GoodIn wsX5_judge (wsV RX5 248 RX2 yX2_isMissing wsX2_isMissing) := goodIn_app (goodIn_of _ (by decide +kernel)) ggX5_judge_X2_isMissing
set_option maxRecDepth 20000 in
theorem ggX5_judge_X1_value : GoodIn wsX5_judge wsX1_value := goodIn_r _ [31, 32, 9, 5, 10, 73, 74, 75] (by decide +kernel) (by decide +kernel)
set_option maxRecDepth 20000 in
theorem gX5_judge_X1_value : GoodIn wsX5_judge (wsV RX5 116 RX1 yX1_value wsX1_value) := goodIn_app (goodIn_of _ (by decide +kernel)) ggX5_judge_X1_value
set_option maxRecDepth 20000 in
theorem ggX5_judge_X5_firstOtherwise : GoodIn wsX5_judge wsX5_firstOtherwise := goodIn_r _ [36, 37, 1, 38, 39, 40, 25, 41, 42, 43, 44, 45, 46, 27, 9, 5, 10, 47, 48, 49, 14, 50, 51, 52, 29, 30, 31, 32, 53, 54, 55, 56, 57, 58, 59, 60, 61, 76, 77, 62, 63, 64, 65, 66, 67, 68, 69, 70, 71, 72, 73, 74, 75] (by decide +kernel) (by decide +kernel)
set_option maxRecDepth 20000 in
theorem gX5_judge_X5_firstOtherwise : GoodIn wsX5_judge (wsV RX5 263 RX5 yX5_firstOtherwise wsX5_firstOtherwise) := goodIn_app (goodIn_of _ (by decide +kernel)) ggX5_judge_X5_firstOtherwise
theorem dX5_judge_0 : decode cX5_judge 0 = .ok (.aload_n 0, 1) := by decide +kernel
theorem dX5_judge_1 : decode cX5_judge 1 = .ok (.iload_n 1, 1) := by decide +kernel
theorem dX5_judge_2 : decode cX5_judge 2 = .ok (.invokevirtual 241, 3) := by decide +kernel
theorem dX5_judge_5 : decode cX5_judge 5 = .ok (.astore_n 3, 1) := by decide +kernel
theorem dX5_judge_6 : decode cX5_judge 6 = .ok (.aload_n 3, 1) := by decide +kernel
theorem dX5_judge_7 : decode cX5_judge 7 = .ok (.ifnull 14, 3) := by decide +kernel
theorem dX5_judge_10 : decode cX5_judge 10 = .ok (.aload_n 0, 1) := by decide +kernel
theorem dX5_judge_11 : decode cX5_judge 11 = .ok (.getfield 10, 3) := by decide +kernel
theorem dX5_judge_14 : decode cX5_judge 14 = .ok (.iload_n 2, 1) := by decide +kernel
theorem dX5_judge_15 : decode cX5_judge 15 = .ok (.invokevirtual 106, 3) := by decide +kernel
theorem dX5_judge_18 : decode cX5_judge 18 = .ok (.ifCond .ne 9, 3) := by decide +kernel
theorem dX5_judge_21 : decode cX5_judge 21 = .ok (.aload_n 0, 1) := by decide +kernel
theorem dX5_judge_22 : decode cX5_judge 22 = .ok (.iconst (-1), 1) := by decide +kernel
theorem dX5_judge_23 : decode cX5_judge 23 = .ok (.invokevirtual 64, 3) := by decide +kernel
theorem dX5_judge_26 : decode cX5_judge 26 = .ok (.ireturn, 1) := by decide +kernel
theorem dX5_judge_27 : decode cX5_judge 27 = .ok (.aload_n 3, 1) := by decide +kernel
theorem dX5_judge_28 : decode cX5_judge 28 = .ok (.invokevirtual 248, 3) := by decide +kernel
theorem dX5_judge_31 : decode cX5_judge 31 = .ok (.ifCond .eq 6, 3) := by decide +kernel
theorem dX5_judge_34 : decode cX5_judge 34 = .ok (.bipush (-11), 2) := by decide +kernel
theorem dX5_judge_36 : decode cX5_judge 36 = .ok (.ireturn, 1) := by decide +kernel
theorem dX5_judge_37 : decode cX5_judge 37 = .ok (.aload_n 0, 1) := by decide +kernel
theorem dX5_judge_38 : decode cX5_judge 38 = .ok (.aload_n 3, 1) := by decide +kernel
theorem dX5_judge_39 : decode cX5_judge 39 = .ok (.iload_n 2, 1) := by decide +kernel
theorem dX5_judge_40 : decode cX5_judge 40 = .ok (.aload_n 0, 1) := by decide +kernel
theorem dX5_judge_41 : decode cX5_judge 41 = .ok (.getfield 10, 3) := by decide +kernel
theorem dX5_judge_44 : decode cX5_judge 44 = .ok (.iload_n 2, 1) := by decide +kernel
theorem dX5_judge_45 : decode cX5_judge 45 = .ok (.iconst 0, 1) := by decide +kernel
theorem dX5_judge_46 : decode cX5_judge 46 = .ok (.invokevirtual 116, 3) := by decide +kernel
theorem dX5_judge_49 : decode cX5_judge 49 = .ok (.invokevirtual 263, 3) := by decide +kernel
theorem dX5_judge_52 : decode cX5_judge 52 = .ok (.ireturn, 1) := by decide +kernel
set_option maxRecDepth 20000 in
theorem ggX5_steps_X5_rowOf : GoodIn wsX5_steps wsX5_rowOf := goodIn_r _ [5, 6, 7, 8, 4, 9, 49, 50, 51, 52, 53, 54, 55, 56, 57, 58, 59] (by decide +kernel) (by decide +kernel)
set_option maxRecDepth 20000 in
theorem gX5_steps_X5_rowOf : GoodIn wsX5_steps (wsV RX5 241 RX5 yX5_rowOf wsX5_rowOf) := goodIn_app (goodIn_of _ (by decide +kernel)) ggX5_steps_X5_rowOf
set_option maxRecDepth 20000 in
theorem ggX5_steps_X5_refuse : GoodIn wsX5_steps wsX5_refuse := goodIn_r _ [13, 14, 7, 8, 4, 9, 49, 50, 51, 52, 53, 54, 55, 56, 57, 58, 59] (by decide +kernel) (by decide +kernel)
set_option maxRecDepth 20000 in
theorem gX5_steps_X5_refuse : GoodIn wsX5_steps (wsV RX5 64 RX5 yX5_refuse wsX5_refuse) := goodIn_app (goodIn_of _ (by decide +kernel)) ggX5_steps_X5_refuse
set_option maxRecDepth 20000 in
theorem ggX5_steps_X5_isBelow : GoodIn wsX5_steps wsX5_isBelow := goodIn_r _ [9] (by decide +kernel) (by decide +kernel)
set_option maxRecDepth 20000 in
theorem gX5_steps_X5_isBelow : GoodIn wsX5_steps (va_wsS RX5 109 yX5_isBelow wsX5_isBelow) := goodIn_app (goodIn_of _ (by decide +kernel)) ggX5_steps_X5_isBelow
set_option maxRecDepth 20000 in
theorem ggX5_steps_X2_isMissing : GoodIn wsX5_steps wsX2_isMissing := goodIn_r _ [19, 20, 60, 61] (by decide +kernel) (by decide +kernel)
set_option maxRecDepth 20000 in
theorem gX5_steps_X2_isMissing : GoodIn wsX5_steps (wsV RX5 248 RX2 yX2_isMissing wsX2_isMissing) := goodIn_app (goodIn_of _ (by decide +kernel)) ggX5_steps_X2_isMissing
set_option maxRecDepth 20000 in
theorem ggX5_steps_X5_tellsPlaces : GoodIn wsX5_steps wsX5_tellsPlaces := goodIn_r _ [24, 25, 26, 27, 28, 29, 30, 18, 31, 32, 33, 34, 35, 36, 20, 8, 4, 9, 7, 60, 61, 49, 50, 51, 52, 53, 54, 55, 56, 57, 58, 59, 62, 63, 64] (by decide +kernel) (by decide +kernel)
set_option maxRecDepth 20000 in
theorem gX5_steps_X5_tellsPlaces : GoodIn wsX5_steps (wsV RX5 267 RX5 yX5_tellsPlaces wsX5_tellsPlaces) := goodIn_app (goodIn_of _ (by decide +kernel)) ggX5_steps_X5_tellsPlaces
set_option maxRecDepth 20000 in
theorem ggX5_steps_X5_stepBy : GoodIn wsX5_steps wsX5_stepBy := goodIn_r _ [40, 26, 25, 28, 29, 30, 18, 31, 32, 33, 34, 35, 36, 20, 8, 4, 9, 41, 42, 43, 44, 45, 46, 47, 48, 49, 50, 51, 52, 53, 54, 55, 56, 57, 58, 59, 60, 61, 62, 63, 64] (by decide +kernel) (by decide +kernel)
set_option maxRecDepth 20000 in
theorem gX5_steps_X5_stepBy : GoodIn wsX5_steps (wsV RX5 271 RX5 yX5_stepBy wsX5_stepBy) := goodIn_app (goodIn_of _ (by decide +kernel)) ggX5_steps_X5_stepBy
theorem dX5_steps_0 : decode cX5_steps 0 = .ok (.aload_n 0, 1) := by decide +kernel
theorem dX5_steps_1 : decode cX5_steps 1 = .ok (.iload_n 1, 1) := by decide +kernel
theorem dX5_steps_2 : decode cX5_steps 2 = .ok (.invokevirtual 241, 3) := by decide +kernel
theorem dX5_steps_5 : decode cX5_steps 5 = .ok (.astore_n 3, 1) := by decide +kernel
theorem dX5_steps_6 : decode cX5_steps 6 = .ok (.aload_n 3, 1) := by decide +kernel
theorem dX5_steps_7 : decode cX5_steps 7 = .ok (.ifnonnull 9, 3) := by decide +kernel
theorem dX5_steps_10 : decode cX5_steps 10 = .ok (.aload_n 0, 1) := by decide +kernel
theorem dX5_steps_11 : decode cX5_steps 11 = .ok (.iconst (-1), 1) := by decide +kernel
theorem dX5_steps_12 : decode cX5_steps 12 = .ok (.invokevirtual 64, 3) := by decide +kernel
theorem dX5_steps_15 : decode cX5_steps 15 = .ok (.ireturn, 1) := by decide +kernel
theorem dX5_steps_16 : decode cX5_steps 16 = .ok (.iload_n 2, 1) := by decide +kernel
theorem dX5_steps_17 : decode cX5_steps 17 = .ok (.iconst 2, 1) := by decide +kernel
theorem dX5_steps_18 : decode cX5_steps 18 = .ok (.invokestatic 109, 3) := by decide +kernel
theorem dX5_steps_21 : decode cX5_steps 21 = .ok (.ifCond .ne 10, 3) := by decide +kernel
theorem dX5_steps_24 : decode cX5_steps 24 = .ok (.aload_n 0, 1) := by decide +kernel
theorem dX5_steps_25 : decode cX5_steps 25 = .ok (.bipush (-2), 2) := by decide +kernel
theorem dX5_steps_27 : decode cX5_steps 27 = .ok (.invokevirtual 64, 3) := by decide +kernel
theorem dX5_steps_30 : decode cX5_steps 30 = .ok (.ireturn, 1) := by decide +kernel
theorem dX5_steps_31 : decode cX5_steps 31 = .ok (.aload_n 3, 1) := by decide +kernel
theorem dX5_steps_32 : decode cX5_steps 32 = .ok (.invokevirtual 248, 3) := by decide +kernel
theorem dX5_steps_35 : decode cX5_steps 35 = .ok (.ifCond .eq 6, 3) := by decide +kernel
theorem dX5_steps_38 : decode cX5_steps 38 = .ok (.bipush (-11), 2) := by decide +kernel
theorem dX5_steps_40 : decode cX5_steps 40 = .ok (.ireturn, 1) := by decide +kernel
theorem dX5_steps_41 : decode cX5_steps 41 = .ok (.aload_n 0, 1) := by decide +kernel
theorem dX5_steps_42 : decode cX5_steps 42 = .ok (.aload_n 3, 1) := by decide +kernel
theorem dX5_steps_43 : decode cX5_steps 43 = .ok (.invokevirtual 267, 3) := by decide +kernel
theorem dX5_steps_46 : decode cX5_steps 46 = .ok (.ifCond .ne 10, 3) := by decide +kernel
theorem dX5_steps_49 : decode cX5_steps 49 = .ok (.aload_n 0, 1) := by decide +kernel
theorem dX5_steps_50 : decode cX5_steps 50 = .ok (.bipush (-3), 2) := by decide +kernel
theorem dX5_steps_52 : decode cX5_steps 52 = .ok (.invokevirtual 64, 3) := by decide +kernel
theorem dX5_steps_55 : decode cX5_steps 55 = .ok (.ireturn, 1) := by decide +kernel
theorem dX5_steps_56 : decode cX5_steps 56 = .ok (.aload_n 0, 1) := by decide +kernel
theorem dX5_steps_57 : decode cX5_steps 57 = .ok (.aload_n 3, 1) := by decide +kernel
theorem dX5_steps_58 : decode cX5_steps 58 = .ok (.invokevirtual 271, 3) := by decide +kernel
theorem dX5_steps_61 : decode cX5_steps 61 = .ok (.istore 4, 2) := by decide +kernel
theorem dX5_steps_63 : decode cX5_steps 63 = .ok (.iload_n 2, 1) := by decide +kernel
theorem dX5_steps_64 : decode cX5_steps 64 = .ok (.ifCond .ne 16, 3) := by decide +kernel
theorem dX5_steps_67 : decode cX5_steps 67 = .ok (.iload 4, 2) := by decide +kernel
theorem dX5_steps_69 : decode cX5_steps 69 = .ok (.bipush (-9), 2) := by decide +kernel
theorem dX5_steps_71 : decode cX5_steps 71 = .ok (.if_icmp .ne 7, 3) := by decide +kernel
theorem dX5_steps_74 : decode cX5_steps 74 = .ok (.iconst 0, 1) := by decide +kernel
theorem dX5_steps_75 : decode cX5_steps 75 = .ok (.goto 4, 3) := by decide +kernel
theorem dX5_steps_78 : decode cX5_steps 78 = .ok (.iconst 1, 1) := by decide +kernel
theorem dX5_steps_79 : decode cX5_steps 79 = .ok (.ireturn, 1) := by decide +kernel
theorem dX5_steps_80 : decode cX5_steps 80 = .ok (.iload 4, 2) := by decide +kernel
theorem dX5_steps_82 : decode cX5_steps 82 = .ok (.ireturn, 1) := by decide +kernel
set_option maxRecDepth 20000 in
theorem ggX5_kinds_X5_rowOf : GoodIn wsX5_kinds wsX5_rowOf := goodIn_r _ [6, 7, 8, 9, 5, 10, 66, 67, 68, 69, 70, 71, 72, 73, 74, 75, 76] (by decide +kernel) (by decide +kernel)
set_option maxRecDepth 20000 in
theorem gX5_kinds_X5_rowOf : GoodIn wsX5_kinds (wsV RX5 241 RX5 yX5_rowOf wsX5_rowOf) := goodIn_app (goodIn_of _ (by decide +kernel)) ggX5_kinds_X5_rowOf
set_option maxRecDepth 20000 in
theorem ggX5_kinds_X1_has : GoodIn wsX5_kinds wsX1_has := goodIn_r _ [15, 16, 9, 5, 10, 77, 78, 79] (by decide +kernel) (by decide +kernel)
set_option maxRecDepth 20000 in
theorem gX5_kinds_X1_has : GoodIn wsX5_kinds (wsV RX5 106 RX1 yX1_has wsX1_has) := goodIn_app (goodIn_of _ (by decide +kernel)) ggX5_kinds_X1_has
set_option maxRecDepth 20000 in
theorem ggX5_kinds_X5_refuse : GoodIn wsX5_kinds wsX5_refuse := goodIn_r _ [20, 21, 8, 9, 5, 10, 66, 67, 68, 69, 70, 71, 72, 73, 74, 75, 76] (by decide +kernel) (by decide +kernel)
set_option maxRecDepth 20000 in
theorem gX5_kinds_X5_refuse : GoodIn wsX5_kinds (wsV RX5 64 RX5 yX5_refuse wsX5_refuse) := goodIn_app (goodIn_of _ (by decide +kernel)) ggX5_kinds_X5_refuse
set_option maxRecDepth 20000 in
theorem ggX5_kinds_X2_isMissing : GoodIn wsX5_kinds wsX2_isMissing := goodIn_r _ [26, 27, 80, 81] (by decide +kernel) (by decide +kernel)
set_option maxRecDepth 20000 in
theorem gX5_kinds_X2_isMissing : GoodIn wsX5_kinds (wsV RX5 248 RX2 yX2_isMissing wsX2_isMissing) := goodIn_app (goodIn_of _ (by decide +kernel)) ggX5_kinds_X2_isMissing
set_option maxRecDepth 20000 in
theorem ggX5_kinds_X5_tellsPlaces : GoodIn wsX5_kinds wsX5_tellsPlaces := goodIn_r _ [31, 32, 1, 33, 34, 35, 36, 25, 37, 38, 39, 40, 41, 42, 27, 9, 5, 10, 8, 80, 81, 66, 67, 68, 69, 70, 71, 72, 73, 74, 75, 76, 77, 78, 79] (by decide +kernel) (by decide +kernel)
set_option maxRecDepth 20000 in
theorem gX5_kinds_X5_tellsPlaces : GoodIn wsX5_kinds (wsV RX5 267 RX5 yX5_tellsPlaces wsX5_tellsPlaces) := goodIn_app (goodIn_of _ (by decide +kernel)) ggX5_kinds_X5_tellsPlaces
set_option maxRecDepth 20000 in
theorem ggX5_kinds_X5_firstOtherwise : GoodIn wsX5_kinds wsX5_firstOtherwise := goodIn_r _ [46, 32, 1, 34, 35, 36, 25, 37, 38, 39, 40, 41, 42, 27, 9, 5, 10, 47, 48, 49, 14, 50, 51, 52, 53, 54, 55, 56, 57, 58, 59, 60, 61, 62, 63, 64, 65, 80, 81, 66, 67, 68, 69, 70, 71, 72, 73, 74, 75, 76, 77, 78, 79] (by decide +kernel) (by decide +kernel)
set_option maxRecDepth 20000 in
theorem gX5_kinds_X5_firstOtherwise : GoodIn wsX5_kinds (wsV RX5 263 RX5 yX5_firstOtherwise wsX5_firstOtherwise) := goodIn_app (goodIn_of _ (by decide +kernel)) ggX5_kinds_X5_firstOtherwise
theorem dX5_kinds_0 : decode cX5_kinds 0 = .ok (.aload_n 0, 1) := by decide +kernel
theorem dX5_kinds_1 : decode cX5_kinds 1 = .ok (.iload_n 1, 1) := by decide +kernel
theorem dX5_kinds_2 : decode cX5_kinds 2 = .ok (.invokevirtual 241, 3) := by decide +kernel
theorem dX5_kinds_5 : decode cX5_kinds 5 = .ok (.astore_n 3, 1) := by decide +kernel
theorem dX5_kinds_6 : decode cX5_kinds 6 = .ok (.aload_n 3, 1) := by decide +kernel
theorem dX5_kinds_7 : decode cX5_kinds 7 = .ok (.ifnull 14, 3) := by decide +kernel
theorem dX5_kinds_10 : decode cX5_kinds 10 = .ok (.aload_n 0, 1) := by decide +kernel
theorem dX5_kinds_11 : decode cX5_kinds 11 = .ok (.getfield 10, 3) := by decide +kernel
theorem dX5_kinds_14 : decode cX5_kinds 14 = .ok (.iload_n 2, 1) := by decide +kernel
theorem dX5_kinds_15 : decode cX5_kinds 15 = .ok (.invokevirtual 106, 3) := by decide +kernel
theorem dX5_kinds_18 : decode cX5_kinds 18 = .ok (.ifCond .ne 9, 3) := by decide +kernel
theorem dX5_kinds_21 : decode cX5_kinds 21 = .ok (.aload_n 0, 1) := by decide +kernel
theorem dX5_kinds_22 : decode cX5_kinds 22 = .ok (.iconst (-1), 1) := by decide +kernel
theorem dX5_kinds_23 : decode cX5_kinds 23 = .ok (.invokevirtual 64, 3) := by decide +kernel
theorem dX5_kinds_26 : decode cX5_kinds 26 = .ok (.ireturn, 1) := by decide +kernel
theorem dX5_kinds_27 : decode cX5_kinds 27 = .ok (.aload_n 3, 1) := by decide +kernel
theorem dX5_kinds_28 : decode cX5_kinds 28 = .ok (.invokevirtual 248, 3) := by decide +kernel
theorem dX5_kinds_31 : decode cX5_kinds 31 = .ok (.ifCond .eq 6, 3) := by decide +kernel
theorem dX5_kinds_34 : decode cX5_kinds 34 = .ok (.bipush (-11), 2) := by decide +kernel
theorem dX5_kinds_36 : decode cX5_kinds 36 = .ok (.ireturn, 1) := by decide +kernel
theorem dX5_kinds_37 : decode cX5_kinds 37 = .ok (.aload_n 0, 1) := by decide +kernel
theorem dX5_kinds_38 : decode cX5_kinds 38 = .ok (.aload_n 3, 1) := by decide +kernel
theorem dX5_kinds_39 : decode cX5_kinds 39 = .ok (.invokevirtual 267, 3) := by decide +kernel
theorem dX5_kinds_42 : decode cX5_kinds 42 = .ok (.ifCond .ne 10, 3) := by decide +kernel
theorem dX5_kinds_45 : decode cX5_kinds 45 = .ok (.aload_n 0, 1) := by decide +kernel
theorem dX5_kinds_46 : decode cX5_kinds 46 = .ok (.bipush (-3), 2) := by decide +kernel
theorem dX5_kinds_48 : decode cX5_kinds 48 = .ok (.invokevirtual 64, 3) := by decide +kernel
theorem dX5_kinds_51 : decode cX5_kinds 51 = .ok (.ireturn, 1) := by decide +kernel
theorem dX5_kinds_52 : decode cX5_kinds 52 = .ok (.iconst 0, 1) := by decide +kernel
theorem dX5_kinds_53 : decode cX5_kinds 53 = .ok (.istore 4, 2) := by decide +kernel
theorem dX5_kinds_55 : decode cX5_kinds 55 = .ok (.iconst 0, 1) := by decide +kernel
theorem dX5_kinds_56 : decode cX5_kinds 56 = .ok (.istore 5, 2) := by decide +kernel
theorem dX5_kinds_58 : decode cX5_kinds 58 = .ok (.iload 5, 2) := by decide +kernel
theorem dX5_kinds_60 : decode cX5_kinds 60 = .ok (.bipush 6, 2) := by decide +kernel
theorem dX5_kinds_62 : decode cX5_kinds 62 = .ok (.if_icmp .ge 31, 3) := by decide +kernel
theorem dX5_kinds_65 : decode cX5_kinds 65 = .ok (.aload_n 0, 1) := by decide +kernel
theorem dX5_kinds_66 : decode cX5_kinds 66 = .ok (.aload_n 3, 1) := by decide +kernel
theorem dX5_kinds_67 : decode cX5_kinds 67 = .ok (.iload_n 2, 1) := by decide +kernel
theorem dX5_kinds_68 : decode cX5_kinds 68 = .ok (.iload 5, 2) := by decide +kernel
theorem dX5_kinds_70 : decode cX5_kinds 70 = .ok (.invokevirtual 263, 3) := by decide +kernel
theorem dX5_kinds_73 : decode cX5_kinds 73 = .ok (.bipush (-9), 2) := by decide +kernel
theorem dX5_kinds_75 : decode cX5_kinds 75 = .ok (.if_icmp .ne 12, 3) := by decide +kernel
theorem dX5_kinds_78 : decode cX5_kinds 78 = .ok (.iload 4, 2) := by decide +kernel
theorem dX5_kinds_80 : decode cX5_kinds 80 = .ok (.iconst 1, 1) := by decide +kernel
theorem dX5_kinds_81 : decode cX5_kinds 81 = .ok (.iload 5, 2) := by decide +kernel
theorem dX5_kinds_83 : decode cX5_kinds 83 = .ok (.ishl, 1) := by decide +kernel
theorem dX5_kinds_84 : decode cX5_kinds 84 = .ok (.ior, 1) := by decide +kernel
theorem dX5_kinds_85 : decode cX5_kinds 85 = .ok (.istore 4, 2) := by decide +kernel
theorem dX5_kinds_87 : decode cX5_kinds 87 = .ok (.iinc 5 1, 3) := by decide +kernel
theorem dX5_kinds_90 : decode cX5_kinds 90 = .ok (.goto (-32), 3) := by decide +kernel
theorem dX5_kinds_93 : decode cX5_kinds 93 = .ok (.iload 4, 2) := by decide +kernel
theorem dX5_kinds_95 : decode cX5_kinds 95 = .ok (.ireturn, 1) := by decide +kernel
set_option maxRecDepth 20000 in
theorem ggX5_undo_X5_refuse : GoodIn wsX5_undo wsX5_refuse := goodIn_r _ [8, 9, 10, 11, 7, 12, 42, 43, 44, 45, 46, 47, 48, 49, 50, 51, 52] (by decide +kernel) (by decide +kernel)
set_option maxRecDepth 20000 in
theorem gX5_undo_X5_refuse : GoodIn wsX5_undo (wsV RX5 64 RX5 yX5_refuse wsX5_refuse) := goodIn_app (goodIn_of _ (by decide +kernel)) ggX5_undo_X5_refuse
set_option maxRecDepth 20000 in
theorem ggX5_undo_X0_walkerAt : GoodIn wsX5_undo wsX0_walkerAt := goodIn_r _ [17, 18, 19, 20, 16, 21, 22, 11, 7, 12, 53, 54] (by decide +kernel) (by decide +kernel)
set_option maxRecDepth 20000 in
theorem gX5_undo_X0_walkerAt : GoodIn wsX5_undo (wsV RX5 276 RX0 yX0_walkerAt wsX0_walkerAt) := goodIn_app (goodIn_of _ (by decide +kernel)) ggX5_undo_X0_walkerAt
set_option maxRecDepth 20000 in
theorem ggX5_undo_X0_whatAt : GoodIn wsX5_undo wsX0_whatAt := goodIn_r _ [26, 18, 19, 20, 16, 21, 22, 11, 7, 12, 53, 54] (by decide +kernel) (by decide +kernel)
set_option maxRecDepth 20000 in
theorem gX5_undo_X0_whatAt : GoodIn wsX5_undo (wsV RX5 279 RX0 yX0_whatAt wsX0_whatAt) := goodIn_app (goodIn_of _ (by decide +kernel)) ggX5_undo_X0_whatAt
set_option maxRecDepth 20000 in
theorem ggX5_undo_X0_wasAt : GoodIn wsX5_undo wsX0_wasAt := goodIn_r _ [30, 18, 19, 20, 16, 21, 22, 11, 7, 12, 53, 54] (by decide +kernel) (by decide +kernel)
set_option maxRecDepth 20000 in
theorem gX5_undo_X0_wasAt : GoodIn wsX5_undo (wsV RX5 282 RX0 yX0_wasAt wsX0_wasAt) := goodIn_app (goodIn_of _ (by decide +kernel)) ggX5_undo_X0_wasAt
set_option maxRecDepth 20000 in
theorem ggX5_undo_X1_setValue : GoodIn wsX5_undo wsX1_setValue := goodIn_r _ [35, 36, 11, 7, 12, 55, 56, 57] (by decide +kernel) (by decide +kernel)
set_option maxRecDepth 20000 in
theorem gX5_undo_X1_setValue : GoodIn wsX5_undo (wsV RX5 124 RX1 yX1_setValue wsX1_setValue) := goodIn_app (goodIn_of _ (by decide +kernel)) ggX5_undo_X1_setValue
set_option maxRecDepth 20000 in
theorem ggX5_undo_X0_forgetLast : GoodIn wsX5_undo wsX0_forgetLast := goodIn_r _ [40, 41, 53, 54] (by decide +kernel) (by decide +kernel)
set_option maxRecDepth 20000 in
theorem gX5_undo_X0_forgetLast : GoodIn wsX5_undo (wsV RX5 285 RX0 yX0_forgetLast wsX0_forgetLast) := goodIn_app (goodIn_of _ (by decide +kernel)) ggX5_undo_X0_forgetLast
theorem dX5_undo_0 : decode cX5_undo 0 = .ok (.aload_n 0, 1) := by decide +kernel
theorem dX5_undo_1 : decode cX5_undo 1 = .ok (.getfield 36, 3) := by decide +kernel
theorem dX5_undo_4 : decode cX5_undo 4 = .ok (.getfield 275, 3) := by decide +kernel
theorem dX5_undo_7 : decode cX5_undo 7 = .ok (.ifCond .ne 10, 3) := by decide +kernel
theorem dX5_undo_10 : decode cX5_undo 10 = .ok (.aload_n 0, 1) := by decide +kernel
theorem dX5_undo_11 : decode cX5_undo 11 = .ok (.bipush (-3), 2) := by decide +kernel
theorem dX5_undo_13 : decode cX5_undo 13 = .ok (.invokevirtual 64, 3) := by decide +kernel
theorem dX5_undo_16 : decode cX5_undo 16 = .ok (.ireturn, 1) := by decide +kernel
theorem dX5_undo_17 : decode cX5_undo 17 = .ok (.aload_n 0, 1) := by decide +kernel
theorem dX5_undo_18 : decode cX5_undo 18 = .ok (.getfield 36, 3) := by decide +kernel
theorem dX5_undo_21 : decode cX5_undo 21 = .ok (.getfield 275, 3) := by decide +kernel
theorem dX5_undo_24 : decode cX5_undo 24 = .ok (.iconst 1, 1) := by decide +kernel
theorem dX5_undo_25 : decode cX5_undo 25 = .ok (.isub, 1) := by decide +kernel
theorem dX5_undo_26 : decode cX5_undo 26 = .ok (.istore_n 1, 1) := by decide +kernel
theorem dX5_undo_27 : decode cX5_undo 27 = .ok (.aload_n 0, 1) := by decide +kernel
theorem dX5_undo_28 : decode cX5_undo 28 = .ok (.getfield 10, 3) := by decide +kernel
theorem dX5_undo_31 : decode cX5_undo 31 = .ok (.aload_n 0, 1) := by decide +kernel
theorem dX5_undo_32 : decode cX5_undo 32 = .ok (.getfield 36, 3) := by decide +kernel
theorem dX5_undo_35 : decode cX5_undo 35 = .ok (.iload_n 1, 1) := by decide +kernel
theorem dX5_undo_36 : decode cX5_undo 36 = .ok (.invokevirtual 276, 3) := by decide +kernel
theorem dX5_undo_39 : decode cX5_undo 39 = .ok (.aload_n 0, 1) := by decide +kernel
theorem dX5_undo_40 : decode cX5_undo 40 = .ok (.getfield 36, 3) := by decide +kernel
theorem dX5_undo_43 : decode cX5_undo 43 = .ok (.iload_n 1, 1) := by decide +kernel
theorem dX5_undo_44 : decode cX5_undo 44 = .ok (.invokevirtual 279, 3) := by decide +kernel
theorem dX5_undo_47 : decode cX5_undo 47 = .ok (.aload_n 0, 1) := by decide +kernel
theorem dX5_undo_48 : decode cX5_undo 48 = .ok (.getfield 36, 3) := by decide +kernel
theorem dX5_undo_51 : decode cX5_undo 51 = .ok (.iload_n 1, 1) := by decide +kernel
theorem dX5_undo_52 : decode cX5_undo 52 = .ok (.invokevirtual 282, 3) := by decide +kernel
theorem dX5_undo_55 : decode cX5_undo 55 = .ok (.invokevirtual 124, 3) := by decide +kernel
theorem dX5_undo_58 : decode cX5_undo 58 = .ok (.aload_n 0, 1) := by decide +kernel
theorem dX5_undo_59 : decode cX5_undo 59 = .ok (.getfield 36, 3) := by decide +kernel
theorem dX5_undo_62 : decode cX5_undo 62 = .ok (.invokevirtual 285, 3) := by decide +kernel
theorem dX5_undo_65 : decode cX5_undo 65 = .ok (.aload_n 0, 1) := by decide +kernel
theorem dX5_undo_66 : decode cX5_undo 66 = .ok (.getfield 36, 3) := by decide +kernel
theorem dX5_undo_69 : decode cX5_undo 69 = .ok (.getfield 275, 3) := by decide +kernel
theorem dX5_undo_72 : decode cX5_undo 72 = .ok (.ireturn, 1) := by decide +kernel
set_option maxRecDepth 20000 in
theorem ggX5_image_X1_copyFrom : GoodIn wsX5_image wsX1_copyFrom := goodIn_r _ [9, 10, 11, 12, 24, 25, 26] (by decide +kernel) (by decide +kernel)
set_option maxRecDepth 20000 in
theorem gX5_image_X1_copyFrom : GoodIn wsX5_image (wsV RX5 288 RX1 yX1_copyFrom wsX1_copyFrom) := goodIn_app (goodIn_of _ (by decide +kernel)) ggX5_image_X1_copyFrom
theorem dX5_image_0 : decode cX5_image 0 = .ok (.aload_n 0, 1) := by decide +kernel
theorem dX5_image_1 : decode cX5_image 1 = .ok (.getfield 19, 3) := by decide +kernel
theorem dX5_image_4 : decode cX5_image 4 = .ok (.aload_n 0, 1) := by decide +kernel
theorem dX5_image_5 : decode cX5_image 5 = .ok (.getfield 10, 3) := by decide +kernel
theorem dX5_image_8 : decode cX5_image 8 = .ok (.invokevirtual 288, 3) := by decide +kernel
theorem dX5_image_11 : decode cX5_image 11 = .ok (.aload_n 0, 1) := by decide +kernel
theorem dX5_image_12 : decode cX5_image 12 = .ok (.iconst 1, 1) := by decide +kernel
theorem dX5_image_13 : decode cX5_image 13 = .ok (.putfield 22, 3) := by decide +kernel
theorem dX5_image_16 : decode cX5_image 16 = .ok (.aload_n 0, 1) := by decide +kernel
theorem dX5_image_17 : decode cX5_image 17 = .ok (.getfield 19, 3) := by decide +kernel
theorem dX5_image_20 : decode cX5_image 20 = .ok (.getfield 103, 3) := by decide +kernel
theorem dX5_image_23 : decode cX5_image 23 = .ok (.ireturn, 1) := by decide +kernel
set_option maxRecDepth 20000 in
theorem ggX5_on_X5_refuse : GoodIn wsX5_on wsX5_refuse := goodIn_r _ [10, 11, 12, 13, 9, 14, 29, 30, 31, 32, 33, 34, 35, 36, 37, 38, 39] (by decide +kernel) (by decide +kernel)
set_option maxRecDepth 20000 in
theorem gX5_on_X5_refuse : GoodIn wsX5_on (wsV RX5 64 RX5 yX5_refuse wsX5_refuse) := goodIn_app (goodIn_of _ (by decide +kernel)) ggX5_on_X5_refuse
set_option maxRecDepth 20000 in
theorem ggX5_on_X1_copyFrom : GoodIn wsX5_on wsX1_copyFrom := goodIn_r _ [19, 20, 21, 22, 40, 41, 42] (by decide +kernel) (by decide +kernel)
set_option maxRecDepth 20000 in
theorem gX5_on_X1_copyFrom : GoodIn wsX5_on (wsV RX5 288 RX1 yX1_copyFrom wsX1_copyFrom) := goodIn_app (goodIn_of _ (by decide +kernel)) ggX5_on_X1_copyFrom
set_option maxRecDepth 20000 in
theorem ggX5_on_X0_clear : GoodIn wsX5_on wsX0_clear := goodIn_r _ [27, 28, 43, 44] (by decide +kernel) (by decide +kernel)
set_option maxRecDepth 20000 in
theorem gX5_on_X0_clear : GoodIn wsX5_on (wsV RX5 92 RX0 yX0_clear wsX0_clear) := goodIn_app (goodIn_of _ (by decide +kernel)) ggX5_on_X0_clear
theorem dX5_on_0 : decode cX5_on 0 = .ok (.aload_n 0, 1) := by decide +kernel
theorem dX5_on_1 : decode cX5_on 1 = .ok (.getfield 22, 3) := by decide +kernel
theorem dX5_on_4 : decode cX5_on 4 = .ok (.ifCond .ne 10, 3) := by decide +kernel
theorem dX5_on_7 : decode cX5_on 7 = .ok (.aload_n 0, 1) := by decide +kernel
theorem dX5_on_8 : decode cX5_on 8 = .ok (.bipush (-3), 2) := by decide +kernel
theorem dX5_on_10 : decode cX5_on 10 = .ok (.invokevirtual 64, 3) := by decide +kernel
theorem dX5_on_13 : decode cX5_on 13 = .ok (.ireturn, 1) := by decide +kernel
theorem dX5_on_14 : decode cX5_on 14 = .ok (.aload_n 0, 1) := by decide +kernel
theorem dX5_on_15 : decode cX5_on 15 = .ok (.getfield 10, 3) := by decide +kernel
theorem dX5_on_18 : decode cX5_on 18 = .ok (.aload_n 0, 1) := by decide +kernel
theorem dX5_on_19 : decode cX5_on 19 = .ok (.getfield 19, 3) := by decide +kernel
theorem dX5_on_22 : decode cX5_on 22 = .ok (.invokevirtual 288, 3) := by decide +kernel
theorem dX5_on_25 : decode cX5_on 25 = .ok (.aload_n 0, 1) := by decide +kernel
theorem dX5_on_26 : decode cX5_on 26 = .ok (.getfield 36, 3) := by decide +kernel
theorem dX5_on_29 : decode cX5_on 29 = .ok (.invokevirtual 92, 3) := by decide +kernel
theorem dX5_on_32 : decode cX5_on 32 = .ok (.aload_n 0, 1) := by decide +kernel
theorem dX5_on_33 : decode cX5_on 33 = .ok (.getfield 10, 3) := by decide +kernel
