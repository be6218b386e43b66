theorem dX6_walk_36 : decode cX6_walk 36 = .ok (.istore_n 3, 1) := by decide +kernel
theorem dX6_walk_37 : decode cX6_walk 37 = .ok (.aload_n 0, 1) := by decide +kernel
theorem dX6_walk_38 : decode cX6_walk 38 = .ok (.getfield 70, 3) := by decide +kernel
theorem dX6_walk_41 : decode cX6_walk 41 = .ok (.istore 4, 2) := by decide +kernel
theorem dX6_walk_43 : decode cX6_walk 43 = .ok (.iconst 0, 1) := by decide +kernel
theorem dX6_walk_44 : decode cX6_walk 44 = .ok (.istore 5, 2) := by decide +kernel
theorem dX6_walk_46 : decode cX6_walk 46 = .ok (.iload 5, 2) := by decide +kernel
theorem dX6_walk_48 : decode cX6_walk 48 = .ok (.bipush 20, 2) := by decide +kernel
theorem dX6_walk_50 : decode cX6_walk 50 = .ok (.if_icmp .ge 23, 3) := by decide +kernel
theorem dX6_walk_53 : decode cX6_walk 53 = .ok (.aload_n 0, 1) := by decide +kernel
theorem dX6_walk_54 : decode cX6_walk 54 = .ok (.getfield 26, 3) := by decide +kernel
theorem dX6_walk_57 : decode cX6_walk 57 = .ok (.iload 5, 2) := by decide +kernel
theorem dX6_walk_59 : decode cX6_walk 59 = .ok (.aload_n 0, 1) := by decide +kernel
theorem dX6_walk_60 : decode cX6_walk 60 = .ok (.getfield 17, 3) := by decide +kernel
theorem dX6_walk_63 : decode cX6_walk 63 = .ok (.iload 5, 2) := by decide +kernel
theorem dX6_walk_65 : decode cX6_walk 65 = .ok (.iaload, 1) := by decide +kernel
theorem dX6_walk_66 : decode cX6_walk 66 = .ok (.iastore, 1) := by decide +kernel
theorem dX6_walk_67 : decode cX6_walk 67 = .ok (.iinc 5 1, 3) := by decide +kernel
theorem dX6_walk_70 : decode cX6_walk 70 = .ok (.goto (-24), 3) := by decide +kernel
theorem dX6_walk_73 : decode cX6_walk 73 = .ok (.iconst 0, 1) := by decide +kernel
theorem dX6_walk_74 : decode cX6_walk 74 = .ok (.istore 5, 2) := by decide +kernel
theorem dX6_walk_76 : decode cX6_walk 76 = .ok (.iconst 0, 1) := by decide +kernel
theorem dX6_walk_77 : decode cX6_walk 77 = .ok (.istore 6, 2) := by decide +kernel
theorem dX6_walk_79 : decode cX6_walk 79 = .ok (.iload 6, 2) := by decide +kernel
theorem dX6_walk_81 : decode cX6_walk 81 = .ok (.iload_n 2, 1) := by decide +kernel
theorem dX6_walk_82 : decode cX6_walk 82 = .ok (.if_icmp .ge 83, 3) := by decide +kernel
theorem dX6_walk_85 : decode cX6_walk 85 = .ok (.aload_n 0, 1) := by decide +kernel
theorem dX6_walk_86 : decode cX6_walk 86 = .ok (.iload 6, 2) := by decide +kernel
theorem dX6_walk_88 : decode cX6_walk 88 = .ok (.invokevirtual 143, 3) := by decide +kernel
theorem dX6_walk_91 : decode cX6_walk 91 = .ok (.ifCond .ne 51, 3) := by decide +kernel
theorem dX6_walk_94 : decode cX6_walk 94 = .ok (.aload_n 0, 1) := by decide +kernel
theorem dX6_walk_95 : decode cX6_walk 95 = .ok (.iload_n 3, 1) := by decide +kernel
theorem dX6_walk_96 : decode cX6_walk 96 = .ok (.putfield 13, 3) := by decide +kernel
theorem dX6_walk_99 : decode cX6_walk 99 = .ok (.aload_n 0, 1) := by decide +kernel
theorem dX6_walk_100 : decode cX6_walk 100 = .ok (.iload 4, 2) := by decide +kernel
theorem dX6_walk_102 : decode cX6_walk 102 = .ok (.putfield 70, 3) := by decide +kernel
theorem dX6_walk_105 : decode cX6_walk 105 = .ok (.iconst 0, 1) := by decide +kernel
theorem dX6_walk_106 : decode cX6_walk 106 = .ok (.istore 7, 2) := by decide +kernel
theorem dX6_walk_108 : decode cX6_walk 108 = .ok (.iload 7, 2) := by decide +kernel
theorem dX6_walk_110 : decode cX6_walk 110 = .ok (.bipush 20, 2) := by decide +kernel
theorem dX6_walk_112 : decode cX6_walk 112 = .ok (.if_icmp .ge 23, 3) := by decide +kernel
theorem dX6_walk_115 : decode cX6_walk 115 = .ok (.aload_n 0, 1) := by decide +kernel
theorem dX6_walk_116 : decode cX6_walk 116 = .ok (.getfield 17, 3) := by decide +kernel
theorem dX6_walk_119 : decode cX6_walk 119 = .ok (.iload 7, 2) := by decide +kernel
theorem dX6_walk_121 : decode cX6_walk 121 = .ok (.aload_n 0, 1) := by decide +kernel
theorem dX6_walk_122 : decode cX6_walk 122 = .ok (.getfield 26, 3) := by decide +kernel
theorem dX6_walk_125 : decode cX6_walk 125 = .ok (.iload 7, 2) := by decide +kernel
theorem dX6_walk_127 : decode cX6_walk 127 = .ok (.iaload, 1) := by decide +kernel
theorem dX6_walk_128 : decode cX6_walk 128 = .ok (.iastore, 1) := by decide +kernel
theorem dX6_walk_129 : decode cX6_walk 129 = .ok (.iinc 7 1, 3) := by decide +kernel
theorem dX6_walk_132 : decode cX6_walk 132 = .ok (.goto (-24), 3) := by decide +kernel
theorem dX6_walk_135 : decode cX6_walk 135 = .ok (.sipush (-2000), 3) := by decide +kernel
theorem dX6_walk_138 : decode cX6_walk 138 = .ok (.iload 6, 2) := by decide +kernel
theorem dX6_walk_140 : decode cX6_walk 140 = .ok (.isub, 1) := by decide +kernel
theorem dX6_walk_141 : decode cX6_walk 141 = .ok (.ireturn, 1) := by decide +kernel
theorem dX6_walk_142 : decode cX6_walk 142 = .ok (.iload 6, 2) := by decide +kernel
theorem dX6_walk_144 : decode cX6_walk 144 = .ok (.aload_n 0, 1) := by decide +kernel
theorem dX6_walk_145 : decode cX6_walk 145 = .ok (.getfield 23, 3) := by decide +kernel
theorem dX6_walk_148 : decode cX6_walk 148 = .ok (.iload 6, 2) := by decide +kernel
theorem dX6_walk_150 : decode cX6_walk 150 = .ok (.iaload, 1) := by decide +kernel
theorem dX6_walk_151 : decode cX6_walk 151 = .ok (.invokestatic 125, 3) := by decide +kernel
theorem dX6_walk_154 : decode cX6_walk 154 = .ok (.iconst 2, 1) := by decide +kernel
theorem dX6_walk_155 : decode cX6_walk 155 = .ok (.iadd, 1) := by decide +kernel
theorem dX6_walk_156 : decode cX6_walk 156 = .ok (.iadd, 1) := by decide +kernel
theorem dX6_walk_157 : decode cX6_walk 157 = .ok (.istore 6, 2) := by decide +kernel
theorem dX6_walk_159 : decode cX6_walk 159 = .ok (.iinc 5 1, 3) := by decide +kernel
theorem dX6_walk_162 : decode cX6_walk 162 = .ok (.goto (-83), 3) := by decide +kernel
theorem dX6_walk_165 : decode cX6_walk 165 = .ok (.aload_n 0, 1) := by decide +kernel
theorem dX6_walk_166 : decode cX6_walk 166 = .ok (.iconst 0, 1) := by decide +kernel
theorem dX6_walk_167 : decode cX6_walk 167 = .ok (.putfield 102, 3) := by decide +kernel
theorem dX6_walk_170 : decode cX6_walk 170 = .ok (.iload 5, 2) := by decide +kernel
theorem dX6_walk_172 : decode cX6_walk 172 = .ok (.ireturn, 1) := by decide +kernel
set_option maxRecDepth 20000 in
theorem ggX6_sorts_X6_placeOf : GoodIn wsX6_sorts wsX6_placeOf := goodIn_r _ [8, 9, 10, 11, 7, 12, 13, 14, 15, 16, 17, 18, 19, 20, 21, 22, 23, 24, 25, 26, 27, 28, 29, 30, 31, 32, 33, 34, 35, 36, 37, 38, 39, 40, 41, 42, 43] (by decide +kernel) (by decide +kernel)
set_option maxRecDepth 20000 in
theorem gX6_sorts_X6_placeOf : GoodIn wsX6_sorts (wsV RX6 111 RX6 yX6_placeOf wsX6_placeOf) := goodIn_app (goodIn_of _ (by decide +kernel)) ggX6_sorts_X6_placeOf
theorem dX6_sorts_0 : decode cX6_sorts 0 = .ok (.iconst 0, 1) := by decide +kernel
theorem dX6_sorts_1 : decode cX6_sorts 1 = .ok (.istore_n 3, 1) := by decide +kernel
theorem dX6_sorts_2 : decode cX6_sorts 2 = .ok (.iload_n 3, 1) := by decide +kernel
theorem dX6_sorts_3 : decode cX6_sorts 3 = .ok (.iload_n 2, 1) := by decide +kernel
theorem dX6_sorts_4 : decode cX6_sorts 4 = .ok (.if_icmp .ge 70, 3) := by decide +kernel
theorem dX6_sorts_7 : decode cX6_sorts 7 = .ok (.aload_n 0, 1) := by decide +kernel
theorem dX6_sorts_8 : decode cX6_sorts 8 = .ok (.iload_n 1, 1) := by decide +kernel
theorem dX6_sorts_9 : decode cX6_sorts 9 = .ok (.iload_n 3, 1) := by decide +kernel
theorem dX6_sorts_10 : decode cX6_sorts 10 = .ok (.invokevirtual 111, 3) := by decide +kernel
theorem dX6_sorts_13 : decode cX6_sorts 13 = .ok (.istore 4, 2) := by decide +kernel
theorem dX6_sorts_15 : decode cX6_sorts 15 = .ok (.iload_n 3, 1) := by decide +kernel
theorem dX6_sorts_16 : decode cX6_sorts 16 = .ok (.istore 5, 2) := by decide +kernel
theorem dX6_sorts_18 : decode cX6_sorts 18 = .ok (.iload 5, 2) := by decide +kernel
theorem dX6_sorts_20 : decode cX6_sorts 20 = .ok (.ifCond .le 39, 3) := by decide +kernel
theorem dX6_sorts_23 : decode cX6_sorts 23 = .ok (.aload_n 0, 1) := by decide +kernel
theorem dX6_sorts_24 : decode cX6_sorts 24 = .ok (.getfield 29, 3) := by decide +kernel
theorem dX6_sorts_27 : decode cX6_sorts 27 = .ok (.iload 5, 2) := by decide +kernel
theorem dX6_sorts_29 : decode cX6_sorts 29 = .ok (.iconst 1, 1) := by decide +kernel
theorem dX6_sorts_30 : decode cX6_sorts 30 = .ok (.isub, 1) := by decide +kernel
theorem dX6_sorts_31 : decode cX6_sorts 31 = .ok (.iaload, 1) := by decide +kernel
theorem dX6_sorts_32 : decode cX6_sorts 32 = .ok (.iload 4, 2) := by decide +kernel
theorem dX6_sorts_34 : decode cX6_sorts 34 = .ok (.if_icmp .le 25, 3) := by decide +kernel
theorem dX6_sorts_37 : decode cX6_sorts 37 = .ok (.aload_n 0, 1) := by decide +kernel
theorem dX6_sorts_38 : decode cX6_sorts 38 = .ok (.getfield 29, 3) := by decide +kernel
theorem dX6_sorts_41 : decode cX6_sorts 41 = .ok (.iload 5, 2) := by decide +kernel
theorem dX6_sorts_43 : decode cX6_sorts 43 = .ok (.aload_n 0, 1) := by decide +kernel
theorem dX6_sorts_44 : decode cX6_sorts 44 = .ok (.getfield 29, 3) := by decide +kernel
theorem dX6_sorts_47 : decode cX6_sorts 47 = .ok (.iload 5, 2) := by decide +kernel
theorem dX6_sorts_49 : decode cX6_sorts 49 = .ok (.iconst 1, 1) := by decide +kernel
theorem dX6_sorts_50 : decode cX6_sorts 50 = .ok (.isub, 1) := by decide +kernel
theorem dX6_sorts_51 : decode cX6_sorts 51 = .ok (.iaload, 1) := by decide +kernel
theorem dX6_sorts_52 : decode cX6_sorts 52 = .ok (.iastore, 1) := by decide +kernel
theorem dX6_sorts_53 : decode cX6_sorts 53 = .ok (.iinc 5 (-1), 3) := by decide +kernel
theorem dX6_sorts_56 : decode cX6_sorts 56 = .ok (.goto (-38), 3) := by decide +kernel
theorem dX6_sorts_59 : decode cX6_sorts 59 = .ok (.aload_n 0, 1) := by decide +kernel
theorem dX6_sorts_60 : decode cX6_sorts 60 = .ok (.getfield 29, 3) := by decide +kernel
theorem dX6_sorts_63 : decode cX6_sorts 63 = .ok (.iload 5, 2) := by decide +kernel
theorem dX6_sorts_65 : decode cX6_sorts 65 = .ok (.iload 4, 2) := by decide +kernel
theorem dX6_sorts_67 : decode cX6_sorts 67 = .ok (.iastore, 1) := by decide +kernel
theorem dX6_sorts_68 : decode cX6_sorts 68 = .ok (.iinc 3 1, 3) := by decide +kernel
theorem dX6_sorts_71 : decode cX6_sorts 71 = .ok (.goto (-69), 3) := by decide +kernel
theorem dX6_sorts_74 : decode cX6_sorts 74 = .ok (.aload_n 0, 1) := by decide +kernel
theorem dX6_sorts_75 : decode cX6_sorts 75 = .ok (.iconst 0, 1) := by decide +kernel
theorem dX6_sorts_76 : decode cX6_sorts 76 = .ok (.putfield 146, 3) := by decide +kernel
theorem dX6_sorts_79 : decode cX6_sorts 79 = .ok (.iconst 0, 1) := by decide +kernel
theorem dX6_sorts_80 : decode cX6_sorts 80 = .ok (.istore_n 3, 1) := by decide +kernel
theorem dX6_sorts_81 : decode cX6_sorts 81 = .ok (.iload_n 3, 1) := by decide +kernel
theorem dX6_sorts_82 : decode cX6_sorts 82 = .ok (.iload_n 2, 1) := by decide +kernel
theorem dX6_sorts_83 : decode cX6_sorts 83 = .ok (.if_icmp .ge 58, 3) := by decide +kernel
theorem dX6_sorts_86 : decode cX6_sorts 86 = .ok (.iload_n 3, 1) := by decide +kernel
theorem dX6_sorts_87 : decode cX6_sorts 87 = .ok (.ifCond .le 23, 3) := by decide +kernel
theorem dX6_sorts_90 : decode cX6_sorts 90 = .ok (.aload_n 0, 1) := by decide +kernel
theorem dX6_sorts_91 : decode cX6_sorts 91 = .ok (.getfield 29, 3) := by decide +kernel
theorem dX6_sorts_94 : decode cX6_sorts 94 = .ok (.iload_n 3, 1) := by decide +kernel
theorem dX6_sorts_95 : decode cX6_sorts 95 = .ok (.iaload, 1) := by decide +kernel
theorem dX6_sorts_96 : decode cX6_sorts 96 = .ok (.aload_n 0, 1) := by decide +kernel
theorem dX6_sorts_97 : decode cX6_sorts 97 = .ok (.getfield 29, 3) := by decide +kernel
theorem dX6_sorts_100 : decode cX6_sorts 100 = .ok (.iload_n 3, 1) := by decide +kernel
theorem dX6_sorts_101 : decode cX6_sorts 101 = .ok (.iconst 1, 1) := by decide +kernel
theorem dX6_sorts_102 : decode cX6_sorts 102 = .ok (.isub, 1) := by decide +kernel
theorem dX6_sorts_103 : decode cX6_sorts 103 = .ok (.iaload, 1) := by decide +kernel
theorem dX6_sorts_104 : decode cX6_sorts 104 = .ok (.if_icmp .ne 6, 3) := by decide +kernel
theorem dX6_sorts_107 : decode cX6_sorts 107 = .ok (.goto 28, 3) := by decide +kernel
theorem dX6_sorts_110 : decode cX6_sorts 110 = .ok (.aload_n 0, 1) := by decide +kernel
theorem dX6_sorts_111 : decode cX6_sorts 111 = .ok (.getfield 32, 3) := by decide +kernel
theorem dX6_sorts_114 : decode cX6_sorts 114 = .ok (.aload_n 0, 1) := by decide +kernel
theorem dX6_sorts_115 : decode cX6_sorts 115 = .ok (.getfield 146, 3) := by decide +kernel
theorem dX6_sorts_118 : decode cX6_sorts 118 = .ok (.aload_n 0, 1) := by decide +kernel
theorem dX6_sorts_119 : decode cX6_sorts 119 = .ok (.getfield 29, 3) := by decide +kernel
theorem dX6_sorts_122 : decode cX6_sorts 122 = .ok (.iload_n 3, 1) := by decide +kernel
theorem dX6_sorts_123 : decode cX6_sorts 123 = .ok (.iaload, 1) := by decide +kernel
theorem dX6_sorts_124 : decode cX6_sorts 124 = .ok (.iastore, 1) := by decide +kernel
theorem dX6_sorts_125 : decode cX6_sorts 125 = .ok (.aload_n 0, 1) := by decide +kernel
theorem dX6_sorts_126 : decode cX6_sorts 126 = .ok (.dup, 1) := by decide +kernel
theorem dX6_sorts_127 : decode cX6_sorts 127 = .ok (.getfield 146, 3) := by decide +kernel
theorem dX6_sorts_130 : decode cX6_sorts 130 = .ok (.iconst 1, 1) := by decide +kernel
theorem dX6_sorts_131 : decode cX6_sorts 131 = .ok (.iadd, 1) := by decide +kernel
theorem dX6_sorts_132 : decode cX6_sorts 132 = .ok (.putfield 146, 3) := by decide +kernel
theorem dX6_sorts_135 : decode cX6_sorts 135 = .ok (.iinc 3 1, 3) := by decide +kernel
theorem dX6_sorts_138 : decode cX6_sorts 138 = .ok (.goto (-57), 3) := by decide +kernel
theorem dX6_sorts_141 : decode cX6_sorts 141 = .ok (.return_, 1) := by decide +kernel
theorem dX6_gap_0 : decode cX6_gap 0 = .ok (.aload_n 0, 1) := by decide +kernel
theorem dX6_gap_1 : decode cX6_gap 1 = .ok (.getfield 146, 3) := by decide +kernel
theorem dX6_gap_4 : decode cX6_gap 4 = .ok (.iconst 1, 1) := by decide +kernel
theorem dX6_gap_5 : decode cX6_gap 5 = .ok (.if_icmp .ne 8, 3) := by decide +kernel
theorem dX6_gap_8 : decode cX6_gap 8 = .ok (.aload_n 0, 1) := by decide +kernel
theorem dX6_gap_9 : decode cX6_gap 9 = .ok (.getfield 13, 3) := by decide +kernel
theorem dX6_gap_12 : decode cX6_gap 12 = .ok (.ireturn, 1) := by decide +kernel
theorem dX6_gap_13 : decode cX6_gap 13 = .ok (.iload_n 1, 1) := by decide +kernel
theorem dX6_gap_14 : decode cX6_gap 14 = .ok (.aload_n 0, 1) := by decide +kernel
theorem dX6_gap_15 : decode cX6_gap 15 = .ok (.getfield 146, 3) := by decide +kernel
theorem dX6_gap_18 : decode cX6_gap 18 = .ok (.iconst 1, 1) := by decide +kernel
theorem dX6_gap_19 : decode cX6_gap 19 = .ok (.isub, 1) := by decide +kernel
theorem dX6_gap_20 : decode cX6_gap 20 = .ok (.if_icmp .ne 24, 3) := by decide +kernel
theorem dX6_gap_23 : decode cX6_gap 23 = .ok (.aload_n 0, 1) := by decide +kernel
theorem dX6_gap_24 : decode cX6_gap 24 = .ok (.getfield 32, 3) := by decide +kernel
theorem dX6_gap_27 : decode cX6_gap 27 = .ok (.iconst 0, 1) := by decide +kernel
theorem dX6_gap_28 : decode cX6_gap 28 = .ok (.iaload, 1) := by decide +kernel
theorem dX6_gap_29 : decode cX6_gap 29 = .ok (.aload_n 0, 1) := by decide +kernel
theorem dX6_gap_30 : decode cX6_gap 30 = .ok (.getfield 13, 3) := by decide +kernel
theorem dX6_gap_33 : decode cX6_gap 33 = .ok (.iadd, 1) := by decide +kernel
theorem dX6_gap_34 : decode cX6_gap 34 = .ok (.aload_n 0, 1) := by decide +kernel
theorem dX6_gap_35 : decode cX6_gap 35 = .ok (.getfield 32, 3) := by decide +kernel
theorem dX6_gap_38 : decode cX6_gap 38 = .ok (.iload_n 1, 1) := by decide +kernel
theorem dX6_gap_39 : decode cX6_gap 39 = .ok (.iaload, 1) := by decide +kernel
theorem dX6_gap_40 : decode cX6_gap 40 = .ok (.isub, 1) := by decide +kernel
theorem dX6_gap_41 : decode cX6_gap 41 = .ok (.goto 18, 3) := by decide +kernel
theorem dX6_gap_44 : decode cX6_gap 44 = .ok (.aload_n 0, 1) := by decide +kernel
theorem dX6_gap_45 : decode cX6_gap 45 = .ok (.getfield 32, 3) := by decide +kernel
theorem dX6_gap_48 : decode cX6_gap 48 = .ok (.iload_n 1, 1) := by decide +kernel
theorem dX6_gap_49 : decode cX6_gap 49 = .ok (.iconst 1, 1) := by decide +kernel
theorem dX6_gap_50 : decode cX6_gap 50 = .ok (.iadd, 1) := by decide +kernel
theorem dX6_gap_51 : decode cX6_gap 51 = .ok (.iaload, 1) := by decide +kernel
theorem dX6_gap_52 : decode cX6_gap 52 = .ok (.aload_n 0, 1) := by decide +kernel
theorem dX6_gap_53 : decode cX6_gap 53 = .ok (.getfield 32, 3) := by decide +kernel
theorem dX6_gap_56 : decode cX6_gap 56 = .ok (.iload_n 1, 1) := by decide +kernel
theorem dX6_gap_57 : decode cX6_gap 57 = .ok (.iaload, 1) := by decide +kernel
theorem dX6_gap_58 : decode cX6_gap 58 = .ok (.isub, 1) := by decide +kernel
theorem dX6_gap_59 : decode cX6_gap 59 = .ok (.ireturn, 1) := by decide +kernel
set_option maxRecDepth 20000 in
theorem ggX6_refusal_X6_isWalker : GoodIn wsX6_refusal wsX6_isWalker := goodIn_r _ [5, 6, 7, 8, 4, 9, 13, 14, 15, 16, 17, 18, 19, 20, 21, 22, 23, 24, 25, 26, 27, 28, 29, 30, 31, 32, 33, 34] (by decide +kernel) (by decide +kernel)
set_option maxRecDepth 20000 in
theorem gX6_refusal_X6_isWalker : GoodIn wsX6_refusal (wsV RX6 89 RX6 yX6_isWalker wsX6_isWalker) := goodIn_app (goodIn_of _ (by decide +kernel)) ggX6_refusal_X6_isWalker
set_option maxRecDepth 20000 in
theorem ggX6_refusal_X6_range : GoodIn wsX6_refusal wsX6_range := goodIn_r _ [12] (by decide +kernel) (by decide +kernel)
set_option maxRecDepth 20000 in
theorem gX6_refusal_X6_range : GoodIn wsX6_refusal (va_wsS RX6 98 yX6_range wsX6_range) := goodIn_app (goodIn_of _ (by decide +kernel)) ggX6_refusal_X6_range
theorem dX6_refusal_0 : decode cX6_refusal 0 = .ok (.aload_n 0, 1) := by decide +kernel
theorem dX6_refusal_1 : decode cX6_refusal 1 = .ok (.iload_n 1, 1) := by decide +kernel
theorem dX6_refusal_2 : decode cX6_refusal 2 = .ok (.invokevirtual 89, 3) := by decide +kernel
theorem dX6_refusal_5 : decode cX6_refusal 5 = .ok (.ifCond .ne 7, 3) := by decide +kernel
theorem dX6_refusal_8 : decode cX6_refusal 8 = .ok (.iconst (-1), 1) := by decide +kernel
theorem dX6_refusal_9 : decode cX6_refusal 9 = .ok (.goto 11, 3) := by decide +kernel
theorem dX6_refusal_12 : decode cX6_refusal 12 = .ok (.iload_n 2, 1) := by decide +kernel
theorem dX6_refusal_13 : decode cX6_refusal 13 = .ok (.iconst 1, 1) := by decide +kernel
theorem dX6_refusal_14 : decode cX6_refusal 14 = .ok (.sipush 200, 3) := by decide +kernel
theorem dX6_refusal_17 : decode cX6_refusal 17 = .ok (.invokestatic 98, 3) := by decide +kernel
theorem dX6_refusal_20 : decode cX6_refusal 20 = .ok (.ireturn, 1) := by decide +kernel
set_option maxRecDepth 20000 in
theorem ggX6_marks_X6_refusal : GoodIn wsX6_marks wsX6_refusal := goodIn_r _ [8, 9, 10, 11, 7, 12, 13, 14, 15, 16, 17, 18, 19, 47, 48, 49, 50, 51, 52, 53, 54, 55, 56, 57, 58, 59, 60, 61, 62, 63, 64, 65, 66, 67, 68] (by decide +kernel) (by decide +kernel)
set_option maxRecDepth 20000 in
theorem gX6_marks_X6_refusal : GoodIn wsX6_marks (wsV RX6 149 RX6 yX6_refusal wsX6_refusal) := goodIn_app (goodIn_of _ (by decide +kernel)) ggX6_marks_X6_refusal
set_option maxRecDepth 20000 in
theorem ggX6_marks_X6_no : GoodIn wsX6_marks wsX6_no := goodIn_r _ [23, 24, 47, 48, 49, 50, 51, 52, 53, 54, 55, 56, 57, 58, 59, 60, 61, 62, 63, 64, 65, 66, 67, 68] (by decide +kernel) (by decide +kernel)
set_option maxRecDepth 20000 in
theorem gX6_marks_X6_no : GoodIn wsX6_marks (wsV RX6 66 RX6 yX6_no wsX6_no) := goodIn_app (goodIn_of _ (by decide +kernel)) ggX6_marks_X6_no
set_option maxRecDepth 20000 in
theorem ggX6_marks_X6_in : GoodIn wsX6_marks wsX6_in := goodIn_r _ [16] (by decide +kernel) (by decide +kernel)
set_option maxRecDepth 20000 in
theorem gX6_marks_X6_in : GoodIn wsX6_marks (va_wsS RX6 73 yX6_in wsX6_in) := goodIn_app (goodIn_of _ (by decide +kernel)) ggX6_marks_X6_in
set_option maxRecDepth 20000 in
theorem ggX6_marks_X6_sorts : GoodIn wsX6_marks wsX6_sorts := goodIn_r _ [28, 29, 2, 3, 30, 31, 32, 7, 33, 34, 35, 36, 37, 38, 39, 40, 41, 42, 43, 44, 45, 46, 47, 48, 49, 50, 51, 52, 53, 54, 55, 56, 57, 58, 59, 60, 61, 62, 63, 64, 65, 66, 67, 68] (by decide +kernel) (by decide +kernel)
set_option maxRecDepth 20000 in
theorem gX6_marks_X6_sorts : GoodIn wsX6_marks (wsV RX6 152 RX6 yX6_sorts wsX6_sorts) := goodIn_app (goodIn_of _ (by decide +kernel)) ggX6_marks_X6_sorts
theorem dX6_marks_0 : decode cX6_marks 0 = .ok (.aload_n 0, 1) := by decide +kernel
theorem dX6_marks_1 : decode cX6_marks 1 = .ok (.iload_n 1, 1) := by decide +kernel
theorem dX6_marks_2 : decode cX6_marks 2 = .ok (.iload_n 2, 1) := by decide +kernel
theorem dX6_marks_3 : decode cX6_marks 3 = .ok (.invokevirtual 149, 3) := by decide +kernel
theorem dX6_marks_6 : decode cX6_marks 6 = .ok (.istore 4, 2) := by decide +kernel
theorem dX6_marks_8 : decode cX6_marks 8 = .ok (.iload 4, 2) := by decide +kernel
theorem dX6_marks_10 : decode cX6_marks 10 = .ok (.ifCond .eq 10, 3) := by decide +kernel
theorem dX6_marks_13 : decode cX6_marks 13 = .ok (.aload_n 0, 1) := by decide +kernel
theorem dX6_marks_14 : decode cX6_marks 14 = .ok (.iload 4, 2) := by decide +kernel
theorem dX6_marks_16 : decode cX6_marks 16 = .ok (.invokevirtual 66, 3) := by decide +kernel
theorem dX6_marks_19 : decode cX6_marks 19 = .ok (.ireturn, 1) := by decide +kernel
theorem dX6_marks_20 : decode cX6_marks 20 = .ok (.iload_n 3, 1) := by decide +kernel
theorem dX6_marks_21 : decode cX6_marks 21 = .ok (.i2l, 1) := by decide +kernel
theorem dX6_marks_22 : decode cX6_marks 22 = .ok (.lconst 0, 1) := by decide +kernel
theorem dX6_marks_23 : decode cX6_marks 23 = .ok (.ldc2_w 135, 3) := by decide +kernel
theorem dX6_marks_26 : decode cX6_marks 26 = .ok (.invokestatic 73, 3) := by decide +kernel
theorem dX6_marks_29 : decode cX6_marks 29 = .ok (.ifCond .ne 10, 3) := by decide +kernel
theorem dX6_marks_32 : decode cX6_marks 32 = .ok (.aload_n 0, 1) := by decide +kernel
theorem dX6_marks_33 : decode cX6_marks 33 = .ok (.bipush (-2), 2) := by decide +kernel
theorem dX6_marks_35 : decode cX6_marks 35 = .ok (.invokevirtual 66, 3) := by decide +kernel
theorem dX6_marks_38 : decode cX6_marks 38 = .ok (.ireturn, 1) := by decide +kernel
theorem dX6_marks_39 : decode cX6_marks 39 = .ok (.aload_n 0, 1) := by decide +kernel
theorem dX6_marks_40 : decode cX6_marks 40 = .ok (.iload_n 1, 1) := by decide +kernel
theorem dX6_marks_41 : decode cX6_marks 41 = .ok (.iload_n 2, 1) := by decide +kernel
theorem dX6_marks_42 : decode cX6_marks 42 = .ok (.invokevirtual 152, 3) := by decide +kernel
theorem dX6_marks_45 : decode cX6_marks 45 = .ok (.iload_n 3, 1) := by decide +kernel
theorem dX6_marks_46 : decode cX6_marks 46 = .ok (.ifCond .ne 10, 3) := by decide +kernel
theorem dX6_marks_49 : decode cX6_marks 49 = .ok (.aload_n 0, 1) := by decide +kernel
theorem dX6_marks_50 : decode cX6_marks 50 = .ok (.getfield 146, 3) := by decide +kernel
theorem dX6_marks_53 : decode cX6_marks 53 = .ok (.goto 28, 3) := by decide +kernel
theorem dX6_marks_56 : decode cX6_marks 56 = .ok (.iload_n 3, 1) := by decide +kernel
theorem dX6_marks_57 : decode cX6_marks 57 = .ok (.iconst 1, 1) := by decide +kernel
theorem dX6_marks_58 : decode cX6_marks 58 = .ok (.if_icmp .ne 12, 3) := by decide +kernel
theorem dX6_marks_61 : decode cX6_marks 61 = .ok (.aload_n 0, 1) := by decide +kernel
theorem dX6_marks_62 : decode cX6_marks 62 = .ok (.getfield 32, 3) := by decide +kernel
theorem dX6_marks_65 : decode cX6_marks 65 = .ok (.iconst 0, 1) := by decide +kernel
theorem dX6_marks_66 : decode cX6_marks 66 = .ok (.iaload, 1) := by decide +kernel
theorem dX6_marks_67 : decode cX6_marks 67 = .ok (.goto 14, 3) := by decide +kernel
theorem dX6_marks_70 : decode cX6_marks 70 = .ok (.aload_n 0, 1) := by decide +kernel
theorem dX6_marks_71 : decode cX6_marks 71 = .ok (.getfield 32, 3) := by decide +kernel
theorem dX6_marks_74 : decode cX6_marks 74 = .ok (.aload_n 0, 1) := by decide +kernel
theorem dX6_marks_75 : decode cX6_marks 75 = .ok (.getfield 146, 3) := by decide +kernel
theorem dX6_marks_78 : decode cX6_marks 78 = .ok (.iconst 1, 1) := by decide +kernel
theorem dX6_marks_79 : decode cX6_marks 79 = .ok (.isub, 1) := by decide +kernel
theorem dX6_marks_80 : decode cX6_marks 80 = .ok (.iaload, 1) := by decide +kernel
theorem dX6_marks_81 : decode cX6_marks 81 = .ok (.ireturn, 1) := by decide +kernel
set_option maxRecDepth 20000 in
theorem ggX6_isFirst_X6_gap : GoodIn wsX6_isFirst wsX6_gap := goodIn_r _ [5, 6, 7, 8, 9, 10, 11, 12, 13, 14, 15, 16, 17, 18, 19, 20, 21, 22, 23, 24, 25, 26, 27, 28, 29, 30] (by decide +kernel) (by decide +kernel)
set_option maxRecDepth 20000 in
theorem gX6_isFirst_X6_gap : GoodIn wsX6_isFirst (wsV RX6 156 RX6 yX6_gap wsX6_gap) := goodIn_app (goodIn_of _ (by decide +kernel)) ggX6_isFirst_X6_gap
theorem dX6_isFirst_0 : decode cX6_isFirst 0 = .ok (.iconst 0, 1) := by decide +kernel
theorem dX6_isFirst_1 : decode cX6_isFirst 1 = .ok (.istore_n 2, 1) := by decide +kernel
theorem dX6_isFirst_2 : decode cX6_isFirst 2 = .ok (.iload_n 2, 1) := by decide +kernel
theorem dX6_isFirst_3 : decode cX6_isFirst 3 = .ok (.iload_n 1, 1) := by decide +kernel
theorem dX6_isFirst_4 : decode cX6_isFirst 4 = .ok (.if_icmp .ge 24, 3) := by decide +kernel
theorem dX6_isFirst_7 : decode cX6_isFirst 7 = .ok (.aload_n 0, 1) := by decide +kernel
theorem dX6_isFirst_8 : decode cX6_isFirst 8 = .ok (.iload_n 2, 1) := by decide +kernel
theorem dX6_isFirst_9 : decode cX6_isFirst 9 = .ok (.invokevirtual 156, 3) := by decide +kernel
theorem dX6_isFirst_12 : decode cX6_isFirst 12 = .ok (.aload_n 0, 1) := by decide +kernel
theorem dX6_isFirst_13 : decode cX6_isFirst 13 = .ok (.iload_n 1, 1) := by decide +kernel
theorem dX6_isFirst_14 : decode cX6_isFirst 14 = .ok (.invokevirtual 156, 3) := by decide +kernel
theorem dX6_isFirst_17 : decode cX6_isFirst 17 = .ok (.if_icmp .ne 5, 3) := by decide +kernel
theorem dX6_isFirst_20 : decode cX6_isFirst 20 = .ok (.iconst 0, 1) := by decide +kernel
theorem dX6_isFirst_21 : decode cX6_isFirst 21 = .ok (.ireturn, 1) := by decide +kernel
theorem dX6_isFirst_22 : decode cX6_isFirst 22 = .ok (.iinc 2 1, 3) := by decide +kernel
theorem dX6_isFirst_25 : decode cX6_isFirst 25 = .ok (.goto (-23), 3) := by decide +kernel
theorem dX6_isFirst_28 : decode cX6_isFirst 28 = .ok (.iconst 1, 1) := by decide +kernel
theorem dX6_isFirst_29 : decode cX6_isFirst 29 = .ok (.ireturn, 1) := by decide +kernel
set_option maxRecDepth 20000 in
theorem ggX6_lengthOf_X6_gap : GoodIn wsX6_lengthOf wsX6_gap := goodIn_r _ [6, 1, 7, 8, 9, 10, 11, 12, 13, 14, 15, 16, 17, 18, 19, 20, 21, 22, 23, 24, 25, 26, 27, 28, 29, 30] (by decide +kernel) (by decide +kernel)
set_option maxRecDepth 20000 in
theorem gX6_lengthOf_X6_gap : GoodIn wsX6_lengthOf (wsV RX6 156 RX6 yX6_gap wsX6_gap) := goodIn_app (goodIn_of _ (by decide +kernel)) ggX6_lengthOf_X6_gap
theorem dX6_lengthOf_0 : decode cX6_lengthOf 0 = .ok (.iconst 0, 1) := by decide +kernel
theorem dX6_lengthOf_1 : decode cX6_lengthOf 1 = .ok (.istore_n 2, 1) := by decide +kernel
theorem dX6_lengthOf_2 : decode cX6_lengthOf 2 = .ok (.iconst 0, 1) := by decide +kernel
theorem dX6_lengthOf_3 : decode cX6_lengthOf 3 = .ok (.istore_n 3, 1) := by decide +kernel
theorem dX6_lengthOf_4 : decode cX6_lengthOf 4 = .ok (.iload_n 3, 1) := by decide +kernel
theorem dX6_lengthOf_5 : decode cX6_lengthOf 5 = .ok (.iload_n 1, 1) := by decide +kernel
theorem dX6_lengthOf_6 : decode cX6_lengthOf 6 = .ok (.if_icmp .gt 81, 3) := by decide +kernel
theorem dX6_lengthOf_9 : decode cX6_lengthOf 9 = .ok (.bipush (-9), 2) := by decide +kernel
theorem dX6_lengthOf_11 : decode cX6_lengthOf 11 = .ok (.istore 4, 2) := by decide +kernel
theorem dX6_lengthOf_13 : decode cX6_lengthOf 13 = .ok (.iconst 0, 1) := by decide +kernel
theorem dX6_lengthOf_14 : decode cX6_lengthOf 14 = .ok (.istore 5, 2) := by decide +kernel
theorem dX6_lengthOf_16 : decode cX6_lengthOf 16 = .ok (.iload 5, 2) := by decide +kernel
theorem dX6_lengthOf_18 : decode cX6_lengthOf 18 = .ok (.aload_n 0, 1) := by decide +kernel
theorem dX6_lengthOf_19 : decode cX6_lengthOf 19 = .ok (.getfield 146, 3) := by decide +kernel
theorem dX6_lengthOf_22 : decode cX6_lengthOf 22 = .ok (.if_icmp .ge 46, 3) := by decide +kernel
theorem dX6_lengthOf_25 : decode cX6_lengthOf 25 = .ok (.aload_n 0, 1) := by decide +kernel
theorem dX6_lengthOf_26 : decode cX6_lengthOf 26 = .ok (.iload 5, 2) := by decide +kernel
theorem dX6_lengthOf_28 : decode cX6_lengthOf 28 = .ok (.invokevirtual 156, 3) := by decide +kernel
theorem dX6_lengthOf_31 : decode cX6_lengthOf 31 = .ok (.istore 6, 2) := by decide +kernel
theorem dX6_lengthOf_33 : decode cX6_lengthOf 33 = .ok (.iload 6, 2) := by decide +kernel
theorem dX6_lengthOf_35 : decode cX6_lengthOf 35 = .ok (.iload_n 2, 1) := by decide +kernel
theorem dX6_lengthOf_36 : decode cX6_lengthOf 36 = .ok (.if_icmp .le 22, 3) := by decide +kernel
theorem dX6_lengthOf_39 : decode cX6_lengthOf 39 = .ok (.iload 4, 2) := by decide +kernel
theorem dX6_lengthOf_41 : decode cX6_lengthOf 41 = .ok (.bipush (-9), 2) := by decide +kernel
theorem dX6_lengthOf_43 : decode cX6_lengthOf 43 = .ok (.if_icmp .eq 10, 3) := by decide +kernel
theorem dX6_lengthOf_46 : decode cX6_lengthOf 46 = .ok (.iload 6, 2) := by decide +kernel
theorem dX6_lengthOf_48 : decode cX6_lengthOf 48 = .ok (.iload 4, 2) := by decide +kernel
theorem dX6_lengthOf_50 : decode cX6_lengthOf 50 = .ok (.if_icmp .ge 8, 3) := by decide +kernel
theorem dX6_lengthOf_53 : decode cX6_lengthOf 53 = .ok (.iload 6, 2) := by decide +kernel
theorem dX6_lengthOf_55 : decode cX6_lengthOf 55 = .ok (.goto 5, 3) := by decide +kernel
theorem dX6_lengthOf_58 : decode cX6_lengthOf 58 = .ok (.iload 4, 2) := by decide +kernel
theorem dX6_lengthOf_60 : decode cX6_lengthOf 60 = .ok (.istore 4, 2) := by decide +kernel
theorem dX6_lengthOf_62 : decode cX6_lengthOf 62 = .ok (.iinc 5 1, 3) := by decide +kernel
theorem dX6_lengthOf_65 : decode cX6_lengthOf 65 = .ok (.goto (-49), 3) := by decide +kernel
theorem dX6_lengthOf_68 : decode cX6_lengthOf 68 = .ok (.iload 4, 2) := by decide +kernel
theorem dX6_lengthOf_70 : decode cX6_lengthOf 70 = .ok (.bipush (-9), 2) := by decide +kernel
theorem dX6_lengthOf_72 : decode cX6_lengthOf 72 = .ok (.if_icmp .ne 6, 3) := by decide +kernel
theorem dX6_lengthOf_75 : decode cX6_lengthOf 75 = .ok (.bipush (-9), 2) := by decide +kernel
theorem dX6_lengthOf_77 : decode cX6_lengthOf 77 = .ok (.ireturn, 1) := by decide +kernel
theorem dX6_lengthOf_78 : decode cX6_lengthOf 78 = .ok (.iload 4, 2) := by decide +kernel
theorem dX6_lengthOf_80 : decode cX6_lengthOf 80 = .ok (.istore_n 2, 1) := by decide +kernel
theorem dX6_lengthOf_81 : decode cX6_lengthOf 81 = .ok (.iinc 3 1, 3) := by decide +kernel
theorem dX6_lengthOf_84 : decode cX6_lengthOf 84 = .ok (.goto (-80), 3) := by decide +kernel
theorem dX6_lengthOf_87 : decode cX6_lengthOf 87 = .ok (.iload_n 2, 1) := by decide +kernel
theorem dX6_lengthOf_88 : decode cX6_lengthOf 88 = .ok (.ireturn, 1) := by decide +kernel
set_option maxRecDepth 20000 in
theorem ggX6_unlike_X6_isFirst : GoodIn wsX6_unlike wsX6_isFirst := goodIn_r _ [6, 7, 8, 9, 5, 10, 1, 11, 12, 13, 14, 15, 16, 17, 18, 19, 20, 21, 22, 23, 24, 25, 26, 27, 28, 29, 30, 31, 32, 33, 34] (by decide +kernel) (by decide +kernel)
set_option maxRecDepth 20000 in
theorem gX6_unlike_X6_isFirst : GoodIn wsX6_unlike (wsV RX6 159 RX6 yX6_isFirst wsX6_isFirst) := goodIn_app (goodIn_of _ (by decide +kernel)) ggX6_unlike_X6_isFirst
theorem dX6_unlike_0 : decode cX6_unlike 0 = .ok (.iconst 0, 1) := by decide +kernel
theorem dX6_unlike_1 : decode cX6_unlike 1 = .ok (.istore_n 1, 1) := by decide +kernel
theorem dX6_unlike_2 : decode cX6_unlike 2 = .ok (.iconst 0, 1) := by decide +kernel
theorem dX6_unlike_3 : decode cX6_unlike 3 = .ok (.istore_n 2, 1) := by decide +kernel
theorem dX6_unlike_4 : decode cX6_unlike 4 = .ok (.iload_n 2, 1) := by decide +kernel
theorem dX6_unlike_5 : decode cX6_unlike 5 = .ok (.aload_n 0, 1) := by decide +kernel
theorem dX6_unlike_6 : decode cX6_unlike 6 = .ok (.getfield 146, 3) := by decide +kernel
theorem dX6_unlike_9 : decode cX6_unlike 9 = .ok (.if_icmp .ge 25, 3) := by decide +kernel
theorem dX6_unlike_12 : decode cX6_unlike 12 = .ok (.iload_n 1, 1) := by decide +kernel
theorem dX6_unlike_13 : decode cX6_unlike 13 = .ok (.aload_n 0, 1) := by decide +kernel
theorem dX6_unlike_14 : decode cX6_unlike 14 = .ok (.iload_n 2, 1) := by decide +kernel
theorem dX6_unlike_15 : decode cX6_unlike 15 = .ok (.invokevirtual 159, 3) := by decide +kernel
theorem dX6_unlike_18 : decode cX6_unlike 18 = .ok (.ifCond .eq 7, 3) := by decide +kernel
theorem dX6_unlike_21 : decode cX6_unlike 21 = .ok (.iconst 1, 1) := by decide +kernel
theorem dX6_unlike_22 : decode cX6_unlike 22 = .ok (.goto 4, 3) := by decide +kernel
theorem dX6_unlike_25 : decode cX6_unlike 25 = .ok (.iconst 0, 1) := by decide +kernel
theorem dX6_unlike_26 : decode cX6_unlike 26 = .ok (.iadd, 1) := by decide +kernel
theorem dX6_unlike_27 : decode cX6_unlike 27 = .ok (.istore_n 1, 1) := by decide +kernel
theorem dX6_unlike_28 : decode cX6_unlike 28 = .ok (.iinc 2 1, 3) := by decide +kernel
theorem dX6_unlike_31 : decode cX6_unlike 31 = .ok (.goto (-27), 3) := by decide +kernel
theorem dX6_unlike_34 : decode cX6_unlike 34 = .ok (.iload_n 1, 1) := by decide +kernel
theorem dX6_unlike_35 : decode cX6_unlike 35 = .ok (.ireturn, 1) := by decide +kernel
set_option maxRecDepth 20000 in
theorem ggX6_refusalOf_X6_isWalker : GoodIn wsX6_refusalOf wsX6_isWalker := goodIn_r _ [5, 6, 7, 8, 4, 9, 10, 11, 12, 13, 14, 15, 16, 17, 18, 19, 20, 21, 22, 23, 24, 25, 26, 27, 28, 29, 30, 31] (by decide +kernel) (by decide +kernel)
set_option maxRecDepth 20000 in
theorem gX6_refusalOf_X6_isWalker : GoodIn wsX6_refusalOf (wsV RX6 89 RX6 yX6_isWalker wsX6_isWalker) := goodIn_app (goodIn_of _ (by decide +kernel)) ggX6_refusalOf_X6_isWalker
theorem dX6_refusalOf_0 : decode cX6_refusalOf 0 = .ok (.aload_n 0, 1) := by decide +kernel
theorem dX6_refusalOf_1 : decode cX6_refusalOf 1 = .ok (.iload_n 1, 1) := by decide +kernel
theorem dX6_refusalOf_2 : decode cX6_refusalOf 2 = .ok (.invokevirtual 89, 3) := by decide +kernel
theorem dX6_refusalOf_5 : decode cX6_refusalOf 5 = .ok (.ifCond .ne 5, 3) := by decide +kernel
theorem dX6_refusalOf_8 : decode cX6_refusalOf 8 = .ok (.iconst (-1), 1) := by decide +kernel
theorem dX6_refusalOf_9 : decode cX6_refusalOf 9 = .ok (.ireturn, 1) := by decide +kernel
theorem dX6_refusalOf_10 : decode cX6_refusalOf 10 = .ok (.iload_n 2, 1) := by decide +kernel
theorem dX6_refusalOf_11 : decode cX6_refusalOf 11 = .ok (.iconst 1, 1) := by decide +kernel
theorem dX6_refusalOf_12 : decode cX6_refusalOf 12 = .ok (.if_icmp .lt 9, 3) := by decide +kernel
theorem dX6_refusalOf_15 : decode cX6_refusalOf 15 = .ok (.iload_n 3, 1) := by decide +kernel
theorem dX6_refusalOf_16 : decode cX6_refusalOf 16 = .ok (.iload 4, 2) := by decide +kernel
theorem dX6_refusalOf_18 : decode cX6_refusalOf 18 = .ok (.if_icmp .ge 6, 3) := by decide +kernel
theorem dX6_refusalOf_21 : decode cX6_refusalOf 21 = .ok (.bipush (-4), 2) := by decide +kernel
theorem dX6_refusalOf_23 : decode cX6_refusalOf 23 = .ok (.ireturn, 1) := by decide +kernel
theorem dX6_refusalOf_24 : decode cX6_refusalOf 24 = .ok (.iload_n 2, 1) := by decide +kernel
theorem dX6_refusalOf_25 : decode cX6_refusalOf 25 = .ok (.sipush 200, 3) := by decide +kernel
theorem dX6_refusalOf_28 : decode cX6_refusalOf 28 = .ok (.if_icmp .le 8, 3) := by decide +kernel
theorem dX6_refusalOf_31 : decode cX6_refusalOf 31 = .ok (.bipush (-6), 2) := by decide +kernel
theorem dX6_refusalOf_33 : decode cX6_refusalOf 33 = .ok (.goto 4, 3) := by decide +kernel
theorem dX6_refusalOf_36 : decode cX6_refusalOf 36 = .ok (.iconst 0, 1) := by decide +kernel
theorem dX6_refusalOf_37 : decode cX6_refusalOf 37 = .ok (.ireturn, 1) := by decide +kernel
set_option maxRecDepth 20000 in
theorem ggX6_lengths_X6_refusalOf : GoodIn wsX6_lengths wsX6_refusalOf := goodIn_r _ [6, 7, 8, 9, 5, 10, 11, 12, 13, 14, 59, 60, 61, 62, 63, 64, 65, 66, 67, 68, 69, 70, 71, 72, 73, 74, 75, 76, 77, 78, 79, 80] (by decide +kernel) (by decide +kernel)
set_option maxRecDepth 20000 in
theorem gX6_lengths_X6_refusalOf : GoodIn wsX6_lengths (wsV RX6 162 RX6 yX6_refusalOf wsX6_refusalOf) := goodIn_app (goodIn_of _ (by decide +kernel)) ggX6_lengths_X6_refusalOf
set_option maxRecDepth 20000 in
theorem ggX6_lengths_X6_no : GoodIn wsX6_lengths wsX6_no := goodIn_r _ [18, 19, 59, 60, 61, 62, 63, 64, 65, 66, 67, 68, 69, 70, 71, 72, 73, 74, 75, 76, 77, 78, 79, 80] (by decide +kernel) (by decide +kernel)
set_option maxRecDepth 20000 in
theorem gX6_lengths_X6_no : GoodIn wsX6_lengths (wsV RX6 66 RX6 yX6_no wsX6_no) := goodIn_app (goodIn_of _ (by decide +kernel)) ggX6_lengths_X6_no
set_option maxRecDepth 20000 in
theorem ggX6_lengths_X6_sorts : GoodIn wsX6_lengths wsX6_sorts := goodIn_r _ [23, 24, 1, 25, 26, 27, 28, 5, 29, 30, 31, 32, 33, 34, 35, 36, 37, 38, 39, 40, 41, 42, 59, 60, 61, 62, 63, 64, 65, 66, 67, 68, 69, 70, 71, 72, 73, 74, 75, 76, 77, 78, 79, 80] (by decide +kernel) (by decide +kernel)
set_option maxRecDepth 20000 in
theorem gX6_lengths_X6_sorts : GoodIn wsX6_lengths (wsV RX6 152 RX6 yX6_sorts wsX6_sorts) := goodIn_app (goodIn_of _ (by decide +kernel)) ggX6_lengths_X6_sorts
set_option maxRecDepth 20000 in
theorem ggX6_lengths_X6_unlike : GoodIn wsX6_lengths wsX6_unlike := goodIn_r _ [46, 1, 47, 48, 49, 5, 50, 51, 52, 53, 54, 39, 25, 59, 60, 61, 62, 63, 64, 65, 66, 67, 68, 69, 70, 71, 72, 73, 74, 75, 76, 77, 78, 79, 80] (by decide +kernel) (by decide +kernel)
set_option maxRecDepth 20000 in
theorem gX6_lengths_X6_unlike : GoodIn wsX6_lengths (wsV RX6 166 RX6 yX6_unlike wsX6_unlike) := goodIn_app (goodIn_of _ (by decide +kernel)) ggX6_lengths_X6_unlike
set_option maxRecDepth 20000 in
theorem ggX6_lengths_X6_lengthOf : GoodIn wsX6_lengths wsX6_lengthOf := goodIn_r _ [58, 1, 51, 52, 53, 5, 54, 39, 25, 59, 60, 61, 62, 63, 64, 65, 66, 67, 68, 69, 70, 71, 72, 73, 74, 75, 76, 77, 78, 79, 80] (by decide +kernel) (by decide +kernel)
set_option maxRecDepth 20000 in
theorem gX6_lengths_X6_lengthOf : GoodIn wsX6_lengths (wsV RX6 169 RX6 yX6_lengthOf wsX6_lengthOf) := goodIn_app (goodIn_of _ (by decide +kernel)) ggX6_lengths_X6_lengthOf
theorem dX6_lengths_0 : decode cX6_lengths 0 = .ok (.aload_n 0, 1) := by decide +kernel
theorem dX6_lengths_1 : decode cX6_lengths 1 = .ok (.iload_n 1, 1) := by decide +kernel
theorem dX6_lengths_2 : decode cX6_lengths 2 = .ok (.iload_n 2, 1) := by decide +kernel
theorem dX6_lengths_3 : decode cX6_lengths 3 = .ok (.iload_n 3, 1) := by decide +kernel
theorem dX6_lengths_4 : decode cX6_lengths 4 = .ok (.iconst (-1), 1) := by decide +kernel
theorem dX6_lengths_5 : decode cX6_lengths 5 = .ok (.invokevirtual 162, 3) := by decide +kernel
theorem dX6_lengths_8 : decode cX6_lengths 8 = .ok (.istore 4, 2) := by decide +kernel
theorem dX6_lengths_10 : decode cX6_lengths 10 = .ok (.iload 4, 2) := by decide +kernel
theorem dX6_lengths_12 : decode cX6_lengths 12 = .ok (.ifCond .eq 10, 3) := by decide +kernel
theorem dX6_lengths_15 : decode cX6_lengths 15 = .ok (.aload_n 0, 1) := by decide +kernel
theorem dX6_lengths_16 : decode cX6_lengths 16 = .ok (.iload 4, 2) := by decide +kernel
theorem dX6_lengths_18 : decode cX6_lengths 18 = .ok (.invokevirtual 66, 3) := by decide +kernel
theorem dX6_lengths_21 : decode cX6_lengths 21 = .ok (.ireturn, 1) := by decide +kernel
theorem dX6_lengths_22 : decode cX6_lengths 22 = .ok (.aload_n 0, 1) := by decide +kernel
theorem dX6_lengths_23 : decode cX6_lengths 23 = .ok (.iload_n 1, 1) := by decide +kernel
theorem dX6_lengths_24 : decode cX6_lengths 24 = .ok (.iload_n 2, 1) := by decide +kernel
theorem dX6_lengths_25 : decode cX6_lengths 25 = .ok (.invokevirtual 152, 3) := by decide +kernel
theorem dX6_lengths_28 : decode cX6_lengths 28 = .ok (.iload_n 3, 1) := by decide +kernel
theorem dX6_lengths_29 : decode cX6_lengths 29 = .ok (.iconst (-1), 1) := by decide +kernel
theorem dX6_lengths_30 : decode cX6_lengths 30 = .ok (.if_icmp .ne 10, 3) := by decide +kernel
theorem dX6_lengths_33 : decode cX6_lengths 33 = .ok (.aload_n 0, 1) := by decide +kernel
theorem dX6_lengths_34 : decode cX6_lengths 34 = .ok (.invokevirtual 166, 3) := by decide +kernel
theorem dX6_lengths_37 : decode cX6_lengths 37 = .ok (.goto 21, 3) := by decide +kernel
theorem dX6_lengths_40 : decode cX6_lengths 40 = .ok (.iload_n 3, 1) := by decide +kernel
theorem dX6_lengths_41 : decode cX6_lengths 41 = .ok (.aload_n 0, 1) := by decide +kernel
theorem dX6_lengths_42 : decode cX6_lengths 42 = .ok (.getfield 146, 3) := by decide +kernel
theorem dX6_lengths_45 : decode cX6_lengths 45 = .ok (.if_icmp .lt 8, 3) := by decide +kernel
theorem dX6_lengths_48 : decode cX6_lengths 48 = .ok (.bipush (-9), 2) := by decide +kernel
theorem dX6_lengths_50 : decode cX6_lengths 50 = .ok (.goto 8, 3) := by decide +kernel
theorem dX6_lengths_53 : decode cX6_lengths 53 = .ok (.aload_n 0, 1) := by decide +kernel
theorem dX6_lengths_54 : decode cX6_lengths 54 = .ok (.iload_n 3, 1) := by decide +kernel
theorem dX6_lengths_55 : decode cX6_lengths 55 = .ok (.invokevirtual 169, 3) := by decide +kernel
theorem dX6_lengths_58 : decode cX6_lengths 58 = .ok (.ireturn, 1) := by decide +kernel
set_option maxRecDepth 20000 in
theorem ggX6_many_X6_refusalOf : GoodIn wsX6_many wsX6_refusalOf := goodIn_r _ [6, 7, 8, 9, 5, 10, 11, 12, 13, 14, 51, 52, 53, 54, 55, 56, 57, 58, 59, 60, 61, 62, 63, 64, 65, 66, 67, 68, 69, 70, 71, 72] (by decide +kernel) (by decide +kernel)
set_option maxRecDepth 20000 in
theorem gX6_many_X6_refusalOf : GoodIn wsX6_many (wsV RX6 162 RX6 yX6_refusalOf wsX6_refusalOf) := goodIn_app (goodIn_of _ (by decide +kernel)) ggX6_many_X6_refusalOf
set_option maxRecDepth 20000 in
theorem ggX6_many_X6_no : GoodIn wsX6_many wsX6_no := goodIn_r _ [18, 19, 51, 52, 53, 54, 55, 56, 57, 58, 59, 60, 61, 62, 63, 64, 65, 66, 67, 68, 69, 70, 71, 72] (by decide +kernel) (by decide +kernel)
set_option maxRecDepth 20000 in
theorem gX6_many_X6_no : GoodIn wsX6_many (wsV RX6 66 RX6 yX6_no wsX6_no) := goodIn_app (goodIn_of _ (by decide +kernel)) ggX6_many_X6_no
set_option maxRecDepth 20000 in
theorem ggX6_many_X6_sorts : GoodIn wsX6_many wsX6_sorts := goodIn_r _ [23, 24, 1, 25, 26, 27, 28, 5, 29, 30, 31, 32, 33, 34, 35, 36, 37, 38, 39, 40, 41, 42, 51, 52, 53, 54, 55, 56, 57, 58, 59, 60, 61, 62, 63, 64, 65, 66, 67, 68, 69, 70, 71, 72] (by decide +kernel) (by decide +kernel)
set_option maxRecDepth 20000 in
theorem gX6_many_X6_sorts : GoodIn wsX6_many (wsV RX6 152 RX6 yX6_sorts wsX6_sorts) := goodIn_app (goodIn_of _ (by decide +kernel)) ggX6_many_X6_sorts
set_option maxRecDepth 20000 in
theorem ggX6_many_X6_lengthOf : GoodIn wsX6_many wsX6_lengthOf := goodIn_r _ [46, 1, 47, 48, 49, 5, 50, 39, 25, 51, 52, 53, 54, 55, 56, 57, 58, 59, 60, 61, 62, 63, 64, 65, 66, 67, 68, 69, 70, 71, 72] (by decide +kernel) (by decide +kernel)
set_option maxRecDepth 20000 in
theorem gX6_many_X6_lengthOf : GoodIn wsX6_many (wsV RX6 169 RX6 yX6_lengthOf wsX6_lengthOf) := goodIn_app (goodIn_of _ (by decide +kernel)) ggX6_many_X6_lengthOf
set_option maxRecDepth 20000 in
theorem ggX6_many_X6_gap : GoodIn wsX6_many wsX6_gap := goodIn_r _ [50, 1, 39, 25, 51, 52, 53, 54, 55, 56, 57, 58, 59, 60, 61, 62, 63, 64, 65, 66, 67, 68, 69, 70, 71, 72] (by decide +kernel) (by decide +kernel)
set_option maxRecDepth 20000 in
theorem gX6_many_X6_gap : GoodIn wsX6_many (wsV RX6 156 RX6 yX6_gap wsX6_gap) := goodIn_app (goodIn_of _ (by decide +kernel)) ggX6_many_X6_gap
theorem dX6_many_0 : decode cX6_many 0 = .ok (.aload_n 0, 1) := by decide +kernel
theorem dX6_many_1 : decode cX6_many 1 = .ok (.iload_n 1, 1) := by decide +kernel
theorem dX6_many_2 : decode cX6_many 2 = .ok (.iload_n 2, 1) := by decide +kernel
theorem dX6_many_3 : decode cX6_many 3 = .ok (.iload_n 3, 1) := by decide +kernel
theorem dX6_many_4 : decode cX6_many 4 = .ok (.iconst 0, 1) := by decide +kernel
theorem dX6_many_5 : decode cX6_many 5 = .ok (.invokevirtual 162, 3) := by decide +kernel
theorem dX6_many_8 : decode cX6_many 8 = .ok (.istore 4, 2) := by decide +kernel
theorem dX6_many_10 : decode cX6_many 10 = .ok (.iload 4, 2) := by decide +kernel
theorem dX6_many_12 : decode cX6_many 12 = .ok (.ifCond .eq 10, 3) := by decide +kernel
theorem dX6_many_15 : decode cX6_many 15 = .ok (.aload_n 0, 1) := by decide +kernel
theorem dX6_many_16 : decode cX6_many 16 = .ok (.iload 4, 2) := by decide +kernel
theorem dX6_many_18 : decode cX6_many 18 = .ok (.invokevirtual 66, 3) := by decide +kernel
theorem dX6_many_21 : decode cX6_many 21 = .ok (.ireturn, 1) := by decide +kernel
theorem dX6_many_22 : decode cX6_many 22 = .ok (.aload_n 0, 1) := by decide +kernel
theorem dX6_many_23 : decode cX6_many 23 = .ok (.iload_n 1, 1) := by decide +kernel
theorem dX6_many_24 : decode cX6_many 24 = .ok (.iload_n 2, 1) := by decide +kernel
theorem dX6_many_25 : decode cX6_many 25 = .ok (.invokevirtual 152, 3) := by decide +kernel
theorem dX6_many_28 : decode cX6_many 28 = .ok (.iload_n 3, 1) := by decide +kernel
theorem dX6_many_29 : decode cX6_many 29 = .ok (.aload_n 0, 1) := by decide +kernel
theorem dX6_many_30 : decode cX6_many 30 = .ok (.getfield 146, 3) := by decide +kernel
theorem dX6_many_33 : decode cX6_many 33 = .ok (.if_icmp .lt 8, 3) := by decide +kernel
theorem dX6_many_36 : decode cX6_many 36 = .ok (.bipush (-9), 2) := by decide +kernel
theorem dX6_many_38 : decode cX6_many 38 = .ok (.goto 8, 3) := by decide +kernel
theorem dX6_many_41 : decode cX6_many 41 = .ok (.aload_n 0, 1) := by decide +kernel
theorem dX6_many_42 : decode cX6_many 42 = .ok (.iload_n 3, 1) := by decide +kernel
theorem dX6_many_43 : decode cX6_many 43 = .ok (.invokevirtual 169, 3) := by decide +kernel
theorem dX6_many_46 : decode cX6_many 46 = .ok (.istore 5, 2) := by decide +kernel
theorem dX6_many_48 : decode cX6_many 48 = .ok (.iload 5, 2) := by decide +kernel
theorem dX6_many_50 : decode cX6_many 50 = .ok (.bipush (-9), 2) := by decide +kernel
theorem dX6_many_52 : decode cX6_many 52 = .ok (.if_icmp .ne 6, 3) := by decide +kernel
theorem dX6_many_55 : decode cX6_many 55 = .ok (.bipush (-9), 2) := by decide +kernel
theorem dX6_many_57 : decode cX6_many 57 = .ok (.ireturn, 1) := by decide +kernel
theorem dX6_many_58 : decode cX6_many 58 = .ok (.iconst 0, 1) := by decide +kernel
theorem dX6_many_59 : decode cX6_many 59 = .ok (.istore 6, 2) := by decide +kernel
theorem dX6_many_61 : decode cX6_many 61 = .ok (.iconst 0, 1) := by decide +kernel
theorem dX6_many_62 : decode cX6_many 62 = .ok (.istore 7, 2) := by decide +kernel
theorem dX6_many_64 : decode cX6_many 64 = .ok (.iload 7, 2) := by decide +kernel
theorem dX6_many_66 : decode cX6_many 66 = .ok (.aload_n 0, 1) := by decide +kernel
theorem dX6_many_67 : decode cX6_many 67 = .ok (.getfield 146, 3) := by decide +kernel
theorem dX6_many_70 : decode cX6_many 70 = .ok (.if_icmp .ge 30, 3) := by decide +kernel
theorem dX6_many_73 : decode cX6_many 73 = .ok (.iload 6, 2) := by decide +kernel
theorem dX6_many_75 : decode cX6_many 75 = .ok (.aload_n 0, 1) := by decide +kernel
theorem dX6_many_76 : decode cX6_many 76 = .ok (.iload 7, 2) := by decide +kernel
theorem dX6_many_78 : decode cX6_many 78 = .ok (.invokevirtual 156, 3) := by decide +kernel
theorem dX6_many_81 : decode cX6_many 81 = .ok (.iload 5, 2) := by decide +kernel
theorem dX6_many_83 : decode cX6_many 83 = .ok (.if_icmp .ne 7, 3) := by decide +kernel
theorem dX6_many_86 : decode cX6_many 86 = .ok (.iconst 1, 1) := by decide +kernel
theorem dX6_many_87 : decode cX6_many 87 = .ok (.goto 4, 3) := by decide +kernel
theorem dX6_many_90 : decode cX6_many 90 = .ok (.iconst 0, 1) := by decide +kernel
theorem dX6_many_91 : decode cX6_many 91 = .ok (.iadd, 1) := by decide +kernel
theorem dX6_many_92 : decode cX6_many 92 = .ok (.istore 6, 2) := by decide +kernel
theorem dX6_many_94 : decode cX6_many 94 = .ok (.iinc 7 1, 3) := by decide +kernel
theorem dX6_many_97 : decode cX6_many 97 = .ok (.goto (-33), 3) := by decide +kernel
theorem dX6_many_100 : decode cX6_many 100 = .ok (.iload 6, 2) := by decide +kernel
theorem dX6_many_102 : decode cX6_many 102 = .ok (.ireturn, 1) := by decide +kernel
set_option maxRecDepth 20000 in
theorem ggX6_seen_X6_refusalOf : GoodIn wsX6_seen wsX6_refusalOf := goodIn_r _ [6, 7, 8, 9, 5, 10, 11, 12, 13, 14, 51, 52, 53, 54, 55, 56, 57, 58, 59, 60, 61, 62, 63, 64, 65, 66, 67, 68, 69, 70, 71, 72] (by decide +kernel) (by decide +kernel)
set_option maxRecDepth 20000 in
theorem gX6_seen_X6_refusalOf : GoodIn wsX6_seen (wsV RX6 162 RX6 yX6_refusalOf wsX6_refusalOf) := goodIn_app (goodIn_of _ (by decide +kernel)) ggX6_seen_X6_refusalOf
set_option maxRecDepth 20000 in
theorem ggX6_seen_X6_no : GoodIn wsX6_seen wsX6_no := goodIn_r _ [18, 19, 51, 52, 53, 54, 55, 56, 57, 58, 59, 60, 61, 62, 63, 64, 65, 66, 67, 68, 69, 70, 71, 72] (by decide +kernel) (by decide +kernel)
set_option maxRecDepth 20000 in
theorem gX6_seen_X6_no : GoodIn wsX6_seen (wsV RX6 66 RX6 yX6_no wsX6_no) := goodIn_app (goodIn_of _ (by decide +kernel)) ggX6_seen_X6_no
set_option maxRecDepth 20000 in
theorem ggX6_seen_X6_sorts : GoodIn wsX6_seen wsX6_sorts := goodIn_r _ [23, 24, 1, 25, 26, 27, 28, 5, 29, 30, 31, 32, 33, 34, 35, 36, 37, 38, 39, 40, 41, 42, 51, 52, 53, 54, 55, 56, 57, 58, 59, 60, 61, 62, 63, 64, 65, 66, 67, 68, 69, 70, 71, 72] (by decide +kernel) (by decide +kernel)
set_option maxRecDepth 20000 in
theorem gX6_seen_X6_sorts : GoodIn wsX6_seen (wsV RX6 152 RX6 yX6_sorts wsX6_sorts) := goodIn_app (goodIn_of _ (by decide +kernel)) ggX6_seen_X6_sorts
set_option maxRecDepth 20000 in
theorem ggX6_seen_X6_isFirst : GoodIn wsX6_seen wsX6_isFirst := goodIn_r _ [46, 47, 48, 49, 5, 50, 1, 39, 25, 51, 52, 53, 54, 55, 56, 57, 58, 59, 60, 61, 62, 63, 64, 65, 66, 67, 68, 69, 70, 71, 72] (by decide +kernel) (by decide +kernel)
set_option maxRecDepth 20000 in
theorem gX6_seen_X6_isFirst : GoodIn wsX6_seen (wsV RX6 159 RX6 yX6_isFirst wsX6_isFirst) := goodIn_app (goodIn_of _ (by decide +kernel)) ggX6_seen_X6_isFirst
set_option maxRecDepth 20000 in
theorem ggX6_seen_X6_gap : GoodIn wsX6_seen wsX6_gap := goodIn_r _ [50, 1, 39, 25, 51, 52, 53, 54, 55, 56, 57, 58, 59, 60, 61, 62, 63, 64, 65, 66, 67, 68, 69, 70, 71, 72] (by decide +kernel) (by decide +kernel)
set_option maxRecDepth 20000 in
theorem gX6_seen_X6_gap : GoodIn wsX6_seen (wsV RX6 156 RX6 yX6_gap wsX6_gap) := goodIn_app (goodIn_of _ (by decide +kernel)) ggX6_seen_X6_gap
theorem dX6_seen_0 : decode cX6_seen 0 = .ok (.aload_n 0, 1) := by decide +kernel
theorem dX6_seen_1 : decode cX6_seen 1 = .ok (.iload_n 1, 1) := by decide +kernel
theorem dX6_seen_2 : decode cX6_seen 2 = .ok (.iload_n 2, 1) := by decide +kernel
theorem dX6_seen_3 : decode cX6_seen 3 = .ok (.iload_n 3, 1) := by decide +kernel
theorem dX6_seen_4 : decode cX6_seen 4 = .ok (.iconst 0, 1) := by decide +kernel
theorem dX6_seen_5 : decode cX6_seen 5 = .ok (.invokevirtual 162, 3) := by decide +kernel
theorem dX6_seen_8 : decode cX6_seen 8 = .ok (.istore 4, 2) := by decide +kernel
theorem dX6_seen_10 : decode cX6_seen 10 = .ok (.iload 4, 2) := by decide +kernel
theorem dX6_seen_12 : decode cX6_seen 12 = .ok (.ifCond .eq 10, 3) := by decide +kernel
theorem dX6_seen_15 : decode cX6_seen 15 = .ok (.aload_n 0, 1) := by decide +kernel
theorem dX6_seen_16 : decode cX6_seen 16 = .ok (.iload 4, 2) := by decide +kernel
theorem dX6_seen_18 : decode cX6_seen 18 = .ok (.invokevirtual 66, 3) := by decide +kernel
theorem dX6_seen_21 : decode cX6_seen 21 = .ok (.ireturn, 1) := by decide +kernel
theorem dX6_seen_22 : decode cX6_seen 22 = .ok (.aload_n 0, 1) := by decide +kernel
theorem dX6_seen_23 : decode cX6_seen 23 = .ok (.iload_n 1, 1) := by decide +kernel
theorem dX6_seen_24 : decode cX6_seen 24 = .ok (.iload_n 2, 1) := by decide +kernel
theorem dX6_seen_25 : decode cX6_seen 25 = .ok (.invokevirtual 152, 3) := by decide +kernel
theorem dX6_seen_28 : decode cX6_seen 28 = .ok (.iconst 0, 1) := by decide +kernel
theorem dX6_seen_29 : decode cX6_seen 29 = .ok (.istore 5, 2) := by decide +kernel
theorem dX6_seen_31 : decode cX6_seen 31 = .ok (.iconst 0, 1) := by decide +kernel
theorem dX6_seen_32 : decode cX6_seen 32 = .ok (.istore 6, 2) := by decide +kernel
theorem dX6_seen_34 : decode cX6_seen 34 = .ok (.iload 6, 2) := by decide +kernel
theorem dX6_seen_36 : decode cX6_seen 36 = .ok (.aload_n 0, 1) := by decide +kernel
theorem dX6_seen_37 : decode cX6_seen 37 = .ok (.getfield 146, 3) := by decide +kernel
theorem dX6_seen_40 : decode cX6_seen 40 = .ok (.if_icmp .ge 37, 3) := by decide +kernel
theorem dX6_seen_43 : decode cX6_seen 43 = .ok (.aload_n 0, 1) := by decide +kernel
theorem dX6_seen_44 : decode cX6_seen 44 = .ok (.iload 6, 2) := by decide +kernel
theorem dX6_seen_46 : decode cX6_seen 46 = .ok (.invokevirtual 159, 3) := by decide +kernel
theorem dX6_seen_49 : decode cX6_seen 49 = .ok (.ifCond .ne 6, 3) := by decide +kernel
theorem dX6_seen_52 : decode cX6_seen 52 = .ok (.goto 19, 3) := by decide +kernel
theorem dX6_seen_55 : decode cX6_seen 55 = .ok (.iload 5, 2) := by decide +kernel
theorem dX6_seen_57 : decode cX6_seen 57 = .ok (.iload_n 3, 1) := by decide +kernel
theorem dX6_seen_58 : decode cX6_seen 58 = .ok (.if_icmp .ne 10, 3) := by decide +kernel
theorem dX6_seen_61 : decode cX6_seen 61 = .ok (.aload_n 0, 1) := by decide +kernel
theorem dX6_seen_62 : decode cX6_seen 62 = .ok (.iload 6, 2) := by decide +kernel
theorem dX6_seen_64 : decode cX6_seen 64 = .ok (.invokevirtual 156, 3) := by decide +kernel
theorem dX6_seen_67 : decode cX6_seen 67 = .ok (.ireturn, 1) := by decide +kernel
theorem dX6_seen_68 : decode cX6_seen 68 = .ok (.iinc 5 1, 3) := by decide +kernel
theorem dX6_seen_71 : decode cX6_seen 71 = .ok (.iinc 6 1, 3) := by decide +kernel
theorem dX6_seen_74 : decode cX6_seen 74 = .ok (.goto (-40), 3) := by decide +kernel
theorem dX6_seen_77 : decode cX6_seen 77 = .ok (.bipush (-9), 2) := by decide +kernel
theorem dX6_seen_79 : decode cX6_seen 79 = .ok (.ireturn, 1) := by decide +kernel
set_option maxRecDepth 20000 in
theorem ggX6_split_X6_refusal : GoodIn wsX6_split wsX6_refusal := goodIn_r _ [8, 9, 10, 11, 7, 12, 13, 14, 15, 16, 17, 18, 19, 46, 47, 48, 49, 50, 51, 52, 53, 54, 55, 56, 57, 58, 59, 60, 61, 62, 63, 64, 65, 66, 67] (by decide +kernel) (by decide +kernel)
set_option maxRecDepth 20000 in
theorem gX6_split_X6_refusal : GoodIn wsX6_split (wsV RX6 149 RX6 yX6_refusal wsX6_refusal) := goodIn_app (goodIn_of _ (by decide +kernel)) ggX6_split_X6_refusal
set_option maxRecDepth 20000 in
theorem ggX6_split_X6_no : GoodIn wsX6_split wsX6_no := goodIn_r _ [23, 24, 46, 47, 48, 49, 50, 51, 52, 53, 54, 55, 56, 57, 58, 59, 60, 61, 62, 63, 64, 65, 66, 67] (by decide +kernel) (by decide +kernel)
set_option maxRecDepth 20000 in
theorem gX6_split_X6_no : GoodIn wsX6_split (wsV RX6 66 RX6 yX6_no wsX6_no) := goodIn_app (goodIn_of _ (by decide +kernel)) ggX6_split_X6_no
set_option maxRecDepth 20000 in
theorem ggX6_split_X6_in : GoodIn wsX6_split wsX6_in := goodIn_r _ [16] (by decide +kernel) (by decide +kernel)
set_option maxRecDepth 20000 in
theorem gX6_split_X6_in : GoodIn wsX6_split (va_wsS RX6 73 yX6_in wsX6_in) := goodIn_app (goodIn_of _ (by decide +kernel)) ggX6_split_X6_in
set_option maxRecDepth 20000 in
theorem ggX6_split_X6_sorts : GoodIn wsX6_split wsX6_sorts := goodIn_r _ [28, 29, 2, 1, 30, 31, 32, 7, 33, 34, 35, 36, 37, 38, 39, 40, 41, 42, 3, 43, 44, 45, 46, 47, 48, 49, 50, 51, 52, 53, 54, 55, 56, 57, 58, 59, 60, 61, 62, 63, 64, 65, 66, 67] (by decide +kernel) (by decide +kernel)
set_option maxRecDepth 20000 in
theorem gX6_split_X6_sorts : GoodIn wsX6_split (wsV RX6 152 RX6 yX6_sorts wsX6_sorts) := goodIn_app (goodIn_of _ (by decide +kernel)) ggX6_split_X6_sorts
set_option maxRecDepth 20000 in
theorem ggX6_split_X6_placeOf : GoodIn wsX6_split wsX6_placeOf := goodIn_r _ [33, 34, 35, 36, 7, 37, 38, 39, 40, 41, 42, 3, 43, 44, 45, 46, 47, 48, 49, 50, 51, 52, 53, 54, 55, 56, 57, 58, 59, 60, 61, 62, 63, 64, 65, 66, 67] (by decide +kernel) (by decide +kernel)
set_option maxRecDepth 20000 in
theorem gX6_split_X6_placeOf : GoodIn wsX6_split (wsV RX6 111 RX6 yX6_placeOf wsX6_placeOf) := goodIn_app (goodIn_of _ (by decide +kernel)) ggX6_split_X6_placeOf
theorem dX6_split_0 : decode cX6_split 0 = .ok (.aload_n 0, 1) := by decide +kernel
theorem dX6_split_1 : decode cX6_split 1 = .ok (.iload_n 1, 1) := by decide +kernel
theorem dX6_split_2 : decode cX6_split 2 = .ok (.iload_n 2, 1) := by decide +kernel
theorem dX6_split_3 : decode cX6_split 3 = .ok (.invokevirtual 149, 3) := by decide +kernel
theorem dX6_split_6 : decode cX6_split 6 = .ok (.istore 4, 2) := by decide +kernel
theorem dX6_split_8 : decode cX6_split 8 = .ok (.iload 4, 2) := by decide +kernel
theorem dX6_split_10 : decode cX6_split 10 = .ok (.ifCond .eq 10, 3) := by decide +kernel
theorem dX6_split_13 : decode cX6_split 13 = .ok (.aload_n 0, 1) := by decide +kernel
theorem dX6_split_14 : decode cX6_split 14 = .ok (.iload 4, 2) := by decide +kernel
theorem dX6_split_16 : decode cX6_split 16 = .ok (.invokevirtual 66, 3) := by decide +kernel
theorem dX6_split_19 : decode cX6_split 19 = .ok (.ireturn, 1) := by decide +kernel
theorem dX6_split_20 : decode cX6_split 20 = .ok (.iload_n 3, 1) := by decide +kernel
theorem dX6_split_21 : decode cX6_split 21 = .ok (.i2l, 1) := by decide +kernel
theorem dX6_split_22 : decode cX6_split 22 = .ok (.lconst 0, 1) := by decide +kernel
theorem dX6_split_23 : decode cX6_split 23 = .ok (.lconst 1, 1) := by decide +kernel
theorem dX6_split_24 : decode cX6_split 24 = .ok (.invokestatic 73, 3) := by decide +kernel
theorem dX6_split_27 : decode cX6_split 27 = .ok (.ifCond .ne 10, 3) := by decide +kernel
theorem dX6_split_30 : decode cX6_split 30 = .ok (.aload_n 0, 1) := by decide +kernel
theorem dX6_split_31 : decode cX6_split 31 = .ok (.bipush (-2), 2) := by decide +kernel
theorem dX6_split_33 : decode cX6_split 33 = .ok (.invokevirtual 66, 3) := by decide +kernel
theorem dX6_split_36 : decode cX6_split 36 = .ok (.ireturn, 1) := by decide +kernel
theorem dX6_split_37 : decode cX6_split 37 = .ok (.aload_n 0, 1) := by decide +kernel
theorem dX6_split_38 : decode cX6_split 38 = .ok (.iload_n 1, 1) := by decide +kernel
theorem dX6_split_39 : decode cX6_split 39 = .ok (.iload_n 2, 1) := by decide +kernel
theorem dX6_split_40 : decode cX6_split 40 = .ok (.invokevirtual 152, 3) := by decide +kernel
theorem dX6_split_43 : decode cX6_split 43 = .ok (.aload_n 0, 1) := by decide +kernel
theorem dX6_split_44 : decode cX6_split 44 = .ok (.iload_n 1, 1) := by decide +kernel
theorem dX6_split_45 : decode cX6_split 45 = .ok (.iload_n 2, 1) := by decide +kernel
theorem dX6_split_46 : decode cX6_split 46 = .ok (.invokevirtual 111, 3) := by decide +kernel
theorem dX6_split_49 : decode cX6_split 49 = .ok (.istore 5, 2) := by decide +kernel
theorem dX6_split_51 : decode cX6_split 51 = .ok (.aload_n 0, 1) := by decide +kernel
theorem dX6_split_52 : decode cX6_split 52 = .ok (.getfield 32, 3) := by decide +kernel
theorem dX6_split_55 : decode cX6_split 55 = .ok (.aload_n 0, 1) := by decide +kernel
theorem dX6_split_56 : decode cX6_split 56 = .ok (.getfield 146, 3) := by decide +kernel
theorem dX6_split_59 : decode cX6_split 59 = .ok (.iconst 1, 1) := by decide +kernel
theorem dX6_split_60 : decode cX6_split 60 = .ok (.isub, 1) := by decide +kernel
theorem dX6_split_61 : decode cX6_split 61 = .ok (.iaload, 1) := by decide +kernel
theorem dX6_split_62 : decode cX6_split 62 = .ok (.istore 6, 2) := by decide +kernel
theorem dX6_split_64 : decode cX6_split 64 = .ok (.iconst 0, 1) := by decide +kernel
theorem dX6_split_65 : decode cX6_split 65 = .ok (.istore 7, 2) := by decide +kernel
theorem dX6_split_67 : decode cX6_split 67 = .ok (.iload 7, 2) := by decide +kernel
theorem dX6_split_69 : decode cX6_split 69 = .ok (.aload_n 0, 1) := by decide +kernel
theorem dX6_split_70 : decode cX6_split 70 = .ok (.getfield 146, 3) := by decide +kernel
theorem dX6_split_73 : decode cX6_split 73 = .ok (.if_icmp .ge 45, 3) := by decide +kernel
theorem dX6_split_76 : decode cX6_split 76 = .ok (.aload_n 0, 1) := by decide +kernel
theorem dX6_split_77 : decode cX6_split 77 = .ok (.getfield 32, 3) := by decide +kernel
theorem dX6_split_80 : decode cX6_split 80 = .ok (.iload 7, 2) := by decide +kernel
theorem dX6_split_82 : decode cX6_split 82 = .ok (.iaload, 1) := by decide +kernel
theorem dX6_split_83 : decode cX6_split 83 = .ok (.iload 5, 2) := by decide +kernel
theorem dX6_split_85 : decode cX6_split 85 = .ok (.if_icmp .ne 6, 3) := by decide +kernel
theorem dX6_split_88 : decode cX6_split 88 = .ok (.bipush (-9), 2) := by decide +kernel
theorem dX6_split_90 : decode cX6_split 90 = .ok (.ireturn, 1) := by decide +kernel
theorem dX6_split_91 : decode cX6_split 91 = .ok (.aload_n 0, 1) := by decide +kernel
theorem dX6_split_92 : decode cX6_split 92 = .ok (.getfield 32, 3) := by decide +kernel
theorem dX6_split_95 : decode cX6_split 95 = .ok (.iload 7, 2) := by decide +kernel
theorem dX6_split_97 : decode cX6_split 97 = .ok (.iaload, 1) := by decide +kernel
theorem dX6_split_98 : decode cX6_split 98 = .ok (.iload 5, 2) := by decide +kernel
theorem dX6_split_100 : decode cX6_split 100 = .ok (.if_icmp .ge 12, 3) := by decide +kernel
theorem dX6_split_103 : decode cX6_split 103 = .ok (.aload_n 0, 1) := by decide +kernel
theorem dX6_split_104 : decode cX6_split 104 = .ok (.getfield 32, 3) := by decide +kernel
theorem dX6_split_107 : decode cX6_split 107 = .ok (.iload 7, 2) := by decide +kernel
theorem dX6_split_109 : decode cX6_split 109 = .ok (.iaload, 1) := by decide +kernel
theorem dX6_split_110 : decode cX6_split 110 = .ok (.istore 6, 2) := by decide +kernel
theorem dX6_split_112 : decode cX6_split 112 = .ok (.iinc 7 1, 3) := by decide +kernel
theorem dX6_split_115 : decode cX6_split 115 = .ok (.goto (-48), 3) := by decide +kernel
theorem dX6_split_118 : decode cX6_split 118 = .ok (.iload_n 3, 1) := by decide +kernel
theorem dX6_split_119 : decode cX6_split 119 = .ok (.ifCond .ne 8, 3) := by decide +kernel
theorem dX6_split_122 : decode cX6_split 122 = .ok (.iload 6, 2) := by decide +kernel
theorem dX6_split_124 : decode cX6_split 124 = .ok (.goto 28, 3) := by decide +kernel
theorem dX6_split_127 : decode cX6_split 127 = .ok (.iload 5, 2) := by decide +kernel
theorem dX6_split_129 : decode cX6_split 129 = .ok (.iload 6, 2) := by decide +kernel
theorem dX6_split_131 : decode cX6_split 131 = .ok (.if_icmp .ge 16, 3) := by decide +kernel
theorem dX6_split_134 : decode cX6_split 134 = .ok (.iload 5, 2) := by decide +kernel
theorem dX6_split_136 : decode cX6_split 136 = .ok (.aload_n 0, 1) := by decide +kernel
theorem dX6_split_137 : decode cX6_split 137 = .ok (.getfield 13, 3) := by decide +kernel
theorem dX6_split_140 : decode cX6_split 140 = .ok (.iadd, 1) := by decide +kernel
theorem dX6_split_141 : decode cX6_split 141 = .ok (.iload 6, 2) := by decide +kernel
theorem dX6_split_143 : decode cX6_split 143 = .ok (.isub, 1) := by decide +kernel
theorem dX6_split_144 : decode cX6_split 144 = .ok (.goto 8, 3) := by decide +kernel
theorem dX6_split_147 : decode cX6_split 147 = .ok (.iload 5, 2) := by decide +kernel
theorem dX6_split_149 : decode cX6_split 149 = .ok (.iload 6, 2) := by decide +kernel
theorem dX6_split_151 : decode cX6_split 151 = .ok (.isub, 1) := by decide +kernel
theorem dX6_split_152 : decode cX6_split 152 = .ok (.ireturn, 1) := by decide +kernel
set_option maxRecDepth 20000 in
theorem ggX6_closest_X6_refusal : GoodIn wsX6_closest wsX6_refusal := goodIn_r _ [7, 8, 9, 10, 6, 11, 12, 13, 14, 15, 16, 17, 18, 50, 51, 52, 53, 54, 55, 56, 57, 58, 59, 60, 61, 62, 63, 64, 65, 66, 67, 68, 69, 70, 71] (by decide +kernel) (by decide +kernel)
set_option maxRecDepth 20000 in
theorem gX6_closest_X6_refusal : GoodIn wsX6_closest (wsV RX6 149 RX6 yX6_refusal wsX6_refusal) := goodIn_app (goodIn_of _ (by decide +kernel)) ggX6_closest_X6_refusal
set_option maxRecDepth 20000 in
theorem ggX6_closest_X6_no : GoodIn wsX6_closest wsX6_no := goodIn_r _ [22, 23, 50, 51, 52, 53, 54, 55, 56, 57, 58, 59, 60, 61, 62, 63, 64, 65, 66, 67, 68, 69, 70, 71] (by decide +kernel) (by decide +kernel)
set_option maxRecDepth 20000 in
theorem gX6_closest_X6_no : GoodIn wsX6_closest (wsV RX6 66 RX6 yX6_no wsX6_no) := goodIn_app (goodIn_of _ (by decide +kernel)) ggX6_closest_X6_no
set_option maxRecDepth 20000 in
theorem ggX6_closest_X6_in : GoodIn wsX6_closest wsX6_in := goodIn_r _ [15] (by decide +kernel) (by decide +kernel)
set_option maxRecDepth 20000 in
theorem gX6_closest_X6_in : GoodIn wsX6_closest (va_wsS RX6 73 yX6_in wsX6_in) := goodIn_app (goodIn_of _ (by decide +kernel)) ggX6_closest_X6_in
set_option maxRecDepth 20000 in
theorem ggX6_closest_X6_sorts : GoodIn wsX6_closest wsX6_sorts := goodIn_r _ [27, 28, 1, 2, 29, 30, 31, 6, 32, 33, 34, 35, 36, 37, 38, 39, 40, 41, 42, 43, 44, 45, 50, 51, 52, 53, 54, 55, 56, 57, 58, 59, 60, 61, 62, 63, 64, 65, 66, 67, 68, 69, 70, 71] (by decide +kernel) (by decide +kernel)
set_option maxRecDepth 20000 in
theorem gX6_closest_X6_sorts : GoodIn wsX6_closest (wsV RX6 152 RX6 yX6_sorts wsX6_sorts) := goodIn_app (goodIn_of _ (by decide +kernel)) ggX6_closest_X6_sorts
set_option maxRecDepth 20000 in
theorem ggX6_closest_X6_gap : GoodIn wsX6_closest wsX6_gap := goodIn_r _ [49, 1, 42, 2, 50, 51, 52, 53, 54, 55, 56, 57, 58, 59, 60, 61, 62, 63, 64, 65, 66, 67, 68, 69, 70, 71] (by decide +kernel) (by decide +kernel)
set_option maxRecDepth 20000 in
theorem gX6_closest_X6_gap : GoodIn wsX6_closest (wsV RX6 156 RX6 yX6_gap wsX6_gap) := goodIn_app (goodIn_of _ (by decide +kernel)) ggX6_closest_X6_gap
theorem dX6_closest_0 : decode cX6_closest 0 = .ok (.aload_n 0, 1) := by decide +kernel
theorem dX6_closest_1 : decode cX6_closest 1 = .ok (.iload_n 1, 1) := by decide +kernel
theorem dX6_closest_2 : decode cX6_closest 2 = .ok (.iload_n 2, 1) := by decide +kernel
theorem dX6_closest_3 : decode cX6_closest 3 = .ok (.invokevirtual 149, 3) := by decide +kernel
theorem dX6_closest_6 : decode cX6_closest 6 = .ok (.istore 4, 2) := by decide +kernel
theorem dX6_closest_8 : decode cX6_closest 8 = .ok (.iload 4, 2) := by decide +kernel
theorem dX6_closest_10 : decode cX6_closest 10 = .ok (.ifCond .eq 10, 3) := by decide +kernel
theorem dX6_closest_13 : decode cX6_closest 13 = .ok (.aload_n 0, 1) := by decide +kernel
theorem dX6_closest_14 : decode cX6_closest 14 = .ok (.iload 4, 2) := by decide +kernel
theorem dX6_closest_16 : decode cX6_closest 16 = .ok (.invokevirtual 66, 3) := by decide +kernel
theorem dX6_closest_19 : decode cX6_closest 19 = .ok (.ireturn, 1) := by decide +kernel
theorem dX6_closest_20 : decode cX6_closest 20 = .ok (.iload_n 3, 1) := by decide +kernel
theorem dX6_closest_21 : decode cX6_closest 21 = .ok (.i2l, 1) := by decide +kernel
theorem dX6_closest_22 : decode cX6_closest 22 = .ok (.lconst 0, 1) := by decide +kernel
theorem dX6_closest_23 : decode cX6_closest 23 = .ok (.lconst 1, 1) := by decide +kernel
theorem dX6_closest_24 : decode cX6_closest 24 = .ok (.invokestatic 73, 3) := by decide +kernel
theorem dX6_closest_27 : decode cX6_closest 27 = .ok (.ifCond .ne 10, 3) := by decide +kernel
theorem dX6_closest_30 : decode cX6_closest 30 = .ok (.aload_n 0, 1) := by decide +kernel
theorem dX6_closest_31 : decode cX6_closest 31 = .ok (.bipush (-2), 2) := by decide +kernel
theorem dX6_closest_33 : decode cX6_closest 33 = .ok (.invokevirtual 66, 3) := by decide +kernel
theorem dX6_closest_36 : decode cX6_closest 36 = .ok (.ireturn, 1) := by decide +kernel
theorem dX6_closest_37 : decode cX6_closest 37 = .ok (.aload_n 0, 1) := by decide +kernel
theorem dX6_closest_38 : decode cX6_closest 38 = .ok (.iload_n 1, 1) := by decide +kernel
theorem dX6_closest_39 : decode cX6_closest 39 = .ok (.iload_n 2, 1) := by decide +kernel
theorem dX6_closest_40 : decode cX6_closest 40 = .ok (.invokevirtual 152, 3) := by decide +kernel
theorem dX6_closest_43 : decode cX6_closest 43 = .ok (.iconst 0, 1) := by decide +kernel
theorem dX6_closest_44 : decode cX6_closest 44 = .ok (.istore 5, 2) := by decide +kernel
theorem dX6_closest_46 : decode cX6_closest 46 = .ok (.iconst 1, 1) := by decide +kernel
theorem dX6_closest_47 : decode cX6_closest 47 = .ok (.istore 6, 2) := by decide +kernel
theorem dX6_closest_49 : decode cX6_closest 49 = .ok (.iload 6, 2) := by decide +kernel
theorem dX6_closest_51 : decode cX6_closest 51 = .ok (.aload_n 0, 1) := by decide +kernel
theorem dX6_closest_52 : decode cX6_closest 52 = .ok (.getfield 146, 3) := by decide +kernel
theorem dX6_closest_55 : decode cX6_closest 55 = .ok (.if_icmp .ge 33, 3) := by decide +kernel
theorem dX6_closest_58 : decode cX6_closest 58 = .ok (.aload_n 0, 1) := by decide +kernel
theorem dX6_closest_59 : decode cX6_closest 59 = .ok (.iload 6, 2) := by decide +kernel
theorem dX6_closest_61 : decode cX6_closest 61 = .ok (.invokevirtual 156, 3) := by decide +kernel
theorem dX6_closest_64 : decode cX6_closest 64 = .ok (.aload_n 0, 1) := by decide +kernel
theorem dX6_closest_65 : decode cX6_closest 65 = .ok (.iload 5, 2) := by decide +kernel
theorem dX6_closest_67 : decode cX6_closest 67 = .ok (.invokevirtual 156, 3) := by decide +kernel
theorem dX6_closest_70 : decode cX6_closest 70 = .ok (.if_icmp .ge 8, 3) := by decide +kernel
theorem dX6_closest_73 : decode cX6_closest 73 = .ok (.iload 6, 2) := by decide +kernel
theorem dX6_closest_75 : decode cX6_closest 75 = .ok (.goto 5, 3) := by decide +kernel
theorem dX6_closest_78 : decode cX6_closest 78 = .ok (.iload 5, 2) := by decide +kernel
theorem dX6_closest_80 : decode cX6_closest 80 = .ok (.istore 5, 2) := by decide +kernel
theorem dX6_closest_82 : decode cX6_closest 82 = .ok (.iinc 6 1, 3) := by decide +kernel
theorem dX6_closest_85 : decode cX6_closest 85 = .ok (.goto (-36), 3) := by decide +kernel
theorem dX6_closest_88 : decode cX6_closest 88 = .ok (.iload_n 3, 1) := by decide +kernel
theorem dX6_closest_89 : decode cX6_closest 89 = .ok (.ifCond .ne 12, 3) := by decide +kernel
theorem dX6_closest_92 : decode cX6_closest 92 = .ok (.aload_n 0, 1) := by decide +kernel
theorem dX6_closest_93 : decode cX6_closest 93 = .ok (.iload 5, 2) := by decide +kernel
theorem dX6_closest_95 : decode cX6_closest 95 = .ok (.invokevirtual 156, 3) := by decide +kernel
theorem dX6_closest_98 : decode cX6_closest 98 = .ok (.goto 10, 3) := by decide +kernel
theorem dX6_closest_101 : decode cX6_closest 101 = .ok (.aload_n 0, 1) := by decide +kernel
theorem dX6_closest_102 : decode cX6_closest 102 = .ok (.getfield 32, 3) := by decide +kernel
theorem dX6_closest_105 : decode cX6_closest 105 = .ok (.iload 5, 2) := by decide +kernel
theorem dX6_closest_107 : decode cX6_closest 107 = .ok (.iaload, 1) := by decide +kernel
theorem dX6_closest_108 : decode cX6_closest 108 = .ok (.ireturn, 1) := by decide +kernel
set_option maxRecDepth 20000 in
theorem ggX6_off_X6_refusal : GoodIn wsX6_off wsX6_refusal := goodIn_r _ [7, 8, 9, 10, 6, 11, 12, 13, 14, 15, 16, 17, 18, 57, 58, 59, 60, 61, 62, 63, 64, 65, 66, 67, 68, 69, 70, 71, 72, 73, 74, 75, 76, 77, 78] (by decide +kernel) (by decide +kernel)
set_option maxRecDepth 20000 in
theorem gX6_off_X6_refusal : GoodIn wsX6_off (wsV RX6 149 RX6 yX6_refusal wsX6_refusal) := goodIn_app (goodIn_of _ (by decide +kernel)) ggX6_off_X6_refusal
set_option maxRecDepth 20000 in
theorem ggX6_off_X6_noLong : GoodIn wsX6_off wsX6_noLong := goodIn_r _ [22, 23, 24, 25, 26, 6, 27, 28, 57, 58, 59, 60, 61, 62, 63, 64, 65, 66, 67, 68, 69, 70, 71, 72, 73, 74, 75, 76, 77, 78] (by decide +kernel) (by decide +kernel)
set_option maxRecDepth 20000 in
theorem gX6_off_X6_noLong : GoodIn wsX6_off (wsV RX6 172 RX6 yX6_noLong wsX6_noLong) := goodIn_app (goodIn_of _ (by decide +kernel)) ggX6_off_X6_noLong
set_option maxRecDepth 20000 in
theorem ggX6_off_X6_in : GoodIn wsX6_off wsX6_in := goodIn_r _ [15] (by decide +kernel) (by decide +kernel)
set_option maxRecDepth 20000 in
theorem gX6_off_X6_in : GoodIn wsX6_off (va_wsS RX6 73 yX6_in wsX6_in) := goodIn_app (goodIn_of _ (by decide +kernel)) ggX6_off_X6_in
set_option maxRecDepth 20000 in
theorem ggX6_off_X6_sorts : GoodIn wsX6_off wsX6_sorts := goodIn_r _ [32, 2, 33, 34, 35, 36, 37, 6, 38, 39, 40, 41, 42, 43, 44, 45, 46, 47, 1, 48, 49, 50, 57, 58, 59, 60, 61, 62, 63, 64, 65, 66, 67, 68, 69, 70, 71, 72, 73, 74, 75, 76, 77, 78] (by decide +kernel) (by decide +kernel)
set_option maxRecDepth 20000 in
theorem gX6_off_X6_sorts : GoodIn wsX6_off (wsV RX6 152 RX6 yX6_sorts wsX6_sorts) := goodIn_app (goodIn_of _ (by decide +kernel)) ggX6_off_X6_sorts
set_option maxRecDepth 20000 in
theorem ggX6_off_X6_part : GoodIn wsX6_off wsX6_part := goodIn_r _ [53, 54, 55, 6, 56] (by decide +kernel) (by decide +kernel)
set_option maxRecDepth 20000 in
theorem gX6_off_X6_part : GoodIn wsX6_off (va_wsS RX6 176 yX6_part wsX6_part) := goodIn_app (goodIn_of _ (by decide +kernel)) ggX6_off_X6_part
theorem dX6_off_0 : decode cX6_off 0 = .ok (.aload_n 0, 1) := by decide +kernel
theorem dX6_off_1 : decode cX6_off 1 = .ok (.iload_n 1, 1) := by decide +kernel
theorem dX6_off_2 : decode cX6_off 2 = .ok (.iload_n 2, 1) := by decide +kernel
theorem dX6_off_3 : decode cX6_off 3 = .ok (.invokevirtual 149, 3) := by decide +kernel
theorem dX6_off_6 : decode cX6_off 6 = .ok (.istore 4, 2) := by decide +kernel
theorem dX6_off_8 : decode cX6_off 8 = .ok (.iload 4, 2) := by decide +kernel
theorem dX6_off_10 : decode cX6_off 10 = .ok (.ifCond .eq 10, 3) := by decide +kernel
theorem dX6_off_13 : decode cX6_off 13 = .ok (.aload_n 0, 1) := by decide +kernel
theorem dX6_off_14 : decode cX6_off 14 = .ok (.iload 4, 2) := by decide +kernel
theorem dX6_off_16 : decode cX6_off 16 = .ok (.invokevirtual 172, 3) := by decide +kernel
theorem dX6_off_19 : decode cX6_off 19 = .ok (.lreturn, 1) := by decide +kernel
theorem dX6_off_20 : decode cX6_off 20 = .ok (.iload_n 3, 1) := by decide +kernel
theorem dX6_off_21 : decode cX6_off 21 = .ok (.i2l, 1) := by decide +kernel
theorem dX6_off_22 : decode cX6_off 22 = .ok (.lconst 0, 1) := by decide +kernel
theorem dX6_off_23 : decode cX6_off 23 = .ok (.lconst 1, 1) := by decide +kernel
theorem dX6_off_24 : decode cX6_off 24 = .ok (.invokestatic 73, 3) := by decide +kernel
theorem dX6_off_27 : decode cX6_off 27 = .ok (.ifCond .ne 10, 3) := by decide +kernel
theorem dX6_off_30 : decode cX6_off 30 = .ok (.aload_n 0, 1) := by decide +kernel
theorem dX6_off_31 : decode cX6_off 31 = .ok (.bipush (-2), 2) := by decide +kernel
theorem dX6_off_33 : decode cX6_off 33 = .ok (.invokevirtual 172, 3) := by decide +kernel
theorem dX6_off_36 : decode cX6_off 36 = .ok (.lreturn, 1) := by decide +kernel
theorem dX6_off_37 : decode cX6_off 37 = .ok (.aload_n 0, 1) := by decide +kernel
theorem dX6_off_38 : decode cX6_off 38 = .ok (.iload_n 1, 1) := by decide +kernel
theorem dX6_off_39 : decode cX6_off 39 = .ok (.iload_n 2, 1) := by decide +kernel
theorem dX6_off_40 : decode cX6_off 40 = .ok (.invokevirtual 152, 3) := by decide +kernel
theorem dX6_off_43 : decode cX6_off 43 = .ok (.lconst 0, 1) := by decide +kernel
theorem dX6_off_44 : decode cX6_off 44 = .ok (.lstore 5, 2) := by decide +kernel
theorem dX6_off_46 : decode cX6_off 46 = .ok (.iconst 0, 1) := by decide +kernel
theorem dX6_off_47 : decode cX6_off 47 = .ok (.istore 7, 2) := by decide +kernel
theorem dX6_off_49 : decode cX6_off 49 = .ok (.iload 7, 2) := by decide +kernel
theorem dX6_off_51 : decode cX6_off 51 = .ok (.iload_n 2, 1) := by decide +kernel
theorem dX6_off_52 : decode cX6_off 52 = .ok (.if_icmp .ge 91, 3) := by decide +kernel
theorem dX6_off_55 : decode cX6_off 55 = .ok (.iload 7, 2) := by decide +kernel
theorem dX6_off_57 : decode cX6_off 57 = .ok (.i2l, 1) := by decide +kernel
theorem dX6_off_58 : decode cX6_off 58 = .ok (.lconst 1, 1) := by decide +kernel
theorem dX6_off_59 : decode cX6_off 59 = .ok (.ladd, 1) := by decide +kernel
theorem dX6_off_60 : decode cX6_off 60 = .ok (.aload_n 0, 1) := by decide +kernel
theorem dX6_off_61 : decode cX6_off 61 = .ok (.getfield 13, 3) := by decide +kernel
theorem dX6_off_64 : decode cX6_off 64 = .ok (.i2l, 1) := by decide +kernel
theorem dX6_off_65 : decode cX6_off 65 = .ok (.lmul, 1) := by decide +kernel
theorem dX6_off_66 : decode cX6_off 66 = .ok (.aload_n 0, 1) := by decide +kernel
theorem dX6_off_67 : decode cX6_off 67 = .ok (.getfield 29, 3) := by decide +kernel
theorem dX6_off_70 : decode cX6_off 70 = .ok (.iload 7, 2) := by decide +kernel
theorem dX6_off_72 : decode cX6_off 72 = .ok (.iaload, 1) := by decide +kernel
theorem dX6_off_73 : decode cX6_off 73 = .ok (.i2l, 1) := by decide +kernel
theorem dX6_off_74 : decode cX6_off 74 = .ok (.iload_n 2, 1) := by decide +kernel
theorem dX6_off_75 : decode cX6_off 75 = .ok (.i2l, 1) := by decide +kernel
theorem dX6_off_76 : decode cX6_off 76 = .ok (.lmul, 1) := by decide +kernel
theorem dX6_off_77 : decode cX6_off 77 = .ok (.lsub, 1) := by decide +kernel
theorem dX6_off_78 : decode cX6_off 78 = .ok (.lstore 8, 2) := by decide +kernel
theorem dX6_off_80 : decode cX6_off 80 = .ok (.aload_n 0, 1) := by decide +kernel
theorem dX6_off_81 : decode cX6_off 81 = .ok (.getfield 29, 3) := by decide +kernel
theorem dX6_off_84 : decode cX6_off 84 = .ok (.iload 7, 2) := by decide +kernel
theorem dX6_off_86 : decode cX6_off 86 = .ok (.iaload, 1) := by decide +kernel
theorem dX6_off_87 : decode cX6_off 87 = .ok (.i2l, 1) := by decide +kernel
theorem dX6_off_88 : decode cX6_off 88 = .ok (.iload_n 2, 1) := by decide +kernel
theorem dX6_off_89 : decode cX6_off 89 = .ok (.i2l, 1) := by decide +kernel
theorem dX6_off_90 : decode cX6_off 90 = .ok (.lmul, 1) := by decide +kernel
theorem dX6_off_91 : decode cX6_off 91 = .ok (.iload 7, 2) := by decide +kernel
theorem dX6_off_93 : decode cX6_off 93 = .ok (.i2l, 1) := by decide +kernel
theorem dX6_off_94 : decode cX6_off 94 = .ok (.aload_n 0, 1) := by decide +kernel
theorem dX6_off_95 : decode cX6_off 95 = .ok (.getfield 13, 3) := by decide +kernel
theorem dX6_off_98 : decode cX6_off 98 = .ok (.i2l, 1) := by decide +kernel
theorem dX6_off_99 : decode cX6_off 99 = .ok (.lmul, 1) := by decide +kernel
theorem dX6_off_100 : decode cX6_off 100 = .ok (.lsub, 1) := by decide +kernel
theorem dX6_off_101 : decode cX6_off 101 = .ok (.lstore 10, 2) := by decide +kernel
theorem dX6_off_103 : decode cX6_off 103 = .ok (.lload 8, 2) := by decide +kernel
theorem dX6_off_105 : decode cX6_off 105 = .ok (.lload 5, 2) := by decide +kernel
theorem dX6_off_107 : decode cX6_off 107 = .ok (.lcmp, 1) := by decide +kernel
theorem dX6_off_108 : decode cX6_off 108 = .ok (.ifCond .le 8, 3) := by decide +kernel
theorem dX6_off_111 : decode cX6_off 111 = .ok (.lload 8, 2) := by decide +kernel
theorem dX6_off_113 : decode cX6_off 113 = .ok (.goto 5, 3) := by decide +kernel
theorem dX6_off_116 : decode cX6_off 116 = .ok (.lload 5, 2) := by decide +kernel
theorem dX6_off_118 : decode cX6_off 118 = .ok (.lstore 5, 2) := by decide +kernel
theorem dX6_off_120 : decode cX6_off 120 = .ok (.lload 10, 2) := by decide +kernel
theorem dX6_off_122 : decode cX6_off 122 = .ok (.lload 5, 2) := by decide +kernel
theorem dX6_off_124 : decode cX6_off 124 = .ok (.lcmp, 1) := by decide +kernel
theorem dX6_off_125 : decode cX6_off 125 = .ok (.ifCond .le 8, 3) := by decide +kernel
theorem dX6_off_128 : decode cX6_off 128 = .ok (.lload 10, 2) := by decide +kernel
theorem dX6_off_130 : decode cX6_off 130 = .ok (.goto 5, 3) := by decide +kernel
theorem dX6_off_133 : decode cX6_off 133 = .ok (.lload 5, 2) := by decide +kernel
theorem dX6_off_135 : decode cX6_off 135 = .ok (.lstore 5, 2) := by decide +kernel
theorem dX6_off_137 : decode cX6_off 137 = .ok (.iinc 7 1, 3) := by decide +kernel
theorem dX6_off_140 : decode cX6_off 140 = .ok (.goto (-91), 3) := by decide +kernel
theorem dX6_off_143 : decode cX6_off 143 = .ok (.lload 5, 2) := by decide +kernel
theorem dX6_off_145 : decode cX6_off 145 = .ok (.iload_n 2, 1) := by decide +kernel
theorem dX6_off_146 : decode cX6_off 146 = .ok (.i2l, 1) := by decide +kernel
theorem dX6_off_147 : decode cX6_off 147 = .ok (.aload_n 0, 1) := by decide +kernel
theorem dX6_off_148 : decode cX6_off 148 = .ok (.getfield 13, 3) := by decide +kernel
theorem dX6_off_151 : decode cX6_off 151 = .ok (.i2l, 1) := by decide +kernel
theorem dX6_off_152 : decode cX6_off 152 = .ok (.lmul, 1) := by decide +kernel
theorem dX6_off_153 : decode cX6_off 153 = .ok (.iload_n 3, 1) := by decide +kernel
theorem dX6_off_154 : decode cX6_off 154 = .ok (.invokestatic 176, 3) := by decide +kernel
theorem dX6_off_157 : decode cX6_off 157 = .ok (.lreturn, 1) := by decide +kernel
set_option maxRecDepth 20000 in
theorem ggX6_farOf_X6_placeOf : GoodIn wsX6_farOf wsX6_placeOf := goodIn_r _ [6, 7, 8, 9, 5, 10, 11, 12, 13, 14, 15, 1, 16, 17, 18, 19, 20, 21, 22, 23, 24, 25, 26, 27, 28, 29, 30, 31, 32, 33, 34, 35, 36, 37, 38, 39, 40] (by decide +kernel) (by decide +kernel)
set_option maxRecDepth 20000 in
theorem gX6_farOf_X6_placeOf : GoodIn wsX6_farOf (wsV RX6 111 RX6 yX6_placeOf wsX6_placeOf) := goodIn_app (goodIn_of _ (by decide +kernel)) ggX6_farOf_X6_placeOf
set_option maxRecDepth 20000 in
theorem ggX6_farOf_X6_at : GoodIn wsX6_farOf wsX6_at := goodIn_r _ [10, 11, 19, 20, 21, 22, 23, 24, 25, 26, 27, 28, 29, 30, 31, 32, 33, 34, 35, 36, 37, 38, 39, 40] (by decide +kernel) (by decide +kernel)
set_option maxRecDepth 20000 in
theorem gX6_farOf_X6_at : GoodIn wsX6_farOf (wsV RX6 81 RX6 yX6_at wsX6_at) := goodIn_app (goodIn_of _ (by decide +kernel)) ggX6_farOf_X6_at
theorem dX6_farOf_0 : decode cX6_farOf 0 = .ok (.aload_n 0, 1) := by decide +kernel
theorem dX6_farOf_1 : decode cX6_farOf 1 = .ok (.iload_n 1, 1) := by decide +kernel
theorem dX6_farOf_2 : decode cX6_farOf 2 = .ok (.iload_n 2, 1) := by decide +kernel
theorem dX6_farOf_3 : decode cX6_farOf 3 = .ok (.invokevirtual 111, 3) := by decide +kernel
theorem dX6_farOf_6 : decode cX6_farOf 6 = .ok (.aload_n 0, 1) := by decide +kernel
theorem dX6_farOf_7 : decode cX6_farOf 7 = .ok (.iload_n 1, 1) := by decide +kernel
theorem dX6_farOf_8 : decode cX6_farOf 8 = .ok (.iconst 2, 1) := by decide +kernel
theorem dX6_farOf_9 : decode cX6_farOf 9 = .ok (.invokevirtual 81, 3) := by decide +kernel
theorem dX6_farOf_12 : decode cX6_farOf 12 = .ok (.isub, 1) := by decide +kernel
theorem dX6_farOf_13 : decode cX6_farOf 13 = .ok (.istore_n 3, 1) := by decide +kernel
theorem dX6_farOf_14 : decode cX6_farOf 14 = .ok (.iload_n 3, 1) := by decide +kernel
theorem dX6_farOf_15 : decode cX6_farOf 15 = .ok (.ifCond .ge 12, 3) := by decide +kernel
theorem dX6_farOf_18 : decode cX6_farOf 18 = .ok (.iload_n 3, 1) := by decide +kernel
theorem dX6_farOf_19 : decode cX6_farOf 19 = .ok (.aload_n 0, 1) := by decide +kernel
theorem dX6_farOf_20 : decode cX6_farOf 20 = .ok (.getfield 13, 3) := by decide +kernel
theorem dX6_farOf_23 : decode cX6_farOf 23 = .ok (.iadd, 1) := by decide +kernel
theorem dX6_farOf_24 : decode cX6_farOf 24 = .ok (.goto 4, 3) := by decide +kernel
theorem dX6_farOf_27 : decode cX6_farOf 27 = .ok (.iload_n 3, 1) := by decide +kernel
theorem dX6_farOf_28 : decode cX6_farOf 28 = .ok (.istore_n 3, 1) := by decide +kernel
theorem dX6_farOf_29 : decode cX6_farOf 29 = .ok (.iload_n 3, 1) := by decide +kernel
theorem dX6_farOf_30 : decode cX6_farOf 30 = .ok (.aload_n 0, 1) := by decide +kernel
theorem dX6_farOf_31 : decode cX6_farOf 31 = .ok (.getfield 13, 3) := by decide +kernel
theorem dX6_farOf_34 : decode cX6_farOf 34 = .ok (.iload_n 3, 1) := by decide +kernel
theorem dX6_farOf_35 : decode cX6_farOf 35 = .ok (.isub, 1) := by decide +kernel
theorem dX6_farOf_36 : decode cX6_farOf 36 = .ok (.if_icmp .ge 7, 3) := by decide +kernel
theorem dX6_farOf_39 : decode cX6_farOf 39 = .ok (.iload_n 3, 1) := by decide +kernel
theorem dX6_farOf_40 : decode cX6_farOf 40 = .ok (.goto 9, 3) := by decide +kernel
theorem dX6_farOf_43 : decode cX6_farOf 43 = .ok (.aload_n 0, 1) := by decide +kernel
theorem dX6_farOf_44 : decode cX6_farOf 44 = .ok (.getfield 13, 3) := by decide +kernel
theorem dX6_farOf_47 : decode cX6_farOf 47 = .ok (.iload_n 3, 1) := by decide +kernel
theorem dX6_farOf_48 : decode cX6_farOf 48 = .ok (.isub, 1) := by decide +kernel
theorem dX6_farOf_49 : decode cX6_farOf 49 = .ok (.ireturn, 1) := by decide +kernel
set_option maxRecDepth 20000 in
theorem ggX6_nearer_X6_refusalOf : GoodIn wsX6_nearer wsX6_refusalOf := goodIn_r _ [6, 7, 8, 9, 5, 10, 11, 12, 13, 14, 40, 41, 42, 43, 44, 45, 46, 47, 48, 49, 50, 51, 52, 53, 54, 55, 56, 57, 58, 59, 60, 61] (by decide +kernel) (by decide +kernel)
set_option maxRecDepth 20000 in
theorem gX6_nearer_X6_refusalOf : GoodIn wsX6_nearer (wsV RX6 162 RX6 yX6_refusalOf wsX6_refusalOf) := goodIn_app (goodIn_of _ (by decide +kernel)) ggX6_nearer_X6_refusalOf
set_option maxRecDepth 20000 in
theorem ggX6_nearer_X6_no : GoodIn wsX6_nearer wsX6_no := goodIn_r _ [18, 19, 40, 41, 42, 43, 44, 45, 46, 47, 48, 49, 50, 51, 52, 53, 54, 55, 56, 57, 58, 59, 60, 61] (by decide +kernel) (by decide +kernel)
set_option maxRecDepth 20000 in
theorem gX6_nearer_X6_no : GoodIn wsX6_nearer (wsV RX6 66 RX6 yX6_no wsX6_no) := goodIn_app (goodIn_of _ (by decide +kernel)) ggX6_nearer_X6_no
set_option maxRecDepth 20000 in
theorem ggX6_nearer_X6_farOf : GoodIn wsX6_nearer wsX6_farOf := goodIn_r _ [23, 1, 24, 25, 26, 5, 27, 28, 29, 30, 31, 32, 33, 34, 35, 36, 37, 38, 39, 40, 41, 42, 43, 44, 45, 46, 47, 48, 49, 50, 51, 52, 53, 54, 55, 56, 57, 58, 59, 60, 61] (by decide +kernel) (by decide +kernel)
set_option maxRecDepth 20000 in
theorem gX6_nearer_X6_farOf : GoodIn wsX6_nearer (wsV RX6 180 RX6 yX6_farOf wsX6_farOf) := goodIn_app (goodIn_of _ (by decide +kernel)) ggX6_nearer_X6_farOf
theorem dX6_nearer_0 : decode cX6_nearer 0 = .ok (.aload_n 0, 1) := by decide +kernel
theorem dX6_nearer_1 : decode cX6_nearer 1 = .ok (.iload_n 1, 1) := by decide +kernel
theorem dX6_nearer_2 : decode cX6_nearer 2 = .ok (.iload_n 2, 1) := by decide +kernel
theorem dX6_nearer_3 : decode cX6_nearer 3 = .ok (.iload_n 3, 1) := by decide +kernel
theorem dX6_nearer_4 : decode cX6_nearer 4 = .ok (.iconst (-1), 1) := by decide +kernel
theorem dX6_nearer_5 : decode cX6_nearer 5 = .ok (.invokevirtual 162, 3) := by decide +kernel
theorem dX6_nearer_8 : decode cX6_nearer 8 = .ok (.istore 4, 2) := by decide +kernel
theorem dX6_nearer_10 : decode cX6_nearer 10 = .ok (.iload 4, 2) := by decide +kernel
theorem dX6_nearer_12 : decode cX6_nearer 12 = .ok (.ifCond .eq 10, 3) := by decide +kernel
theorem dX6_nearer_15 : decode cX6_nearer 15 = .ok (.aload_n 0, 1) := by decide +kernel
theorem dX6_nearer_16 : decode cX6_nearer 16 = .ok (.iload 4, 2) := by decide +kernel
theorem dX6_nearer_18 : decode cX6_nearer 18 = .ok (.invokevirtual 66, 3) := by decide +kernel
theorem dX6_nearer_21 : decode cX6_nearer 21 = .ok (.ireturn, 1) := by decide +kernel
theorem dX6_nearer_22 : decode cX6_nearer 22 = .ok (.iconst 0, 1) := by decide +kernel
theorem dX6_nearer_23 : decode cX6_nearer 23 = .ok (.istore 5, 2) := by decide +kernel
theorem dX6_nearer_25 : decode cX6_nearer 25 = .ok (.aload_n 0, 1) := by decide +kernel
theorem dX6_nearer_26 : decode cX6_nearer 26 = .ok (.getfield 13, 3) := by decide +kernel
theorem dX6_nearer_29 : decode cX6_nearer 29 = .ok (.istore 6, 2) := by decide +kernel
theorem dX6_nearer_31 : decode cX6_nearer 31 = .ok (.iconst 1, 1) := by decide +kernel
theorem dX6_nearer_32 : decode cX6_nearer 32 = .ok (.istore 7, 2) := by decide +kernel
theorem dX6_nearer_34 : decode cX6_nearer 34 = .ok (.iload 7, 2) := by decide +kernel
theorem dX6_nearer_36 : decode cX6_nearer 36 = .ok (.iload_n 2, 1) := by decide +kernel
theorem dX6_nearer_37 : decode cX6_nearer 37 = .ok (.if_icmp .ge 45, 3) := by decide +kernel
theorem dX6_nearer_40 : decode cX6_nearer 40 = .ok (.aload_n 0, 1) := by decide +kernel
theorem dX6_nearer_41 : decode cX6_nearer 41 = .ok (.iload_n 1, 1) := by decide +kernel
theorem dX6_nearer_42 : decode cX6_nearer 42 = .ok (.iload 7, 2) := by decide +kernel
theorem dX6_nearer_44 : decode cX6_nearer 44 = .ok (.invokevirtual 180, 3) := by decide +kernel
theorem dX6_nearer_47 : decode cX6_nearer 47 = .ok (.iload 6, 2) := by decide +kernel
theorem dX6_nearer_49 : decode cX6_nearer 49 = .ok (.if_icmp .lt 6, 3) := by decide +kernel
theorem dX6_nearer_52 : decode cX6_nearer 52 = .ok (.goto 24, 3) := by decide +kernel
theorem dX6_nearer_55 : decode cX6_nearer 55 = .ok (.aload_n 0, 1) := by decide +kernel
theorem dX6_nearer_56 : decode cX6_nearer 56 = .ok (.iload_n 1, 1) := by decide +kernel
theorem dX6_nearer_57 : decode cX6_nearer 57 = .ok (.iload 7, 2) := by decide +kernel
theorem dX6_nearer_59 : decode cX6_nearer 59 = .ok (.invokevirtual 180, 3) := by decide +kernel
theorem dX6_nearer_62 : decode cX6_nearer 62 = .ok (.istore 6, 2) := by decide +kernel
theorem dX6_nearer_64 : decode cX6_nearer 64 = .ok (.iload 5, 2) := by decide +kernel
theorem dX6_nearer_66 : decode cX6_nearer 66 = .ok (.iload_n 3, 1) := by decide +kernel
theorem dX6_nearer_67 : decode cX6_nearer 67 = .ok (.if_icmp .ne 6, 3) := by decide +kernel
theorem dX6_nearer_70 : decode cX6_nearer 70 = .ok (.iload 7, 2) := by decide +kernel
theorem dX6_nearer_72 : decode cX6_nearer 72 = .ok (.ireturn, 1) := by decide +kernel
theorem dX6_nearer_73 : decode cX6_nearer 73 = .ok (.iinc 5 1, 3) := by decide +kernel
theorem dX6_nearer_76 : decode cX6_nearer 76 = .ok (.iinc 7 1, 3) := by decide +kernel
theorem dX6_nearer_79 : decode cX6_nearer 79 = .ok (.goto (-45), 3) := by decide +kernel
theorem dX6_nearer_82 : decode cX6_nearer 82 = .ok (.iload_n 3, 1) := by decide +kernel
theorem dX6_nearer_83 : decode cX6_nearer 83 = .ok (.iconst (-1), 1) := by decide +kernel
theorem dX6_nearer_84 : decode cX6_nearer 84 = .ok (.if_icmp .ne 8, 3) := by decide +kernel
theorem dX6_nearer_87 : decode cX6_nearer 87 = .ok (.iload 5, 2) := by decide +kernel
theorem dX6_nearer_89 : decode cX6_nearer 89 = .ok (.goto 5, 3) := by decide +kernel
theorem dX6_nearer_92 : decode cX6_nearer 92 = .ok (.bipush (-9), 2) := by decide +kernel
theorem dX6_nearer_94 : decode cX6_nearer 94 = .ok (.ireturn, 1) := by decide +kernel
set_option maxRecDepth 20000 in
theorem ggX6_crowded_X6_isWalker : GoodIn wsX6_crowded wsX6_isWalker := goodIn_r _ [6, 7, 8, 9, 5, 10, 33, 34, 35, 36, 37, 38, 39, 40, 41, 42, 43, 44, 45, 46, 47, 48, 49, 50, 51, 52, 53, 54] (by decide +kernel) (by decide +kernel)
set_option maxRecDepth 20000 in
theorem gX6_crowded_X6_isWalker : GoodIn wsX6_crowded (wsV RX6 89 RX6 yX6_isWalker wsX6_isWalker) := goodIn_app (goodIn_of _ (by decide +kernel)) ggX6_crowded_X6_isWalker
set_option maxRecDepth 20000 in
theorem ggX6_crowded_X6_no : GoodIn wsX6_crowded wsX6_no := goodIn_r _ [14, 15, 33, 34, 35, 36, 37, 38, 39, 40, 41, 42, 43, 44, 45, 46, 47, 48, 49, 50, 51, 52, 53, 54] (by decide +kernel) (by decide +kernel)
set_option maxRecDepth 20000 in
theorem gX6_crowded_X6_no : GoodIn wsX6_crowded (wsV RX6 66 RX6 yX6_no wsX6_no) := goodIn_app (goodIn_of _ (by decide +kernel)) ggX6_crowded_X6_no
set_option maxRecDepth 20000 in
theorem ggX6_crowded_X6_in : GoodIn wsX6_crowded wsX6_in := goodIn_r _ [10] (by decide +kernel) (by decide +kernel)
set_option maxRecDepth 20000 in
theorem gX6_crowded_X6_in : GoodIn wsX6_crowded (va_wsS RX6 73 yX6_in wsX6_in) := goodIn_app (goodIn_of _ (by decide +kernel)) ggX6_crowded_X6_in
set_option maxRecDepth 20000 in
theorem ggX6_crowded_X6_placeOf : GoodIn wsX6_crowded wsX6_placeOf := goodIn_r _ [19, 20, 21, 22, 5, 23, 24, 25, 26, 27, 28, 29, 30, 31, 32, 33, 34, 35, 36, 37, 38, 39, 40, 41, 42, 43, 44, 45, 46, 47, 48, 49, 50, 51, 52, 53, 54] (by decide +kernel) (by decide +kernel)
set_option maxRecDepth 20000 in
theorem gX6_crowded_X6_placeOf : GoodIn wsX6_crowded (wsV RX6 111 RX6 yX6_placeOf wsX6_placeOf) := goodIn_app (goodIn_of _ (by decide +kernel)) ggX6_crowded_X6_placeOf
theorem dX6_crowded_0 : decode cX6_crowded 0 = .ok (.aload_n 0, 1) := by decide +kernel
theorem dX6_crowded_1 : decode cX6_crowded 1 = .ok (.iload_n 1, 1) := by decide +kernel
theorem dX6_crowded_2 : decode cX6_crowded 2 = .ok (.invokevirtual 89, 3) := by decide +kernel
theorem dX6_crowded_5 : decode cX6_crowded 5 = .ok (.ifCond .ne 9, 3) := by decide +kernel
theorem dX6_crowded_8 : decode cX6_crowded 8 = .ok (.aload_n 0, 1) := by decide +kernel
theorem dX6_crowded_9 : decode cX6_crowded 9 = .ok (.iconst (-1), 1) := by decide +kernel
theorem dX6_crowded_10 : decode cX6_crowded 10 = .ok (.invokevirtual 66, 3) := by decide +kernel
theorem dX6_crowded_13 : decode cX6_crowded 13 = .ok (.ireturn, 1) := by decide +kernel
theorem dX6_crowded_14 : decode cX6_crowded 14 = .ok (.iload_n 2, 1) := by decide +kernel
theorem dX6_crowded_15 : decode cX6_crowded 15 = .ok (.iconst 1, 1) := by decide +kernel
theorem dX6_crowded_16 : decode cX6_crowded 16 = .ok (.if_icmp .lt 8, 3) := by decide +kernel
theorem dX6_crowded_19 : decode cX6_crowded 19 = .ok (.iload_n 3, 1) := by decide +kernel
theorem dX6_crowded_20 : decode cX6_crowded 20 = .ok (.iconst 1, 1) := by decide +kernel
theorem dX6_crowded_21 : decode cX6_crowded 21 = .ok (.if_icmp .ge 10, 3) := by decide +kernel
theorem dX6_crowded_24 : decode cX6_crowded 24 = .ok (.aload_n 0, 1) := by decide +kernel
theorem dX6_crowded_25 : decode cX6_crowded 25 = .ok (.bipush (-4), 2) := by decide +kernel
theorem dX6_crowded_27 : decode cX6_crowded 27 = .ok (.invokevirtual 66, 3) := by decide +kernel
theorem dX6_crowded_30 : decode cX6_crowded 30 = .ok (.ireturn, 1) := by decide +kernel
theorem dX6_crowded_31 : decode cX6_crowded 31 = .ok (.iload_n 2, 1) := by decide +kernel
theorem dX6_crowded_32 : decode cX6_crowded 32 = .ok (.sipush 200, 3) := by decide +kernel
theorem dX6_crowded_35 : decode cX6_crowded 35 = .ok (.if_icmp .gt 9, 3) := by decide +kernel
theorem dX6_crowded_38 : decode cX6_crowded 38 = .ok (.iload_n 3, 1) := by decide +kernel
theorem dX6_crowded_39 : decode cX6_crowded 39 = .ok (.bipush 9, 2) := by decide +kernel
theorem dX6_crowded_41 : decode cX6_crowded 41 = .ok (.if_icmp .le 10, 3) := by decide +kernel
theorem dX6_crowded_44 : decode cX6_crowded 44 = .ok (.aload_n 0, 1) := by decide +kernel
theorem dX6_crowded_45 : decode cX6_crowded 45 = .ok (.bipush (-6), 2) := by decide +kernel
theorem dX6_crowded_47 : decode cX6_crowded 47 = .ok (.invokevirtual 66, 3) := by decide +kernel
theorem dX6_crowded_50 : decode cX6_crowded 50 = .ok (.ireturn, 1) := by decide +kernel
theorem dX6_crowded_51 : decode cX6_crowded 51 = .ok (.iload 4, 2) := by decide +kernel
theorem dX6_crowded_53 : decode cX6_crowded 53 = .ok (.i2l, 1) := by decide +kernel
theorem dX6_crowded_54 : decode cX6_crowded 54 = .ok (.lconst 0, 1) := by decide +kernel
theorem dX6_crowded_55 : decode cX6_crowded 55 = .ok (.lconst 1, 1) := by decide +kernel
theorem dX6_crowded_56 : decode cX6_crowded 56 = .ok (.invokestatic 73, 3) := by decide +kernel
theorem dX6_crowded_59 : decode cX6_crowded 59 = .ok (.ifCond .ne 10, 3) := by decide +kernel
theorem dX6_crowded_62 : decode cX6_crowded 62 = .ok (.aload_n 0, 1) := by decide +kernel
theorem dX6_crowded_63 : decode cX6_crowded 63 = .ok (.bipush (-2), 2) := by decide +kernel
theorem dX6_crowded_65 : decode cX6_crowded 65 = .ok (.invokevirtual 66, 3) := by decide +kernel
theorem dX6_crowded_68 : decode cX6_crowded 68 = .ok (.ireturn, 1) := by decide +kernel
theorem dX6_crowded_69 : decode cX6_crowded 69 = .ok (.iconst 0, 1) := by decide +kernel
theorem dX6_crowded_70 : decode cX6_crowded 70 = .ok (.istore 5, 2) := by decide +kernel
theorem dX6_crowded_72 : decode cX6_crowded 72 = .ok (.iload 5, 2) := by decide +kernel
theorem dX6_crowded_74 : decode cX6_crowded 74 = .ok (.bipush 9, 2) := by decide +kernel
theorem dX6_crowded_76 : decode cX6_crowded 76 = .ok (.if_icmp .ge 17, 3) := by decide +kernel
theorem dX6_crowded_79 : decode cX6_crowded 79 = .ok (.aload_n 0, 1) := by decide +kernel
theorem dX6_crowded_80 : decode cX6_crowded 80 = .ok (.getfield 38, 3) := by decide +kernel
theorem dX6_crowded_83 : decode cX6_crowded 83 = .ok (.iload 5, 2) := by decide +kernel
theorem dX6_crowded_85 : decode cX6_crowded 85 = .ok (.iconst 0, 1) := by decide +kernel
theorem dX6_crowded_86 : decode cX6_crowded 86 = .ok (.iastore, 1) := by decide +kernel
theorem dX6_crowded_87 : decode cX6_crowded 87 = .ok (.iinc 5 1, 3) := by decide +kernel
theorem dX6_crowded_90 : decode cX6_crowded 90 = .ok (.goto (-18), 3) := by decide +kernel
theorem dX6_crowded_93 : decode cX6_crowded 93 = .ok (.iconst 0, 1) := by decide +kernel
theorem dX6_crowded_94 : decode cX6_crowded 94 = .ok (.istore 5, 2) := by decide +kernel
theorem dX6_crowded_96 : decode cX6_crowded 96 = .ok (.iload 5, 2) := by decide +kernel
theorem dX6_crowded_98 : decode cX6_crowded 98 = .ok (.iload_n 2, 1) := by decide +kernel
theorem dX6_crowded_99 : decode cX6_crowded 99 = .ok (.if_icmp .ge 27, 3) := by decide +kernel
theorem dX6_crowded_102 : decode cX6_crowded 102 = .ok (.aload_n 0, 1) := by decide +kernel
theorem dX6_crowded_103 : decode cX6_crowded 103 = .ok (.getfield 38, 3) := by decide +kernel
theorem dX6_crowded_106 : decode cX6_crowded 106 = .ok (.aload_n 0, 1) := by decide +kernel
theorem dX6_crowded_107 : decode cX6_crowded 107 = .ok (.iload_n 1, 1) := by decide +kernel
theorem dX6_crowded_108 : decode cX6_crowded 108 = .ok (.iload 5, 2) := by decide +kernel
theorem dX6_crowded_110 : decode cX6_crowded 110 = .ok (.invokevirtual 111, 3) := by decide +kernel
theorem dX6_crowded_113 : decode cX6_crowded 113 = .ok (.iload_n 3, 1) := by decide +kernel
theorem dX6_crowded_114 : decode cX6_crowded 114 = .ok (.irem, 1) := by decide +kernel
theorem dX6_crowded_115 : decode cX6_crowded 115 = .ok (.dup2, 1) := by decide +kernel
theorem dX6_crowded_116 : decode cX6_crowded 116 = .ok (.iaload, 1) := by decide +kernel
theorem dX6_crowded_117 : decode cX6_crowded 117 = .ok (.iconst 1, 1) := by decide +kernel
theorem dX6_crowded_118 : decode cX6_crowded 118 = .ok (.iadd, 1) := by decide +kernel
theorem dX6_crowded_119 : decode cX6_crowded 119 = .ok (.iastore, 1) := by decide +kernel
theorem dX6_crowded_120 : decode cX6_crowded 120 = .ok (.iinc 5 1, 3) := by decide +kernel
theorem dX6_crowded_123 : decode cX6_crowded 123 = .ok (.goto (-27), 3) := by decide +kernel
theorem dX6_crowded_126 : decode cX6_crowded 126 = .ok (.iconst 0, 1) := by decide +kernel
theorem dX6_crowded_127 : decode cX6_crowded 127 = .ok (.istore 5, 2) := by decide +kernel
theorem dX6_crowded_129 : decode cX6_crowded 129 = .ok (.iconst 1, 1) := by decide +kernel
theorem dX6_crowded_130 : decode cX6_crowded 130 = .ok (.istore 6, 2) := by decide +kernel
theorem dX6_crowded_132 : decode cX6_crowded 132 = .ok (.iload 6, 2) := by decide +kernel
theorem dX6_crowded_134 : decode cX6_crowded 134 = .ok (.iload_n 3, 1) := by decide +kernel
theorem dX6_crowded_135 : decode cX6_crowded 135 = .ok (.if_icmp .ge 35, 3) := by decide +kernel
theorem dX6_crowded_138 : decode cX6_crowded 138 = .ok (.aload_n 0, 1) := by decide +kernel
theorem dX6_crowded_139 : decode cX6_crowded 139 = .ok (.getfield 38, 3) := by decide +kernel
theorem dX6_crowded_142 : decode cX6_crowded 142 = .ok (.iload 6, 2) := by decide +kernel
theorem dX6_crowded_144 : decode cX6_crowded 144 = .ok (.iaload, 1) := by decide +kernel
theorem dX6_crowded_145 : decode cX6_crowded 145 = .ok (.aload_n 0, 1) := by decide +kernel
theorem dX6_crowded_146 : decode cX6_crowded 146 = .ok (.getfield 38, 3) := by decide +kernel
theorem dX6_crowded_149 : decode cX6_crowded 149 = .ok (.iload 5, 2) := by decide +kernel
theorem dX6_crowded_151 : decode cX6_crowded 151 = .ok (.iaload, 1) := by decide +kernel
theorem dX6_crowded_152 : decode cX6_crowded 152 = .ok (.if_icmp .le 8, 3) := by decide +kernel
theorem dX6_crowded_155 : decode cX6_crowded 155 = .ok (.iload 6, 2) := by decide +kernel
theorem dX6_crowded_157 : decode cX6_crowded 157 = .ok (.goto 5, 3) := by decide +kernel
theorem dX6_crowded_160 : decode cX6_crowded 160 = .ok (.iload 5, 2) := by decide +kernel
theorem dX6_crowded_162 : decode cX6_crowded 162 = .ok (.istore 5, 2) := by decide +kernel
theorem dX6_crowded_164 : decode cX6_crowded 164 = .ok (.iinc 6 1, 3) := by decide +kernel
theorem dX6_crowded_167 : decode cX6_crowded 167 = .ok (.goto (-35), 3) := by decide +kernel
theorem dX6_crowded_170 : decode cX6_crowded 170 = .ok (.iload 4, 2) := by decide +kernel
theorem dX6_crowded_172 : decode cX6_crowded 172 = .ok (.ifCond .ne 8, 3) := by decide +kernel
theorem dX6_crowded_175 : decode cX6_crowded 175 = .ok (.iload 5, 2) := by decide +kernel
theorem dX6_crowded_177 : decode cX6_crowded 177 = .ok (.goto 10, 3) := by decide +kernel
theorem dX6_crowded_180 : decode cX6_crowded 180 = .ok (.aload_n 0, 1) := by decide +kernel
theorem dX6_crowded_181 : decode cX6_crowded 181 = .ok (.getfield 38, 3) := by decide +kernel
theorem dX6_crowded_184 : decode cX6_crowded 184 = .ok (.iload 5, 2) := by decide +kernel
theorem dX6_crowded_186 : decode cX6_crowded 186 = .ok (.iaload, 1) := by decide +kernel
theorem dX6_crowded_187 : decode cX6_crowded 187 = .ok (.ireturn, 1) := by decide +kernel
set_option maxRecDepth 20000 in
theorem ggX6_areTwo_X6_isWalker : GoodIn wsX6_areTwo wsX6_isWalker := goodIn_r _ [5, 6, 7, 8, 4, 9, 10, 11, 12, 13, 14, 15, 16, 17, 18, 19, 20, 21, 22, 23, 24, 25, 26, 27, 28, 29, 30, 31] (by decide +kernel) (by decide +kernel)
set_option maxRecDepth 20000 in
theorem gX6_areTwo_X6_isWalker : GoodIn wsX6_areTwo (wsV RX6 89 RX6 yX6_isWalker wsX6_isWalker) := goodIn_app (goodIn_of _ (by decide +kernel)) ggX6_areTwo_X6_isWalker
theorem dX6_areTwo_0 : decode cX6_areTwo 0 = .ok (.aload_n 0, 1) := by decide +kernel
theorem dX6_areTwo_1 : decode cX6_areTwo 1 = .ok (.iload_n 1, 1) := by decide +kernel
theorem dX6_areTwo_2 : decode cX6_areTwo 2 = .ok (.invokevirtual 89, 3) := by decide +kernel
theorem dX6_areTwo_5 : decode cX6_areTwo 5 = .ok (.ifCond .eq 20, 3) := by decide +kernel
theorem dX6_areTwo_8 : decode cX6_areTwo 8 = .ok (.aload_n 0, 1) := by decide +kernel
theorem dX6_areTwo_9 : decode cX6_areTwo 9 = .ok (.iload_n 2, 1) := by decide +kernel
theorem dX6_areTwo_10 : decode cX6_areTwo 10 = .ok (.invokevirtual 89, 3) := by decide +kernel
theorem dX6_areTwo_13 : decode cX6_areTwo 13 = .ok (.ifCond .eq 12, 3) := by decide +kernel
theorem dX6_areTwo_16 : decode cX6_areTwo 16 = .ok (.iload_n 1, 1) := by decide +kernel
theorem dX6_areTwo_17 : decode cX6_areTwo 17 = .ok (.iload_n 2, 1) := by decide +kernel
theorem dX6_areTwo_18 : decode cX6_areTwo 18 = .ok (.if_icmp .eq 7, 3) := by decide +kernel
theorem dX6_areTwo_21 : decode cX6_areTwo 21 = .ok (.iconst 1, 1) := by decide +kernel
theorem dX6_areTwo_22 : decode cX6_areTwo 22 = .ok (.goto 4, 3) := by decide +kernel
theorem dX6_areTwo_25 : decode cX6_areTwo 25 = .ok (.iconst 0, 1) := by decide +kernel
theorem dX6_areTwo_26 : decode cX6_areTwo 26 = .ok (.ireturn, 1) := by decide +kernel
set_option maxRecDepth 20000 in
theorem ggX6_meeting_X6_areTwo : GoodIn wsX6_meeting wsX6_areTwo := goodIn_r _ [5, 6, 7, 8, 4, 9, 10, 11, 12, 13, 36, 37, 38, 39, 40, 41, 42, 43, 44, 45, 46, 47, 48, 49, 50, 51, 52, 53, 54, 55, 56, 57] (by decide +kernel) (by decide +kernel)
set_option maxRecDepth 20000 in
theorem gX6_meeting_X6_areTwo : GoodIn wsX6_meeting (wsV RX6 183 RX6 yX6_areTwo wsX6_areTwo) := goodIn_app (goodIn_of _ (by decide +kernel)) ggX6_meeting_X6_areTwo
set_option maxRecDepth 20000 in
theorem ggX6_meeting_X6_no : GoodIn wsX6_meeting wsX6_no := goodIn_r _ [17, 18, 36, 37, 38, 39, 40, 41, 42, 43, 44, 45, 46, 47, 48, 49, 50, 51, 52, 53, 54, 55, 56, 57] (by decide +kernel) (by decide +kernel)
set_option maxRecDepth 20000 in
theorem gX6_meeting_X6_no : GoodIn wsX6_meeting (wsV RX6 66 RX6 yX6_no wsX6_no) := goodIn_app (goodIn_of _ (by decide +kernel)) ggX6_meeting_X6_no
set_option maxRecDepth 20000 in
theorem ggX6_meeting_X6_in : GoodIn wsX6_meeting wsX6_in := goodIn_r _ [13] (by decide +kernel) (by decide +kernel)
set_option maxRecDepth 20000 in
theorem gX6_meeting_X6_in : GoodIn wsX6_meeting (va_wsS RX6 73 yX6_in wsX6_in) := goodIn_app (goodIn_of _ (by decide +kernel)) ggX6_meeting_X6_in
set_option maxRecDepth 20000 in
theorem ggX6_meeting_X6_placeOf : GoodIn wsX6_meeting wsX6_placeOf := goodIn_r _ [22, 23, 24, 25, 4, 26, 27, 28, 29, 30, 31, 32, 33, 34, 35, 36, 37, 38, 39, 40, 41, 42, 43, 44, 45, 46, 47, 48, 49, 50, 51, 52, 53, 54, 55, 56, 57] (by decide +kernel) (by decide +kernel)
set_option maxRecDepth 20000 in
theorem gX6_meeting_X6_placeOf : GoodIn wsX6_meeting (wsV RX6 111 RX6 yX6_placeOf wsX6_placeOf) := goodIn_app (goodIn_of _ (by decide +kernel)) ggX6_meeting_X6_placeOf
theorem dX6_meeting_0 : decode cX6_meeting 0 = .ok (.aload_n 0, 1) := by decide +kernel
theorem dX6_meeting_1 : decode cX6_meeting 1 = .ok (.iload_n 1, 1) := by decide +kernel
theorem dX6_meeting_2 : decode cX6_meeting 2 = .ok (.iload_n 2, 1) := by decide +kernel
theorem dX6_meeting_3 : decode cX6_meeting 3 = .ok (.invokevirtual 183, 3) := by decide +kernel
theorem dX6_meeting_6 : decode cX6_meeting 6 = .ok (.ifCond .ne 9, 3) := by decide +kernel
theorem dX6_meeting_9 : decode cX6_meeting 9 = .ok (.aload_n 0, 1) := by decide +kernel
theorem dX6_meeting_10 : decode cX6_meeting 10 = .ok (.iconst (-1), 1) := by decide +kernel
theorem dX6_meeting_11 : decode cX6_meeting 11 = .ok (.invokevirtual 66, 3) := by decide +kernel
theorem dX6_meeting_14 : decode cX6_meeting 14 = .ok (.ireturn, 1) := by decide +kernel
theorem dX6_meeting_15 : decode cX6_meeting 15 = .ok (.iload_n 3, 1) := by decide +kernel
theorem dX6_meeting_16 : decode cX6_meeting 16 = .ok (.i2l, 1) := by decide +kernel
theorem dX6_meeting_17 : decode cX6_meeting 17 = .ok (.lconst 0, 1) := by decide +kernel
theorem dX6_meeting_18 : decode cX6_meeting 18 = .ok (.lconst 1, 1) := by decide +kernel
theorem dX6_meeting_19 : decode cX6_meeting 19 = .ok (.invokestatic 73, 3) := by decide +kernel
theorem dX6_meeting_22 : decode cX6_meeting 22 = .ok (.ifCond .ne 10, 3) := by decide +kernel
theorem dX6_meeting_25 : decode cX6_meeting 25 = .ok (.aload_n 0, 1) := by decide +kernel
theorem dX6_meeting_26 : decode cX6_meeting 26 = .ok (.bipush (-2), 2) := by decide +kernel
theorem dX6_meeting_28 : decode cX6_meeting 28 = .ok (.invokevirtual 66, 3) := by decide +kernel
theorem dX6_meeting_31 : decode cX6_meeting 31 = .ok (.ireturn, 1) := by decide +kernel
theorem dX6_meeting_32 : decode cX6_meeting 32 = .ok (.iconst 0, 1) := by decide +kernel
theorem dX6_meeting_33 : decode cX6_meeting 33 = .ok (.istore 4, 2) := by decide +kernel
theorem dX6_meeting_35 : decode cX6_meeting 35 = .ok (.iload 4, 2) := by decide +kernel
theorem dX6_meeting_37 : decode cX6_meeting 37 = .ok (.sipush 2000, 3) := by decide +kernel
theorem dX6_meeting_40 : decode cX6_meeting 40 = .ok (.if_icmp .gt 43, 3) := by decide +kernel
theorem dX6_meeting_43 : decode cX6_meeting 43 = .ok (.aload_n 0, 1) := by decide +kernel
theorem dX6_meeting_44 : decode cX6_meeting 44 = .ok (.iload_n 1, 1) := by decide +kernel
theorem dX6_meeting_45 : decode cX6_meeting 45 = .ok (.iload 4, 2) := by decide +kernel
theorem dX6_meeting_47 : decode cX6_meeting 47 = .ok (.invokevirtual 111, 3) := by decide +kernel
theorem dX6_meeting_50 : decode cX6_meeting 50 = .ok (.aload_n 0, 1) := by decide +kernel
theorem dX6_meeting_51 : decode cX6_meeting 51 = .ok (.iload_n 2, 1) := by decide +kernel
theorem dX6_meeting_52 : decode cX6_meeting 52 = .ok (.iload 4, 2) := by decide +kernel
theorem dX6_meeting_54 : decode cX6_meeting 54 = .ok (.invokevirtual 111, 3) := by decide +kernel
theorem dX6_meeting_57 : decode cX6_meeting 57 = .ok (.if_icmp .ne 20, 3) := by decide +kernel
theorem dX6_meeting_60 : decode cX6_meeting 60 = .ok (.iload_n 3, 1) := by decide +kernel
theorem dX6_meeting_61 : decode cX6_meeting 61 = .ok (.ifCond .ne 8, 3) := by decide +kernel
theorem dX6_meeting_64 : decode cX6_meeting 64 = .ok (.iload 4, 2) := by decide +kernel
theorem dX6_meeting_66 : decode cX6_meeting 66 = .ok (.goto 10, 3) := by decide +kernel
theorem dX6_meeting_69 : decode cX6_meeting 69 = .ok (.aload_n 0, 1) := by decide +kernel
theorem dX6_meeting_70 : decode cX6_meeting 70 = .ok (.iload_n 1, 1) := by decide +kernel
theorem dX6_meeting_71 : decode cX6_meeting 71 = .ok (.iload 4, 2) := by decide +kernel
theorem dX6_meeting_73 : decode cX6_meeting 73 = .ok (.invokevirtual 111, 3) := by decide +kernel
theorem dX6_meeting_76 : decode cX6_meeting 76 = .ok (.ireturn, 1) := by decide +kernel
theorem dX6_meeting_77 : decode cX6_meeting 77 = .ok (.iinc 4 1, 3) := by decide +kernel
theorem dX6_meeting_80 : decode cX6_meeting 80 = .ok (.goto (-45), 3) := by decide +kernel
theorem dX6_meeting_83 : decode cX6_meeting 83 = .ok (.bipush (-9), 2) := by decide +kernel
theorem dX6_meeting_85 : decode cX6_meeting 85 = .ok (.ireturn, 1) := by decide +kernel
set_option maxRecDepth 20000 in
theorem ggX6_shared_X6_areTwo : GoodIn wsX6_shared wsX6_areTwo := goodIn_r _ [8, 9, 10, 11, 7, 12, 13, 14, 15, 16, 47, 48, 49, 50, 51, 52, 53, 54, 55, 56, 57, 58, 59, 60, 61, 62, 63, 64, 65, 66, 67, 68] (by decide +kernel) (by decide +kernel)
set_option maxRecDepth 20000 in
theorem gX6_shared_X6_areTwo : GoodIn wsX6_shared (wsV RX6 183 RX6 yX6_areTwo wsX6_areTwo) := goodIn_app (goodIn_of _ (by decide +kernel)) ggX6_shared_X6_areTwo
set_option maxRecDepth 20000 in
theorem ggX6_shared_X6_no : GoodIn wsX6_shared wsX6_no := goodIn_r _ [20, 21, 47, 48, 49, 50, 51, 52, 53, 54, 55, 56, 57, 58, 59, 60, 61, 62, 63, 64, 65, 66, 67, 68] (by decide +kernel) (by decide +kernel)
set_option maxRecDepth 20000 in
theorem gX6_shared_X6_no : GoodIn wsX6_shared (wsV RX6 66 RX6 yX6_no wsX6_no) := goodIn_app (goodIn_of _ (by decide +kernel)) ggX6_shared_X6_no
set_option maxRecDepth 20000 in
theorem ggX6_shared_X6_range : GoodIn wsX6_shared wsX6_range := goodIn_r _ [24] (by decide +kernel) (by decide +kernel)
set_option maxRecDepth 20000 in
theorem gX6_shared_X6_range : GoodIn wsX6_shared (va_wsS RX6 98 yX6_range wsX6_range) := goodIn_app (goodIn_of _ (by decide +kernel)) ggX6_shared_X6_range
set_option maxRecDepth 20000 in
theorem ggX6_shared_X6_in : GoodIn wsX6_shared wsX6_in := goodIn_r _ [16] (by decide +kernel) (by decide +kernel)
set_option maxRecDepth 20000 in
theorem gX6_shared_X6_in : GoodIn wsX6_shared (va_wsS RX6 73 yX6_in wsX6_in) := goodIn_app (goodIn_of _ (by decide +kernel)) ggX6_shared_X6_in
set_option maxRecDepth 20000 in
theorem ggX6_shared_X6_sorts : GoodIn wsX6_shared wsX6_sorts := goodIn_r _ [28, 29, 1, 3, 30, 31, 32, 7, 33, 34, 35, 36, 37, 38, 39, 40, 41, 42, 43, 44, 45, 46, 47, 48, 49, 50, 51, 52, 53, 54, 55, 56, 57, 58, 59, 60, 61, 62, 63, 64, 65, 66, 67, 68] (by decide +kernel) (by decide +kernel)
set_option maxRecDepth 20000 in
theorem gX6_shared_X6_sorts : GoodIn wsX6_shared (wsV RX6 152 RX6 yX6_sorts wsX6_sorts) := goodIn_app (goodIn_of _ (by decide +kernel)) ggX6_shared_X6_sorts
theorem dX6_shared_0 : decode cX6_shared 0 = .ok (.aload_n 0, 1) := by decide +kernel
theorem dX6_shared_1 : decode cX6_shared 1 = .ok (.iload_n 1, 1) := by decide +kernel
theorem dX6_shared_2 : decode cX6_shared 2 = .ok (.iload_n 2, 1) := by decide +kernel
theorem dX6_shared_3 : decode cX6_shared 3 = .ok (.invokevirtual 183, 3) := by decide +kernel
theorem dX6_shared_6 : decode cX6_shared 6 = .ok (.ifCond .ne 9, 3) := by decide +kernel
theorem dX6_shared_9 : decode cX6_shared 9 = .ok (.aload_n 0, 1) := by decide +kernel
theorem dX6_shared_10 : decode cX6_shared 10 = .ok (.iconst (-1), 1) := by decide +kernel
theorem dX6_shared_11 : decode cX6_shared 11 = .ok (.invokevirtual 66, 3) := by decide +kernel
theorem dX6_shared_14 : decode cX6_shared 14 = .ok (.ireturn, 1) := by decide +kernel
theorem dX6_shared_15 : decode cX6_shared 15 = .ok (.iload_n 3, 1) := by decide +kernel
theorem dX6_shared_16 : decode cX6_shared 16 = .ok (.iconst 1, 1) := by decide +kernel
theorem dX6_shared_17 : decode cX6_shared 17 = .ok (.sipush 200, 3) := by decide +kernel
theorem dX6_shared_20 : decode cX6_shared 20 = .ok (.invokestatic 98, 3) := by decide +kernel
theorem dX6_shared_23 : decode cX6_shared 23 = .ok (.istore 5, 2) := by decide +kernel
theorem dX6_shared_25 : decode cX6_shared 25 = .ok (.iload 5, 2) := by decide +kernel
theorem dX6_shared_27 : decode cX6_shared 27 = .ok (.ifCond .eq 10, 3) := by decide +kernel
theorem dX6_shared_30 : decode cX6_shared 30 = .ok (.aload_n 0, 1) := by decide +kernel
theorem dX6_shared_31 : decode cX6_shared 31 = .ok (.iload 5, 2) := by decide +kernel
theorem dX6_shared_33 : decode cX6_shared 33 = .ok (.invokevirtual 66, 3) := by decide +kernel
theorem dX6_shared_36 : decode cX6_shared 36 = .ok (.ireturn, 1) := by decide +kernel
theorem dX6_shared_37 : decode cX6_shared 37 = .ok (.iload 4, 2) := by decide +kernel
theorem dX6_shared_39 : decode cX6_shared 39 = .ok (.i2l, 1) := by decide +kernel
theorem dX6_shared_40 : decode cX6_shared 40 = .ok (.lconst 0, 1) := by decide +kernel
theorem dX6_shared_41 : decode cX6_shared 41 = .ok (.lconst 1, 1) := by decide +kernel
theorem dX6_shared_42 : decode cX6_shared 42 = .ok (.invokestatic 73, 3) := by decide +kernel
theorem dX6_shared_45 : decode cX6_shared 45 = .ok (.ifCond .ne 10, 3) := by decide +kernel
theorem dX6_shared_48 : decode cX6_shared 48 = .ok (.aload_n 0, 1) := by decide +kernel
theorem dX6_shared_49 : decode cX6_shared 49 = .ok (.bipush (-2), 2) := by decide +kernel
theorem dX6_shared_51 : decode cX6_shared 51 = .ok (.invokevirtual 66, 3) := by decide +kernel
theorem dX6_shared_54 : decode cX6_shared 54 = .ok (.ireturn, 1) := by decide +kernel
theorem dX6_shared_55 : decode cX6_shared 55 = .ok (.aload_n 0, 1) := by decide +kernel
theorem dX6_shared_56 : decode cX6_shared 56 = .ok (.iload_n 1, 1) := by decide +kernel
theorem dX6_shared_57 : decode cX6_shared 57 = .ok (.iload_n 3, 1) := by decide +kernel
theorem dX6_shared_58 : decode cX6_shared 58 = .ok (.invokevirtual 152, 3) := by decide +kernel
theorem dX6_shared_61 : decode cX6_shared 61 = .ok (.aload_n 0, 1) := by decide +kernel
theorem dX6_shared_62 : decode cX6_shared 62 = .ok (.getfield 146, 3) := by decide +kernel
theorem dX6_shared_65 : decode cX6_shared 65 = .ok (.istore 6, 2) := by decide +kernel
theorem dX6_shared_67 : decode cX6_shared 67 = .ok (.iconst 0, 1) := by decide +kernel
theorem dX6_shared_68 : decode cX6_shared 68 = .ok (.istore 7, 2) := by decide +kernel
theorem dX6_shared_70 : decode cX6_shared 70 = .ok (.iload 7, 2) := by decide +kernel
theorem dX6_shared_72 : decode cX6_shared 72 = .ok (.iload 6, 2) := by decide +kernel
theorem dX6_shared_74 : decode cX6_shared 74 = .ok (.if_icmp .ge 23, 3) := by decide +kernel
theorem dX6_shared_77 : decode cX6_shared 77 = .ok (.aload_n 0, 1) := by decide +kernel
theorem dX6_shared_78 : decode cX6_shared 78 = .ok (.getfield 35, 3) := by decide +kernel
theorem dX6_shared_81 : decode cX6_shared 81 = .ok (.iload 7, 2) := by decide +kernel
theorem dX6_shared_83 : decode cX6_shared 83 = .ok (.aload_n 0, 1) := by decide +kernel
theorem dX6_shared_84 : decode cX6_shared 84 = .ok (.getfield 32, 3) := by decide +kernel
theorem dX6_shared_87 : decode cX6_shared 87 = .ok (.iload 7, 2) := by decide +kernel
theorem dX6_shared_89 : decode cX6_shared 89 = .ok (.iaload, 1) := by decide +kernel
theorem dX6_shared_90 : decode cX6_shared 90 = .ok (.iastore, 1) := by decide +kernel
theorem dX6_shared_91 : decode cX6_shared 91 = .ok (.iinc 7 1, 3) := by decide +kernel
theorem dX6_shared_94 : decode cX6_shared 94 = .ok (.goto (-24), 3) := by decide +kernel
theorem dX6_shared_97 : decode cX6_shared 97 = .ok (.aload_n 0, 1) := by decide +kernel
theorem dX6_shared_98 : decode cX6_shared 98 = .ok (.iload_n 2, 1) := by decide +kernel
theorem dX6_shared_99 : decode cX6_shared 99 = .ok (.iload_n 3, 1) := by decide +kernel
theorem dX6_shared_100 : decode cX6_shared 100 = .ok (.invokevirtual 152, 3) := by decide +kernel
theorem dX6_shared_103 : decode cX6_shared 103 = .ok (.iconst 0, 1) := by decide +kernel
theorem dX6_shared_104 : decode cX6_shared 104 = .ok (.istore 7, 2) := by decide +kernel
theorem dX6_shared_106 : decode cX6_shared 106 = .ok (.bipush (-9), 2) := by decide +kernel
theorem dX6_shared_108 : decode cX6_shared 108 = .ok (.istore 8, 2) := by decide +kernel
theorem dX6_shared_110 : decode cX6_shared 110 = .ok (.iconst 0, 1) := by decide +kernel
theorem dX6_shared_111 : decode cX6_shared 111 = .ok (.istore 9, 2) := by decide +kernel
theorem dX6_shared_113 : decode cX6_shared 113 = .ok (.iload 9, 2) := by decide +kernel
theorem dX6_shared_115 : decode cX6_shared 115 = .ok (.iload 6, 2) := by decide +kernel
theorem dX6_shared_117 : decode cX6_shared 117 = .ok (.if_icmp .ge 100, 3) := by decide +kernel
theorem dX6_shared_120 : decode cX6_shared 120 = .ok (.iconst 0, 1) := by decide +kernel
theorem dX6_shared_121 : decode cX6_shared 121 = .ok (.istore 10, 2) := by decide +kernel
theorem dX6_shared_123 : decode cX6_shared 123 = .ok (.iconst 0, 1) := by decide +kernel
theorem dX6_shared_124 : decode cX6_shared 124 = .ok (.istore 11, 2) := by decide +kernel
theorem dX6_shared_126 : decode cX6_shared 126 = .ok (.iload 11, 2) := by decide +kernel
theorem dX6_shared_128 : decode cX6_shared 128 = .ok (.aload_n 0, 1) := by decide +kernel
theorem dX6_shared_129 : decode cX6_shared 129 = .ok (.getfield 146, 3) := by decide +kernel
theorem dX6_shared_132 : decode cX6_shared 132 = .ok (.if_icmp .ge 38, 3) := by decide +kernel
theorem dX6_shared_135 : decode cX6_shared 135 = .ok (.iload 10, 2) := by decide +kernel
theorem dX6_shared_137 : decode cX6_shared 137 = .ok (.ifCond .ne 20, 3) := by decide +kernel
theorem dX6_shared_140 : decode cX6_shared 140 = .ok (.aload_n 0, 1) := by decide +kernel
theorem dX6_shared_141 : decode cX6_shared 141 = .ok (.getfield 32, 3) := by decide +kernel
theorem dX6_shared_144 : decode cX6_shared 144 = .ok (.iload 11, 2) := by decide +kernel
theorem dX6_shared_146 : decode cX6_shared 146 = .ok (.iaload, 1) := by decide +kernel
theorem dX6_shared_147 : decode cX6_shared 147 = .ok (.aload_n 0, 1) := by decide +kernel
theorem dX6_shared_148 : decode cX6_shared 148 = .ok (.getfield 35, 3) := by decide +kernel
theorem dX6_shared_151 : decode cX6_shared 151 = .ok (.iload 9, 2) := by decide +kernel
theorem dX6_shared_153 : decode cX6_shared 153 = .ok (.iaload, 1) := by decide +kernel
theorem dX6_shared_154 : decode cX6_shared 154 = .ok (.if_icmp .ne 7, 3) := by decide +kernel
theorem dX6_shared_157 : decode cX6_shared 157 = .ok (.iconst 1, 1) := by decide +kernel
theorem dX6_shared_158 : decode cX6_shared 158 = .ok (.goto 4, 3) := by decide +kernel
theorem dX6_shared_161 : decode cX6_shared 161 = .ok (.iconst 0, 1) := by decide +kernel
theorem dX6_shared_162 : decode cX6_shared 162 = .ok (.istore 10, 2) := by decide +kernel
theorem dX6_shared_164 : decode cX6_shared 164 = .ok (.iinc 11 1, 3) := by decide +kernel
theorem dX6_shared_167 : decode cX6_shared 167 = .ok (.goto (-41), 3) := by decide +kernel
theorem dX6_shared_170 : decode cX6_shared 170 = .ok (.iload 10, 2) := by decide +kernel
theorem dX6_shared_172 : decode cX6_shared 172 = .ok (.ifCond .eq 20, 3) := by decide +kernel
theorem dX6_shared_175 : decode cX6_shared 175 = .ok (.iload 8, 2) := by decide +kernel
theorem dX6_shared_177 : decode cX6_shared 177 = .ok (.bipush (-9), 2) := by decide +kernel
theorem dX6_shared_179 : decode cX6_shared 179 = .ok (.if_icmp .ne 13, 3) := by decide +kernel
theorem dX6_shared_182 : decode cX6_shared 182 = .ok (.aload_n 0, 1) := by decide +kernel
theorem dX6_shared_183 : decode cX6_shared 183 = .ok (.getfield 35, 3) := by decide +kernel
theorem dX6_shared_186 : decode cX6_shared 186 = .ok (.iload 9, 2) := by decide +kernel
theorem dX6_shared_188 : decode cX6_shared 188 = .ok (.iaload, 1) := by decide +kernel
theorem dX6_shared_189 : decode cX6_shared 189 = .ok (.goto 5, 3) := by decide +kernel
theorem dX6_shared_192 : decode cX6_shared 192 = .ok (.iload 8, 2) := by decide +kernel
theorem dX6_shared_194 : decode cX6_shared 194 = .ok (.istore 8, 2) := by decide +kernel
theorem dX6_shared_196 : decode cX6_shared 196 = .ok (.iload 7, 2) := by decide +kernel
theorem dX6_shared_198 : decode cX6_shared 198 = .ok (.iload 10, 2) := by decide +kernel
theorem dX6_shared_200 : decode cX6_shared 200 = .ok (.ifCond .eq 7, 3) := by decide +kernel
theorem dX6_shared_203 : decode cX6_shared 203 = .ok (.iconst 1, 1) := by decide +kernel
theorem dX6_shared_204 : decode cX6_shared 204 = .ok (.goto 4, 3) := by decide +kernel
theorem dX6_shared_207 : decode cX6_shared 207 = .ok (.iconst 0, 1) := by decide +kernel
theorem dX6_shared_208 : decode cX6_shared 208 = .ok (.iadd, 1) := by decide +kernel
theorem dX6_shared_209 : decode cX6_shared 209 = .ok (.istore 7, 2) := by decide +kernel
theorem dX6_shared_211 : decode cX6_shared 211 = .ok (.iinc 9 1, 3) := by decide +kernel
theorem dX6_shared_214 : decode cX6_shared 214 = .ok (.goto (-101), 3) := by decide +kernel
theorem dX6_shared_217 : decode cX6_shared 217 = .ok (.iload 4, 2) := by decide +kernel
theorem dX6_shared_219 : decode cX6_shared 219 = .ok (.ifCond .ne 8, 3) := by decide +kernel
theorem dX6_shared_222 : decode cX6_shared 222 = .ok (.iload 7, 2) := by decide +kernel
theorem dX6_shared_224 : decode cX6_shared 224 = .ok (.goto 5, 3) := by decide +kernel
theorem dX6_shared_227 : decode cX6_shared 227 = .ok (.iload 8, 2) := by decide +kernel
theorem dX6_shared_229 : decode cX6_shared 229 = .ok (.ireturn, 1) := by decide +kernel
set_option maxRecDepth 20000 in
theorem ggX6_odds_X6_refusal : GoodIn wsX6_odds wsX6_refusal := goodIn_r _ [7, 8, 9, 10, 6, 11, 12, 13, 14, 15, 16, 17, 18, 57, 58, 59, 60, 61, 62, 63, 64, 65, 66, 67, 68, 69, 70, 71, 72, 73, 74, 75, 76, 77, 78] (by decide +kernel) (by decide +kernel)
set_option maxRecDepth 20000 in
theorem gX6_odds_X6_refusal : GoodIn wsX6_odds (wsV RX6 149 RX6 yX6_refusal wsX6_refusal) := goodIn_app (goodIn_of _ (by decide +kernel)) ggX6_odds_X6_refusal
set_option maxRecDepth 20000 in
theorem ggX6_odds_X6_noLong : GoodIn wsX6_odds wsX6_noLong := goodIn_r _ [22, 23, 24, 25, 26, 6, 27, 28, 57, 58, 59, 60, 61, 62, 63, 64, 65, 66, 67, 68, 69, 70, 71, 72, 73, 74, 75, 76, 77, 78] (by decide +kernel) (by decide +kernel)
set_option maxRecDepth 20000 in
theorem gX6_odds_X6_noLong : GoodIn wsX6_odds (wsV RX6 172 RX6 yX6_noLong wsX6_noLong) := goodIn_app (goodIn_of _ (by decide +kernel)) ggX6_odds_X6_noLong
set_option maxRecDepth 20000 in
theorem ggX6_odds_X6_in : GoodIn wsX6_odds wsX6_in := goodIn_r _ [15] (by decide +kernel) (by decide +kernel)
set_option maxRecDepth 20000 in
theorem gX6_odds_X6_in : GoodIn wsX6_odds (va_wsS RX6 73 yX6_in wsX6_in) := goodIn_app (goodIn_of _ (by decide +kernel)) ggX6_odds_X6_in
set_option maxRecDepth 20000 in
theorem ggX6_odds_X6_sorts : GoodIn wsX6_odds wsX6_sorts := goodIn_r _ [32, 33, 1, 34, 35, 36, 37, 6, 38, 39, 40, 41, 42, 43, 44, 45, 46, 47, 2, 48, 49, 50, 57, 58, 59, 60, 61, 62, 63, 64, 65, 66, 67, 68, 69, 70, 71, 72, 73, 74, 75, 76, 77, 78] (by decide +kernel) (by decide +kernel)
set_option maxRecDepth 20000 in
theorem gX6_odds_X6_sorts : GoodIn wsX6_odds (wsV RX6 152 RX6 yX6_sorts wsX6_sorts) := goodIn_app (goodIn_of _ (by decide +kernel)) ggX6_odds_X6_sorts
set_option maxRecDepth 20000 in
theorem ggX6_odds_X6_part : GoodIn wsX6_odds wsX6_part := goodIn_r _ [53, 54, 55, 6, 56] (by decide +kernel) (by decide +kernel)
set_option maxRecDepth 20000 in
theorem gX6_odds_X6_part : GoodIn wsX6_odds (va_wsS RX6 176 yX6_part wsX6_part) := goodIn_app (goodIn_of _ (by decide +kernel)) ggX6_odds_X6_part
theorem dX6_odds_0 : decode cX6_odds 0 = .ok (.aload_n 0, 1) := by decide +kernel
theorem dX6_odds_1 : decode cX6_odds 1 = .ok (.iload_n 1, 1) := by decide +kernel
theorem dX6_odds_2 : decode cX6_odds 2 = .ok (.iload_n 2, 1) := by decide +kernel
theorem dX6_odds_3 : decode cX6_odds 3 = .ok (.invokevirtual 149, 3) := by decide +kernel
theorem dX6_odds_6 : decode cX6_odds 6 = .ok (.istore 4, 2) := by decide +kernel
theorem dX6_odds_8 : decode cX6_odds 8 = .ok (.iload 4, 2) := by decide +kernel
theorem dX6_odds_10 : decode cX6_odds 10 = .ok (.ifCond .eq 10, 3) := by decide +kernel
theorem dX6_odds_13 : decode cX6_odds 13 = .ok (.aload_n 0, 1) := by decide +kernel
theorem dX6_odds_14 : decode cX6_odds 14 = .ok (.iload 4, 2) := by decide +kernel
theorem dX6_odds_16 : decode cX6_odds 16 = .ok (.invokevirtual 172, 3) := by decide +kernel
