/-! ===== the words of the law among the tables' ===== -/
set_option maxRecDepth 20000 in
theorem inr11 : ∀ w ∈ wsL_law_r11, w ∈ lw_tbl := fun w h => (goodIn_p wsL_law_r11 [857, 780, 797, 762, 305] rfl (by decide +kernel) w h).1
set_option maxRecDepth 20000 in
theorem inr12 : ∀ w ∈ wsL_law_r12, w ∈ lw_tbl := fun w h => (goodIn_p wsL_law_r12 [788, 309, 312, 792, 316, 321] rfl (by decide +kernel) w h).1
set_option maxRecDepth 20000 in
theorem inr13 : ∀ w ∈ wsL_law_r13, w ∈ lw_tbl := fun w h => (goodIn_p wsL_law_r13 [328, 758, 773, 333, 801] rfl (by decide +kernel) w h).1
set_option maxRecDepth 20000 in
theorem inr14 : ∀ w ∈ wsL_law_r14, w ∈ lw_tbl := fun w h => (goodIn_p wsL_law_r14 [337, 341, 345, 349, 353, 356] rfl (by decide +kernel) w h).1
set_option maxRecDepth 20000 in
theorem inr15 : ∀ w ∈ wsL_law_r15, w ∈ lw_tbl := fun w h => (goodIn_p wsL_law_r15 [359, 805, 810, 814, 818, 821] rfl (by decide +kernel) w h).1
set_option maxRecDepth 20000 in
theorem inr16 : ∀ w ∈ wsL_law_r16, w ∈ lw_tbl := fun w h => (goodIn_p wsL_law_r16 [364, 367, 825, 828, 373, 377, 832] rfl (by decide +kernel) w h).1
set_option maxRecDepth 20000 in
theorem inr17 : ∀ w ∈ wsL_law_r17, w ∈ lw_tbl := fun w h => (goodIn_p wsL_law_r17 [381, 385, 389, 393, 397] rfl (by decide +kernel) w h).1
set_option maxRecDepth 20000 in
theorem inr18 : ∀ w ∈ wsL_law_r18, w ∈ lw_tbl := fun w h => (goodIn_p wsL_law_r18 [401, 405, 409, 413, 863, 867] rfl (by decide +kernel) w h).1
set_option maxRecDepth 20000 in
theorem inr19 : ∀ w ∈ wsL_law_r19, w ∈ lw_tbl := fun w h => (goodIn_p wsL_law_r19 [871, 419, 423, 427, 431, 875] rfl (by decide +kernel) w h).1
set_option maxRecDepth 20000 in
theorem inr20 : ∀ w ∈ wsL_law_r20, w ∈ lw_tbl := fun w h => (goodIn_p wsL_law_r20 [879, 883, 887, 891, 895, 435] rfl (by decide +kernel) w h).1
