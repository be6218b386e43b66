/-! ===== the words of the law among the tables' ===== -/
set_option maxRecDepth 20000 in
theorem inr1 : ∀ w ∈ wsL_law_r1, w ∈ lw_tbl := fun w h => (goodIn_p wsL_law_r1 [68, 71] rfl (by decide +kernel) w h).1
set_option maxRecDepth 20000 in
theorem inr2 : ∀ w ∈ wsL_law_r2, w ∈ lw_tbl := fun w h => (goodIn_p wsL_law_r2 [76, 95] rfl (by decide +kernel) w h).1
set_option maxRecDepth 20000 in
theorem inr3 : ∀ w ∈ wsL_law_r3, w ∈ lw_tbl := fun w h => (goodIn_p wsL_law_r3 [109, 125, 138, 685] rfl (by decide +kernel) w h).1
set_option maxRecDepth 20000 in
theorem inr4 : ∀ w ∈ wsL_law_r4, w ∈ lw_tbl := fun w h => (goodIn_p wsL_law_r4 [185, 189] rfl (by decide +kernel) w h).1
set_option maxRecDepth 20000 in
theorem inr5 : ∀ w ∈ wsL_law_r5, w ∈ lw_tbl := fun w h => (goodIn_p wsL_law_r5 [192, 196, 200, 836, 776, 769] rfl (by decide +kernel) w h).1
set_option maxRecDepth 20000 in
theorem inr6 : ∀ w ∈ wsL_law_r6, w ∈ lw_tbl := fun w h => (goodIn_p wsL_law_r6 [205, 209, 213, 217, 221, 224] rfl (by decide +kernel) w h).1
set_option maxRecDepth 20000 in
theorem inr7 : ∀ w ∈ wsL_law_r7, w ∈ lw_tbl := fun w h => (goodIn_p wsL_law_r7 [228, 232, 236, 241, 245, 249] rfl (by decide +kernel) w h).1
set_option maxRecDepth 20000 in
theorem inr8 : ∀ w ∈ wsL_law_r8, w ∈ lw_tbl := fun w h => (goodIn_p wsL_law_r8 [253, 258, 262, 266, 270, 274] rfl (by decide +kernel) w h).1
set_option maxRecDepth 20000 in
theorem inr9 : ∀ w ∈ wsL_law_r9, w ∈ lw_tbl := fun w h => (goodIn_p wsL_law_r9 [278, 282, 288, 292, 297] rfl (by decide +kernel) w h).1
set_option maxRecDepth 20000 in
theorem inr10 : ∀ w ∈ wsL_law_r10, w ∈ lw_tbl := fun w h => (goodIn_p wsL_law_r10 [301, 840, 844, 847, 765, 853] rfl (by decide +kernel) w h).1
