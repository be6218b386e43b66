/-! ===== the words of the law among the tables' ===== -/
set_option maxRecDepth 20000 in
theorem inr31 : ∀ w ∈ wsL_law_r31, w ∈ lw_tbl := fun w h => (goodIn_p wsL_law_r31 [994, 578, 582, 586, 1001, 1004] rfl (by decide +kernel) w h).1
set_option maxRecDepth 20000 in
theorem inr32 : ∀ w ∈ wsL_law_r32, w ∈ lw_tbl := fun w h => (goodIn_p wsL_law_r32 [591, 595, 599, 604, 1008] rfl (by decide +kernel) w h).1
set_option maxRecDepth 20000 in
theorem inr33 : ∀ w ∈ wsL_law_r33, w ∈ lw_tbl := fun w h => (goodIn_p wsL_law_r33 [609, 615, 1012, 619, 1016, 623] rfl (by decide +kernel) w h).1
set_option maxRecDepth 20000 in
theorem inr34 : ∀ w ∈ wsL_law_r34, w ∈ lw_tbl := fun w h => (goodIn_p wsL_law_r34 [627, 1020, 632, 636, 640] rfl (by decide +kernel) w h).1
set_option maxRecDepth 20000 in
theorem inr35 : ∀ w ∈ wsL_law_r35, w ∈ lw_tbl := fun w h => (goodIn_p wsL_law_r35 [1024, 1028, 1032, 644, 1036, 648] rfl (by decide +kernel) w h).1
set_option maxRecDepth 20000 in
theorem inr36 : ∀ w ∈ wsL_law_r36, w ∈ lw_tbl := fun w h => (goodIn_p wsL_law_r36 [652, 656, 660, 664, 668, 784] rfl (by decide +kernel) w h).1
set_option maxRecDepth 20000 in
theorem inr37 : ∀ w ∈ wsL_law_r37, w ∈ lw_tbl := fun w h => (goodIn_p wsL_law_r37 [672, 1040, 676, 1044, 680, 1048] rfl (by decide +kernel) w h).1
