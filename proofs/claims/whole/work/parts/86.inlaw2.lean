/-! ===== the words of the law among the tables' ===== -/
set_option maxRecDepth 20000 in
theorem inr21 : ∀ w ∈ wsL_law_r21, w ∈ lw_tbl := fun w h => (goodIn_p wsL_law_r21 [439, 899, 443, 903, 448] rfl (by decide +kernel) w h).1
set_option maxRecDepth 20000 in
theorem inr22 : ∀ w ∈ wsL_law_r22, w ∈ lw_tbl := fun w h => (goodIn_p wsL_law_r22 [907, 454, 911, 458, 471, 462] rfl (by decide +kernel) w h).1
set_option maxRecDepth 20000 in
theorem inr23 : ∀ w ∈ wsL_law_r23, w ∈ lw_tbl := fun w h => (goodIn_p wsL_law_r23 [467, 474, 477, 915, 919, 923] rfl (by decide +kernel) w h).1
set_option maxRecDepth 20000 in
theorem inr24 : ∀ w ∈ wsL_law_r24, w ∈ lw_tbl := fun w h => (goodIn_p wsL_law_r24 [926, 482, 486, 489, 930, 934] rfl (by decide +kernel) w h).1
set_option maxRecDepth 20000 in
theorem inr25 : ∀ w ∈ wsL_law_r25, w ∈ lw_tbl := fun w h => (goodIn_p wsL_law_r25 [493, 497, 500, 938, 505, 509] rfl (by decide +kernel) w h).1
set_option maxRecDepth 20000 in
theorem inr26 : ∀ w ∈ wsL_law_r26, w ∈ lw_tbl := fun w h => (goodIn_p wsL_law_r26 [942, 946, 513, 950, 517, 954] rfl (by decide +kernel) w h).1
set_option maxRecDepth 20000 in
theorem inr27 : ∀ w ∈ wsL_law_r27, w ∈ lw_tbl := fun w h => (goodIn_p wsL_law_r27 [521, 524, 527, 958, 962, 531] rfl (by decide +kernel) w h).1
set_option maxRecDepth 20000 in
theorem inr28 : ∀ w ∈ wsL_law_r28, w ∈ lw_tbl := fun w h => (goodIn_p wsL_law_r28 [535, 966, 539, 543, 546, 970] rfl (by decide +kernel) w h).1
set_option maxRecDepth 20000 in
theorem inr29 : ∀ w ∈ wsL_law_r29, w ∈ lw_tbl := fun w h => (goodIn_p wsL_law_r29 [550, 553, 975, 978, 557, 982, 561] rfl (by decide +kernel) w h).1
set_option maxRecDepth 20000 in
theorem inr30 : ∀ w ∈ wsL_law_r30, w ∈ lw_tbl := fun w h => (goodIn_p wsL_law_r30 [986, 565, 568, 573, 990] rfl (by decide +kernel) w h).1
