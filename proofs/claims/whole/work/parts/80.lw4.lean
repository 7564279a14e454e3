set_option maxRecDepth 20000 in
theorem i_wsL_law0_r13 : ∀ w ∈ wsL_law0_r13, w ∈ lw_tbl := fun w h => (goodIn_p wsL_law0_r13 [825, 829, 833, 837, 841] (by decide +kernel) (by decide +kernel) w h).1
set_option maxRecDepth 20000 in
theorem i_wsL_law0_r14 : ∀ w ∈ wsL_law0_r14, w ∈ lw_tbl := fun w h => (goodIn_p wsL_law0_r14 [581, 585, 845, 262, 266] (by decide +kernel) (by decide +kernel) w h).1
set_option maxRecDepth 20000 in
theorem i_wsL_law0_r15 : ∀ w ∈ wsL_law0_r15, w ∈ lw_tbl := fun w h => (goodIn_p wsL_law0_r15 [270, 274, 278, 282, 286, 290] (by decide +kernel) (by decide +kernel) w h).1
set_option maxRecDepth 20000 in
theorem i_wsL_law0_r16 : ∀ w ∈ wsL_law0_r16, w ∈ lw_tbl := fun w h => (goodIn_p wsL_law0_r16 [296, 300, 304, 308] (by decide +kernel) (by decide +kernel) w h).1
