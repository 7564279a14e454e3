set_option maxRecDepth 20000 in
theorem i_wsL_law0_r25 : ∀ w ∈ wsL_law0_r25, w ∈ lw_tbl := fun w h => (goodIn_p wsL_law0_r25 [624, 925, 631, 929] (by decide +kernel) (by decide +kernel) w h).1
set_option maxRecDepth 20000 in
theorem i_wsL_law0_r26 : ∀ w ∈ wsL_law0_r26, w ∈ lw_tbl := fun w h => (goodIn_p wsL_law0_r26 [638, 933, 645, 937] (by decide +kernel) (by decide +kernel) w h).1
set_option maxRecDepth 20000 in
theorem i_wsL_law0_r27 : ∀ w ∈ wsL_law0_r27, w ∈ lw_tbl := fun w h => (goodIn_p wsL_law0_r27 [652, 941, 660, 945] (by decide +kernel) (by decide +kernel) w h).1
set_option maxRecDepth 20000 in
theorem i_wsL_law0_r28 : ∀ w ∈ wsL_law0_r28, w ∈ lw_tbl := fun w h => (goodIn_p wsL_law0_r28 [667, 949] (by decide +kernel) (by decide +kernel) w h).1
