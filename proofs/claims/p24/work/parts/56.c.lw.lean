set_option maxRecDepth 20000 in
theorem wsL_law0_in11 : ∀ w ∈ wsL_law0_r11, w ∈ lw_tbl := fun w h => (goodIn_p (big := lw_tbl) wsL_law0_r11 [456, 450, 460, 464, 468] (by decide +kernel) (by decide +kernel) w h).1
set_option maxRecDepth 20000 in
theorem wsL_law0_in12 : ∀ w ∈ wsL_law0_r12, w ∈ lw_tbl := fun w h => (goodIn_p (big := lw_tbl) wsL_law0_r12 [471, 474, 478, 483, 487] (by decide +kernel) (by decide +kernel) w h).1
set_option maxRecDepth 20000 in
theorem wsL_law0_in13 : ∀ w ∈ wsL_law0_r13, w ∈ lw_tbl := fun w h => (goodIn_p (big := lw_tbl) wsL_law0_r13 [490, 493, 497, 501, 505, 509] (by decide +kernel) (by decide +kernel) w h).1
set_option maxRecDepth 20000 in
theorem wsL_law0_in14 : ∀ w ∈ wsL_law0_r14, w ∈ lw_tbl := fun w h => (goodIn_p (big := lw_tbl) wsL_law0_r14 [513, 517, 521] (by decide +kernel) (by decide +kernel) w h).1
set_option maxRecDepth 20000 in
theorem wsL_law0_inX4 : ∀ w ∈ wsX40, w ∈ lw_tbl := fun w h => (goodIn_p (big := lw_tbl) wsX40 [] (by decide +kernel) (by decide +kernel) w h).1
