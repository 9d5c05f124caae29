set_option maxRecDepth 20000 in
theorem gp_L_law_L_isHeld_c : GoodIn wsL_law [Cond.codeWith yL_isHeld cL_isHeld 2 (some .boolean) [(0, 4, 5, 144), (0, 4, 8, 146), (0, 4, 11, 148)]] := goodIn_r _ [3] (by decide +kernel) (by decide +kernel)
set_option maxRecDepth 20000 in
theorem gp_L_law_L_isHeld_r1 : GoodIn wsL_law wsL_isHeld_r1 := goodIn_r _ [4, 5, 6, 7, 8, 2, 9, 10, 11, 12, 13, 14, 15, 16, 17, 18, 19, 20, 21, 22, 23, 24, 25, 26] (by decide +kernel) (by decide +kernel)
set_option maxRecDepth 20000 in
theorem gp_L_law_L_isHeld_r2 : GoodIn wsL_law wsL_isHeld_r2 := goodIn_r _ [27, 28, 29, 30, 31, 32, 33, 34, 35, 36, 37, 38, 39, 40, 41, 42, 43, 44, 45, 46, 47, 48, 49, 50] (by decide +kernel) (by decide +kernel)
set_option maxRecDepth 20000 in
theorem gp_L_law_L_isHeld_r3 : GoodIn wsL_law wsL_isHeld_r3 := goodIn_r _ [51, 52, 53, 54, 55, 56, 57, 58, 59, 60, 61, 62, 63, 64, 65, 66, 67, 68, 69, 70, 71, 72, 73, 74] (by decide +kernel) (by decide +kernel)
set_option maxRecDepth 20000 in
theorem gp_L_law_L_isHeld_r4 : GoodIn wsL_law wsL_isHeld_r4 := goodIn_r _ [75, 76, 77, 78, 79, 80, 81, 82, 83, 84, 85, 86, 87, 88, 89, 90, 91, 92, 93, 94, 95, 96, 97, 98] (by decide +kernel) (by decide +kernel)
