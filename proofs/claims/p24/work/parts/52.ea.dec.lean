set_option maxRecDepth 20000 in
theorem gp_L_holds_L_isSame_c : GoodIn wsL_holds [Cond.code yL_isSame cL_isSame 20 (some .boolean)] := goodIn_r _ [187] (by decide +kernel) (by decide +kernel)
set_option maxRecDepth 20000 in
theorem gp_L_holds_L_isSame_r1 : GoodIn wsL_holds wsL_isSame_r1 := goodIn_r _ [188, 189, 24, 190, 191, 192, 193, 3, 194, 80, 81, 82, 83, 40, 41, 15, 195, 196, 197, 93, 198, 199, 200, 79] (by decide +kernel) (by decide +kernel)
set_option maxRecDepth 20000 in
theorem gp_L_holds_L_isSame_r2 : GoodIn wsL_holds wsL_isSame_r2 := goodIn_r _ [201, 202, 203, 204, 205, 206, 207, 74, 84, 85, 86, 87, 208, 209, 210, 211, 108, 109, 110, 58, 59, 60, 61, 62] (by decide +kernel) (by decide +kernel)
set_option maxRecDepth 20000 in
theorem gp_L_holds_L_isSame_r3 : GoodIn wsL_holds wsL_isSame_r3 := goodIn_r _ [212, 213, 214, 215, 17, 216, 217, 218, 219, 107, 220, 115, 116, 117, 118, 221, 222, 223, 224, 225, 226, 227, 139, 140] (by decide +kernel) (by decide +kernel)
set_option maxRecDepth 20000 in
theorem gp_L_holds_L_isSame_r4 : GoodIn wsL_holds wsL_isSame_r4 := goodIn_r _ [141, 142, 21, 228, 229, 230, 57, 231, 69, 70, 232, 233, 234, 235, 236, 237, 238, 239, 240, 241, 242, 243, 244, 245] (by decide +kernel) (by decide +kernel)
