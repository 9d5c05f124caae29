set_option maxRecDepth 20000 in
theorem gp_L_isHeld_L_holds_r10 : GoodIn wsL_isHeld wsL_holds_r10 := goodIn_r _ [223, 224, 225, 226, 227, 228, 229, 230, 231, 232, 233, 234, 235, 236, 237, 238, 239, 240, 241, 242, 243, 244, 245, 246] (by decide +kernel) (by decide +kernel)
set_option maxRecDepth 20000 in
theorem gp_L_isHeld_L_holds_r11 : GoodIn wsL_isHeld wsL_holds_r11 := goodIn_r _ [247, 248, 249, 250, 251, 252, 253, 254, 255, 256, 257, 258, 259, 260, 261, 262, 263, 264, 265, 266, 267, 268, 269, 270] (by decide +kernel) (by decide +kernel)
set_option maxRecDepth 20000 in
theorem gp_L_isHeld_L_holds_r12 : GoodIn wsL_isHeld wsL_holds_r12 := goodIn_r _ [271, 272, 273, 274, 275, 276, 277, 278, 279, 280, 281, 282, 283, 284, 285, 286, 287, 288, 289, 290, 291, 292, 293, 294] (by decide +kernel) (by decide +kernel)
set_option maxRecDepth 20000 in
theorem gp_L_isHeld_L_holds_r13 : GoodIn wsL_isHeld wsL_holds_r13 := goodIn_r _ [295, 296, 297, 298, 299, 300, 301, 302, 303, 304, 305, 306, 307, 308, 309, 310, 311, 312, 313, 314, 315, 316, 317, 318] (by decide +kernel) (by decide +kernel)
set_option maxRecDepth 20000 in
theorem gp_L_isHeld_L_holds_r14 : GoodIn wsL_isHeld wsL_holds_r14 := goodIn_r _ [319, 320, 321, 322] (by decide +kernel) (by decide +kernel)
