set_option maxRecDepth 20000 in
theorem gp_L_holds_L_isSame_r5 : GoodIn wsL_holds wsL_isSame_r5 := goodIn_r _ [246, 247, 248, 249, 250, 251, 252, 253, 254, 156, 255, 256, 257, 258, 259, 260, 261, 262, 263, 264, 265, 266, 267, 268] (by decide +kernel) (by decide +kernel)
set_option maxRecDepth 20000 in
theorem gp_L_holds_L_isSame_r6 : GoodIn wsL_holds wsL_isSame_r6 := goodIn_r _ [269, 270, 271, 272, 176, 177, 178, 179, 138, 273, 274, 275, 276, 277, 174, 175, 278, 279, 280, 281, 282, 283, 284, 285] (by decide +kernel) (by decide +kernel)
set_option maxRecDepth 20000 in
theorem gp_L_holds_L_isSame_r7 : GoodIn wsL_holds wsL_isSame_r7 := goodIn_r _ [286, 287, 288, 289, 290, 291, 292, 293, 294, 295, 296, 297, 298, 184, 299, 300, 301, 302, 18, 19, 303, 304, 305, 306] (by decide +kernel) (by decide +kernel)
set_option maxRecDepth 20000 in
theorem gp_L_holds_L_isSame_r8 : GoodIn wsL_holds wsL_isSame_r8 := goodIn_r _ [307, 308, 309, 310, 311, 312, 313, 314, 315, 316] (by decide +kernel) (by decide +kernel)
theorem gp_L_holds_L_isSame_wsX40 : GoodIn wsL_holds wsX40 := goodIn_sub (fun _ h => List.mem_cons_of_mem _ (List.mem_append_left _ (List.mem_append_left _ (List.mem_append_left _ (List.mem_append_left _ (List.mem_append_left _ (List.mem_append_left _ (List.mem_append_left _ (List.mem_append_right _ h))))))))) (by decide +kernel)
