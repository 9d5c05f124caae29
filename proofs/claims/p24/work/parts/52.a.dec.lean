set_option maxRecDepth 20000 in
theorem ggL_holds_X4_init : GoodIn wsL_holds wsX4_init := goodIn_r _ [10, 11, 12, 13, 14, 15, 16, 17, 4, 18, 19, 20, 21, 317, 318, 319, 320, 321, 322, 323, 324] (by decide +kernel) (by decide +kernel)
set_option maxRecDepth 20000 in
theorem gL_holds_X4_init : GoodIn wsL_holds (wsX4_init) := ggL_holds_X4_init
set_option maxRecDepth 20000 in
theorem ggL_holds_L_from : GoodIn wsL_holds wsL_from := goodIn_r _ [25, 26, 27] (by decide +kernel) (by decide +kernel)
set_option maxRecDepth 20000 in
theorem gL_holds_L_from : GoodIn wsL_holds (va_wsS RL 109 yL_from wsL_from) := goodIn_app (goodIn_of _ (by decide +kernel)) ggL_holds_L_from
set_option maxRecDepth 20000 in
theorem ggL_holds_X4_person : GoodIn wsL_holds wsX4_person := goodIn_ca (goodIn_ca (goodIn_r _ [31, 32, 33, 34, 15, 14, 35, 36, 37, 38, 3, 39, 40, 41, 42, 43, 44, 45, 12, 13, 46, 47, 48, 49, 317, 318, 319, 320, 321, 322, 323, 324, 325, 326, 327, 328, 329, 330] (by decide +kernel) (by decide +kernel)) (goodIn_sub (fun _ h => List.mem_cons_of_mem _ (List.mem_append_left _ (List.mem_append_left _ (List.mem_append_right _ h)))) (by decide +kernel))) (goodIn_sub (fun _ h => List.mem_cons_of_mem _ (List.mem_append_left _ (List.mem_append_right _ h))) (by decide +kernel))
set_option maxRecDepth 20000 in
theorem gL_holds_X4_person : GoodIn wsL_holds (wsV RL 112 RX4 yX4_person wsX4_person) := goodIn_app (goodIn_of _ (by decide +kernel)) ggL_holds_X4_person
set_option maxRecDepth 20000 in
theorem ggL_holds_X4_thing : GoodIn wsL_holds wsX4_thing := goodIn_ca (goodIn_ca (goodIn_r _ [53, 32, 33, 54, 55, 21, 20, 56, 57, 58, 59, 3, 60, 61, 62, 63, 64, 65, 66, 12, 13, 67, 68, 69, 70, 317, 318, 319, 320, 321, 322, 323, 324, 331, 332, 333, 334, 335, 336] (by decide +kernel) (by decide +kernel)) (goodIn_sub (fun _ h => List.mem_cons_of_mem _ (List.mem_append_left _ (List.mem_append_left _ (List.mem_append_right _ h)))) (by decide +kernel))) (goodIn_sub (fun _ h => List.mem_cons_of_mem _ (List.mem_append_right _ h)) (by decide +kernel))
set_option maxRecDepth 20000 in
theorem gL_holds_X4_thing : GoodIn wsL_holds (wsV RL 116 RX4 yX4_thing wsX4_thing) := goodIn_app (goodIn_of _ (by decide +kernel)) ggL_holds_X4_thing
