set_option maxRecDepth 20000 in
theorem ggL_isSame_L_likeness : GoodIn wsL_isSame wsL_likeness := goodIn_r _ [4] (by decide +kernel) (by decide +kernel)
set_option maxRecDepth 20000 in
theorem gL_isSame_L_likeness : GoodIn wsL_isSame (va_wsS RL 35 yL_likeness wsL_likeness) := goodIn_app (goodIn_of _ (by decide +kernel)) ggL_isSame_L_likeness
set_option maxRecDepth 20000 in
theorem ggL_isSame_X4_heirOf : GoodIn wsL_isSame wsX4_heirOf := goodIn_ca (goodIn_r _ [9, 10, 11, 12, 8, 13, 14, 15, 16, 17, 18, 19, 20, 21, 22, 23, 24, 25, 26, 27, 28, 179, 180, 181, 182, 183, 184, 185, 186, 187, 188, 189, 190, 191, 192] (by decide +kernel) (by decide +kernel)) (goodIn_sub (fun _ h => List.mem_cons_of_mem _ (List.mem_append_left _ (List.mem_append_right _ h))) (by decide +kernel))
set_option maxRecDepth 20000 in
theorem gL_isSame_X4_heirOf : GoodIn wsL_isSame (wsV RL 39 RX4 yX4_heirOf wsX4_heirOf) := goodIn_app (goodIn_of _ (by decide +kernel)) ggL_isSame_X4_heirOf
set_option maxRecDepth 20000 in
theorem ggL_isSame_L_heirOf : GoodIn wsL_isSame wsL_heirOf := goodIn_r _ [31, 32, 33, 34, 3, 35, 36] (by decide +kernel) (by decide +kernel)
set_option maxRecDepth 20000 in
theorem gL_isSame_L_heirOf : GoodIn wsL_isSame (va_wsS RL 31 yL_heirOf wsL_heirOf) := goodIn_app (goodIn_of _ (by decide +kernel)) ggL_isSame_L_heirOf
set_option maxRecDepth 20000 in
theorem ggL_isSame_X4_isPersecuted : GoodIn wsL_isSame wsX4_isPersecuted := goodIn_ca (goodIn_ca (goodIn_r _ [40, 10, 11, 12, 8, 13, 14, 15, 16, 41, 42, 43, 44, 45, 46, 47, 48, 49, 50, 51, 52, 53, 54, 55, 56, 57, 58, 59, 60, 61, 62, 63, 179, 180, 181, 182, 183, 184, 185, 186, 187, 188, 189, 190, 191, 192, 193, 194, 195, 196] (by decide +kernel) (by decide +kernel)) (goodIn_sub (fun _ h => List.mem_cons_of_mem _ (List.mem_append_left _ (List.mem_append_right _ h))) (by decide +kernel))) (goodIn_sub (fun _ h => List.mem_cons_of_mem _ (List.mem_append_right _ h)) (by decide +kernel))
set_option maxRecDepth 20000 in
theorem gL_isSame_X4_isPersecuted : GoodIn wsL_isSame (wsV RL 44 RX4 yX4_isPersecuted wsX4_isPersecuted) := goodIn_app (goodIn_of _ (by decide +kernel)) ggL_isSame_X4_isPersecuted
set_option maxRecDepth 20000 in
theorem ggL_isSame_L_isPersecuted : GoodIn wsL_isSame wsL_isPersecuted := goodIn_r _ [66] (by decide +kernel) (by decide +kernel)
set_option maxRecDepth 20000 in
theorem gL_isSame_L_isPersecuted : GoodIn wsL_isSame (va_wsS RL 23 yL_isPersecuted wsL_isPersecuted) := goodIn_app (goodIn_of _ (by decide +kernel)) ggL_isSame_L_isPersecuted
set_option maxRecDepth 20000 in
theorem ggL_isSame_X4_likeness : GoodIn wsL_isSame wsX4_likeness := goodIn_ca (goodIn_r _ [70, 71, 72, 73, 8, 74, 14, 15, 75, 76, 77, 78, 79, 80, 81, 82, 83, 84, 85, 86, 87, 88, 89, 90, 91, 92, 93, 179, 180, 181, 182, 183, 184, 185, 186, 197, 198, 199, 200, 201, 202] (by decide +kernel) (by decide +kernel)) (goodIn_sub (fun _ h => List.mem_cons_of_mem _ (List.mem_append_left _ (List.mem_append_right _ h))) (by decide +kernel))
set_option maxRecDepth 20000 in
theorem gL_isSame_X4_likeness : GoodIn wsL_isSame (wsV RL 47 RX4 yX4_likeness wsX4_likeness) := goodIn_app (goodIn_of _ (by decide +kernel)) ggL_isSame_X4_likeness
set_option maxRecDepth 20000 in
theorem ggL_isSame_X4_likest : GoodIn wsL_isSame wsX4_likest := goodIn_ca (goodIn_r _ [97, 75, 71, 72, 73, 8, 74, 14, 15, 76, 77, 78, 79, 80, 81, 82, 83, 84, 85, 86, 87, 88, 89, 90, 91, 92, 93, 179, 180, 181, 182, 183, 184, 185, 186, 197, 198, 199, 200, 201, 202] (by decide +kernel) (by decide +kernel)) (goodIn_sub (fun _ h => List.mem_cons_of_mem _ (List.mem_append_left _ (List.mem_append_right _ h))) (by decide +kernel))
set_option maxRecDepth 20000 in
theorem gL_isSame_X4_likest : GoodIn wsL_isSame (wsV RL 50 RX4 yX4_likest wsX4_likest) := goodIn_app (goodIn_of _ (by decide +kernel)) ggL_isSame_X4_likest
set_option maxRecDepth 20000 in
theorem ggL_isSame_X4_holder : GoodIn wsL_isSame wsX4_holder := goodIn_ca (goodIn_r _ [101, 71, 72, 73, 8, 74, 14, 15, 75, 102, 103, 104, 79, 105, 106, 107, 25, 26, 27, 28, 179, 180, 181, 182, 183, 184, 185, 186, 197, 198, 199, 200, 201, 202, 203, 204, 205, 206, 207, 208, 209, 210, 211, 187, 188, 189, 190, 191, 192] (by decide +kernel) (by decide +kernel)) (goodIn_sub (fun _ h => List.mem_cons_of_mem _ (List.mem_append_left _ (List.mem_append_right _ h))) (by decide +kernel))
set_option maxRecDepth 20000 in
theorem gL_isSame_X4_holder : GoodIn wsL_isSame (wsV RL 53 RX4 yX4_holder wsX4_holder) := goodIn_app (goodIn_of _ (by decide +kernel)) ggL_isSame_X4_holder
set_option maxRecDepth 20000 in
theorem ggL_isSame_L_holder : GoodIn wsL_isSame wsL_holder := goodIn_r _ [110, 111, 112, 3, 113] (by decide +kernel) (by decide +kernel)
set_option maxRecDepth 20000 in
theorem gL_isSame_L_holder : GoodIn wsL_isSame (va_wsS RL 56 yL_holder wsL_holder) := goodIn_app (goodIn_of _ (by decide +kernel)) ggL_isSame_L_holder
set_option maxRecDepth 20000 in
theorem ggL_isSame_X4_stationAt : GoodIn wsL_isSame wsX4_stationAt := goodIn_ca (goodIn_r _ [117, 14, 15, 118, 119, 120, 71, 72, 73, 8, 74, 75, 197, 198, 199, 200, 201, 202, 203, 204, 205, 206, 207, 208, 209, 210, 211, 179, 180, 181, 182, 183, 184, 185, 186] (by decide +kernel) (by decide +kernel)) (goodIn_sub (fun _ h => List.mem_cons_of_mem _ (List.mem_append_left _ (List.mem_append_right _ h))) (by decide +kernel))
set_option maxRecDepth 20000 in
theorem gL_isSame_X4_stationAt : GoodIn wsL_isSame (wsV RL 59 RX4 yX4_stationAt wsX4_stationAt) := goodIn_app (goodIn_of _ (by decide +kernel)) ggL_isSame_X4_stationAt
set_option maxRecDepth 20000 in
theorem ggL_isSame_L_at : GoodIn wsL_isSame wsL_at := goodIn_r _ [113] (by decide +kernel) (by decide +kernel)
set_option maxRecDepth 20000 in
theorem gL_isSame_L_at : GoodIn wsL_isSame (va_wsS RL 19 yL_at wsL_at) := goodIn_app (goodIn_of _ (by decide +kernel)) ggL_isSame_L_at
set_option maxRecDepth 20000 in
theorem ggL_isSame_X4_isLoss : GoodIn wsL_isSame wsX4_isLoss := goodIn_ca (goodIn_r _ [124, 125, 126, 127, 8, 128, 14, 15, 129, 71, 72, 73, 74, 75, 130, 131, 132, 133, 134, 135, 136, 137, 138, 139, 49, 50, 51, 52, 53, 54, 55, 56, 57, 58, 59, 60, 61, 62, 63, 197, 198, 199, 200, 201, 202, 179, 180, 181, 182, 183, 184, 185, 186, 203, 204, 205, 206, 207, 208, 209, 210, 211, 187, 188, 189, 190, 191, 192, 193, 194, 195, 196] (by decide +kernel) (by decide +kernel)) (goodIn_sub (fun _ h => List.mem_cons_of_mem _ (List.mem_append_left _ (List.mem_append_right _ h))) (by decide +kernel))
set_option maxRecDepth 20000 in
theorem gL_isSame_X4_isLoss : GoodIn wsL_isSame (wsV RL 62 RX4 yX4_isLoss wsX4_isLoss) := goodIn_app (goodIn_of _ (by decide +kernel)) ggL_isSame_X4_isLoss
set_option maxRecDepth 20000 in
theorem ggL_isSame_L_isLoss : GoodIn wsL_isSame wsL_isLoss := goodIn_r _ [142, 111, 112, 3, 113, 64, 65, 66] (by decide +kernel) (by decide +kernel)
set_option maxRecDepth 20000 in
theorem gL_isSame_L_isLoss : GoodIn wsL_isSame (va_wsS RL 27 yL_isLoss wsL_isLoss) := goodIn_app (goodIn_of _ (by decide +kernel)) ggL_isSame_L_isLoss
set_option maxRecDepth 20000 in
theorem ggL_isSame_L_owner : GoodIn wsL_isSame wsL_owner := goodIn_r _ [145, 111, 112, 3, 113, 140, 141, 142, 64, 65, 66, 29, 30, 31, 32, 33, 34, 35, 36] (by decide +kernel) (by decide +kernel)
set_option maxRecDepth 20000 in
theorem gL_isSame_L_owner : GoodIn wsL_isSame (va_wsS RL 65 yL_owner wsL_owner) := goodIn_app (goodIn_of _ (by decide +kernel)) ggL_isSame_L_owner
set_option maxRecDepth 20000 in
theorem ggL_isSame_X4_owner : GoodIn wsL_isSame wsX4_owner := goodIn_ca (goodIn_r _ [149, 71, 72, 73, 8, 74, 14, 15, 75, 150, 151, 152, 153, 118, 137, 119, 154, 155, 156, 157, 158, 134, 130, 131, 132, 133, 135, 136, 138, 139, 49, 50, 51, 52, 53, 54, 55, 56, 57, 58, 59, 60, 61, 62, 63, 159, 160, 161, 162, 163, 164, 21, 22, 23, 24, 17, 18, 19, 20, 25, 26, 27, 28, 179, 180, 181, 182, 183, 184, 185, 186, 197, 198, 199, 200, 201, 202, 203, 204, 205, 206, 207, 208, 209, 210, 211, 187, 188, 189, 190, 191, 192, 193, 194, 195, 196] (by decide +kernel) (by decide +kernel)) (goodIn_sub (fun _ h => List.mem_cons_of_mem _ (List.mem_append_left _ (List.mem_append_right _ h))) (by decide +kernel))
set_option maxRecDepth 20000 in
theorem gL_isSame_X4_owner : GoodIn wsL_isSame (wsV RL 69 RX4 yX4_owner wsX4_owner) := goodIn_app (goodIn_of _ (by decide +kernel)) ggL_isSame_X4_owner
set_option maxRecDepth 20000 in
theorem ggL_isSame_X4_ownerAnew : GoodIn wsL_isSame wsX4_ownerAnew := goodIn_ca (goodIn_r _ [168, 71, 72, 73, 8, 74, 14, 15, 75, 169, 170, 171, 172, 173, 137, 174, 134, 158, 130, 131, 132, 133, 135, 136, 138, 139, 49, 50, 51, 52, 53, 54, 55, 56, 57, 58, 59, 60, 61, 62, 63, 159, 160, 161, 162, 163, 119, 164, 21, 22, 23, 24, 17, 18, 19, 20, 25, 26, 27, 28, 179, 180, 181, 182, 183, 184, 185, 186, 197, 198, 199, 200, 201, 202, 203, 204, 205, 206, 207, 208, 209, 210, 211, 187, 188, 189, 190, 191, 192, 193, 194, 195, 196] (by decide +kernel) (by decide +kernel)) (goodIn_sub (fun _ h => List.mem_cons_of_mem _ (List.mem_append_left _ (List.mem_append_right _ h))) (by decide +kernel))
set_option maxRecDepth 20000 in
theorem gL_isSame_X4_ownerAnew : GoodIn wsL_isSame (wsV RL 71 RX4 yX4_ownerAnew wsX4_ownerAnew) := goodIn_app (goodIn_of _ (by decide +kernel)) ggL_isSame_X4_ownerAnew
set_option maxRecDepth 20000 in
theorem ggL_isSame_X4_asks : GoodIn wsL_isSame wsX4_asks := goodIn_ca (goodIn_r _ [178, 75, 10, 11, 12, 8, 13, 14, 15, 16, 102, 103, 104, 79, 105, 106, 107, 150, 151, 152, 153, 118, 137, 119, 154, 155, 156, 157, 158, 134, 130, 131, 132, 133, 135, 136, 138, 139, 49, 50, 51, 52, 53, 54, 55, 56, 57, 58, 59, 60, 61, 62, 63, 159, 160, 161, 162, 163, 164, 21, 22, 23, 24, 17, 18, 19, 20, 179, 180, 181, 182, 183, 184, 185, 186, 197, 198, 199, 200, 201, 202, 203, 204, 205, 206, 207, 208, 209, 210, 211, 187, 188, 189, 190, 191, 192, 193, 194, 195, 196] (by decide +kernel) (by decide +kernel)) (goodIn_sub (fun _ h => List.mem_cons_of_mem _ (List.mem_append_left _ (List.mem_append_right _ h))) (by decide +kernel))
set_option maxRecDepth 20000 in
theorem gL_isSame_X4_asks : GoodIn wsL_isSame (wsV RL 74 RX4 yX4_asks wsX4_asks) := goodIn_app (goodIn_of _ (by decide +kernel)) ggL_isSame_X4_asks
