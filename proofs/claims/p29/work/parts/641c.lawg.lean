set_option maxRecDepth 20000 in
theorem ggL_act_L_cut : GoodIn wsL_act wsL_cut := goodIn_r _ [51, 52, 53, 5, 54] (by decide +kernel) (by decide +kernel)
set_option maxRecDepth 20000 in
theorem gL_act_L_cut : GoodIn wsL_act (va_wsS RL 69 yL_cut wsL_cut) := goodIn_app (goodIn_of _ (by decide +kernel)) ggL_act_L_cut
set_option maxRecDepth 20000 in
theorem ggL_act_X6_cut : GoodIn wsL_act wsX6_cut := goodIn_ca (goodIn_r _ [58, 12, 13, 59, 14, 15, 60, 61, 62, 63, 16, 17, 18, 19, 20, 21, 22, 23, 24, 25, 26, 27, 28, 29, 30, 31, 32, 33, 34, 35, 36, 37, 38, 39, 40, 41, 42, 43, 44, 64, 65, 66, 67, 68, 69, 70, 71, 72, 73, 74, 75, 76, 46, 47, 48, 77, 78, 79, 80, 81, 82, 83, 84, 85, 86, 87, 88, 89, 10, 90, 91, 92, 93, 94, 95, 96, 97, 98, 99, 100, 101, 102, 103, 104, 105, 303, 304, 305, 306, 307, 308, 312, 313, 314, 315, 316, 317, 318, 319, 309, 310, 311, 320, 321, 322] (by decide +kernel) (by decide +kernel)) (goodIn_sub (fun _ h => List.mem_cons_of_mem _ (List.mem_append_left _ (List.mem_append_left _ (List.mem_append_right _ h)))) (by decide +kernel))
set_option maxRecDepth 20000 in
theorem gL_act_X6_cut : GoodIn wsL_act (wsV RL 73 RX6 yX6_cut wsX6_cut) := goodIn_app (goodIn_of _ (by decide +kernel)) ggL_act_X6_cut
set_option maxRecDepth 20000 in
theorem ggL_act_L_why : GoodIn wsL_act wsL_why := goodIn_r _ [108, 109, 110, 5, 111, 112, 113, 114, 115, 116, 117, 52, 53, 54] (by decide +kernel) (by decide +kernel)
set_option maxRecDepth 20000 in
theorem gL_act_L_why : GoodIn wsL_act (va_wsS RL 26 yL_why wsL_why) := goodIn_app (goodIn_of _ (by decide +kernel)) ggL_act_L_why
set_option maxRecDepth 20000 in
theorem ggL_act_X6_lay : GoodIn wsL_act wsX6_lay := goodIn_ca (goodIn_ca (goodIn_r _ [121, 122, 123, 14, 15, 124, 125, 126, 10, 127, 128, 129, 130, 131, 132, 133, 134, 135, 136, 27, 137, 76, 46, 47, 48, 29, 30, 138, 139, 140, 141, 32, 142, 143, 144, 145, 146, 147, 148, 149, 150, 151, 34, 152, 153, 154, 155, 39, 156, 157, 158, 159, 160, 161, 162, 163, 164, 165, 166, 167, 168, 169, 170, 82, 83, 84, 171, 172, 173, 174, 175, 40, 89, 90, 98, 99, 100, 176, 177, 178, 179, 180, 181, 182, 183, 184, 185, 16, 17, 18, 19, 20, 21, 22, 23, 24, 25, 26, 28, 31, 33, 35, 36, 37, 38, 186, 187, 188, 189, 190, 191, 192, 193, 194, 303, 304, 305, 306, 307, 308, 312, 313, 314, 315, 316, 317, 318, 319, 323, 324, 325, 326, 309, 310, 311] (by decide +kernel) (by decide +kernel)) (goodIn_sub (fun _ h => List.mem_cons_of_mem _ (List.mem_append_left _ (List.mem_append_right _ h))) (by decide +kernel))) (goodIn_sub (fun _ h => List.mem_cons_of_mem _ (List.mem_append_right _ h)) (by decide +kernel))
set_option maxRecDepth 20000 in
theorem gL_act_X6_lay : GoodIn wsL_act (wsV RL 75 RX6 yX6_lay wsX6_lay) := goodIn_app (goodIn_of _ (by decide +kernel)) ggL_act_X6_lay
set_option maxRecDepth 20000 in
theorem ggL_act_X6_take : GoodIn wsL_act wsX6_take := goodIn_ca (goodIn_ca (goodIn_r _ [198, 122, 123, 15, 14, 199, 130, 131, 132, 10, 133, 128, 129, 134, 135, 136, 27, 137, 76, 46, 47, 48, 29, 30, 148, 149, 150, 151, 34, 200, 201, 202, 203, 33, 16, 17, 18, 19, 20, 21, 22, 23, 24, 25, 26, 28, 31, 32, 35, 36, 37, 38, 39, 40, 204, 205, 206, 207, 303, 304, 305, 306, 307, 308, 312, 313, 314, 315, 316, 317, 318, 319, 309, 310, 311] (by decide +kernel) (by decide +kernel)) (goodIn_sub (fun _ h => List.mem_cons_of_mem _ (List.mem_append_left _ (List.mem_append_right _ h))) (by decide +kernel))) (goodIn_sub (fun _ h => List.mem_cons_of_mem _ (List.mem_append_right _ h)) (by decide +kernel))
set_option maxRecDepth 20000 in
theorem gL_act_X6_take : GoodIn wsL_act (wsV RL 78 RX6 yX6_take wsX6_take) := goodIn_app (goodIn_of _ (by decide +kernel)) ggL_act_X6_take
set_option maxRecDepth 20000 in
theorem ggL_act_X6_fix : GoodIn wsL_act wsX6_fix := goodIn_ca (goodIn_ca (goodIn_r _ [211, 122, 123, 15, 14, 212, 130, 131, 132, 10, 133, 128, 129, 134, 135, 136, 27, 137, 76, 46, 47, 48, 29, 30, 148, 149, 150, 151, 34, 16, 17, 18, 19, 20, 21, 22, 23, 24, 25, 26, 28, 31, 32, 33, 35, 36, 37, 38, 39, 40, 200, 201, 202, 203, 303, 304, 305, 306, 307, 308, 312, 313, 314, 315, 316, 317, 318, 319, 309, 310, 311] (by decide +kernel) (by decide +kernel)) (goodIn_sub (fun _ h => List.mem_cons_of_mem _ (List.mem_append_left _ (List.mem_append_right _ h))) (by decide +kernel))) (goodIn_sub (fun _ h => List.mem_cons_of_mem _ (List.mem_append_right _ h)) (by decide +kernel))
set_option maxRecDepth 20000 in
theorem gL_act_X6_fix : GoodIn wsL_act (wsV RL 81 RX6 yX6_fix wsX6_fix) := goodIn_app (goodIn_of _ (by decide +kernel)) ggL_act_X6_fix
set_option maxRecDepth 20000 in
theorem ggL_act_X6_setRule : GoodIn wsL_act wsX6_setRule := goodIn_ca (goodIn_r _ [216, 12, 13, 14, 15, 217, 16, 17, 18, 19, 20, 21, 22, 23, 24, 25, 26, 27, 28, 29, 30, 31, 32, 33, 34, 35, 36, 37, 38, 39, 40, 303, 304, 305, 306, 307, 308, 312, 313, 314, 315, 316, 317, 318, 319, 309, 310, 311] (by decide +kernel) (by decide +kernel)) (goodIn_sub (fun _ h => List.mem_cons_of_mem _ (List.mem_append_left _ (List.mem_append_left _ (List.mem_append_right _ h)))) (by decide +kernel))
set_option maxRecDepth 20000 in
theorem gL_act_X6_setRule : GoodIn wsL_act (wsV RL 84 RX6 yX6_setRule wsX6_setRule) := goodIn_app (goodIn_of _ (by decide +kernel)) ggL_act_X6_setRule
set_option maxRecDepth 20000 in
theorem ggL_act_X6_clear : GoodIn wsL_act wsX6_clear := goodIn_r _ [221, 14, 15, 212, 16, 17, 18, 19, 20, 21, 22, 23, 24, 25, 26, 27, 28, 29, 30, 31, 32, 33, 34, 35, 36, 37, 38, 39, 40, 222, 223, 224, 225, 76, 46, 47, 48, 194, 149, 150, 151, 226, 205, 206, 207, 303, 304, 305, 306, 307, 308, 312, 313, 314, 315, 316, 317, 318, 319, 309, 310, 311] (by decide +kernel) (by decide +kernel)
set_option maxRecDepth 20000 in
theorem gL_act_X6_clear : GoodIn wsL_act (wsV RL 87 RX6 yX6_clear wsX6_clear) := goodIn_app (goodIn_of _ (by decide +kernel)) ggL_act_X6_clear
set_option maxRecDepth 20000 in
theorem ggL_act_X6_turnOver : GoodIn wsL_act wsX6_turnOver := goodIn_r _ [230, 14, 15, 16, 17, 18, 19, 20, 21, 22, 23, 24, 25, 26, 27, 28, 29, 30, 31, 32, 33, 34, 35, 36, 37, 38, 39, 40, 231, 232, 233, 234, 235, 236, 237, 238, 239, 10, 240, 76, 46, 47, 48, 194, 149, 150, 151, 45, 190, 191, 192, 193, 303, 304, 305, 306, 307, 308, 309, 310, 311, 312, 313, 314, 315, 316, 317, 318, 319] (by decide +kernel) (by decide +kernel)
