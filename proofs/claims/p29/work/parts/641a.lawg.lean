set_option maxRecDepth 20000 in
theorem ggL_told_L_why : GoodIn wsL_told wsL_why := goodIn_r _ [5, 6, 7, 4, 8, 9, 10, 11, 12, 13, 14, 15, 16, 17] (by decide +kernel) (by decide +kernel)
set_option maxRecDepth 20000 in
theorem gL_told_L_why : GoodIn wsL_told (va_wsS RL 26 yL_why wsL_why) := goodIn_app (goodIn_of _ (by decide +kernel)) ggL_told_L_why
set_option maxRecDepth 20000 in
theorem ggL_told_X6_cell : GoodIn wsL_told wsX6_cell := goodIn_ca (goodIn_ca (goodIn_r _ [22, 23, 24, 25, 26, 27, 21, 28, 29, 30, 31, 32, 33, 34, 35, 36, 37, 38, 39, 40, 41, 42, 43, 44, 45, 46, 47, 48, 49, 50, 51, 52, 53, 54, 55, 56, 57, 58, 59, 60, 61, 62, 63, 64, 65, 66, 67, 68, 69, 70, 71, 72, 73, 74, 75, 76, 77, 78, 79, 80, 81, 82, 83, 84, 85, 86, 87, 88, 89, 90, 91, 92, 93, 94, 95, 96, 97, 98, 99, 100, 101, 102, 103, 104, 105, 106, 107, 108, 109, 110, 111, 112, 113, 114, 115, 116, 282, 283, 284, 285, 286, 287, 288, 289, 290, 291, 292, 293, 294, 295, 296, 297, 298, 299] (by decide +kernel) (by decide +kernel)) (goodIn_sub (fun _ h => List.mem_cons_of_mem _ (List.mem_append_left _ (List.mem_append_right _ h))) (by decide +kernel))) (goodIn_sub (fun _ h => List.mem_cons_of_mem _ (List.mem_append_right _ h)) (by decide +kernel))
set_option maxRecDepth 20000 in
theorem gL_told_X6_cell : GoodIn wsL_told (wsV RL 29 RX6 yX6_cell wsX6_cell) := goodIn_app (goodIn_of _ (by decide +kernel)) ggL_told_X6_cell
set_option maxRecDepth 20000 in
theorem ggL_told_L_fits : GoodIn wsL_told wsL_fits := goodIn_r _ [11, 12, 13, 4, 14, 15, 16, 17] (by decide +kernel) (by decide +kernel)
set_option maxRecDepth 20000 in
theorem gL_told_L_fits : GoodIn wsL_told (va_wsS RL 22 yL_fits wsL_fits) := goodIn_app (goodIn_of _ (by decide +kernel)) ggL_told_L_fits
set_option maxRecDepth 20000 in
theorem ggL_told_L_beyond : GoodIn wsL_told wsL_beyond := goodIn_r _ [17] (by decide +kernel) (by decide +kernel)
set_option maxRecDepth 20000 in
theorem gL_told_L_beyond : GoodIn wsL_told (va_wsS RL 14 yL_beyond wsL_beyond) := goodIn_app (goodIn_of _ (by decide +kernel)) ggL_told_L_beyond
set_option maxRecDepth 20000 in
theorem ggL_told_X6_color : GoodIn wsL_told wsX6_color := goodIn_ca (goodIn_r _ [120, 29, 30, 25, 26, 27, 21, 28, 31, 32, 33, 34, 35, 36, 37, 38, 39, 40, 41, 42, 121, 122, 123, 124, 59, 60, 61, 62, 63, 125, 84, 85, 86, 87, 126, 90, 91, 92, 282, 283, 284, 285, 286, 287, 288, 289, 290, 291, 292, 293, 294, 295] (by decide +kernel) (by decide +kernel)) (goodIn_sub (fun _ h => List.mem_cons_of_mem _ (List.mem_append_right _ h)) (by decide +kernel))
set_option maxRecDepth 20000 in
theorem gL_told_X6_color : GoodIn wsL_told (wsV RL 35 RX6 yX6_color wsX6_color) := goodIn_app (goodIn_of _ (by decide +kernel)) ggL_told_X6_color
set_option maxRecDepth 20000 in
theorem ggL_told_L_color : GoodIn wsL_told wsL_color := goodIn_r _ [14] (by decide +kernel) (by decide +kernel)
set_option maxRecDepth 20000 in
theorem gL_told_L_color : GoodIn wsL_told (va_wsS RL 8 yL_color wsL_color) := goodIn_app (goodIn_of _ (by decide +kernel)) ggL_told_L_color
set_option maxRecDepth 20000 in
theorem ggL_told_X6_tile : GoodIn wsL_told wsX6_tile := goodIn_ca (goodIn_ca (goodIn_r _ [130, 29, 30, 23, 24, 31, 58, 131, 132, 133, 21, 134, 135, 136, 137, 138, 35, 139, 87, 90, 91, 92, 140, 141, 142, 143, 282, 283, 284, 285, 286, 287, 288, 289, 290, 291, 292, 293, 294, 295] (by decide +kernel) (by decide +kernel)) (goodIn_sub (fun _ h => List.mem_cons_of_mem _ (List.mem_append_right _ h)) (by decide +kernel))) (goodIn_sub (fun _ h => List.mem_cons_of_mem _ (List.mem_append_left _ (List.mem_append_right _ h))) (by decide +kernel))
set_option maxRecDepth 20000 in
theorem gL_told_X6_tile : GoodIn wsL_told (wsV RL 38 RX6 yX6_tile wsX6_tile) := goodIn_app (goodIn_of _ (by decide +kernel)) ggL_told_X6_tile
set_option maxRecDepth 20000 in
theorem ggL_told_L_where : GoodIn wsL_told wsL_where := goodIn_r _ [8] (by decide +kernel) (by decide +kernel)
set_option maxRecDepth 20000 in
theorem gL_told_L_where : GoodIn wsL_told (va_wsS RL 18 yL_where wsL_where) := goodIn_app (goodIn_of _ (by decide +kernel)) ggL_told_L_where
set_option maxRecDepth 20000 in
theorem ggL_told_L_at : GoodIn wsL_told wsL_at := goodIn_r _ [146] (by decide +kernel) (by decide +kernel)
