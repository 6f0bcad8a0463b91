set_option maxRecDepth 20000 in
theorem gL_act_X6_turnOver : GoodIn wsL_act (wsV RL 90 RX6 yX6_turnOver wsX6_turnOver) := goodIn_app (goodIn_of _ (by decide +kernel)) ggL_act_X6_turnOver
set_option maxRecDepth 20000 in
theorem ggL_act_X6_addTile : GoodIn wsL_act wsX6_addTile := goodIn_ca (goodIn_ca (goodIn_r _ [244, 12, 13, 122, 123, 15, 63, 14, 16, 17, 18, 19, 20, 21, 22, 23, 24, 25, 26, 27, 28, 29, 30, 31, 32, 33, 34, 35, 36, 37, 38, 39, 40, 245, 246, 247, 248, 249, 10, 250, 251, 252, 253, 101, 102, 103, 91, 92, 93, 94, 95, 96, 97, 98, 99, 100, 104, 105, 303, 304, 305, 306, 307, 308, 312, 313, 314, 315, 316, 317, 318, 319, 309, 310, 311] (by decide +kernel) (by decide +kernel)) (goodIn_sub (fun _ h => List.mem_cons_of_mem _ (List.mem_append_left _ (List.mem_append_left _ (List.mem_append_right _ h)))) (by decide +kernel))) (goodIn_sub (fun _ h => List.mem_cons_of_mem _ (List.mem_append_left _ (List.mem_append_right _ h))) (by decide +kernel))
set_option maxRecDepth 20000 in
theorem gL_act_X6_addTile : GoodIn wsL_act (wsV RL 93 RX6 yX6_addTile wsX6_addTile) := goodIn_app (goodIn_of _ (by decide +kernel)) ggL_act_X6_addTile
set_option maxRecDepth 20000 in
theorem ggL_act_L_where : GoodIn wsL_act wsL_where := goodIn_r _ [111] (by decide +kernel) (by decide +kernel)
set_option maxRecDepth 20000 in
theorem gL_act_L_where : GoodIn wsL_act (va_wsS RL 18 yL_where wsL_where) := goodIn_app (goodIn_of _ (by decide +kernel)) ggL_act_L_where
set_option maxRecDepth 20000 in
theorem ggL_act_X6_dropTile : GoodIn wsL_act wsX6_dropTile := goodIn_ca (goodIn_r _ [257, 122, 123, 15, 63, 14, 152, 153, 154, 27, 155, 39, 16, 17, 18, 19, 20, 21, 22, 23, 24, 25, 26, 28, 29, 30, 31, 32, 33, 34, 35, 36, 37, 38, 40, 303, 304, 305, 306, 307, 308, 312, 313, 314, 315, 316, 317, 318, 319, 309, 310, 311] (by decide +kernel) (by decide +kernel)) (goodIn_sub (fun _ h => List.mem_cons_of_mem _ (List.mem_append_left _ (List.mem_append_right _ h))) (by decide +kernel))
set_option maxRecDepth 20000 in
theorem gL_act_X6_dropTile : GoodIn wsL_act (wsV RL 96 RX6 yX6_dropTile wsX6_dropTile) := goodIn_app (goodIn_of _ (by decide +kernel)) ggL_act_X6_dropTile
set_option maxRecDepth 20000 in
theorem ggL_act_L_search : GoodIn wsL_act wsL_search := goodIn_r _ [260, 2, 106, 107, 5, 108, 109, 110, 111, 112, 113, 114, 115, 116, 117, 52, 53, 54] (by decide +kernel) (by decide +kernel)
set_option maxRecDepth 20000 in
theorem gL_act_L_search : GoodIn wsL_act (va_wsS RL 46 yL_search wsL_search) := goodIn_app (goodIn_of _ (by decide +kernel)) ggL_act_L_search
set_option maxRecDepth 20000 in
theorem ggL_act_X6_solve : GoodIn wsL_act wsX6_solve := goodIn_ca (goodIn_r _ [264, 122, 123, 265, 15, 266, 14, 267, 268, 269, 270, 271, 272, 273, 274, 25, 26, 27, 28, 29, 30, 31, 32, 33, 34, 35, 36, 37, 38, 39, 40, 275, 276, 277, 278, 279, 280, 281, 282, 283, 284, 285, 286, 287, 288, 289, 290, 291, 46, 47, 48, 292, 149, 150, 151, 293, 157, 158, 159, 160, 161, 162, 163, 164, 165, 166, 167, 168, 169, 170, 82, 83, 84, 76, 171, 172, 173, 174, 175, 89, 10, 90, 98, 99, 100, 176, 177, 178, 179, 180, 294, 153, 154, 155, 295, 182, 183, 184, 185, 296, 297, 298, 299, 300, 187, 188, 189, 301, 205, 206, 207, 16, 17, 18, 19, 20, 21, 22, 23, 24, 190, 191, 192, 193, 194, 302, 303, 304, 305, 306, 307, 308, 327, 328, 329, 330, 331, 332, 333, 312, 313, 314, 315, 316, 317, 318, 319, 323, 324, 325, 326, 309, 310, 311] (by decide +kernel) (by decide +kernel)) (goodIn_sub (fun _ h => List.mem_cons_of_mem _ (List.mem_append_left _ (List.mem_append_right _ h))) (by decide +kernel))
set_option maxRecDepth 20000 in
theorem gL_act_X6_solve : GoodIn wsL_act (wsV RL 99 RX6 yX6_solve wsX6_solve) := goodIn_app (goodIn_of _ (by decide +kernel)) ggL_act_X6_solve
set_option maxRecDepth 20000 in
theorem ggL_law_X6_init : GoodIn wsL_law wsX6_init := goodIn_r _ [7, 8, 9, 10, 11, 12, 13, 14, 15, 16, 17, 18, 19, 20, 21, 22, 23, 24, 25, 26, 27, 28, 29, 30, 31, 32, 33, 34, 35, 36, 37, 38, 39, 40, 41, 42, 3, 43, 44, 45, 46, 47, 48, 49, 50, 51, 52, 53, 54, 55, 56, 57, 58, 59, 60, 61, 62, 63, 64, 65, 66, 67, 68, 69, 70, 71, 72, 73, 74, 75, 76, 77, 78, 79, 80, 81, 82, 83, 84, 85, 86, 87, 88, 478, 479, 480, 481, 482, 483, 484, 485, 472, 473, 474, 475, 476, 477, 486, 487, 488, 489, 490, 491, 492, 493, 494, 495, 496, 497, 498, 499, 500, 501, 502, 503, 504] (by decide +kernel) (by decide +kernel)
set_option maxRecDepth 20000 in
theorem gL_law_X6_init : GoodIn wsL_law (wsX6_init) := ggL_law_X6_init
set_option maxRecDepth 20000 in
theorem gL_law_L_told : GoodIn wsL_law (va_wsS RL 103 yL_told wsL_told) := goodIn_app (goodIn_of _ (by decide +kernel)) ggL_law_L_told
set_option maxRecDepth 20000 in
theorem ggL_law_X6_count : GoodIn wsL_law wsX6_count := goodIn_ca (goodIn_r _ [320, 112, 113, 321, 322, 323, 2, 324, 14, 325, 326, 141, 327, 328, 296, 18, 329, 330, 331, 332, 13, 333, 124, 125, 126, 127, 38, 39, 306, 143, 144, 145, 43, 334, 335, 336, 337, 338, 339, 340, 297, 298, 299, 300, 301, 302, 303, 304, 305, 156, 157, 158, 307, 161, 162, 163, 45, 166, 167, 168, 164, 165, 341, 342, 343, 344, 26, 316, 142, 146, 147, 148, 25, 149, 62, 63, 64, 65, 150, 151, 152, 153, 154, 155, 159, 160, 169, 170, 171, 172, 173, 200, 183, 184, 185, 186, 187, 472, 473, 474, 475, 476, 477, 478, 479, 480, 481, 482, 483, 484, 485, 486, 487, 488, 491, 492, 493, 494] (by decide +kernel) (by decide +kernel)) (goodIn_sub (fun _ h => List.mem_append_left _ (List.mem_append_left _ (List.mem_append_right _ h))) (by decide +kernel))
set_option maxRecDepth 20000 in
theorem gL_law_X6_count : GoodIn wsL_law (wsV RL 61 RX6 yX6_count wsX6_count) := goodIn_app (goodIn_of _ (by decide +kernel)) ggL_law_X6_count
