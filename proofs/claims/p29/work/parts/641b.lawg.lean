set_option maxRecDepth 20000 in
theorem gL_told_L_at : GoodIn wsL_told (va_wsS RL 41 yL_at wsL_at) := goodIn_app (goodIn_of _ (by decide +kernel)) ggL_told_L_at
set_option maxRecDepth 20000 in
theorem ggL_told_X6_why : GoodIn wsL_told wsX6_why := goodIn_ca (goodIn_r _ [150, 151, 152, 153, 21, 154, 29, 30, 31, 25, 26, 27, 28, 32, 33, 34, 35, 36, 37, 38, 39, 40, 41, 42, 155, 156, 157, 158, 159, 160, 161, 162, 163, 57, 102, 59, 60, 61, 62, 63, 103, 104, 105, 106, 107, 64, 65, 66, 67, 68, 69, 70, 71, 72, 73, 74, 75, 76, 77, 78, 79, 80, 81, 82, 83, 84, 85, 86, 87, 88, 89, 90, 91, 92, 93, 94, 95, 96, 97, 108, 109, 110, 111, 112, 282, 283, 284, 285, 286, 287, 288, 289, 290, 291, 292, 293, 294, 295, 296, 297, 298, 299] (by decide +kernel) (by decide +kernel)) (goodIn_sub (fun _ h => List.mem_cons_of_mem _ (List.mem_append_right _ h)) (by decide +kernel))
set_option maxRecDepth 20000 in
theorem gL_told_X6_why : GoodIn wsL_told (wsV RL 44 RX6 yX6_why wsX6_why) := goodIn_app (goodIn_of _ (by decide +kernel)) ggL_told_X6_why
set_option maxRecDepth 20000 in
theorem ggL_told_L_search : GoodIn wsL_told wsL_search := goodIn_r _ [166, 1, 2, 3, 4, 5, 6, 7, 8, 9, 10, 11, 12, 13, 14, 15, 16, 17] (by decide +kernel) (by decide +kernel)
set_option maxRecDepth 20000 in
theorem gL_told_L_search : GoodIn wsL_told (va_wsS RL 46 yL_search wsL_search) := goodIn_app (goodIn_of _ (by decide +kernel)) ggL_told_L_search
set_option maxRecDepth 20000 in
theorem ggL_told_X6_layings : GoodIn wsL_told wsX6_layings := goodIn_ca (goodIn_r _ [170, 23, 24, 171, 31, 172, 173, 174, 175, 176, 177, 178, 179, 180, 35, 181, 41, 42, 182, 159, 52, 63, 183, 184, 185, 186, 107, 87, 187, 188, 189, 190, 191, 192, 193, 194, 195, 196, 197, 198, 199, 200, 201, 202, 203, 38, 39, 40, 204, 60, 61, 62, 205, 65, 66, 67, 68, 69, 70, 71, 72, 73, 74, 75, 76, 77, 78, 79, 80, 81, 37, 82, 83, 84, 85, 86, 88, 21, 89, 90, 91, 92, 93, 94, 95, 96, 97, 206, 104, 105, 106, 207, 109, 110, 111, 112, 208, 209, 210, 211, 212, 213, 214, 215, 216, 217, 218, 219, 220, 221, 222, 223, 282, 283, 284, 285, 286, 287, 300, 301, 302, 303, 304, 305, 306, 288, 289, 290, 291, 292, 293, 294, 295, 296, 297, 298, 299] (by decide +kernel) (by decide +kernel)) (goodIn_sub (fun _ h => List.mem_cons_of_mem _ (List.mem_append_left _ (List.mem_append_right _ h))) (by decide +kernel))
set_option maxRecDepth 20000 in
theorem gL_told_X6_layings : GoodIn wsL_told (wsV RL 50 RX6 yX6_layings wsX6_layings) := goodIn_app (goodIn_of _ (by decide +kernel)) ggL_told_X6_layings
set_option maxRecDepth 20000 in
theorem ggL_told_X6_fitting : GoodIn wsL_told wsX6_fitting := goodIn_r _ [227, 228, 229, 230, 21, 231, 31, 232, 233, 234, 235, 35, 236, 37, 38, 39, 40, 41, 42, 237, 238, 239, 240, 241, 79, 80, 81, 242, 60, 61, 62, 63, 243, 84, 85, 86, 87, 90, 91, 92, 88, 89, 282, 283, 284, 285, 286, 287, 288, 289, 290, 291, 292, 293, 294, 295] (by decide +kernel) (by decide +kernel)
set_option maxRecDepth 20000 in
theorem gL_told_X6_fitting : GoodIn wsL_told (wsV RL 53 RX6 yX6_fitting wsX6_fitting) := goodIn_app (goodIn_of _ (by decide +kernel)) ggL_told_X6_fitting
set_option maxRecDepth 20000 in
theorem ggL_told_X6_hint : GoodIn wsL_told wsX6_hint := goodIn_r _ [247, 248, 249, 250, 21, 251, 31, 252, 38, 39, 35, 40, 41, 42, 53, 54, 55, 56, 57, 58, 59, 60, 61, 62, 63, 64, 65, 66, 67, 68, 69, 70, 71, 72, 73, 74, 75, 76, 77, 78, 79, 80, 81, 37, 82, 83, 84, 85, 86, 87, 88, 89, 90, 91, 92, 93, 94, 95, 96, 97, 98, 99, 100, 101, 102, 103, 104, 105, 106, 107, 108, 109, 110, 111, 112, 113, 114, 115, 116, 282, 283, 284, 285, 286, 287, 288, 289, 290, 291, 292, 293, 294, 295, 296, 297, 298, 299] (by decide +kernel) (by decide +kernel)
set_option maxRecDepth 20000 in
theorem gL_told_X6_hint : GoodIn wsL_told (wsV RL 57 RX6 yX6_hint wsX6_hint) := goodIn_app (goodIn_of _ (by decide +kernel)) ggL_told_X6_hint
set_option maxRecDepth 20000 in
theorem ggL_told_X6_count : GoodIn wsL_told wsX6_count := goodIn_ca (goodIn_r _ [256, 23, 24, 257, 258, 259, 21, 260, 31, 261, 262, 58, 263, 264, 232, 265, 266, 267, 268, 269, 35, 270, 37, 38, 39, 40, 41, 42, 242, 60, 61, 62, 63, 271, 272, 273, 274, 275, 276, 277, 233, 234, 235, 236, 237, 238, 239, 240, 241, 79, 80, 81, 243, 84, 85, 86, 87, 90, 91, 92, 88, 89, 278, 279, 280, 281, 57, 252, 59, 64, 65, 66, 67, 68, 69, 70, 71, 72, 73, 74, 75, 76, 77, 78, 82, 83, 93, 94, 95, 96, 97, 125, 108, 109, 110, 111, 112, 282, 283, 284, 285, 286, 287, 288, 289, 290, 291, 292, 293, 294, 295, 307, 308, 309, 296, 297, 298, 299] (by decide +kernel) (by decide +kernel)) (goodIn_sub (fun _ h => List.mem_cons_of_mem _ (List.mem_append_left _ (List.mem_append_right _ h))) (by decide +kernel))
set_option maxRecDepth 20000 in
theorem gL_told_X6_count : GoodIn wsL_told (wsV RL 61 RX6 yX6_count wsX6_count) := goodIn_app (goodIn_of _ (by decide +kernel)) ggL_told_X6_count
set_option maxRecDepth 20000 in
theorem ggL_act_L_at : GoodIn wsL_act wsL_at := goodIn_r _ [6] (by decide +kernel) (by decide +kernel)
set_option maxRecDepth 20000 in
theorem gL_act_L_at : GoodIn wsL_act (va_wsS RL 41 yL_at wsL_at) := goodIn_app (goodIn_of _ (by decide +kernel)) ggL_act_L_at
set_option maxRecDepth 20000 in
theorem ggL_act_X6_begin : GoodIn wsL_act wsX6_begin := goodIn_ca (goodIn_r _ [11, 12, 13, 14, 15, 16, 17, 18, 19, 20, 21, 22, 23, 24, 25, 26, 27, 28, 29, 30, 31, 32, 33, 34, 35, 36, 37, 38, 39, 40, 41, 42, 43, 44, 45, 46, 47, 48, 303, 304, 305, 306, 307, 308, 309, 310, 311, 312, 313, 314, 315, 316, 317, 318, 319] (by decide +kernel) (by decide +kernel)) (goodIn_sub (fun _ h => List.mem_cons_of_mem _ (List.mem_append_left _ (List.mem_append_left _ (List.mem_append_right _ h)))) (by decide +kernel))
set_option maxRecDepth 20000 in
theorem gL_act_X6_begin : GoodIn wsL_act (wsV RL 65 RX6 yX6_begin wsX6_begin) := goodIn_app (goodIn_of _ (by decide +kernel)) ggL_act_X6_begin
