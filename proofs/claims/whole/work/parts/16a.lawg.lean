set_option maxRecDepth 20000 in
theorem ggL_law_X6_init : GoodIn wsL_law wsX6_init := goodIn_r _ [9, 10, 11, 12, 13, 14, 15, 16, 17, 18, 19, 20, 21, 22, 23, 24, 25, 26, 27, 28, 29, 30, 31, 32, 33, 34, 35, 36, 37, 38, 39, 40, 41, 42, 43, 44, 45, 46, 47, 48, 49, 50, 51, 52, 53, 54, 55, 56, 57, 58, 59, 60, 61, 62, 63, 64, 65, 66, 67, 68, 69, 70, 71, 72, 73, 74, 75, 76, 77, 78, 79, 80, 81, 82, 83, 84, 85, 86, 87, 88, 89, 90, 91, 903, 904, 905, 906, 907, 908, 909, 910, 881, 882, 883, 884, 885, 886, 911, 912, 913, 914, 915, 916, 917, 918, 919, 920, 921, 922, 923, 924, 925, 926, 927, 928, 929] (by decide +kernel) (by decide +kernel)
set_option maxRecDepth 20000 in
theorem gL_law_X6_init : GoodIn wsL_law (wsX6_init) := ggL_law_X6_init
set_option maxRecDepth 20000 in
theorem ggL_law_X7_init : GoodIn wsL_law wsX7_init := goodIn_r _ [94, 95, 11, 12, 45, 96, 97, 98, 99, 100, 101, 102, 103, 104, 105, 5, 106, 887, 888, 889, 890, 891, 892, 893, 894, 895, 896, 897, 898, 899, 900, 901, 902] (by decide +kernel) (by decide +kernel)
set_option maxRecDepth 20000 in
theorem gL_law_X7_init : GoodIn wsL_law (wsX7_init) := ggL_law_X7_init
set_option maxRecDepth 20000 in
theorem ggL_law_L_begin : GoodIn wsL_law wsL_begin := goodIn_ca (goodIn_r _ [110, 111, 112, 113, 114, 2, 115, 116, 117, 20, 16, 118, 119, 120, 19, 121, 56, 55, 54, 122, 123, 124, 15, 125, 40, 41, 42, 43, 44, 46, 126, 127, 128, 129, 47, 48, 88, 89, 90, 91, 130, 131, 132, 133, 881, 882, 883, 884, 885, 886, 911, 912, 913, 903, 904, 905, 906, 907, 908, 909, 910] (by decide +kernel) (by decide +kernel)) (goodIn_sub (fun _ h => List.mem_append_left _ (List.mem_append_left _ (List.mem_append_right _ h))) (by decide +kernel))
set_option maxRecDepth 20000 in
theorem gL_law_L_begin : GoodIn wsL_law (va_wsS RL 77 yL_begin wsL_begin) := goodIn_app (goodIn_of _ (by decide +kernel)) ggL_law_L_begin
set_option maxRecDepth 20000 in
theorem ggL_law_X7_begin : GoodIn wsL_law wsX7_begin := goodIn_r _ [137, 138, 96, 139, 140, 5, 141, 142, 143, 144, 145, 146, 97, 103, 104, 105, 106, 147, 148, 149, 150, 887, 888, 889, 890, 891, 892, 893, 894, 895, 896, 897, 898, 899, 900, 901, 902] (by decide +kernel) (by decide +kernel)
set_option maxRecDepth 20000 in
theorem gL_law_X7_begin : GoodIn wsL_law (wsV RL 82 RX7 yX7_begin wsX7_begin) := goodIn_app (goodIn_of _ (by decide +kernel)) ggL_law_X7_begin
set_option maxRecDepth 20000 in
theorem ggL_law_X7_thrown : GoodIn wsL_law wsX7_thrown := goodIn_r _ [154, 138, 887, 888, 889, 890, 891, 892, 893, 894, 895, 896, 897, 898, 899, 900, 901, 902] (by decide +kernel) (by decide +kernel)
set_option maxRecDepth 20000 in
theorem gL_law_X7_thrown : GoodIn wsL_law (wsV RL 83 RX7 yX7_thrown wsX7_thrown) := goodIn_app (goodIn_of _ (by decide +kernel)) ggL_law_X7_thrown
set_option maxRecDepth 20000 in
theorem ggL_law_L_addTile : GoodIn wsL_law wsL_addTile := goodIn_ca (goodIn_ca (goodIn_r _ [157, 111, 158, 159, 160, 161, 2, 162, 116, 117, 163, 164, 16, 165, 20, 118, 119, 120, 19, 121, 56, 55, 54, 122, 123, 124, 15, 125, 40, 41, 42, 43, 44, 46, 126, 127, 128, 129, 47, 48, 166, 167, 168, 169, 170, 171, 172, 173, 174, 175, 176, 177, 178, 179, 180, 181, 182, 183, 184, 185, 186, 187, 188, 189, 881, 882, 883, 884, 885, 886, 903, 904, 905, 906, 907, 908, 909, 910, 911, 912, 913] (by decide +kernel) (by decide +kernel)) (goodIn_sub (fun _ h => List.mem_append_left _ (List.mem_append_left _ (List.mem_append_right _ h))) (by decide +kernel))) (goodIn_sub (fun _ h => List.mem_append_left _ (List.mem_append_right _ h)) (by decide +kernel))
set_option maxRecDepth 20000 in
theorem gL_law_L_addTile : GoodIn wsL_law (va_wsS RL 86 yL_addTile wsL_addTile) := goodIn_app (goodIn_of _ (by decide +kernel)) ggL_law_L_addTile
set_option maxRecDepth 20000 in
theorem ggL_law_X7_addTile : GoodIn wsL_law wsX7_addTile := goodIn_r _ [193, 96, 138, 139, 140, 5, 141, 142, 143, 144, 145, 146, 97, 194, 195, 196, 197, 887, 888, 889, 890, 891, 892, 893, 894, 895, 896, 897, 898, 899, 900, 901, 902] (by decide +kernel) (by decide +kernel)
set_option maxRecDepth 20000 in
theorem gL_law_X7_addTile : GoodIn wsL_law (wsV RL 88 RX7 yX7_addTile wsX7_addTile) := goodIn_app (goodIn_of _ (by decide +kernel)) ggL_law_X7_addTile
set_option maxRecDepth 20000 in
theorem ggL_law_L_dropTile : GoodIn wsL_law wsL_dropTile := goodIn_ca (goodIn_r _ [200, 158, 201, 202, 203, 2, 204, 163, 164, 16, 165, 20, 205, 206, 207, 15, 208, 47, 118, 119, 120, 19, 121, 56, 55, 54, 122, 123, 124, 125, 40, 41, 42, 43, 44, 46, 126, 127, 128, 129, 48, 881, 882, 883, 884, 885, 886, 903, 904, 905, 906, 907, 908, 909, 910, 911, 912, 913] (by decide +kernel) (by decide +kernel)) (goodIn_sub (fun _ h => List.mem_append_left _ (List.mem_append_right _ h)) (by decide +kernel))
set_option maxRecDepth 20000 in
theorem gL_law_L_dropTile : GoodIn wsL_law (va_wsS RL 89 yL_dropTile wsL_dropTile) := goodIn_app (goodIn_of _ (by decide +kernel)) ggL_law_L_dropTile
set_option maxRecDepth 20000 in
theorem ggL_law_X7_dropTile : GoodIn wsL_law wsX7_dropTile := goodIn_r _ [212, 96, 138, 213, 214, 215, 5, 216, 147, 148, 149, 150, 142, 143, 144, 145, 146, 97, 887, 888, 889, 890, 891, 892, 893, 894, 895, 896, 897, 898, 899, 900, 901, 902] (by decide +kernel) (by decide +kernel)
set_option maxRecDepth 20000 in
theorem gL_law_X7_dropTile : GoodIn wsL_law (wsV RL 92 RX7 yX7_dropTile wsX7_dropTile) := goodIn_app (goodIn_of _ (by decide +kernel)) ggL_law_X7_dropTile
set_option maxRecDepth 20000 in
theorem ggL_law_L_setRule : GoodIn wsL_law wsL_setRule := goodIn_ca (goodIn_r _ [219, 111, 220, 221, 222, 2, 223, 116, 117, 20, 16, 224, 118, 119, 120, 19, 121, 56, 55, 54, 122, 123, 124, 15, 125, 40, 41, 42, 43, 44, 46, 126, 127, 128, 129, 47, 48, 881, 882, 883, 884, 885, 886, 903, 904, 905, 906, 907, 908, 909, 910, 911, 912, 913] (by decide +kernel) (by decide +kernel)) (goodIn_sub (fun _ h => List.mem_append_left _ (List.mem_append_left _ (List.mem_append_right _ h))) (by decide +kernel))
set_option maxRecDepth 20000 in
theorem gL_law_L_setRule : GoodIn wsL_law (va_wsS RL 93 yL_setRule wsL_setRule) := goodIn_app (goodIn_of _ (by decide +kernel)) ggL_law_L_setRule
set_option maxRecDepth 20000 in
theorem ggL_law_X7_setRule : GoodIn wsL_law wsX7_setRule := goodIn_r _ [228, 138, 96, 139, 140, 5, 141, 142, 143, 144, 145, 146, 97, 887, 888, 889, 890, 891, 892, 893, 894, 895, 896, 897, 898, 899, 900, 901, 902] (by decide +kernel) (by decide +kernel)
set_option maxRecDepth 20000 in
theorem gL_law_X7_setRule : GoodIn wsL_law (wsV RL 96 RX7 yX7_setRule wsX7_setRule) := goodIn_app (goodIn_of _ (by decide +kernel)) ggL_law_X7_setRule
set_option maxRecDepth 20000 in
theorem ggL_law_L_cut : GoodIn wsL_law wsL_cut := goodIn_ca (goodIn_r _ [231, 111, 232, 233, 234, 2, 235, 116, 117, 236, 20, 16, 237, 238, 36, 165, 118, 119, 120, 19, 121, 56, 55, 54, 122, 123, 124, 15, 125, 40, 41, 42, 43, 44, 46, 126, 127, 128, 129, 47, 48, 88, 89, 90, 91, 239, 240, 241, 35, 242, 85, 86, 87, 243, 244, 245, 246, 247, 131, 132, 133, 248, 249, 250, 251, 252, 253, 254, 255, 256, 257, 258, 259, 260, 261, 178, 179, 180, 181, 182, 183, 184, 185, 186, 187, 175, 176, 177, 188, 189, 881, 882, 883, 884, 885, 886, 903, 904, 905, 906, 907, 908, 909, 910, 911, 912, 913, 927, 928, 929] (by decide +kernel) (by decide +kernel)) (goodIn_sub (fun _ h => List.mem_append_left _ (List.mem_append_left _ (List.mem_append_right _ h))) (by decide +kernel))
set_option maxRecDepth 20000 in
theorem gL_law_L_cut : GoodIn wsL_law (va_wsS RL 97 yL_cut wsL_cut) := goodIn_app (goodIn_of _ (by decide +kernel)) ggL_law_L_cut
set_option maxRecDepth 20000 in
theorem ggL_law_X7_cut : GoodIn wsL_law wsX7_cut := goodIn_r _ [265, 266, 138, 267, 100, 96, 139, 140, 5, 141, 142, 143, 144, 145, 146, 97, 103, 104, 105, 106, 147, 148, 149, 150, 268, 269, 270, 271, 272, 273, 274, 275, 276, 277, 278, 279, 194, 195, 196, 197, 887, 888, 889, 890, 891, 892, 893, 894, 895, 896, 897, 898, 899, 900, 901, 902] (by decide +kernel) (by decide +kernel)
set_option maxRecDepth 20000 in
theorem gL_law_X7_cut : GoodIn wsL_law (wsV RL 99 RX7 yX7_cut wsX7_cut) := goodIn_app (goodIn_of _ (by decide +kernel)) ggL_law_X7_cut
set_option maxRecDepth 20000 in
theorem ggL_law_L_lay : GoodIn wsL_law wsL_lay := goodIn_ca (goodIn_ca (goodIn_r _ [282, 283, 158, 284, 285, 286, 2, 287, 163, 164, 20, 16, 288, 289, 290, 291, 292, 293, 294, 295, 296, 297, 298, 299, 300, 15, 301, 247, 131, 132, 133, 40, 41, 302, 303, 304, 305, 43, 306, 307, 308, 309, 28, 310, 311, 312, 313, 314, 46, 205, 206, 207, 208, 47, 315, 316, 317, 27, 318, 65, 66, 67, 68, 319, 320, 321, 322, 323, 324, 253, 254, 255, 325, 326, 327, 328, 329, 48, 260, 261, 185, 186, 187, 330, 331, 332, 333, 334, 335, 336, 337, 338, 339, 118, 119, 120, 19, 121, 56, 55, 54, 122, 123, 124, 125, 42, 44, 126, 127, 128, 129, 340, 341, 342, 343, 344, 345, 346, 347, 348, 881, 882, 883, 884, 885, 886, 903, 904, 905, 906, 907, 908, 909, 910, 916, 917, 918, 919, 911, 912, 913] (by decide +kernel) (by decide +kernel)) (goodIn_sub (fun _ h => List.mem_append_left _ (List.mem_append_right _ h)) (by decide +kernel))) (goodIn_sub (fun _ h => List.mem_append_right _ h) (by decide +kernel))
set_option maxRecDepth 20000 in
theorem gL_law_L_lay : GoodIn wsL_law (va_wsS RL 100 yL_lay wsL_lay) := goodIn_app (goodIn_of _ (by decide +kernel)) ggL_law_L_lay
set_option maxRecDepth 20000 in
theorem ggL_law_X7_lay : GoodIn wsL_law wsX7_lay := goodIn_r _ [352, 138, 96, 353, 354, 355, 5, 356, 147, 148, 149, 150, 139, 140, 141, 357, 358, 359, 360, 361, 362, 363, 364, 365, 366, 367, 368, 213, 214, 215, 216, 369, 370, 371, 372, 373, 374, 375, 376, 377, 378, 379, 380, 381, 382, 383, 384, 272, 273, 274, 275, 385, 386, 387, 388, 389, 390, 391, 392, 393, 394, 395, 396, 142, 143, 144, 145, 146, 97, 397, 398, 399, 400, 887, 888, 889, 890, 891, 892, 893, 894, 895, 896, 897, 898, 899, 900, 901, 902] (by decide +kernel) (by decide +kernel)
set_option maxRecDepth 20000 in
theorem gL_law_X7_lay : GoodIn wsL_law (wsV RL 102 RX7 yX7_lay wsX7_lay) := goodIn_app (goodIn_of _ (by decide +kernel)) ggL_law_X7_lay
set_option maxRecDepth 20000 in
theorem ggL_law_L_take : GoodIn wsL_law wsL_take := goodIn_ca (goodIn_ca (goodIn_r _ [403, 283, 158, 404, 405, 406, 2, 407, 163, 164, 16, 20, 408, 294, 295, 296, 297, 292, 293, 298, 299, 300, 15, 301, 247, 131, 132, 133, 40, 41, 311, 312, 313, 314, 46, 409, 410, 411, 412, 44, 118, 119, 120, 19, 121, 56, 55, 54, 122, 123, 124, 125, 42, 43, 126, 127, 128, 129, 47, 48, 413, 414, 415, 416, 881, 882, 883, 884, 885, 886, 903, 904, 905, 906, 907, 908, 909, 910, 911, 912, 913] (by decide +kernel) (by decide +kernel)) (goodIn_sub (fun _ h => List.mem_append_left _ (List.mem_append_right _ h)) (by decide +kernel))) (goodIn_sub (fun _ h => List.mem_append_right _ h) (by decide +kernel))
set_option maxRecDepth 20000 in
theorem gL_law_L_take : GoodIn wsL_law (va_wsS RL 103 yL_take wsL_take) := goodIn_app (goodIn_of _ (by decide +kernel)) ggL_law_L_take
set_option maxRecDepth 20000 in
theorem ggL_law_X7_take : GoodIn wsL_law wsX7_take := goodIn_r _ [420, 96, 138, 353, 354, 355, 5, 356, 147, 148, 149, 150, 139, 140, 141, 142, 143, 144, 145, 146, 97, 887, 888, 889, 890, 891, 892, 893, 894, 895, 896, 897, 898, 899, 900, 901, 902] (by decide +kernel) (by decide +kernel)
set_option maxRecDepth 20000 in
theorem gL_law_X7_take : GoodIn wsL_law (wsV RL 105 RX7 yX7_take wsX7_take) := goodIn_app (goodIn_of _ (by decide +kernel)) ggL_law_X7_take
