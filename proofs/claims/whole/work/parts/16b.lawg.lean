set_option maxRecDepth 20000 in
theorem ggL_law_L_fix : GoodIn wsL_law wsL_fix := goodIn_ca (goodIn_ca (goodIn_r _ [423, 283, 158, 424, 425, 426, 2, 427, 163, 164, 16, 20, 428, 294, 295, 296, 297, 292, 293, 298, 299, 300, 15, 301, 247, 131, 132, 133, 40, 41, 311, 312, 313, 314, 46, 118, 119, 120, 19, 121, 56, 55, 54, 122, 123, 124, 125, 42, 43, 44, 126, 127, 128, 129, 47, 48, 409, 410, 411, 412, 881, 882, 883, 884, 885, 886, 903, 904, 905, 906, 907, 908, 909, 910, 911, 912, 913] (by decide +kernel) (by decide +kernel)) (goodIn_sub (fun _ h => List.mem_append_left _ (List.mem_append_right _ h)) (by decide +kernel))) (goodIn_sub (fun _ h => List.mem_append_right _ h) (by decide +kernel))
set_option maxRecDepth 20000 in
theorem gL_law_L_fix : GoodIn wsL_law (va_wsS RL 106 yL_fix wsL_fix) := goodIn_app (goodIn_of _ (by decide +kernel)) ggL_law_L_fix
set_option maxRecDepth 20000 in
theorem ggL_law_X7_fix : GoodIn wsL_law wsX7_fix := goodIn_r _ [432, 96, 138, 353, 354, 355, 5, 356, 147, 148, 149, 150, 139, 140, 141, 142, 143, 144, 145, 146, 97, 887, 888, 889, 890, 891, 892, 893, 894, 895, 896, 897, 898, 899, 900, 901, 902] (by decide +kernel) (by decide +kernel)
set_option maxRecDepth 20000 in
theorem gL_law_X7_fix : GoodIn wsL_law (wsV RL 108 RX7 yX7_fix wsX7_fix) := goodIn_app (goodIn_of _ (by decide +kernel)) ggL_law_X7_fix
set_option maxRecDepth 20000 in
theorem ggL_law_X6_clear : GoodIn wsL_law wsX6_clear := goodIn_r _ [436, 20, 16, 428, 118, 119, 120, 19, 121, 56, 55, 54, 122, 123, 124, 15, 125, 40, 41, 42, 43, 44, 46, 126, 127, 128, 129, 47, 48, 437, 438, 439, 440, 247, 131, 132, 133, 348, 312, 313, 314, 441, 414, 415, 416, 881, 882, 883, 884, 885, 886, 903, 904, 905, 906, 907, 908, 909, 910, 911, 912, 913] (by decide +kernel) (by decide +kernel)
set_option maxRecDepth 20000 in
theorem gL_law_X6_clear : GoodIn wsL_law (wsV RL 109 RX6 yX6_clear wsX6_clear) := goodIn_app (goodIn_of _ (by decide +kernel)) ggL_law_X6_clear
set_option maxRecDepth 20000 in
theorem ggL_law_X7_clear : GoodIn wsL_law wsX7_clear := goodIn_r _ [445, 138, 96, 142, 143, 144, 5, 145, 146, 97, 147, 148, 149, 150, 887, 888, 889, 890, 891, 892, 893, 894, 895, 896, 897, 898, 899, 900, 901, 902] (by decide +kernel) (by decide +kernel)
set_option maxRecDepth 20000 in
theorem gL_law_X7_clear : GoodIn wsL_law (wsV RL 112 RX7 yX7_clear wsX7_clear) := goodIn_app (goodIn_of _ (by decide +kernel)) ggL_law_X7_clear
set_option maxRecDepth 20000 in
theorem ggL_law_X6_turnOver : GoodIn wsL_law wsX6_turnOver := goodIn_r _ [449, 20, 16, 118, 119, 120, 19, 121, 56, 55, 54, 122, 123, 124, 15, 125, 40, 41, 42, 43, 44, 46, 126, 127, 128, 129, 47, 48, 450, 451, 452, 453, 454, 455, 456, 457, 458, 2, 459, 247, 131, 132, 133, 348, 312, 313, 314, 130, 344, 345, 346, 347, 881, 882, 883, 884, 885, 886, 911, 912, 913, 903, 904, 905, 906, 907, 908, 909, 910] (by decide +kernel) (by decide +kernel)
set_option maxRecDepth 20000 in
theorem gL_law_X6_turnOver : GoodIn wsL_law (wsV RL 113 RX6 yX6_turnOver wsX6_turnOver) := goodIn_app (goodIn_of _ (by decide +kernel)) ggL_law_X6_turnOver
set_option maxRecDepth 20000 in
theorem ggL_law_X7_turnOver : GoodIn wsL_law wsX7_turnOver := goodIn_r _ [463, 138, 146, 96, 97, 142, 143, 144, 5, 145, 147, 148, 149, 150, 464, 465, 466, 397, 398, 399, 400, 887, 888, 889, 890, 891, 892, 893, 894, 895, 896, 897, 898, 899, 900, 901, 902] (by decide +kernel) (by decide +kernel)
set_option maxRecDepth 20000 in
theorem gL_law_X7_turnOver : GoodIn wsL_law (wsV RL 116 RX7 yX7_turnOver wsX7_turnOver) := goodIn_app (goodIn_of _ (by decide +kernel)) ggL_law_X7_turnOver
set_option maxRecDepth 20000 in
theorem ggL_law_L_solve : GoodIn wsL_law wsL_solve := goodIn_ca (goodIn_r _ [469, 158, 470, 471, 472, 2, 473, 163, 164, 32, 16, 474, 20, 475, 476, 477, 478, 31, 479, 74, 480, 123, 124, 15, 125, 40, 41, 42, 43, 44, 46, 126, 127, 128, 129, 47, 48, 481, 482, 483, 484, 78, 75, 79, 80, 81, 485, 486, 487, 488, 77, 489, 490, 491, 131, 132, 133, 492, 312, 313, 314, 493, 316, 317, 27, 318, 65, 66, 67, 68, 319, 320, 321, 322, 323, 324, 253, 254, 255, 247, 325, 326, 327, 328, 329, 260, 261, 185, 186, 187, 330, 331, 332, 333, 334, 494, 206, 207, 208, 495, 336, 337, 338, 339, 496, 497, 498, 499, 500, 341, 342, 343, 501, 414, 415, 416, 118, 119, 120, 19, 121, 56, 55, 54, 122, 344, 345, 346, 347, 348, 502, 881, 882, 883, 884, 885, 886, 920, 921, 922, 923, 924, 925, 926, 903, 904, 905, 906, 907, 908, 909, 910, 916, 917, 918, 919, 911, 912, 913] (by decide +kernel) (by decide +kernel)) (goodIn_sub (fun _ h => List.mem_append_left _ (List.mem_append_right _ h)) (by decide +kernel))
set_option maxRecDepth 20000 in
theorem gL_law_L_solve : GoodIn wsL_law (va_wsS RL 117 yL_solve wsL_solve) := goodIn_app (goodIn_of _ (by decide +kernel)) ggL_law_L_solve
set_option maxRecDepth 20000 in
theorem ggL_law_X7_solve : GoodIn wsL_law wsX7_solve := goodIn_r _ [506, 507, 138, 397, 398, 399, 5, 400, 96, 147, 148, 149, 150, 508, 509, 510, 511, 99, 512, 513, 514, 515, 516, 517, 365, 366, 367, 368, 213, 214, 215, 216, 369, 370, 371, 372, 373, 374, 375, 376, 377, 378, 379, 380, 381, 382, 383, 384, 272, 273, 274, 275, 385, 386, 387, 388, 389, 390, 391, 392, 393, 394, 395, 396, 142, 143, 144, 145, 146, 97, 887, 888, 889, 890, 891, 892, 893, 894, 895, 896, 897, 898, 899, 900, 901, 902] (by decide +kernel) (by decide +kernel)
set_option maxRecDepth 20000 in
theorem gL_law_X7_solve : GoodIn wsL_law (wsV RL 119 RX7 yX7_solve wsX7_solve) := goodIn_app (goodIn_of _ (by decide +kernel)) ggL_law_X7_solve
set_option maxRecDepth 20000 in
theorem ggL_law_L_append : GoodIn wsL_law wsL_append := goodIn_ca (goodIn_ca (goodIn_r _ [520, 111, 158, 521, 522, 523, 2, 524, 116, 117, 163, 164, 24, 525, 526, 881, 882, 883, 884, 885, 886, 914, 915] (by decide +kernel) (by decide +kernel)) (goodIn_sub (fun _ h => List.mem_append_left _ (List.mem_append_left _ (List.mem_append_right _ h))) (by decide +kernel))) (goodIn_sub (fun _ h => List.mem_append_left _ (List.mem_append_right _ h)) (by decide +kernel))
set_option maxRecDepth 20000 in
theorem gL_law_L_append : GoodIn wsL_law (va_wsS RL 120 yL_append wsL_append) := goodIn_app (goodIn_of _ (by decide +kernel)) ggL_law_L_append
set_option maxRecDepth 20000 in
theorem ggL_law_X7_append : GoodIn wsL_law wsX7_append := goodIn_r _ [530, 531, 138, 98, 139, 140, 5, 141, 887, 888, 889, 890, 891, 892, 893, 894, 895, 896, 897, 898, 899, 900, 901, 902] (by decide +kernel) (by decide +kernel)
set_option maxRecDepth 20000 in
theorem gL_law_X7_append : GoodIn wsL_law (wsV RL 122 RX7 yX7_append wsX7_append) := goodIn_app (goodIn_of _ (by decide +kernel)) ggL_law_X7_append
set_option maxRecDepth 20000 in
theorem ggL_law_X6_clearBuffer : GoodIn wsL_law wsX6_clearBuffer := goodIn_r _ [535, 24, 525, 881, 882, 883, 884, 885, 886, 914, 915] (by decide +kernel) (by decide +kernel)
set_option maxRecDepth 20000 in
theorem gL_law_X6_clearBuffer : GoodIn wsL_law (wsV RL 123 RX6 yX6_clearBuffer wsX6_clearBuffer) := goodIn_app (goodIn_of _ (by decide +kernel)) ggL_law_X6_clearBuffer
set_option maxRecDepth 20000 in
theorem ggL_law_X7_clearBuffer : GoodIn wsL_law wsX7_clearBuffer := goodIn_r _ [539, 138, 531, 887, 888, 889, 890, 891, 892, 893, 894, 895, 896, 897, 898, 899, 900, 901, 902] (by decide +kernel) (by decide +kernel)
set_option maxRecDepth 20000 in
theorem gL_law_X7_clearBuffer : GoodIn wsL_law (wsV RL 126 RX7 yX7_clearBuffer wsX7_clearBuffer) := goodIn_app (goodIn_of _ (by decide +kernel)) ggL_law_X7_clearBuffer
set_option maxRecDepth 20000 in
theorem ggL_law_X6_firstError : GoodIn wsL_law wsX6_firstError := goodIn_r _ [543, 24, 544, 545, 546, 23, 547, 61, 548, 549, 550, 551, 60, 881, 882, 883, 884, 885, 886, 914, 915] (by decide +kernel) (by decide +kernel)
set_option maxRecDepth 20000 in
theorem gL_law_X6_firstError : GoodIn wsL_law (wsV RL 127 RX6 yX6_firstError wsX6_firstError) := goodIn_app (goodIn_of _ (by decide +kernel)) ggL_law_X6_firstError
set_option maxRecDepth 20000 in
theorem ggL_law_X7_firstError : GoodIn wsL_law wsX7_firstError := goodIn_r _ [555, 138, 556, 557, 558, 5, 559, 560, 531, 98, 101, 139, 140, 141, 887, 888, 889, 890, 891, 892, 893, 894, 895, 896, 897, 898, 899, 900, 901, 902] (by decide +kernel) (by decide +kernel)
set_option maxRecDepth 20000 in
theorem gL_law_X7_firstError : GoodIn wsL_law (wsV RL 130 RX7 yX7_firstError wsX7_firstError) := goodIn_app (goodIn_of _ (by decide +kernel)) ggL_law_X7_firstError
set_option maxRecDepth 20000 in
theorem ggL_law_L_load : GoodIn wsL_law wsL_load := goodIn_ca (goodIn_ca (goodIn_r _ [563, 111, 158, 564, 565, 566, 2, 567, 116, 117, 163, 164, 24, 16, 165, 20, 525, 568, 569, 570, 23, 571, 61, 572, 545, 546, 547, 548, 549, 550, 551, 60, 573, 574, 575, 576, 118, 119, 120, 19, 121, 56, 55, 54, 122, 123, 124, 15, 125, 40, 41, 42, 43, 44, 46, 126, 127, 128, 129, 47, 48, 577, 578, 579, 580, 166, 167, 168, 169, 170, 171, 172, 173, 174, 175, 176, 177, 178, 179, 180, 181, 182, 183, 184, 185, 186, 187, 188, 189, 881, 882, 883, 884, 885, 886, 903, 904, 905, 906, 907, 908, 909, 910, 914, 915, 911, 912, 913] (by decide +kernel) (by decide +kernel)) (goodIn_sub (fun _ h => List.mem_append_left _ (List.mem_append_left _ (List.mem_append_right _ h))) (by decide +kernel))) (goodIn_sub (fun _ h => List.mem_append_left _ (List.mem_append_right _ h)) (by decide +kernel))
set_option maxRecDepth 20000 in
theorem gL_law_L_load : GoodIn wsL_law (va_wsS RL 131 yL_load wsL_load) := goodIn_app (goodIn_of _ (by decide +kernel)) ggL_law_L_load
set_option maxRecDepth 20000 in
theorem ggL_law_X7_load : GoodIn wsL_law wsX7_load := goodIn_r _ [584, 531, 96, 560, 138, 101, 556, 557, 558, 5, 559, 98, 139, 140, 141, 142, 143, 144, 145, 146, 97, 194, 195, 196, 197, 887, 888, 889, 890, 891, 892, 893, 894, 895, 896, 897, 898, 899, 900, 901, 902] (by decide +kernel) (by decide +kernel)
set_option maxRecDepth 20000 in
theorem gL_law_X7_load : GoodIn wsL_law (wsV RL 133 RX7 yX7_load wsX7_load) := goodIn_app (goodIn_of _ (by decide +kernel)) ggL_law_X7_load
set_option maxRecDepth 20000 in
theorem ggL_law_L_undo : GoodIn wsL_law wsL_undo := goodIn_ca (goodIn_r _ [587, 158, 588, 589, 590, 2, 591, 163, 164, 20, 592, 16, 593, 594, 595, 19, 596, 56, 54, 55, 122, 123, 124, 15, 125, 40, 41, 42, 43, 44, 46, 126, 127, 128, 129, 47, 48, 881, 882, 883, 884, 885, 886, 911, 912, 913, 903, 904, 905, 906, 907, 908, 909, 910] (by decide +kernel) (by decide +kernel)) (goodIn_sub (fun _ h => List.mem_append_left _ (List.mem_append_right _ h)) (by decide +kernel))
set_option maxRecDepth 20000 in
theorem gL_law_L_undo : GoodIn wsL_law (va_wsS RL 134 yL_undo wsL_undo) := goodIn_app (goodIn_of _ (by decide +kernel)) ggL_law_L_undo
