set_option maxRecDepth 20000 in
theorem ggL_law_X7_undo : GoodIn wsL_law wsX7_undo := goodIn_r _ [600, 146, 138, 601, 602, 603, 5, 604, 96, 97, 887, 888, 889, 890, 891, 892, 893, 894, 895, 896, 897, 898, 899, 900, 901, 902] (by decide +kernel) (by decide +kernel)
set_option maxRecDepth 20000 in
theorem gL_law_X7_undo : GoodIn wsL_law (wsV RL 136 RX7 yX7_undo wsX7_undo) := goodIn_app (goodIn_of _ (by decide +kernel)) ggL_law_X7_undo
set_option maxRecDepth 20000 in
theorem ggL_law_L_cell : GoodIn wsL_law wsL_cell := goodIn_ca (goodIn_ca (goodIn_r _ [607, 283, 111, 608, 609, 610, 2, 611, 116, 117, 294, 295, 296, 297, 292, 293, 16, 298, 299, 300, 15, 301, 247, 131, 132, 133, 40, 41, 612, 613, 614, 615, 408, 409, 410, 411, 412, 44, 616, 617, 618, 619, 28, 165, 311, 312, 313, 314, 46, 315, 316, 317, 27, 318, 65, 66, 67, 68, 319, 320, 321, 322, 323, 324, 253, 254, 255, 325, 326, 327, 328, 329, 48, 260, 261, 185, 186, 187, 330, 331, 332, 333, 334, 620, 621, 622, 623, 310, 205, 206, 207, 208, 47, 335, 336, 337, 338, 339, 624, 625, 626, 627, 881, 882, 883, 884, 885, 886, 903, 904, 905, 906, 907, 908, 909, 910, 916, 917, 918, 919] (by decide +kernel) (by decide +kernel)) (goodIn_sub (fun _ h => List.mem_append_left _ (List.mem_append_left _ (List.mem_append_right _ h))) (by decide +kernel))) (goodIn_sub (fun _ h => List.mem_append_right _ h) (by decide +kernel))
set_option maxRecDepth 20000 in
theorem gL_law_L_cell : GoodIn wsL_law (va_wsS RL 137 yL_cell wsL_cell) := goodIn_app (goodIn_of _ (by decide +kernel)) ggL_law_L_cell
set_option maxRecDepth 20000 in
theorem ggL_law_X7_cell : GoodIn wsL_law wsX7_cell := goodIn_r _ [631, 138, 353, 354, 355, 5, 356, 147, 148, 149, 150, 96, 139, 140, 141, 632, 633, 634, 635, 636, 637, 638, 639, 365, 366, 367, 368, 213, 214, 215, 216, 369, 370, 371, 372, 373, 374, 375, 376, 377, 378, 379, 380, 381, 382, 383, 384, 272, 273, 274, 275, 385, 386, 387, 388, 389, 390, 391, 392, 393, 394, 395, 396, 514, 515, 516, 517, 887, 888, 889, 890, 891, 892, 893, 894, 895, 896, 897, 898, 899, 900, 901, 902] (by decide +kernel) (by decide +kernel)
set_option maxRecDepth 20000 in
theorem gL_law_X7_cell : GoodIn wsL_law (wsV RL 139 RX7 yX7_cell wsX7_cell) := goodIn_app (goodIn_of _ (by decide +kernel)) ggL_law_X7_cell
set_option maxRecDepth 20000 in
theorem ggL_law_L_color : GoodIn wsL_law wsL_color := goodIn_ca (goodIn_r _ [642, 283, 643, 644, 645, 2, 646, 292, 293, 294, 295, 296, 297, 16, 298, 299, 300, 15, 301, 247, 131, 132, 133, 40, 41, 647, 648, 649, 650, 311, 312, 313, 314, 46, 651, 327, 328, 329, 48, 184, 185, 186, 187, 881, 882, 883, 884, 885, 886, 903, 904, 905, 906, 907, 908, 909, 910] (by decide +kernel) (by decide +kernel)) (goodIn_sub (fun _ h => List.mem_append_right _ h) (by decide +kernel))
set_option maxRecDepth 20000 in
theorem gL_law_L_color : GoodIn wsL_law (va_wsS RL 140 yL_color wsL_color) := goodIn_app (goodIn_of _ (by decide +kernel)) ggL_law_L_color
set_option maxRecDepth 20000 in
theorem ggL_law_X7_color : GoodIn wsL_law wsX7_color := goodIn_r _ [655, 138, 353, 354, 355, 5, 356, 147, 148, 149, 150, 96, 139, 140, 141, 656, 657, 658, 659, 377, 378, 379, 380, 381, 382, 383, 384, 887, 888, 889, 890, 891, 892, 893, 894, 895, 896, 897, 898, 899, 900, 901, 902] (by decide +kernel) (by decide +kernel)
set_option maxRecDepth 20000 in
theorem gL_law_X7_color : GoodIn wsL_law (wsV RL 143 RX7 yX7_color wsX7_color) := goodIn_app (goodIn_of _ (by decide +kernel)) ggL_law_X7_color
set_option maxRecDepth 20000 in
theorem ggL_law_L_tile : GoodIn wsL_law wsL_tile := goodIn_ca (goodIn_ca (goodIn_r _ [662, 283, 111, 663, 664, 665, 2, 666, 292, 293, 116, 117, 16, 165, 667, 668, 669, 670, 671, 672, 673, 674, 15, 675, 48, 185, 186, 187, 676, 677, 678, 679, 881, 882, 883, 884, 885, 886, 903, 904, 905, 906, 907, 908, 909, 910] (by decide +kernel) (by decide +kernel)) (goodIn_sub (fun _ h => List.mem_append_right _ h) (by decide +kernel))) (goodIn_sub (fun _ h => List.mem_append_left _ (List.mem_append_left _ (List.mem_append_right _ h))) (by decide +kernel))
set_option maxRecDepth 20000 in
theorem gL_law_L_tile : GoodIn wsL_law (va_wsS RL 144 yL_tile wsL_tile) := goodIn_app (goodIn_of _ (by decide +kernel)) ggL_law_L_tile
set_option maxRecDepth 20000 in
theorem ggL_law_X7_tile : GoodIn wsL_law wsX7_tile := goodIn_r _ [683, 138, 361, 362, 363, 5, 364, 96, 139, 140, 141, 684, 685, 686, 687, 213, 214, 215, 216, 147, 148, 149, 150, 688, 689, 690, 691, 377, 378, 379, 380, 381, 382, 383, 384, 887, 888, 889, 890, 891, 892, 893, 894, 895, 896, 897, 898, 899, 900, 901, 902] (by decide +kernel) (by decide +kernel)
set_option maxRecDepth 20000 in
theorem gL_law_X7_tile : GoodIn wsL_law (wsV RL 146 RX7 yX7_tile wsX7_tile) := goodIn_app (goodIn_of _ (by decide +kernel)) ggL_law_X7_tile
set_option maxRecDepth 20000 in
theorem ggL_law_L_count : GoodIn wsL_law wsL_count := goodIn_ca (goodIn_r _ [694, 111, 695, 696, 697, 2, 698, 116, 117, 699, 700, 701, 702, 16, 237, 238, 165, 428, 224, 703, 20, 592, 344, 345, 346, 15, 347, 247, 131, 132, 133, 40, 41, 348, 312, 313, 314, 46, 704, 705, 706, 707, 708, 709, 710, 711, 712, 713, 714, 715, 716, 717, 718, 252, 253, 254, 255, 719, 327, 328, 329, 48, 185, 186, 187, 260, 261, 720, 721, 722, 723, 28, 130, 311, 315, 316, 317, 27, 318, 65, 66, 67, 68, 319, 320, 321, 322, 323, 324, 325, 326, 330, 331, 332, 333, 334, 651, 335, 336, 337, 338, 339, 881, 882, 883, 884, 885, 886, 903, 904, 905, 906, 907, 908, 909, 910, 911, 912, 913, 916, 917, 918, 919] (by decide +kernel) (by decide +kernel)) (goodIn_sub (fun _ h => List.mem_append_left _ (List.mem_append_left _ (List.mem_append_right _ h))) (by decide +kernel))
set_option maxRecDepth 20000 in
theorem gL_law_L_count : GoodIn wsL_law (va_wsS RL 147 yL_count wsL_count) := goodIn_app (goodIn_of _ (by decide +kernel)) ggL_law_L_count
set_option maxRecDepth 20000 in
theorem ggL_law_X7_count : GoodIn wsL_law wsX7_count := goodIn_r _ [727, 138, 139, 140, 5, 141, 728, 729, 730, 731, 96, 146, 397, 398, 399, 400, 147, 148, 149, 150, 732, 733, 734, 735, 736, 737, 738, 739, 389, 390, 391, 392, 272, 273, 274, 275, 377, 378, 379, 380, 381, 382, 383, 384, 740, 741, 742, 743, 369, 370, 371, 372, 373, 374, 375, 376, 385, 386, 387, 388, 393, 394, 395, 396, 887, 888, 889, 890, 891, 892, 893, 894, 895, 896, 897, 898, 899, 900, 901, 902] (by decide +kernel) (by decide +kernel)
set_option maxRecDepth 20000 in
theorem gL_law_X7_count : GoodIn wsL_law (wsV RL 149 RX7 yX7_count wsX7_count) := goodIn_app (goodIn_of _ (by decide +kernel)) ggL_law_X7_count
set_option maxRecDepth 20000 in
theorem ggL_law_L_layings : GoodIn wsL_law wsL_layings := goodIn_ca (goodIn_r _ [746, 111, 747, 748, 749, 2, 750, 116, 117, 32, 16, 476, 477, 478, 31, 479, 74, 480, 123, 124, 15, 125, 40, 41, 42, 43, 44, 46, 126, 127, 128, 129, 47, 48, 481, 482, 483, 484, 78, 75, 79, 80, 81, 485, 486, 487, 488, 77, 489, 490, 491, 131, 132, 133, 492, 312, 313, 314, 493, 316, 317, 27, 318, 65, 66, 67, 68, 319, 320, 321, 322, 323, 324, 253, 254, 255, 247, 325, 326, 327, 328, 329, 260, 261, 185, 186, 187, 330, 331, 332, 333, 334, 494, 206, 207, 208, 495, 336, 337, 338, 339, 496, 497, 498, 499, 500, 341, 342, 343, 501, 414, 415, 416, 751, 752, 753, 754, 881, 882, 883, 884, 885, 886, 920, 921, 922, 923, 924, 925, 926, 903, 904, 905, 906, 907, 908, 909, 910, 916, 917, 918, 919] (by decide +kernel) (by decide +kernel)) (goodIn_sub (fun _ h => List.mem_append_left _ (List.mem_append_left _ (List.mem_append_right _ h))) (by decide +kernel))
set_option maxRecDepth 20000 in
theorem gL_law_L_layings : GoodIn wsL_law (va_wsS RL 150 yL_layings wsL_layings) := goodIn_app (goodIn_of _ (by decide +kernel)) ggL_law_L_layings
set_option maxRecDepth 20000 in
theorem ggL_law_X7_layings : GoodIn wsL_law wsX7_layings := goodIn_r _ [758, 138, 139, 140, 5, 141, 759, 760, 761, 762, 507, 512, 513, 508, 509, 510, 511, 96, 99, 147, 148, 149, 150, 514, 515, 516, 517, 365, 366, 367, 368, 213, 214, 215, 216, 369, 370, 371, 372, 373, 374, 375, 376, 377, 378, 379, 380, 381, 382, 383, 384, 272, 273, 274, 275, 385, 386, 387, 388, 389, 390, 391, 392, 393, 394, 395, 396, 887, 888, 889, 890, 891, 892, 893, 894, 895, 896, 897, 898, 899, 900, 901, 902] (by decide +kernel) (by decide +kernel)
set_option maxRecDepth 20000 in
theorem gL_law_X7_layings : GoodIn wsL_law (wsV RL 152 RX7 yX7_layings wsX7_layings) := goodIn_app (goodIn_of _ (by decide +kernel)) ggL_law_X7_layings
set_option maxRecDepth 20000 in
theorem ggL_law_X6_hint : GoodIn wsL_law wsX6_hint := goodIn_r _ [766, 767, 768, 769, 2, 770, 16, 130, 131, 132, 15, 133, 40, 41, 616, 617, 618, 619, 28, 165, 311, 312, 313, 314, 46, 315, 316, 317, 27, 318, 65, 66, 67, 68, 319, 320, 321, 322, 323, 324, 253, 254, 255, 247, 325, 326, 327, 328, 329, 48, 260, 261, 185, 186, 187, 330, 331, 332, 333, 334, 620, 621, 622, 623, 310, 205, 206, 207, 208, 47, 335, 336, 337, 338, 339, 624, 625, 626, 627, 881, 882, 883, 884, 885, 886, 903, 904, 905, 906, 907, 908, 909, 910, 916, 917, 918, 919] (by decide +kernel) (by decide +kernel)
set_option maxRecDepth 20000 in
theorem gL_law_X6_hint : GoodIn wsL_law (wsV RL 153 RX6 yX6_hint wsX6_hint) := goodIn_app (goodIn_of _ (by decide +kernel)) ggL_law_X6_hint
set_option maxRecDepth 20000 in
theorem ggL_law_X7_hint : GoodIn wsL_law wsX7_hint := goodIn_r _ [774, 138, 775, 776, 777, 5, 778, 96, 147, 148, 149, 150, 636, 637, 638, 639, 365, 366, 367, 368, 213, 214, 215, 216, 369, 370, 371, 372, 373, 374, 375, 376, 377, 378, 379, 380, 381, 382, 383, 384, 272, 273, 274, 275, 385, 386, 387, 388, 389, 390, 391, 392, 393, 394, 395, 396, 514, 515, 516, 517, 887, 888, 889, 890, 891, 892, 893, 894, 895, 896, 897, 898, 899, 900, 901, 902] (by decide +kernel) (by decide +kernel)
set_option maxRecDepth 20000 in
theorem gL_law_X7_hint : GoodIn wsL_law (wsV RL 156 RX7 yX7_hint wsX7_hint) := goodIn_app (goodIn_of _ (by decide +kernel)) ggL_law_X7_hint
set_option maxRecDepth 20000 in
theorem ggL_law_X6_starts : GoodIn wsL_law wsX6_starts := goodIn_r _ [782, 16, 32, 344, 345, 346, 15, 347, 247, 131, 132, 133, 40, 41, 348, 312, 313, 314, 46, 130, 704, 705, 706, 707, 708, 709, 710, 783, 784, 785, 31, 786, 74, 75, 80, 480, 123, 124, 125, 42, 43, 44, 126, 127, 128, 129, 47, 48, 787, 438, 439, 440, 441, 414, 415, 416, 481, 482, 483, 484, 78, 79, 81, 485, 486, 487, 488, 77, 489, 490, 491, 492, 493, 316, 317, 27, 318, 65, 66, 67, 68, 319, 320, 321, 322, 323, 324, 253, 254, 255, 325, 326, 327, 328, 329, 260, 2, 261, 185, 186, 187, 330, 331, 332, 333, 334, 494, 206, 207, 208, 495, 336, 337, 338, 339, 496, 497, 498, 499, 500, 341, 342, 343, 501, 881, 882, 883, 884, 885, 886, 903, 904, 905, 906, 907, 908, 909, 910, 920, 921, 922, 923, 924, 925, 926, 916, 917, 918, 919] (by decide +kernel) (by decide +kernel)
set_option maxRecDepth 20000 in
theorem gL_law_X6_starts : GoodIn wsL_law (wsV RL 157 RX6 yX6_starts wsX6_starts) := goodIn_app (goodIn_of _ (by decide +kernel)) ggL_law_X6_starts
set_option maxRecDepth 20000 in
theorem ggL_law_X7_starts : GoodIn wsL_law wsX7_starts := goodIn_r _ [791, 138, 397, 398, 399, 5, 400, 96, 147, 148, 149, 150, 792, 793, 794, 795, 796, 797, 798, 799, 800, 801, 802, 102, 507, 513, 508, 509, 510, 511, 99, 512, 514, 515, 516, 517, 365, 366, 367, 368, 213, 214, 215, 216, 369, 370, 371, 372, 373, 374, 375, 376, 377, 378, 379, 380, 381, 382, 383, 384, 272, 273, 274, 275, 385, 386, 387, 388, 389, 390, 391, 392, 393, 394, 395, 396, 887, 888, 889, 890, 891, 892, 893, 894, 895, 896, 897, 898, 899, 900, 901, 902] (by decide +kernel) (by decide +kernel)
set_option maxRecDepth 20000 in
theorem gL_law_X7_starts : GoodIn wsL_law (wsV RL 160 RX7 yX7_starts wsX7_starts) := goodIn_app (goodIn_of _ (by decide +kernel)) ggL_law_X7_starts
set_option maxRecDepth 20000 in
theorem ggL_law_L_why : GoodIn wsL_law wsL_why := goodIn_ca (goodIn_r _ [805, 283, 806, 807, 808, 2, 809, 288, 289, 290, 291, 292, 293, 16, 294, 295, 296, 297, 298, 299, 300, 15, 301, 247, 131, 132, 133, 40, 41, 302, 303, 304, 305, 43, 306, 307, 308, 309, 28, 310, 311, 312, 313, 314, 46, 205, 206, 207, 208, 47, 315, 316, 317, 27, 318, 65, 66, 67, 68, 319, 320, 321, 322, 323, 324, 253, 254, 255, 325, 326, 327, 328, 329, 48, 260, 261, 185, 186, 187, 330, 331, 332, 333, 334, 335, 336, 337, 338, 339, 881, 882, 883, 884, 885, 886, 903, 904, 905, 906, 907, 908, 909, 910, 916, 917, 918, 919] (by decide +kernel) (by decide +kernel)) (goodIn_sub (fun _ h => List.mem_append_right _ h) (by decide +kernel))
set_option maxRecDepth 20000 in
theorem gL_law_L_why : GoodIn wsL_law (va_wsS RL 161 yL_why wsL_why) := goodIn_app (goodIn_of _ (by decide +kernel)) ggL_law_L_why
set_option maxRecDepth 20000 in
theorem ggL_law_X7_why : GoodIn wsL_law wsX7_why := goodIn_r _ [813, 138, 353, 354, 355, 5, 356, 147, 148, 149, 150, 96, 139, 140, 141, 357, 358, 359, 360, 361, 362, 363, 364, 365, 366, 367, 368, 213, 214, 215, 216, 369, 370, 371, 372, 373, 374, 375, 376, 377, 378, 379, 380, 381, 382, 383, 384, 272, 273, 274, 275, 385, 386, 387, 388, 389, 390, 391, 392, 393, 394, 395, 396, 887, 888, 889, 890, 891, 892, 893, 894, 895, 896, 897, 898, 899, 900, 901, 902] (by decide +kernel) (by decide +kernel)
set_option maxRecDepth 20000 in
theorem gL_law_X7_why : GoodIn wsL_law (wsV RL 163 RX7 yX7_why wsX7_why) := goodIn_app (goodIn_of _ (by decide +kernel)) ggL_law_X7_why
