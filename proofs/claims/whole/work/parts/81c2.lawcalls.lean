set_option maxRecDepth 20000 in
theorem ggL_law_X8_turn : GoodIn wsL_law wsX8_turn := goodIn_r _ [359, 144, 96, 98, 148, 149, 150, 5, 151, 152, 97, 311, 312, 313, 314, 207, 208, 209, 360, 361, 362, 363, 364, 365, 366, 367, 368, 369, 370, 371, 273, 274, 275, 276, 277, 278, 279, 280, 281, 282, 283, 284, 285, 286, 287, 288, 289, 290, 291, 372, 373, 374, 375, 376, 377, 378, 379, 876, 877, 878, 879, 880, 881, 882, 883, 884, 885, 886, 887] (by decide +kernel) (by decide +kernel)
set_option maxRecDepth 20000 in
theorem gL_law_X8_turn : GoodIn wsL_law (wsV RL 112 RX8 yX8_turn wsX8_turn) := goodIn_app (goodIn_of _ (by decide +kernel)) ggL_law_X8_turn
set_option maxRecDepth 20000 in
theorem ggL_law_L_keep : GoodIn wsL_law wsL_keep := goodIn_ca (goodIn_r _ [382, 105, 383, 384, 385, 2, 386, 110, 111, 20, 16, 247, 248, 249, 112, 113, 114, 19, 115, 58, 57, 116, 117, 118, 119, 56, 120, 121, 122, 15, 123, 46, 47, 48, 49, 50, 124, 125, 126, 127, 128, 129, 325, 326, 327, 328, 28, 329, 330, 331, 27, 332, 333, 334, 335, 336, 67, 337, 338, 339, 340, 68, 69, 70, 71, 254, 255, 341, 257, 258, 259, 342, 261, 262, 263, 256, 264, 265, 343, 183, 184, 185, 186, 187, 134, 135, 344, 345, 346, 347, 348, 349, 350, 351, 352, 353, 354, 355, 868, 869, 870, 871, 872, 873, 874, 875, 888, 889, 890, 891, 892, 893, 894, 895, 898, 899, 900, 901, 902] (by decide +kernel) (by decide +kernel)) (goodIn_sub (fun _ h => List.mem_append_left _ (List.mem_append_left _ (List.mem_append_right _ h))) (by decide +kernel))
set_option maxRecDepth 20000 in
theorem gL_law_L_keep : GoodIn wsL_law (va_wsS RL 113 yL_keep wsL_keep) := goodIn_app (goodIn_of _ (by decide +kernel)) ggL_law_L_keep
set_option maxRecDepth 20000 in
theorem ggL_law_X8_keep : GoodIn wsL_law wsX8_keep := goodIn_r _ [390, 144, 96, 270, 271, 5, 272, 145, 146, 147, 148, 149, 150, 151, 152, 97, 360, 361, 362, 363, 364, 365, 366, 367, 368, 369, 370, 371, 273, 274, 275, 276, 277, 278, 279, 280, 281, 282, 283, 284, 285, 286, 287, 288, 289, 290, 291, 207, 208, 209, 372, 373, 374, 375, 376, 377, 378, 379, 876, 877, 878, 879, 880, 881, 882, 883, 884, 885, 886, 887] (by decide +kernel) (by decide +kernel)
set_option maxRecDepth 20000 in
theorem gL_law_X8_keep : GoodIn wsL_law (wsV RL 115 RX8 yX8_keep wsX8_keep) := goodIn_app (goodIn_of _ (by decide +kernel)) ggL_law_X8_keep
set_option maxRecDepth 20000 in
theorem ggL_law_X7_mark : GoodIn wsL_law wsX7_mark := goodIn_r _ [394, 32, 16, 20, 395, 396, 397, 31, 398, 75, 76, 77, 78, 399, 400, 339, 401, 402, 338, 340, 403, 137, 138, 15, 139, 46, 404, 183, 184, 185, 49, 186, 2, 187, 112, 113, 114, 19, 115, 58, 57, 116, 117, 118, 119, 56, 120, 121, 122, 123, 47, 48, 50, 124, 125, 126, 127, 128, 129, 323, 868, 869, 870, 871, 872, 873, 874, 875, 888, 889, 890, 891, 892, 903, 904, 905, 906, 893, 894, 895] (by decide +kernel) (by decide +kernel)
set_option maxRecDepth 20000 in
theorem gL_law_X7_mark : GoodIn wsL_law (wsV RL 116 RX7 yX7_mark wsX7_mark) := goodIn_app (goodIn_of _ (by decide +kernel)) ggL_law_X7_mark
set_option maxRecDepth 20000 in
theorem ggL_law_X8_mark : GoodIn wsL_law wsX8_mark := goodIn_r _ [408, 144, 96, 148, 149, 150, 5, 151, 152, 97, 409, 410, 411, 412, 876, 877, 878, 879, 880, 881, 882, 883, 884, 885, 886, 887] (by decide +kernel) (by decide +kernel)
set_option maxRecDepth 20000 in
theorem gL_law_X8_mark : GoodIn wsL_law (wsV RL 119 RX8 yX8_mark wsX8_mark) := goodIn_app (goodIn_of _ (by decide +kernel)) ggL_law_X8_mark
set_option maxRecDepth 20000 in
theorem ggL_law_X7_goBack : GoodIn wsL_law wsX7_goBack := goodIn_r _ [416, 32, 16, 20, 395, 396, 397, 31, 398, 75, 76, 77, 78, 399, 400, 339, 401, 402, 338, 340, 403, 137, 138, 15, 139, 46, 404, 183, 184, 185, 49, 186, 2, 187, 112, 113, 114, 19, 115, 58, 57, 116, 117, 118, 119, 56, 120, 121, 122, 123, 47, 48, 50, 124, 125, 126, 127, 128, 129, 323, 868, 869, 870, 871, 872, 873, 874, 875, 888, 889, 890, 891, 892, 903, 904, 905, 906, 893, 894, 895] (by decide +kernel) (by decide +kernel)
set_option maxRecDepth 20000 in
theorem gL_law_X7_goBack : GoodIn wsL_law (wsV RL 120 RX7 yX7_goBack wsX7_goBack) := goodIn_app (goodIn_of _ (by decide +kernel)) ggL_law_X7_goBack
set_option maxRecDepth 20000 in
theorem ggL_law_X8_goBack : GoodIn wsL_law wsX8_goBack := goodIn_r _ [420, 144, 96, 148, 149, 150, 5, 151, 152, 97, 409, 410, 411, 412, 876, 877, 878, 879, 880, 881, 882, 883, 884, 885, 886, 887] (by decide +kernel) (by decide +kernel)
set_option maxRecDepth 20000 in
theorem gL_law_X8_goBack : GoodIn wsL_law (wsV RL 123 RX8 yX8_goBack wsX8_goBack) := goodIn_app (goodIn_of _ (by decide +kernel)) ggL_law_X8_goBack
