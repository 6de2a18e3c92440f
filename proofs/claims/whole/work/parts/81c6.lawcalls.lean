set_option maxRecDepth 20000 in
theorem ggL_law_X8_difference : GoodIn wsL_law wsX8_difference := goodIn_r _ [652, 144, 145, 146, 5, 147, 653, 654, 655, 656, 409, 410, 411, 412, 96, 657, 658, 659, 660, 661, 662, 663, 664, 665, 666, 667, 668, 277, 278, 279, 280, 876, 877, 878, 879, 880, 881, 882, 883, 884, 885, 886, 887] (by decide +kernel) (by decide +kernel)
set_option maxRecDepth 20000 in
theorem gL_law_X8_difference : GoodIn wsL_law (wsV RL 160 RX8 yX8_difference wsX8_difference) := goodIn_app (goodIn_of _ (by decide +kernel)) ggL_law_X8_difference
set_option maxRecDepth 20000 in
theorem ggL_law_L_count : GoodIn wsL_law wsL_count := goodIn_ca (goodIn_r _ [671, 105, 672, 673, 674, 2, 675, 110, 111, 16, 20, 28, 676, 677, 678, 15, 679, 680, 137, 138, 139, 46, 225, 183, 184, 185, 49, 186, 187, 681, 682, 683, 684, 325, 326, 327, 328, 329, 330, 331, 27, 332, 333, 334, 335, 336, 67, 337, 338, 339, 340, 68, 69, 70, 71, 254, 255, 341, 257, 258, 259, 342, 261, 262, 263, 256, 264, 265, 343, 134, 135, 344, 345, 346, 347, 348, 349, 350, 351, 352, 353, 354, 355, 685, 686, 687, 688, 868, 869, 870, 871, 872, 873, 874, 875, 888, 889, 890, 891, 892, 893, 894, 895, 898, 899, 900, 901, 902] (by decide +kernel) (by decide +kernel)) (goodIn_sub (fun _ h => List.mem_append_left _ (List.mem_append_left _ (List.mem_append_right _ h))) (by decide +kernel))
set_option maxRecDepth 20000 in
theorem gL_law_L_count : GoodIn wsL_law (va_wsS RL 161 yL_count wsL_count) := goodIn_app (goodIn_of _ (by decide +kernel)) ggL_law_L_count
set_option maxRecDepth 20000 in
theorem ggL_law_X8_count : GoodIn wsL_law wsX8_count := goodIn_r _ [692, 144, 145, 146, 5, 147, 693, 694, 695, 696, 96, 152, 697, 698, 699, 700, 360, 361, 362, 363, 364, 365, 366, 367, 368, 369, 370, 371, 273, 274, 275, 276, 277, 278, 279, 280, 281, 282, 283, 284, 285, 286, 287, 288, 289, 290, 291, 207, 208, 209, 372, 373, 374, 375, 376, 377, 378, 379, 701, 702, 703, 704, 876, 877, 878, 879, 880, 881, 882, 883, 884, 885, 886, 887] (by decide +kernel) (by decide +kernel)
set_option maxRecDepth 20000 in
theorem gL_law_X8_count : GoodIn wsL_law (wsV RL 163 RX8 yX8_count wsX8_count) := goodIn_app (goodIn_of _ (by decide +kernel)) ggL_law_X8_count
set_option maxRecDepth 20000 in
theorem ggL_law_L_ifKept : GoodIn wsL_law wsL_ifKept := goodIn_ca (goodIn_r _ [707, 105, 708, 709, 710, 2, 711, 110, 111, 247, 248, 249, 325, 326, 327, 328, 28, 16, 329, 330, 331, 27, 332, 333, 334, 335, 336, 67, 337, 338, 339, 340, 68, 69, 70, 71, 254, 255, 341, 257, 258, 15, 259, 46, 342, 261, 262, 263, 256, 264, 265, 343, 183, 184, 185, 49, 186, 187, 134, 135, 344, 345, 346, 347, 348, 349, 350, 351, 352, 353, 354, 355, 868, 869, 870, 871, 872, 873, 874, 875, 888, 889, 890, 891, 892, 898, 899, 900, 901, 902] (by decide +kernel) (by decide +kernel)) (goodIn_sub (fun _ h => List.mem_append_left _ (List.mem_append_left _ (List.mem_append_right _ h))) (by decide +kernel))
set_option maxRecDepth 20000 in
theorem gL_law_L_ifKept : GoodIn wsL_law (va_wsS RL 164 yL_ifKept wsL_ifKept) := goodIn_app (goodIn_of _ (by decide +kernel)) ggL_law_L_ifKept
set_option maxRecDepth 20000 in
theorem ggL_law_X8_ifKept : GoodIn wsL_law wsX8_ifKept := goodIn_r _ [715, 144, 270, 271, 5, 272, 145, 146, 147, 364, 365, 366, 367, 96, 368, 369, 370, 371, 273, 274, 275, 276, 277, 278, 279, 280, 281, 282, 283, 284, 285, 286, 287, 288, 289, 290, 291, 207, 208, 209, 372, 373, 374, 375, 376, 377, 378, 379, 876, 877, 878, 879, 880, 881, 882, 883, 884, 885, 886, 887] (by decide +kernel) (by decide +kernel)
set_option maxRecDepth 20000 in
theorem gL_law_X8_ifKept : GoodIn wsL_law (wsV RL 166 RX8 yX8_ifKept wsX8_ifKept) := goodIn_app (goodIn_of _ (by decide +kernel)) ggL_law_X8_ifKept
set_option maxRecDepth 20000 in
theorem ggL_law_L_ifPut : GoodIn wsL_law wsL_ifPut := goodIn_ca (goodIn_ca (goodIn_r _ [718, 160, 105, 719, 720, 721, 2, 722, 165, 166, 110, 111, 16, 28, 167, 168, 169, 15, 170, 171, 172, 173, 174, 46, 175, 176, 177, 178, 179, 180, 181, 182, 183, 184, 185, 49, 186, 187, 188, 189, 190, 191, 134, 135, 329, 330, 331, 27, 332, 333, 334, 335, 336, 67, 337, 338, 339, 340, 68, 69, 70, 71, 254, 255, 341, 257, 258, 259, 342, 261, 262, 263, 256, 264, 265, 343, 344, 345, 346, 347, 348, 349, 350, 351, 352, 353, 354, 355, 622, 623, 624, 625, 723, 868, 869, 870, 871, 872, 873, 874, 875, 888, 889, 890, 891, 892, 898, 899, 900, 901, 902] (by decide +kernel) (by decide +kernel)) (goodIn_sub (fun _ h => List.mem_append_left _ (List.mem_append_right _ h)) (by decide +kernel))) (goodIn_sub (fun _ h => List.mem_append_left _ (List.mem_append_left _ (List.mem_append_right _ h))) (by decide +kernel))
set_option maxRecDepth 20000 in
theorem gL_law_L_ifPut : GoodIn wsL_law (va_wsS RL 167 yL_ifPut wsL_ifPut) := goodIn_app (goodIn_of _ (by decide +kernel)) ggL_law_L_ifPut
set_option maxRecDepth 20000 in
theorem ggL_law_X8_ifPut : GoodIn wsL_law wsX8_ifPut := goodIn_r _ [727, 144, 196, 197, 198, 5, 199, 200, 201, 202, 203, 96, 204, 205, 206, 145, 146, 147, 728, 729, 730, 731, 207, 208, 209, 360, 361, 362, 363, 364, 365, 366, 367, 368, 369, 370, 371, 273, 274, 275, 276, 277, 278, 279, 280, 281, 282, 283, 284, 285, 286, 287, 288, 289, 290, 291, 372, 373, 374, 375, 376, 377, 378, 379, 876, 877, 878, 879, 880, 881, 882, 883, 884, 885, 886, 887] (by decide +kernel) (by decide +kernel)
set_option maxRecDepth 20000 in
theorem gL_law_X8_ifPut : GoodIn wsL_law (wsV RL 169 RX8 yX8_ifPut wsX8_ifPut) := goodIn_app (goodIn_of _ (by decide +kernel)) ggL_law_X8_ifPut
