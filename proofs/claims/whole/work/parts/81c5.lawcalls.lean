set_option maxRecDepth 20000 in
theorem ggL_law_L_line : GoodIn wsL_law wsL_line := goodIn_ca (goodIn_ca (goodIn_r _ [562, 160, 105, 563, 564, 565, 2, 566, 165, 166, 110, 111, 16, 246, 172, 173, 15, 174, 46, 247, 248, 249, 567, 568, 569, 570, 256, 257, 258, 259, 303, 304, 305, 306, 254, 255, 264, 265, 225, 183, 184, 185, 49, 186, 187, 868, 869, 870, 871, 872, 873, 874, 875, 888, 889, 890, 891, 892] (by decide +kernel) (by decide +kernel)) (goodIn_sub (fun _ h => List.mem_append_left _ (List.mem_append_right _ h)) (by decide +kernel))) (goodIn_sub (fun _ h => List.mem_append_left _ (List.mem_append_left _ (List.mem_append_right _ h))) (by decide +kernel))
set_option maxRecDepth 20000 in
theorem gL_law_L_line : GoodIn wsL_law (va_wsS RL 149 yL_line wsL_line) := goodIn_app (goodIn_of _ (by decide +kernel)) ggL_law_L_line
set_option maxRecDepth 20000 in
theorem ggL_law_X8_line : GoodIn wsL_law wsX8_line := goodIn_r _ [574, 144, 200, 201, 202, 5, 203, 96, 270, 271, 272, 145, 146, 147, 575, 576, 577, 578, 285, 286, 287, 288, 289, 290, 291, 207, 208, 209, 876, 877, 878, 879, 880, 881, 882, 883, 884, 885, 886, 887] (by decide +kernel) (by decide +kernel)
set_option maxRecDepth 20000 in
theorem gL_law_X8_line : GoodIn wsL_law (wsV RL 151 RX8 yX8_line wsX8_line) := goodIn_app (goodIn_of _ (by decide +kernel)) ggL_law_X8_line
set_option maxRecDepth 20000 in
theorem ggL_law_L_slice : GoodIn wsL_law wsL_slice := goodIn_ca (goodIn_ca (goodIn_r _ [581, 160, 105, 582, 583, 584, 2, 585, 165, 166, 110, 111, 16, 28, 246, 172, 173, 15, 174, 46, 247, 248, 249, 586, 334, 335, 27, 336, 67, 337, 338, 339, 340, 68, 69, 70, 71, 254, 255, 341, 257, 258, 259, 342, 261, 262, 263, 256, 264, 265, 343, 183, 184, 185, 49, 186, 187, 134, 135, 587, 588, 589, 590, 348, 349, 350, 351, 352, 353, 354, 355, 868, 869, 870, 871, 872, 873, 874, 875, 888, 889, 890, 891, 892, 898, 899, 900, 901, 902] (by decide +kernel) (by decide +kernel)) (goodIn_sub (fun _ h => List.mem_append_left _ (List.mem_append_right _ h)) (by decide +kernel))) (goodIn_sub (fun _ h => List.mem_append_left _ (List.mem_append_left _ (List.mem_append_right _ h))) (by decide +kernel))
set_option maxRecDepth 20000 in
theorem gL_law_L_slice : GoodIn wsL_law (va_wsS RL 152 yL_slice wsL_slice) := goodIn_app (goodIn_of _ (by decide +kernel)) ggL_law_L_slice
set_option maxRecDepth 20000 in
theorem ggL_law_X8_slice : GoodIn wsL_law wsX8_slice := goodIn_r _ [594, 144, 200, 201, 202, 5, 203, 96, 270, 271, 272, 145, 146, 147, 595, 596, 597, 598, 599, 600, 601, 602, 277, 278, 279, 280, 281, 282, 283, 284, 285, 286, 287, 288, 289, 290, 291, 207, 208, 209, 273, 274, 275, 276, 603, 604, 605, 606, 368, 369, 370, 371, 372, 373, 374, 375, 376, 377, 378, 379, 876, 877, 878, 879, 880, 881, 882, 883, 884, 885, 886, 887] (by decide +kernel) (by decide +kernel)
set_option maxRecDepth 20000 in
theorem gL_law_X8_slice : GoodIn wsL_law (wsV RL 154 RX8 yX8_slice wsX8_slice) := goodIn_app (goodIn_of _ (by decide +kernel)) ggL_law_X8_slice
set_option maxRecDepth 20000 in
theorem ggL_law_L_ordered : GoodIn wsL_law wsL_ordered := goodIn_ca (goodIn_r _ [609, 105, 610, 611, 612, 2, 613, 110, 111, 16, 614, 615, 616, 15, 617, 47, 46, 254, 255, 256, 257, 258, 259, 260, 261, 262, 263, 264, 265, 225, 183, 184, 185, 49, 186, 187, 618, 619, 620, 621, 182, 622, 623, 624, 625, 868, 869, 870, 871, 872, 873, 874, 875, 888, 889, 890, 891, 892] (by decide +kernel) (by decide +kernel)) (goodIn_sub (fun _ h => List.mem_append_left _ (List.mem_append_left _ (List.mem_append_right _ h))) (by decide +kernel))
set_option maxRecDepth 20000 in
theorem gL_law_L_ordered : GoodIn wsL_law (va_wsS RL 155 yL_ordered wsL_ordered) := goodIn_app (goodIn_of _ (by decide +kernel)) ggL_law_L_ordered
set_option maxRecDepth 20000 in
theorem ggL_law_X8_ordered : GoodIn wsL_law wsX8_ordered := goodIn_r _ [629, 144, 145, 146, 5, 147, 630, 631, 632, 633, 96, 634, 635, 636, 637, 277, 278, 279, 280, 281, 282, 283, 284, 285, 286, 287, 288, 289, 290, 291, 207, 208, 209, 876, 877, 878, 879, 880, 881, 882, 883, 884, 885, 886, 887] (by decide +kernel) (by decide +kernel)
set_option maxRecDepth 20000 in
theorem gL_law_X8_ordered : GoodIn wsL_law (wsV RL 157 RX8 yX8_ordered wsX8_ordered) := goodIn_app (goodIn_of _ (by decide +kernel)) ggL_law_X8_ordered
set_option maxRecDepth 20000 in
theorem ggL_law_L_difference : GoodIn wsL_law wsL_difference := goodIn_ca (goodIn_r _ [640, 105, 641, 642, 643, 2, 644, 110, 111, 32, 16, 395, 396, 397, 31, 398, 75, 76, 77, 78, 399, 400, 339, 401, 402, 338, 340, 403, 137, 138, 15, 139, 46, 404, 183, 184, 185, 49, 186, 187, 645, 646, 647, 648, 868, 869, 870, 871, 872, 873, 874, 875, 903, 904, 905, 906, 888, 889, 890, 891, 892] (by decide +kernel) (by decide +kernel)) (goodIn_sub (fun _ h => List.mem_append_left _ (List.mem_append_left _ (List.mem_append_right _ h))) (by decide +kernel))
set_option maxRecDepth 20000 in
theorem gL_law_L_difference : GoodIn wsL_law (va_wsS RL 158 yL_difference wsL_difference) := goodIn_app (goodIn_of _ (by decide +kernel)) ggL_law_L_difference
