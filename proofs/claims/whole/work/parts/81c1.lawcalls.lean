set_option maxRecDepth 20000 in
theorem ggL_law_L_add : GoodIn wsL_law wsL_add := goodIn_ca (goodIn_ca (goodIn_ca (goodIn_r _ [212, 160, 105, 213, 214, 215, 216, 2, 217, 165, 166, 110, 111, 218, 219, 16, 20, 167, 168, 169, 15, 170, 171, 172, 173, 174, 46, 175, 176, 177, 178, 179, 180, 181, 220, 221, 222, 223, 224, 225, 183, 184, 185, 49, 186, 187, 112, 113, 114, 19, 115, 58, 57, 116, 117, 118, 119, 56, 120, 121, 122, 123, 47, 48, 50, 124, 125, 126, 127, 128, 129, 226, 227, 228, 229, 230, 189, 190, 191, 134, 135, 868, 869, 870, 871, 872, 873, 874, 875, 888, 889, 890, 891, 892, 893, 894, 895] (by decide +kernel) (by decide +kernel)) (goodIn_sub (fun _ h => List.mem_append_left _ (List.mem_append_right _ h)) (by decide +kernel))) (goodIn_sub (fun _ h => List.mem_append_left _ (List.mem_append_left _ (List.mem_append_right _ h))) (by decide +kernel))) (goodIn_sub (fun _ h => List.mem_append_right _ h) (by decide +kernel))
set_option maxRecDepth 20000 in
theorem gL_law_L_add : GoodIn wsL_law (va_wsS RL 98 yL_add wsL_add) := goodIn_app (goodIn_of _ (by decide +kernel)) ggL_law_L_add
set_option maxRecDepth 20000 in
theorem ggL_law_X8_add : GoodIn wsL_law wsX8_add := goodIn_r _ [234, 144, 96, 196, 197, 198, 5, 199, 200, 201, 202, 203, 145, 146, 147, 204, 205, 206, 235, 236, 237, 238, 207, 208, 209, 148, 149, 150, 151, 152, 97, 876, 877, 878, 879, 880, 881, 882, 883, 884, 885, 886, 887] (by decide +kernel) (by decide +kernel)
set_option maxRecDepth 20000 in
theorem gL_law_X8_add : GoodIn wsL_law (wsV RL 101 RX8 yX8_add wsX8_add) := goodIn_app (goodIn_of _ (by decide +kernel)) ggL_law_X8_add
set_option maxRecDepth 20000 in
theorem ggL_law_L_wipe : GoodIn wsL_law wsL_wipe := goodIn_ca (goodIn_ca (goodIn_r _ [241, 160, 105, 242, 243, 244, 2, 245, 165, 166, 110, 111, 16, 20, 246, 172, 173, 15, 174, 46, 247, 248, 249, 112, 113, 114, 19, 115, 58, 57, 116, 117, 118, 119, 56, 120, 121, 122, 123, 47, 48, 49, 50, 124, 125, 126, 127, 128, 129, 250, 251, 252, 253, 254, 255, 256, 257, 258, 259, 260, 261, 262, 263, 264, 265, 225, 183, 184, 185, 186, 187, 230, 189, 190, 191, 134, 135, 868, 869, 870, 871, 872, 873, 874, 875, 888, 889, 890, 891, 892, 893, 894, 895] (by decide +kernel) (by decide +kernel)) (goodIn_sub (fun _ h => List.mem_append_left _ (List.mem_append_right _ h)) (by decide +kernel))) (goodIn_sub (fun _ h => List.mem_append_left _ (List.mem_append_left _ (List.mem_append_right _ h))) (by decide +kernel))
set_option maxRecDepth 20000 in
theorem gL_law_L_wipe : GoodIn wsL_law (va_wsS RL 102 yL_wipe wsL_wipe) := goodIn_app (goodIn_of _ (by decide +kernel)) ggL_law_L_wipe
set_option maxRecDepth 20000 in
theorem ggL_law_X8_wipe : GoodIn wsL_law wsX8_wipe := goodIn_r _ [269, 144, 96, 200, 201, 202, 5, 203, 270, 271, 272, 145, 146, 147, 148, 149, 150, 151, 152, 97, 273, 274, 275, 276, 277, 278, 279, 280, 281, 282, 283, 284, 285, 286, 287, 288, 289, 290, 291, 207, 208, 209, 876, 877, 878, 879, 880, 881, 882, 883, 884, 885, 886, 887] (by decide +kernel) (by decide +kernel)
set_option maxRecDepth 20000 in
theorem gL_law_X8_wipe : GoodIn wsL_law (wsV RL 105 RX8 yX8_wipe wsX8_wipe) := goodIn_app (goodIn_of _ (by decide +kernel)) ggL_law_X8_wipe
set_option maxRecDepth 20000 in
theorem ggL_law_L_shift : GoodIn wsL_law wsL_shift := goodIn_ca (goodIn_r _ [294, 105, 295, 296, 297, 2, 298, 110, 111, 20, 16, 247, 248, 249, 112, 113, 114, 19, 115, 58, 57, 116, 117, 118, 119, 56, 120, 121, 122, 15, 123, 46, 47, 48, 49, 50, 124, 125, 126, 127, 128, 129, 299, 300, 301, 302, 256, 257, 258, 259, 303, 304, 305, 306, 254, 255, 264, 265, 225, 183, 184, 185, 186, 187, 230, 189, 190, 191, 134, 135, 868, 869, 870, 871, 872, 873, 874, 875, 888, 889, 890, 891, 892, 893, 894, 895] (by decide +kernel) (by decide +kernel)) (goodIn_sub (fun _ h => List.mem_append_left _ (List.mem_append_left _ (List.mem_append_right _ h))) (by decide +kernel))
set_option maxRecDepth 20000 in
theorem gL_law_L_shift : GoodIn wsL_law (va_wsS RL 106 yL_shift wsL_shift) := goodIn_app (goodIn_of _ (by decide +kernel)) ggL_law_L_shift
set_option maxRecDepth 20000 in
theorem ggL_law_X8_shift : GoodIn wsL_law wsX8_shift := goodIn_r _ [310, 144, 96, 98, 270, 271, 5, 272, 145, 146, 147, 148, 149, 150, 151, 152, 97, 311, 312, 313, 314, 289, 290, 291, 207, 208, 209, 315, 316, 317, 318, 876, 877, 878, 879, 880, 881, 882, 883, 884, 885, 886, 887] (by decide +kernel) (by decide +kernel)
set_option maxRecDepth 20000 in
theorem gL_law_X8_shift : GoodIn wsL_law (wsV RL 108 RX8 yX8_shift wsX8_shift) := goodIn_app (goodIn_of _ (by decide +kernel)) ggL_law_X8_shift
set_option maxRecDepth 20000 in
theorem ggL_law_X7_turn : GoodIn wsL_law wsX7_turn := goodIn_r _ [322, 20, 16, 42, 112, 113, 114, 19, 115, 58, 57, 116, 117, 118, 119, 56, 120, 121, 122, 15, 123, 46, 47, 48, 49, 50, 124, 2, 125, 126, 127, 128, 129, 323, 178, 179, 180, 181, 324, 186, 187, 188, 189, 190, 191, 134, 135, 325, 326, 327, 328, 28, 329, 330, 331, 27, 332, 333, 334, 335, 336, 67, 337, 338, 339, 340, 68, 69, 70, 71, 254, 255, 341, 257, 258, 259, 342, 261, 262, 263, 256, 264, 265, 343, 183, 184, 185, 344, 345, 346, 347, 348, 349, 350, 351, 352, 353, 354, 355, 868, 869, 870, 871, 872, 873, 874, 875, 888, 889, 890, 891, 892, 893, 894, 895, 898, 899, 900, 901, 902] (by decide +kernel) (by decide +kernel)
set_option maxRecDepth 20000 in
theorem gL_law_X7_turn : GoodIn wsL_law (wsV RL 109 RX7 yX7_turn wsX7_turn) := goodIn_app (goodIn_of _ (by decide +kernel)) ggL_law_X7_turn
