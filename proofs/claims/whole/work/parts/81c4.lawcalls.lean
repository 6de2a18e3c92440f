set_option maxRecDepth 20000 in
theorem ggL_law_X8_firstError : GoodIn wsL_law wsX8_firstError := goodIn_r _ [477, 144, 447, 478, 479, 480, 5, 481, 482, 483, 484, 485, 486, 487, 488, 100, 489, 490, 491, 492, 493, 494, 495, 496, 99, 145, 146, 147, 497, 498, 499, 500, 501, 502, 503, 504, 876, 877, 878, 879, 880, 881, 882, 883, 884, 885, 886, 887] (by decide +kernel) (by decide +kernel)
set_option maxRecDepth 20000 in
theorem gL_law_X8_firstError : GoodIn wsL_law (wsV RL 137 RX8 yX8_firstError wsX8_firstError) := goodIn_app (goodIn_of _ (by decide +kernel)) ggL_law_X8_firstError
set_option maxRecDepth 20000 in
theorem ggL_law_L_read : GoodIn wsL_law wsL_read := goodIn_ca (goodIn_r _ [507, 105, 508, 509, 510, 2, 511, 110, 111, 24, 20, 16, 512, 513, 514, 23, 515, 63, 464, 465, 466, 467, 62, 186, 187, 468, 469, 470, 471, 472, 473, 112, 113, 114, 19, 115, 58, 57, 116, 117, 118, 119, 56, 120, 121, 122, 15, 123, 46, 47, 48, 49, 50, 124, 125, 126, 127, 128, 129, 516, 517, 518, 519, 520, 167, 168, 169, 170, 171, 172, 173, 174, 178, 179, 180, 181, 521, 522, 523, 524, 182, 183, 184, 185, 175, 176, 177, 188, 189, 190, 191, 134, 135, 868, 869, 870, 871, 872, 873, 874, 875, 896, 897, 893, 894, 895, 888, 889, 890, 891, 892] (by decide +kernel) (by decide +kernel)) (goodIn_sub (fun _ h => List.mem_append_left _ (List.mem_append_left _ (List.mem_append_right _ h))) (by decide +kernel))
set_option maxRecDepth 20000 in
theorem gL_law_L_read : GoodIn wsL_law (va_wsS RL 138 yL_read wsL_read) := goodIn_app (goodIn_of _ (by decide +kernel)) ggL_law_L_read
set_option maxRecDepth 20000 in
theorem ggL_law_X8_read : GoodIn wsL_law wsX8_read := goodIn_r _ [528, 144, 482, 447, 478, 479, 480, 5, 481, 483, 484, 485, 486, 487, 488, 100, 489, 490, 491, 492, 493, 494, 495, 496, 99, 145, 146, 147, 497, 498, 499, 500, 501, 502, 503, 504, 148, 149, 150, 151, 152, 97, 96, 529, 530, 531, 532, 196, 197, 198, 199, 200, 201, 202, 203, 207, 208, 209, 204, 205, 206, 876, 877, 878, 879, 880, 881, 882, 883, 884, 885, 886, 887] (by decide +kernel) (by decide +kernel)
set_option maxRecDepth 20000 in
theorem gL_law_X8_read : GoodIn wsL_law (wsV RL 141 RX8 yX8_read wsX8_read) := goodIn_app (goodIn_of _ (by decide +kernel)) ggL_law_X8_read
set_option maxRecDepth 20000 in
theorem ggL_law_L_undo : GoodIn wsL_law wsL_undo := goodIn_ca (goodIn_r _ [535, 213, 536, 537, 538, 2, 539, 218, 219, 20, 16, 540, 541, 542, 19, 543, 58, 116, 117, 118, 119, 57, 56, 544, 121, 122, 15, 123, 46, 47, 48, 49, 50, 124, 125, 126, 127, 128, 129, 868, 869, 870, 871, 872, 873, 874, 875, 893, 894, 895, 888, 889, 890, 891, 892] (by decide +kernel) (by decide +kernel)) (goodIn_sub (fun _ h => List.mem_append_right _ h) (by decide +kernel))
set_option maxRecDepth 20000 in
theorem gL_law_L_undo : GoodIn wsL_law (va_wsS RL 142 yL_undo wsL_undo) := goodIn_app (goodIn_of _ (by decide +kernel)) ggL_law_L_undo
set_option maxRecDepth 20000 in
theorem ggL_law_X8_undo : GoodIn wsL_law wsX8_undo := goodIn_r _ [548, 152, 144, 96, 97, 876, 877, 878, 879, 880, 881, 882, 883, 884, 885, 886, 887] (by decide +kernel) (by decide +kernel)
set_option maxRecDepth 20000 in
theorem gL_law_X8_undo : GoodIn wsL_law (wsV RL 144 RX8 yX8_undo wsX8_undo) := goodIn_app (goodIn_of _ (by decide +kernel)) ggL_law_X8_undo
set_option maxRecDepth 20000 in
theorem ggL_law_L_at : GoodIn wsL_law wsL_at := goodIn_ca (goodIn_r _ [551, 160, 552, 553, 554, 2, 555, 165, 166, 16, 167, 168, 169, 15, 170, 171, 172, 173, 174, 46, 178, 179, 180, 181, 182, 183, 184, 185, 49, 186, 187, 868, 869, 870, 871, 872, 873, 874, 875, 888, 889, 890, 891, 892] (by decide +kernel) (by decide +kernel)) (goodIn_sub (fun _ h => List.mem_append_left _ (List.mem_append_right _ h)) (by decide +kernel))
set_option maxRecDepth 20000 in
theorem gL_law_L_at : GoodIn wsL_law (va_wsS RL 145 yL_at wsL_at) := goodIn_app (goodIn_of _ (by decide +kernel)) ggL_law_L_at
set_option maxRecDepth 20000 in
theorem ggL_law_X8_at : GoodIn wsL_law wsX8_at := goodIn_r _ [559, 144, 96, 196, 197, 198, 5, 199, 200, 201, 202, 203, 207, 208, 209, 876, 877, 878, 879, 880, 881, 882, 883, 884, 885, 886, 887] (by decide +kernel) (by decide +kernel)
set_option maxRecDepth 20000 in
theorem gL_law_X8_at : GoodIn wsL_law (wsV RL 148 RX8 yX8_at wsX8_at) := goodIn_app (goodIn_of _ (by decide +kernel)) ggL_law_X8_at
