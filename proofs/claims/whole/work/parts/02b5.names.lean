theorem dX8_firstDifference_41 : decode cX8_firstDifference 41 = .ok (.bipush 64, 2) := by decide +kernel
theorem dX8_firstDifference_43 : decode cX8_firstDifference 43 = .ok (.idiv, 1) := by decide +kernel
theorem dX8_firstDifference_44 : decode cX8_firstDifference 44 = .ok (.imul, 1) := by decide +kernel
theorem dX8_firstDifference_45 : decode cX8_firstDifference 45 = .ok (.iadd, 1) := by decide +kernel
theorem dX8_firstDifference_46 : decode cX8_firstDifference 46 = .ok (.ireturn, 1) := by decide +kernel
theorem dX8_firstDifference_47 : decode cX8_firstDifference 47 = .ok (.iinc 1 1, 3) := by decide +kernel
theorem dX8_firstDifference_50 : decode cX8_firstDifference 50 = .ok (.goto (-48), 3) := by decide +kernel
theorem dX8_firstDifference_53 : decode cX8_firstDifference 53 = .ok (.iconst (-1), 1) := by decide +kernel
theorem dX8_firstDifference_54 : decode cX8_firstDifference 54 = .ok (.ireturn, 1) := by decide +kernel
set_option maxRecDepth 20000 in
theorem ggX8_toldDifference_X8_differences : GoodIn wsX8_toldDifference wsX8_differences := goodIn_r _ [5, 6, 23, 24, 25, 26, 27, 28, 29, 30, 31, 32, 33, 34] (by decide +kernel) (by decide +kernel)
set_option maxRecDepth 20000 in
theorem gX8_toldDifference_X8_differences : GoodIn wsX8_toldDifference (wsV RX8 100 RX8 yX8_differences wsX8_differences) := goodIn_app (goodIn_of _ (by decide +kernel)) ggX8_toldDifference_X8_differences
set_option maxRecDepth 20000 in
theorem ggX8_toldDifference_X8_allDifferences : GoodIn wsX8_toldDifference wsX8_allDifferences := goodIn_r _ [10, 11, 12, 13, 4, 14, 6, 23, 24, 25, 26, 27, 28, 29, 30, 31, 32, 33, 34] (by decide +kernel) (by decide +kernel)
set_option maxRecDepth 20000 in
theorem gX8_toldDifference_X8_allDifferences : GoodIn wsX8_toldDifference (wsV RX8 158 RX8 yX8_allDifferences wsX8_allDifferences) := goodIn_app (goodIn_of _ (by decide +kernel)) ggX8_toldDifference_X8_allDifferences
set_option maxRecDepth 20000 in
theorem ggX8_toldDifference_X8_firstDifference : GoodIn wsX8_toldDifference wsX8_firstDifference := goodIn_r _ [18, 6, 11, 12, 13, 4, 14, 19, 20, 21, 22, 23, 24, 25, 26, 27, 28, 29, 30, 31, 32, 33, 34] (by decide +kernel) (by decide +kernel)
set_option maxRecDepth 20000 in
theorem gX8_toldDifference_X8_firstDifference : GoodIn wsX8_toldDifference (wsV RX8 162 RX8 yX8_firstDifference wsX8_firstDifference) := goodIn_app (goodIn_of _ (by decide +kernel)) ggX8_toldDifference_X8_firstDifference
theorem dX8_toldDifference_0 : decode cX8_toldDifference 0 = .ok (.iload_n 1, 1) := by decide +kernel
theorem dX8_toldDifference_1 : decode cX8_toldDifference 1 = .ok (.ifCond .ne 10, 3) := by decide +kernel
theorem dX8_toldDifference_4 : decode cX8_toldDifference 4 = .ok (.aload_n 0, 1) := by decide +kernel
theorem dX8_toldDifference_5 : decode cX8_toldDifference 5 = .ok (.invokevirtual 100, 3) := by decide +kernel
theorem dX8_toldDifference_8 : decode cX8_toldDifference 8 = .ok (.goto 33, 3) := by decide +kernel
theorem dX8_toldDifference_11 : decode cX8_toldDifference 11 = .ok (.iload_n 1, 1) := by decide +kernel
theorem dX8_toldDifference_12 : decode cX8_toldDifference 12 = .ok (.iconst 1, 1) := by decide +kernel
theorem dX8_toldDifference_13 : decode cX8_toldDifference 13 = .ok (.if_icmp .ne 11, 3) := by decide +kernel
theorem dX8_toldDifference_16 : decode cX8_toldDifference 16 = .ok (.aload_n 0, 1) := by decide +kernel
theorem dX8_toldDifference_17 : decode cX8_toldDifference 17 = .ok (.iconst 0, 1) := by decide +kernel
theorem dX8_toldDifference_18 : decode cX8_toldDifference 18 = .ok (.invokevirtual 158, 3) := by decide +kernel
theorem dX8_toldDifference_21 : decode cX8_toldDifference 21 = .ok (.goto 20, 3) := by decide +kernel
theorem dX8_toldDifference_24 : decode cX8_toldDifference 24 = .ok (.iload_n 1, 1) := by decide +kernel
theorem dX8_toldDifference_25 : decode cX8_toldDifference 25 = .ok (.iconst 2, 1) := by decide +kernel
theorem dX8_toldDifference_26 : decode cX8_toldDifference 26 = .ok (.if_icmp .ne 11, 3) := by decide +kernel
theorem dX8_toldDifference_29 : decode cX8_toldDifference 29 = .ok (.aload_n 0, 1) := by decide +kernel
theorem dX8_toldDifference_30 : decode cX8_toldDifference 30 = .ok (.iconst 1, 1) := by decide +kernel
theorem dX8_toldDifference_31 : decode cX8_toldDifference 31 = .ok (.invokevirtual 158, 3) := by decide +kernel
theorem dX8_toldDifference_34 : decode cX8_toldDifference 34 = .ok (.goto 7, 3) := by decide +kernel
theorem dX8_toldDifference_37 : decode cX8_toldDifference 37 = .ok (.aload_n 0, 1) := by decide +kernel
theorem dX8_toldDifference_38 : decode cX8_toldDifference 38 = .ok (.invokevirtual 162, 3) := by decide +kernel
theorem dX8_toldDifference_41 : decode cX8_toldDifference 41 = .ok (.ireturn, 1) := by decide +kernel
set_option maxRecDepth 20000 in
theorem ggX8_difference_X8_in : GoodIn wsX8_difference wsX8_in := goodIn_r _ [5] (by decide +kernel) (by decide +kernel)
set_option maxRecDepth 20000 in
theorem gX8_difference_X8_in : GoodIn wsX8_difference (va_wsS RX8 33 yX8_in wsX8_in) := goodIn_app (goodIn_of _ (by decide +kernel)) ggX8_difference_X8_in
set_option maxRecDepth 20000 in
theorem ggX8_difference_X8_toldDifference : GoodIn wsX8_difference wsX8_toldDifference := goodIn_r _ [9, 10, 11, 12, 4, 13, 14, 15, 16, 17, 18, 19, 20, 21, 22, 23, 24, 25, 26, 27, 28, 29, 30, 31, 32, 33, 34, 35, 36, 37, 38, 39, 40, 41, 42] (by decide +kernel) (by decide +kernel)
set_option maxRecDepth 20000 in
theorem gX8_difference_X8_toldDifference : GoodIn wsX8_difference (wsV RX8 165 RX8 yX8_toldDifference wsX8_toldDifference) := goodIn_app (goodIn_of _ (by decide +kernel)) ggX8_difference_X8_toldDifference
theorem dX8_difference_0 : decode cX8_difference 0 = .ok (.aload_n 0, 1) := by decide +kernel
theorem dX8_difference_1 : decode cX8_difference 1 = .ok (.iload_n 1, 1) := by decide +kernel
theorem dX8_difference_2 : decode cX8_difference 2 = .ok (.iconst 0, 1) := by decide +kernel
theorem dX8_difference_3 : decode cX8_difference 3 = .ok (.iconst 3, 1) := by decide +kernel
theorem dX8_difference_4 : decode cX8_difference 4 = .ok (.invokestatic 33, 3) := by decide +kernel
theorem dX8_difference_7 : decode cX8_difference 7 = .ok (.ifCond .eq 7, 3) := by decide +kernel
theorem dX8_difference_10 : decode cX8_difference 10 = .ok (.iconst 0, 1) := by decide +kernel
theorem dX8_difference_11 : decode cX8_difference 11 = .ok (.goto 4, 3) := by decide +kernel
theorem dX8_difference_14 : decode cX8_difference 14 = .ok (.iconst 1, 1) := by decide +kernel
theorem dX8_difference_15 : decode cX8_difference 15 = .ok (.putfield 25, 3) := by decide +kernel
theorem dX8_difference_18 : decode cX8_difference 18 = .ok (.aload_n 0, 1) := by decide +kernel
theorem dX8_difference_19 : decode cX8_difference 19 = .ok (.getfield 25, 3) := by decide +kernel
theorem dX8_difference_22 : decode cX8_difference 22 = .ok (.ifCond .le 7, 3) := by decide +kernel
theorem dX8_difference_25 : decode cX8_difference 25 = .ok (.iconst 0, 1) := by decide +kernel
theorem dX8_difference_26 : decode cX8_difference 26 = .ok (.goto 8, 3) := by decide +kernel
theorem dX8_difference_29 : decode cX8_difference 29 = .ok (.aload_n 0, 1) := by decide +kernel
theorem dX8_difference_30 : decode cX8_difference 30 = .ok (.iload_n 1, 1) := by decide +kernel
theorem dX8_difference_31 : decode cX8_difference 31 = .ok (.invokevirtual 165, 3) := by decide +kernel
theorem dX8_difference_34 : decode cX8_difference 34 = .ok (.ireturn, 1) := by decide +kernel
set_option maxRecDepth 20000 in
theorem ggX8_slicesOf_X8_form : GoodIn wsX8_slicesOf wsX8_form := goodIn_r _ [6, 1, 7, 8, 9, 5, 10, 11, 12, 13, 14, 15, 16, 17, 18, 19, 20, 21, 22, 23, 24, 25, 26, 27, 28, 29, 30, 31, 32, 33, 34, 35, 36, 37, 38, 39, 40] (by decide +kernel) (by decide +kernel)
set_option maxRecDepth 20000 in
theorem gX8_slicesOf_X8_form : GoodIn wsX8_slicesOf (wsV RX8 62 RX8 yX8_form wsX8_form) := goodIn_app (goodIn_of _ (by decide +kernel)) ggX8_slicesOf_X8_form
theorem dX8_slicesOf_0 : decode cX8_slicesOf 0 = .ok (.iconst 0, 1) := by decide +kernel
theorem dX8_slicesOf_1 : decode cX8_slicesOf 1 = .ok (.istore_n 2, 1) := by decide +kernel
theorem dX8_slicesOf_2 : decode cX8_slicesOf 2 = .ok (.iconst 0, 1) := by decide +kernel
theorem dX8_slicesOf_3 : decode cX8_slicesOf 3 = .ok (.istore_n 3, 1) := by decide +kernel
theorem dX8_slicesOf_4 : decode cX8_slicesOf 4 = .ok (.iload_n 3, 1) := by decide +kernel
theorem dX8_slicesOf_5 : decode cX8_slicesOf 5 = .ok (.aload_n 0, 1) := by decide +kernel
theorem dX8_slicesOf_6 : decode cX8_slicesOf 6 = .ok (.getfield 7, 3) := by decide +kernel
theorem dX8_slicesOf_9 : decode cX8_slicesOf 9 = .ok (.iconst 0, 1) := by decide +kernel
theorem dX8_slicesOf_10 : decode cX8_slicesOf 10 = .ok (.iaload, 1) := by decide +kernel
theorem dX8_slicesOf_11 : decode cX8_slicesOf 11 = .ok (.if_icmp .ge 32, 3) := by decide +kernel
theorem dX8_slicesOf_14 : decode cX8_slicesOf 14 = .ok (.iload_n 2, 1) := by decide +kernel
theorem dX8_slicesOf_15 : decode cX8_slicesOf 15 = .ok (.aload_n 0, 1) := by decide +kernel
theorem dX8_slicesOf_16 : decode cX8_slicesOf 16 = .ok (.aload_n 0, 1) := by decide +kernel
theorem dX8_slicesOf_17 : decode cX8_slicesOf 17 = .ok (.getfield 7, 3) := by decide +kernel
theorem dX8_slicesOf_20 : decode cX8_slicesOf 20 = .ok (.iconst 1, 1) := by decide +kernel
theorem dX8_slicesOf_21 : decode cX8_slicesOf 21 = .ok (.iaload, 1) := by decide +kernel
theorem dX8_slicesOf_22 : decode cX8_slicesOf 22 = .ok (.iload_n 3, 1) := by decide +kernel
theorem dX8_slicesOf_23 : decode cX8_slicesOf 23 = .ok (.invokevirtual 62, 3) := by decide +kernel
theorem dX8_slicesOf_26 : decode cX8_slicesOf 26 = .ok (.iload_n 1, 1) := by decide +kernel
theorem dX8_slicesOf_27 : decode cX8_slicesOf 27 = .ok (.if_icmp .ne 7, 3) := by decide +kernel
theorem dX8_slicesOf_30 : decode cX8_slicesOf 30 = .ok (.iconst 1, 1) := by decide +kernel
theorem dX8_slicesOf_31 : decode cX8_slicesOf 31 = .ok (.goto 4, 3) := by decide +kernel
theorem dX8_slicesOf_34 : decode cX8_slicesOf 34 = .ok (.iconst 0, 1) := by decide +kernel
theorem dX8_slicesOf_35 : decode cX8_slicesOf 35 = .ok (.iadd, 1) := by decide +kernel
theorem dX8_slicesOf_36 : decode cX8_slicesOf 36 = .ok (.istore_n 2, 1) := by decide +kernel
theorem dX8_slicesOf_37 : decode cX8_slicesOf 37 = .ok (.iinc 3 1, 3) := by decide +kernel
theorem dX8_slicesOf_40 : decode cX8_slicesOf 40 = .ok (.goto (-36), 3) := by decide +kernel
theorem dX8_slicesOf_43 : decode cX8_slicesOf 43 = .ok (.iload_n 2, 1) := by decide +kernel
theorem dX8_slicesOf_44 : decode cX8_slicesOf 44 = .ok (.ireturn, 1) := by decide +kernel
theorem dX8_all_0 : decode cX8_all 0 = .ok (.iconst 0, 1) := by decide +kernel
theorem dX8_all_1 : decode cX8_all 1 = .ok (.istore_n 2, 1) := by decide +kernel
theorem dX8_all_2 : decode cX8_all 2 = .ok (.iconst 0, 1) := by decide +kernel
theorem dX8_all_3 : decode cX8_all 3 = .ok (.istore_n 3, 1) := by decide +kernel
theorem dX8_all_4 : decode cX8_all 4 = .ok (.iload_n 3, 1) := by decide +kernel
theorem dX8_all_5 : decode cX8_all 5 = .ok (.sipush 512, 3) := by decide +kernel
theorem dX8_all_8 : decode cX8_all 8 = .ok (.if_icmp .ge 43, 3) := by decide +kernel
theorem dX8_all_11 : decode cX8_all 11 = .ok (.iload_n 2, 1) := by decide +kernel
theorem dX8_all_12 : decode cX8_all 12 = .ok (.iload_n 1, 1) := by decide +kernel
theorem dX8_all_13 : decode cX8_all 13 = .ok (.ifCond .ne 14, 3) := by decide +kernel
theorem dX8_all_16 : decode cX8_all 16 = .ok (.aload_n 0, 1) := by decide +kernel
theorem dX8_all_17 : decode cX8_all 17 = .ok (.getfield 7, 3) := by decide +kernel
theorem dX8_all_20 : decode cX8_all 20 = .ok (.iconst 3, 1) := by decide +kernel
theorem dX8_all_21 : decode cX8_all 21 = .ok (.iload_n 3, 1) := by decide +kernel
theorem dX8_all_22 : decode cX8_all 22 = .ok (.iadd, 1) := by decide +kernel
theorem dX8_all_23 : decode cX8_all 23 = .ok (.iaload, 1) := by decide +kernel
theorem dX8_all_24 : decode cX8_all 24 = .ok (.goto 19, 3) := by decide +kernel
theorem dX8_all_27 : decode cX8_all 27 = .ok (.aload_n 0, 1) := by decide +kernel
theorem dX8_all_28 : decode cX8_all 28 = .ok (.getfield 7, 3) := by decide +kernel
theorem dX8_all_31 : decode cX8_all 31 = .ok (.iconst 3, 1) := by decide +kernel
theorem dX8_all_32 : decode cX8_all 32 = .ok (.iload_n 3, 1) := by decide +kernel
theorem dX8_all_33 : decode cX8_all 33 = .ok (.iadd, 1) := by decide +kernel
theorem dX8_all_34 : decode cX8_all 34 = .ok (.iaload, 1) := by decide +kernel
theorem dX8_all_35 : decode cX8_all 35 = .ok (.ifCond .ne 7, 3) := by decide +kernel
theorem dX8_all_38 : decode cX8_all 38 = .ok (.iconst 0, 1) := by decide +kernel
theorem dX8_all_39 : decode cX8_all 39 = .ok (.goto 4, 3) := by decide +kernel
theorem dX8_all_42 : decode cX8_all 42 = .ok (.iconst 1, 1) := by decide +kernel
theorem dX8_all_43 : decode cX8_all 43 = .ok (.iadd, 1) := by decide +kernel
theorem dX8_all_44 : decode cX8_all 44 = .ok (.istore_n 2, 1) := by decide +kernel
theorem dX8_all_45 : decode cX8_all 45 = .ok (.iinc 3 1, 3) := by decide +kernel
theorem dX8_all_48 : decode cX8_all 48 = .ok (.goto (-44), 3) := by decide +kernel
theorem dX8_all_51 : decode cX8_all 51 = .ok (.iload_n 2, 1) := by decide +kernel
theorem dX8_all_52 : decode cX8_all 52 = .ok (.ireturn, 1) := by decide +kernel
set_option maxRecDepth 20000 in
theorem ggX8_counted_X8_all : GoodIn wsX8_counted wsX8_all := goodIn_r _ [7, 1, 54, 55, 56, 57, 58, 59, 60, 61, 62, 63, 64, 65] (by decide +kernel) (by decide +kernel)
set_option maxRecDepth 20000 in
theorem gX8_counted_X8_all : GoodIn wsX8_counted (wsV RX8 168 RX8 yX8_all wsX8_all) := goodIn_app (goodIn_of _ (by decide +kernel)) ggX8_counted_X8_all
set_option maxRecDepth 20000 in
theorem ggX8_counted_X8_room : GoodIn wsX8_counted wsX8_room := goodIn_r _ [11, 1, 12, 13, 14, 6, 15, 16, 17, 18, 19, 20, 21, 22, 23, 24, 25, 26, 27, 28, 29, 30, 31, 32, 33, 34, 35, 36, 37, 38, 39, 40, 41, 42, 43, 44, 45, 46, 47, 48, 49, 54, 55, 56, 57, 58, 59, 60, 61, 62, 63, 64, 65] (by decide +kernel) (by decide +kernel)
set_option maxRecDepth 20000 in
theorem gX8_counted_X8_room : GoodIn wsX8_counted (wsV RX8 97 RX8 yX8_room wsX8_room) := goodIn_app (goodIn_of _ (by decide +kernel)) ggX8_counted_X8_room
set_option maxRecDepth 20000 in
theorem ggX8_counted_X8_slicesOf : GoodIn wsX8_counted wsX8_slicesOf := goodIn_r _ [53, 1, 16, 17, 18, 6, 19, 20, 21, 22, 23, 24, 25, 26, 27, 28, 29, 30, 31, 32, 33, 34, 35, 36, 37, 38, 39, 40, 41, 54, 55, 56, 57, 58, 59, 60, 61, 62, 63, 64, 65] (by decide +kernel) (by decide +kernel)
set_option maxRecDepth 20000 in
theorem gX8_counted_X8_slicesOf : GoodIn wsX8_counted (wsV RX8 171 RX8 yX8_slicesOf wsX8_slicesOf) := goodIn_app (goodIn_of _ (by decide +kernel)) ggX8_counted_X8_slicesOf
theorem dX8_counted_0 : decode cX8_counted 0 = .ok (.iload_n 1, 1) := by decide +kernel
theorem dX8_counted_1 : decode cX8_counted 1 = .ok (.tableswitch 89 0 7 #[47, 54, 61, 61, 76, 81, 81, 81], 47) := by decide +kernel
theorem dX8_counted_48 : decode cX8_counted 48 = .ok (.aload_n 0, 1) := by decide +kernel
theorem dX8_counted_49 : decode cX8_counted 49 = .ok (.getfield 7, 3) := by decide +kernel
theorem dX8_counted_52 : decode cX8_counted 52 = .ok (.iconst 0, 1) := by decide +kernel
theorem dX8_counted_53 : decode cX8_counted 53 = .ok (.iaload, 1) := by decide +kernel
theorem dX8_counted_54 : decode cX8_counted 54 = .ok (.ireturn, 1) := by decide +kernel
theorem dX8_counted_55 : decode cX8_counted 55 = .ok (.aload_n 0, 1) := by decide +kernel
theorem dX8_counted_56 : decode cX8_counted 56 = .ok (.getfield 7, 3) := by decide +kernel
theorem dX8_counted_59 : decode cX8_counted 59 = .ok (.iconst 1, 1) := by decide +kernel
theorem dX8_counted_60 : decode cX8_counted 60 = .ok (.iaload, 1) := by decide +kernel
theorem dX8_counted_61 : decode cX8_counted 61 = .ok (.ireturn, 1) := by decide +kernel
theorem dX8_counted_62 : decode cX8_counted 62 = .ok (.aload_n 0, 1) := by decide +kernel
theorem dX8_counted_63 : decode cX8_counted 63 = .ok (.iload_n 1, 1) := by decide +kernel
theorem dX8_counted_64 : decode cX8_counted 64 = .ok (.iconst 2, 1) := by decide +kernel
theorem dX8_counted_65 : decode cX8_counted 65 = .ok (.if_icmp .ne 7, 3) := by decide +kernel
theorem dX8_counted_68 : decode cX8_counted 68 = .ok (.iconst 1, 1) := by decide +kernel
theorem dX8_counted_69 : decode cX8_counted 69 = .ok (.goto 4, 3) := by decide +kernel
theorem dX8_counted_72 : decode cX8_counted 72 = .ok (.iconst 0, 1) := by decide +kernel
theorem dX8_counted_73 : decode cX8_counted 73 = .ok (.invokevirtual 168, 3) := by decide +kernel
theorem dX8_counted_76 : decode cX8_counted 76 = .ok (.ireturn, 1) := by decide +kernel
theorem dX8_counted_77 : decode cX8_counted 77 = .ok (.aload_n 0, 1) := by decide +kernel
theorem dX8_counted_78 : decode cX8_counted 78 = .ok (.invokevirtual 97, 3) := by decide +kernel
theorem dX8_counted_81 : decode cX8_counted 81 = .ok (.ireturn, 1) := by decide +kernel
theorem dX8_counted_82 : decode cX8_counted 82 = .ok (.aload_n 0, 1) := by decide +kernel
theorem dX8_counted_83 : decode cX8_counted 83 = .ok (.iload_n 1, 1) := by decide +kernel
theorem dX8_counted_84 : decode cX8_counted 84 = .ok (.iconst 5, 1) := by decide +kernel
theorem dX8_counted_85 : decode cX8_counted 85 = .ok (.isub, 1) := by decide +kernel
theorem dX8_counted_86 : decode cX8_counted 86 = .ok (.invokevirtual 171, 3) := by decide +kernel
theorem dX8_counted_89 : decode cX8_counted 89 = .ok (.ireturn, 1) := by decide +kernel
theorem dX8_counted_90 : decode cX8_counted 90 = .ok (.aload_n 0, 1) := by decide +kernel
theorem dX8_counted_91 : decode cX8_counted 91 = .ok (.getfield 45, 3) := by decide +kernel
theorem dX8_counted_94 : decode cX8_counted 94 = .ok (.ireturn, 1) := by decide +kernel
set_option maxRecDepth 20000 in
theorem ggX8_count_X8_in : GoodIn wsX8_count wsX8_in := goodIn_r _ [5] (by decide +kernel) (by decide +kernel)
set_option maxRecDepth 20000 in
theorem gX8_count_X8_in : GoodIn wsX8_count (va_wsS RX8 33 yX8_in wsX8_in) := goodIn_app (goodIn_of _ (by decide +kernel)) ggX8_count_X8_in
set_option maxRecDepth 20000 in
theorem ggX8_count_X8_counted : GoodIn wsX8_count wsX8_counted := goodIn_r _ [9, 10, 11, 12, 13, 14, 4, 15, 16, 17, 18, 19, 20, 21, 22, 23, 24, 25, 26, 27, 28, 29, 30, 31, 32, 33, 34, 35, 36, 37, 38, 39, 40, 41, 42, 43, 44, 45, 46, 47, 48, 49, 50, 51, 52, 53, 54, 55, 56, 57, 58, 59, 60, 61, 62, 63, 64, 65, 66, 67, 68, 69, 70, 71, 72, 73] (by decide +kernel) (by decide +kernel)
set_option maxRecDepth 20000 in
theorem gX8_count_X8_counted : GoodIn wsX8_count (wsV RX8 174 RX8 yX8_counted wsX8_counted) := goodIn_app (goodIn_of _ (by decide +kernel)) ggX8_count_X8_counted
theorem dX8_count_0 : decode cX8_count 0 = .ok (.aload_n 0, 1) := by decide +kernel
theorem dX8_count_1 : decode cX8_count 1 = .ok (.iload_n 1, 1) := by decide +kernel
theorem dX8_count_2 : decode cX8_count 2 = .ok (.iconst 0, 1) := by decide +kernel
theorem dX8_count_3 : decode cX8_count 3 = .ok (.bipush 8, 2) := by decide +kernel
theorem dX8_count_5 : decode cX8_count 5 = .ok (.invokestatic 33, 3) := by decide +kernel
theorem dX8_count_8 : decode cX8_count 8 = .ok (.ifCond .eq 7, 3) := by decide +kernel
theorem dX8_count_11 : decode cX8_count 11 = .ok (.iconst 0, 1) := by decide +kernel
theorem dX8_count_12 : decode cX8_count 12 = .ok (.goto 4, 3) := by decide +kernel
theorem dX8_count_15 : decode cX8_count 15 = .ok (.iconst 1, 1) := by decide +kernel
theorem dX8_count_16 : decode cX8_count 16 = .ok (.putfield 25, 3) := by decide +kernel
theorem dX8_count_19 : decode cX8_count 19 = .ok (.aload_n 0, 1) := by decide +kernel
theorem dX8_count_20 : decode cX8_count 20 = .ok (.getfield 25, 3) := by decide +kernel
theorem dX8_count_23 : decode cX8_count 23 = .ok (.ifCond .le 7, 3) := by decide +kernel
theorem dX8_count_26 : decode cX8_count 26 = .ok (.iconst 0, 1) := by decide +kernel
theorem dX8_count_27 : decode cX8_count 27 = .ok (.goto 8, 3) := by decide +kernel
theorem dX8_count_30 : decode cX8_count 30 = .ok (.aload_n 0, 1) := by decide +kernel
theorem dX8_count_31 : decode cX8_count 31 = .ok (.iload_n 1, 1) := by decide +kernel
theorem dX8_count_32 : decode cX8_count 32 = .ok (.invokevirtual 174, 3) := by decide +kernel
theorem dX8_count_35 : decode cX8_count 35 = .ok (.ireturn, 1) := by decide +kernel
set_option maxRecDepth 20000 in
theorem ggX8_ifKept_X8_isAxis : GoodIn wsX8_ifKept wsX8_isAxis := goodIn_r _ [5, 6, 7, 4, 8] (by decide +kernel) (by decide +kernel)
set_option maxRecDepth 20000 in
theorem gX8_ifKept_X8_isAxis : GoodIn wsX8_ifKept (va_wsS RX8 88 yX8_isAxis wsX8_isAxis) := goodIn_app (goodIn_of _ (by decide +kernel)) ggX8_ifKept_X8_isAxis
set_option maxRecDepth 20000 in
theorem ggX8_ifKept_X8_roomBy : GoodIn wsX8_ifKept wsX8_roomBy := goodIn_r _ [12, 13, 14, 15, 16, 4, 17, 18, 19, 20, 21, 22, 23, 24, 25, 26, 27, 28, 29, 30, 31, 32, 33, 34, 35, 36, 37, 38, 39, 40, 41, 42, 43, 44, 45, 46, 47, 48, 49, 50, 51, 52, 53, 54, 55, 56, 57, 58, 59] (by decide +kernel) (by decide +kernel)
set_option maxRecDepth 20000 in
theorem gX8_ifKept_X8_roomBy : GoodIn wsX8_ifKept (wsV RX8 71 RX8 yX8_roomBy wsX8_roomBy) := goodIn_app (goodIn_of _ (by decide +kernel)) ggX8_ifKept_X8_roomBy
theorem dX8_ifKept_0 : decode cX8_ifKept 0 = .ok (.aload_n 0, 1) := by decide +kernel
theorem dX8_ifKept_1 : decode cX8_ifKept 1 = .ok (.iload_n 1, 1) := by decide +kernel
theorem dX8_ifKept_2 : decode cX8_ifKept 2 = .ok (.invokestatic 88, 3) := by decide +kernel
theorem dX8_ifKept_5 : decode cX8_ifKept 5 = .ok (.ifCond .eq 7, 3) := by decide +kernel
theorem dX8_ifKept_8 : decode cX8_ifKept 8 = .ok (.iconst 0, 1) := by decide +kernel
theorem dX8_ifKept_9 : decode cX8_ifKept 9 = .ok (.goto 4, 3) := by decide +kernel
theorem dX8_ifKept_12 : decode cX8_ifKept 12 = .ok (.iconst 1, 1) := by decide +kernel
theorem dX8_ifKept_13 : decode cX8_ifKept 13 = .ok (.putfield 25, 3) := by decide +kernel
theorem dX8_ifKept_16 : decode cX8_ifKept 16 = .ok (.aload_n 0, 1) := by decide +kernel
theorem dX8_ifKept_17 : decode cX8_ifKept 17 = .ok (.getfield 25, 3) := by decide +kernel
theorem dX8_ifKept_20 : decode cX8_ifKept 20 = .ok (.ifCond .le 7, 3) := by decide +kernel
theorem dX8_ifKept_23 : decode cX8_ifKept 23 = .ok (.iconst 0, 1) := by decide +kernel
theorem dX8_ifKept_24 : decode cX8_ifKept 24 = .ok (.goto 8, 3) := by decide +kernel
theorem dX8_ifKept_27 : decode cX8_ifKept 27 = .ok (.aload_n 0, 1) := by decide +kernel
theorem dX8_ifKept_28 : decode cX8_ifKept 28 = .ok (.iload_n 1, 1) := by decide +kernel
theorem dX8_ifKept_29 : decode cX8_ifKept 29 = .ok (.invokevirtual 71, 3) := by decide +kernel
theorem dX8_ifKept_32 : decode cX8_ifKept 32 = .ok (.ireturn, 1) := by decide +kernel
set_option maxRecDepth 20000 in
theorem ggX8_wouldPut_X8_place : GoodIn wsX8_wouldPut wsX8_place := goodIn_r _ [5] (by decide +kernel) (by decide +kernel)
set_option maxRecDepth 20000 in
theorem gX8_wouldPut_X8_place : GoodIn wsX8_wouldPut (va_wsS RX8 37 yX8_place wsX8_place) := goodIn_app (goodIn_of _ (by decide +kernel)) ggX8_wouldPut_X8_place
set_option maxRecDepth 20000 in
theorem ggX8_wouldPut_X8_room : GoodIn wsX8_wouldPut wsX8_room := goodIn_r _ [9, 1, 10, 11, 12, 4, 13, 14, 15, 16, 17, 18, 19, 20, 21, 22, 23, 24, 25, 26, 27, 28, 29, 30, 31, 32, 33, 34, 35, 36, 2, 3, 5, 37, 38, 39, 40, 41, 42, 43, 44, 45, 46, 47, 48, 49, 50, 51, 52, 53, 54, 55, 56] (by decide +kernel) (by decide +kernel)
set_option maxRecDepth 20000 in
theorem gX8_wouldPut_X8_room : GoodIn wsX8_wouldPut (wsV RX8 97 RX8 yX8_room wsX8_room) := goodIn_app (goodIn_of _ (by decide +kernel)) ggX8_wouldPut_X8_room
set_option maxRecDepth 20000 in
theorem ggX8_wouldPut_X8_form : GoodIn wsX8_wouldPut wsX8_form := goodIn_r _ [17, 1, 18, 19, 20, 4, 21, 22, 23, 24, 25, 26, 27, 28, 29, 30, 31, 32, 33, 34, 35, 36, 2, 3, 5, 45, 46, 47, 48, 49, 50, 51, 52, 53, 54, 55, 56] (by decide +kernel) (by decide +kernel)
set_option maxRecDepth 20000 in
theorem gX8_wouldPut_X8_form : GoodIn wsX8_wouldPut (wsV RX8 62 RX8 yX8_form wsX8_form) := goodIn_app (goodIn_of _ (by decide +kernel)) ggX8_wouldPut_X8_form
theorem dX8_wouldPut_0 : decode cX8_wouldPut 0 = .ok (.iload_n 1, 1) := by decide +kernel
theorem dX8_wouldPut_1 : decode cX8_wouldPut 1 = .ok (.iload_n 2, 1) := by decide +kernel
theorem dX8_wouldPut_2 : decode cX8_wouldPut 2 = .ok (.iload_n 3, 1) := by decide +kernel
theorem dX8_wouldPut_3 : decode cX8_wouldPut 3 = .ok (.invokestatic 37, 3) := by decide +kernel
theorem dX8_wouldPut_6 : decode cX8_wouldPut 6 = .ok (.istore 6, 2) := by decide +kernel
theorem dX8_wouldPut_8 : decode cX8_wouldPut 8 = .ok (.aload_n 0, 1) := by decide +kernel
theorem dX8_wouldPut_9 : decode cX8_wouldPut 9 = .ok (.getfield 7, 3) := by decide +kernel
theorem dX8_wouldPut_12 : decode cX8_wouldPut 12 = .ok (.iconst 3, 1) := by decide +kernel
theorem dX8_wouldPut_13 : decode cX8_wouldPut 13 = .ok (.iload 6, 2) := by decide +kernel
theorem dX8_wouldPut_15 : decode cX8_wouldPut 15 = .ok (.iadd, 1) := by decide +kernel
theorem dX8_wouldPut_16 : decode cX8_wouldPut 16 = .ok (.iaload, 1) := by decide +kernel
theorem dX8_wouldPut_17 : decode cX8_wouldPut 17 = .ok (.istore 7, 2) := by decide +kernel
theorem dX8_wouldPut_19 : decode cX8_wouldPut 19 = .ok (.aload_n 0, 1) := by decide +kernel
theorem dX8_wouldPut_20 : decode cX8_wouldPut 20 = .ok (.getfield 7, 3) := by decide +kernel
theorem dX8_wouldPut_23 : decode cX8_wouldPut 23 = .ok (.iconst 3, 1) := by decide +kernel
theorem dX8_wouldPut_24 : decode cX8_wouldPut 24 = .ok (.iload 6, 2) := by decide +kernel
theorem dX8_wouldPut_26 : decode cX8_wouldPut 26 = .ok (.iadd, 1) := by decide +kernel
theorem dX8_wouldPut_27 : decode cX8_wouldPut 27 = .ok (.iload 4, 2) := by decide +kernel
theorem dX8_wouldPut_29 : decode cX8_wouldPut 29 = .ok (.iastore, 1) := by decide +kernel
theorem dX8_wouldPut_30 : decode cX8_wouldPut 30 = .ok (.aload_n 0, 1) := by decide +kernel
theorem dX8_wouldPut_31 : decode cX8_wouldPut 31 = .ok (.getfield 7, 3) := by decide +kernel
theorem dX8_wouldPut_34 : decode cX8_wouldPut 34 = .ok (.iconst 1, 1) := by decide +kernel
theorem dX8_wouldPut_35 : decode cX8_wouldPut 35 = .ok (.iaload, 1) := by decide +kernel
theorem dX8_wouldPut_36 : decode cX8_wouldPut 36 = .ok (.ifCond .ne 7, 3) := by decide +kernel
theorem dX8_wouldPut_39 : decode cX8_wouldPut 39 = .ok (.iload_n 1, 1) := by decide +kernel
theorem dX8_wouldPut_40 : decode cX8_wouldPut 40 = .ok (.goto 18, 3) := by decide +kernel
theorem dX8_wouldPut_43 : decode cX8_wouldPut 43 = .ok (.aload_n 0, 1) := by decide +kernel
theorem dX8_wouldPut_44 : decode cX8_wouldPut 44 = .ok (.getfield 7, 3) := by decide +kernel
theorem dX8_wouldPut_47 : decode cX8_wouldPut 47 = .ok (.iconst 1, 1) := by decide +kernel
theorem dX8_wouldPut_48 : decode cX8_wouldPut 48 = .ok (.iaload, 1) := by decide +kernel
theorem dX8_wouldPut_49 : decode cX8_wouldPut 49 = .ok (.iconst 1, 1) := by decide +kernel
theorem dX8_wouldPut_50 : decode cX8_wouldPut 50 = .ok (.if_icmp .ne 7, 3) := by decide +kernel
theorem dX8_wouldPut_53 : decode cX8_wouldPut 53 = .ok (.iload_n 2, 1) := by decide +kernel
theorem dX8_wouldPut_54 : decode cX8_wouldPut 54 = .ok (.goto 4, 3) := by decide +kernel
theorem dX8_wouldPut_57 : decode cX8_wouldPut 57 = .ok (.iload_n 3, 1) := by decide +kernel
theorem dX8_wouldPut_58 : decode cX8_wouldPut 58 = .ok (.istore 8, 2) := by decide +kernel
theorem dX8_wouldPut_60 : decode cX8_wouldPut 60 = .ok (.iload 5, 2) := by decide +kernel
theorem dX8_wouldPut_62 : decode cX8_wouldPut 62 = .ok (.ifCond .ne 10, 3) := by decide +kernel
theorem dX8_wouldPut_65 : decode cX8_wouldPut 65 = .ok (.aload_n 0, 1) := by decide +kernel
theorem dX8_wouldPut_66 : decode cX8_wouldPut 66 = .ok (.invokevirtual 97, 3) := by decide +kernel
theorem dX8_wouldPut_69 : decode cX8_wouldPut 69 = .ok (.goto 15, 3) := by decide +kernel
theorem dX8_wouldPut_72 : decode cX8_wouldPut 72 = .ok (.aload_n 0, 1) := by decide +kernel
theorem dX8_wouldPut_73 : decode cX8_wouldPut 73 = .ok (.aload_n 0, 1) := by decide +kernel
theorem dX8_wouldPut_74 : decode cX8_wouldPut 74 = .ok (.getfield 7, 3) := by decide +kernel
theorem dX8_wouldPut_77 : decode cX8_wouldPut 77 = .ok (.iconst 1, 1) := by decide +kernel
theorem dX8_wouldPut_78 : decode cX8_wouldPut 78 = .ok (.iaload, 1) := by decide +kernel
theorem dX8_wouldPut_79 : decode cX8_wouldPut 79 = .ok (.iload 8, 2) := by decide +kernel
theorem dX8_wouldPut_81 : decode cX8_wouldPut 81 = .ok (.invokevirtual 62, 3) := by decide +kernel
theorem dX8_wouldPut_84 : decode cX8_wouldPut 84 = .ok (.istore 9, 2) := by decide +kernel
theorem dX8_wouldPut_86 : decode cX8_wouldPut 86 = .ok (.aload_n 0, 1) := by decide +kernel
theorem dX8_wouldPut_87 : decode cX8_wouldPut 87 = .ok (.getfield 7, 3) := by decide +kernel
theorem dX8_wouldPut_90 : decode cX8_wouldPut 90 = .ok (.iconst 3, 1) := by decide +kernel
theorem dX8_wouldPut_91 : decode cX8_wouldPut 91 = .ok (.iload 6, 2) := by decide +kernel
theorem dX8_wouldPut_93 : decode cX8_wouldPut 93 = .ok (.iadd, 1) := by decide +kernel
theorem dX8_wouldPut_94 : decode cX8_wouldPut 94 = .ok (.iload 7, 2) := by decide +kernel
theorem dX8_wouldPut_96 : decode cX8_wouldPut 96 = .ok (.iastore, 1) := by decide +kernel
theorem dX8_wouldPut_97 : decode cX8_wouldPut 97 = .ok (.iload 9, 2) := by decide +kernel
theorem dX8_wouldPut_99 : decode cX8_wouldPut 99 = .ok (.ireturn, 1) := by decide +kernel
set_option maxRecDepth 20000 in
theorem ggX8_ifPut_X8_isPoint : GoodIn wsX8_ifPut wsX8_isPoint := goodIn_r _ [6, 7, 8, 9, 5, 10, 11, 64, 65, 66, 67, 68, 69, 70, 71, 72, 73, 74, 75] (by decide +kernel) (by decide +kernel)
set_option maxRecDepth 20000 in
theorem gX8_ifPut_X8_isPoint : GoodIn wsX8_ifPut (wsV RX8 78 RX8 yX8_isPoint wsX8_isPoint) := goodIn_app (goodIn_of _ (by decide +kernel)) ggX8_ifPut_X8_isPoint
set_option maxRecDepth 20000 in
theorem ggX8_ifPut_X8_isNumber : GoodIn wsX8_ifPut wsX8_isNumber := goodIn_r _ [14, 15, 16, 5, 17] (by decide +kernel) (by decide +kernel)
set_option maxRecDepth 20000 in
theorem gX8_ifPut_X8_isNumber : GoodIn wsX8_ifPut (va_wsS RX8 81 yX8_isNumber wsX8_isNumber) := goodIn_app (goodIn_of _ (by decide +kernel)) ggX8_ifPut_X8_isNumber
set_option maxRecDepth 20000 in
theorem ggX8_ifPut_X8_in : GoodIn wsX8_ifPut wsX8_in := goodIn_r _ [17] (by decide +kernel) (by decide +kernel)
set_option maxRecDepth 20000 in
theorem gX8_ifPut_X8_in : GoodIn wsX8_ifPut (va_wsS RX8 33 yX8_in wsX8_in) := goodIn_app (goodIn_of _ (by decide +kernel)) ggX8_ifPut_X8_in
set_option maxRecDepth 20000 in
theorem ggX8_ifPut_X8_wouldPut : GoodIn wsX8_ifPut wsX8_wouldPut := goodIn_r _ [21, 11, 22, 23, 5, 24, 25, 26, 27, 28, 29, 30, 31, 32, 33, 34, 35, 36, 37, 38, 39, 40, 41, 42, 43, 44, 45, 46, 47, 48, 49, 50, 51, 52, 53, 54, 55, 56, 57, 58, 59, 60, 61, 62, 63, 64, 65, 66, 67, 68, 69, 70, 71, 72, 73, 74, 75] (by decide +kernel) (by decide +kernel)
set_option maxRecDepth 20000 in
theorem gX8_ifPut_X8_wouldPut : GoodIn wsX8_ifPut (wsV RX8 177 RX8 yX8_wouldPut wsX8_wouldPut) := goodIn_app (goodIn_of _ (by decide +kernel)) ggX8_ifPut_X8_wouldPut
theorem dX8_ifPut_0 : decode cX8_ifPut 0 = .ok (.aload_n 0, 1) := by decide +kernel
theorem dX8_ifPut_1 : decode cX8_ifPut 1 = .ok (.aload_n 0, 1) := by decide +kernel
theorem dX8_ifPut_2 : decode cX8_ifPut 2 = .ok (.iload_n 1, 1) := by decide +kernel
theorem dX8_ifPut_3 : decode cX8_ifPut 3 = .ok (.iload_n 2, 1) := by decide +kernel
theorem dX8_ifPut_4 : decode cX8_ifPut 4 = .ok (.iload_n 3, 1) := by decide +kernel
theorem dX8_ifPut_5 : decode cX8_ifPut 5 = .ok (.invokevirtual 78, 3) := by decide +kernel
theorem dX8_ifPut_8 : decode cX8_ifPut 8 = .ok (.ifCond .ne 7, 3) := by decide +kernel
theorem dX8_ifPut_11 : decode cX8_ifPut 11 = .ok (.iconst 1, 1) := by decide +kernel
theorem dX8_ifPut_12 : decode cX8_ifPut 12 = .ok (.goto 26, 3) := by decide +kernel
theorem dX8_ifPut_15 : decode cX8_ifPut 15 = .ok (.iload 4, 2) := by decide +kernel
theorem dX8_ifPut_17 : decode cX8_ifPut 17 = .ok (.invokestatic 81, 3) := by decide +kernel
theorem dX8_ifPut_20 : decode cX8_ifPut 20 = .ok (.ifCond .eq 17, 3) := by decide +kernel
theorem dX8_ifPut_23 : decode cX8_ifPut 23 = .ok (.iload 5, 2) := by decide +kernel
theorem dX8_ifPut_25 : decode cX8_ifPut 25 = .ok (.iconst 0, 1) := by decide +kernel
theorem dX8_ifPut_26 : decode cX8_ifPut 26 = .ok (.iconst 1, 1) := by decide +kernel
theorem dX8_ifPut_27 : decode cX8_ifPut 27 = .ok (.invokestatic 33, 3) := by decide +kernel
theorem dX8_ifPut_30 : decode cX8_ifPut 30 = .ok (.ifCond .eq 7, 3) := by decide +kernel
theorem dX8_ifPut_33 : decode cX8_ifPut 33 = .ok (.iconst 0, 1) := by decide +kernel
theorem dX8_ifPut_34 : decode cX8_ifPut 34 = .ok (.goto 4, 3) := by decide +kernel
theorem dX8_ifPut_37 : decode cX8_ifPut 37 = .ok (.iconst 2, 1) := by decide +kernel
theorem dX8_ifPut_38 : decode cX8_ifPut 38 = .ok (.putfield 25, 3) := by decide +kernel
theorem dX8_ifPut_41 : decode cX8_ifPut 41 = .ok (.aload_n 0, 1) := by decide +kernel
theorem dX8_ifPut_42 : decode cX8_ifPut 42 = .ok (.getfield 25, 3) := by decide +kernel
theorem dX8_ifPut_45 : decode cX8_ifPut 45 = .ok (.ifCond .le 7, 3) := by decide +kernel
theorem dX8_ifPut_48 : decode cX8_ifPut 48 = .ok (.iconst 0, 1) := by decide +kernel
theorem dX8_ifPut_49 : decode cX8_ifPut 49 = .ok (.goto 14, 3) := by decide +kernel
theorem dX8_ifPut_52 : decode cX8_ifPut 52 = .ok (.aload_n 0, 1) := by decide +kernel
theorem dX8_ifPut_53 : decode cX8_ifPut 53 = .ok (.iload_n 1, 1) := by decide +kernel
theorem dX8_ifPut_54 : decode cX8_ifPut 54 = .ok (.iload_n 2, 1) := by decide +kernel
theorem dX8_ifPut_55 : decode cX8_ifPut 55 = .ok (.iload_n 3, 1) := by decide +kernel
theorem dX8_ifPut_56 : decode cX8_ifPut 56 = .ok (.iload 4, 2) := by decide +kernel
theorem dX8_ifPut_58 : decode cX8_ifPut 58 = .ok (.iload 5, 2) := by decide +kernel
theorem dX8_ifPut_60 : decode cX8_ifPut 60 = .ok (.invokevirtual 177, 3) := by decide +kernel
theorem dX8_ifPut_63 : decode cX8_ifPut 63 = .ok (.ireturn, 1) := by decide +kernel
set_option maxRecDepth 20000 in
theorem ggX8_bestOf_X8_roomBy : GoodIn wsX8_bestOf wsX8_roomBy := goodIn_r _ [6, 1, 7, 8, 9, 5, 10, 11, 12, 13, 14, 15, 16, 17, 18, 19, 20, 21, 22, 23, 24, 25, 26, 27, 28, 29, 30, 31, 32, 33, 34, 35, 36, 37, 38, 39, 40, 41, 42, 43, 44, 45, 46, 47, 48, 49, 50, 51, 52] (by decide +kernel) (by decide +kernel)
set_option maxRecDepth 20000 in
theorem gX8_bestOf_X8_roomBy : GoodIn wsX8_bestOf (wsV RX8 71 RX8 yX8_roomBy wsX8_roomBy) := goodIn_app (goodIn_of _ (by decide +kernel)) ggX8_bestOf_X8_roomBy
theorem dX8_bestOf_0 : decode cX8_bestOf 0 = .ok (.aload_n 0, 1) := by decide +kernel
theorem dX8_bestOf_1 : decode cX8_bestOf 1 = .ok (.getfield 7, 3) := by decide +kernel
theorem dX8_bestOf_4 : decode cX8_bestOf 4 = .ok (.iconst 2, 1) := by decide +kernel
theorem dX8_bestOf_5 : decode cX8_bestOf 5 = .ok (.iaload, 1) := by decide +kernel
theorem dX8_bestOf_6 : decode cX8_bestOf 6 = .ok (.istore_n 2, 1) := by decide +kernel
theorem dX8_bestOf_7 : decode cX8_bestOf 7 = .ok (.iconst (-1), 1) := by decide +kernel
theorem dX8_bestOf_8 : decode cX8_bestOf 8 = .ok (.istore_n 3, 1) := by decide +kernel
theorem dX8_bestOf_9 : decode cX8_bestOf 9 = .ok (.iconst (-1), 1) := by decide +kernel
theorem dX8_bestOf_10 : decode cX8_bestOf 10 = .ok (.istore 4, 2) := by decide +kernel
theorem dX8_bestOf_12 : decode cX8_bestOf 12 = .ok (.iconst (-1), 1) := by decide +kernel
theorem dX8_bestOf_13 : decode cX8_bestOf 13 = .ok (.istore 5, 2) := by decide +kernel
theorem dX8_bestOf_15 : decode cX8_bestOf 15 = .ok (.iconst 0, 1) := by decide +kernel
theorem dX8_bestOf_16 : decode cX8_bestOf 16 = .ok (.istore 6, 2) := by decide +kernel
theorem dX8_bestOf_18 : decode cX8_bestOf 18 = .ok (.iload 6, 2) := by decide +kernel
theorem dX8_bestOf_20 : decode cX8_bestOf 20 = .ok (.iconst 3, 1) := by decide +kernel
theorem dX8_bestOf_21 : decode cX8_bestOf 21 = .ok (.if_icmp .ge 101, 3) := by decide +kernel
theorem dX8_bestOf_24 : decode cX8_bestOf 24 = .ok (.iconst 1, 1) := by decide +kernel
theorem dX8_bestOf_25 : decode cX8_bestOf 25 = .ok (.istore 7, 2) := by decide +kernel
theorem dX8_bestOf_27 : decode cX8_bestOf 27 = .ok (.iload 7, 2) := by decide +kernel
theorem dX8_bestOf_29 : decode cX8_bestOf 29 = .ok (.bipush 64, 2) := by decide +kernel
theorem dX8_bestOf_31 : decode cX8_bestOf 31 = .ok (.if_icmp .gt 85, 3) := by decide +kernel
theorem dX8_bestOf_34 : decode cX8_bestOf 34 = .ok (.aload_n 0, 1) := by decide +kernel
theorem dX8_bestOf_35 : decode cX8_bestOf 35 = .ok (.getfield 7, 3) := by decide +kernel
theorem dX8_bestOf_38 : decode cX8_bestOf 38 = .ok (.iconst 2, 1) := by decide +kernel
theorem dX8_bestOf_39 : decode cX8_bestOf 39 = .ok (.iload 7, 2) := by decide +kernel
theorem dX8_bestOf_41 : decode cX8_bestOf 41 = .ok (.iastore, 1) := by decide +kernel
theorem dX8_bestOf_42 : decode cX8_bestOf 42 = .ok (.aload_n 0, 1) := by decide +kernel
theorem dX8_bestOf_43 : decode cX8_bestOf 43 = .ok (.iload 6, 2) := by decide +kernel
theorem dX8_bestOf_45 : decode cX8_bestOf 45 = .ok (.invokevirtual 71, 3) := by decide +kernel
theorem dX8_bestOf_48 : decode cX8_bestOf 48 = .ok (.istore 8, 2) := by decide +kernel
theorem dX8_bestOf_50 : decode cX8_bestOf 50 = .ok (.iload 5, 2) := by decide +kernel
theorem dX8_bestOf_52 : decode cX8_bestOf 52 = .ok (.iconst (-1), 1) := by decide +kernel
theorem dX8_bestOf_53 : decode cX8_bestOf 53 = .ok (.if_icmp .eq 10, 3) := by decide +kernel
theorem dX8_bestOf_56 : decode cX8_bestOf 56 = .ok (.iload 8, 2) := by decide +kernel
theorem dX8_bestOf_58 : decode cX8_bestOf 58 = .ok (.iload 5, 2) := by decide +kernel
theorem dX8_bestOf_60 : decode cX8_bestOf 60 = .ok (.if_icmp .ge 7, 3) := by decide +kernel
theorem dX8_bestOf_63 : decode cX8_bestOf 63 = .ok (.iconst 1, 1) := by decide +kernel
theorem dX8_bestOf_64 : decode cX8_bestOf 64 = .ok (.goto 4, 3) := by decide +kernel
theorem dX8_bestOf_67 : decode cX8_bestOf 67 = .ok (.iconst 0, 1) := by decide +kernel
theorem dX8_bestOf_68 : decode cX8_bestOf 68 = .ok (.istore 9, 2) := by decide +kernel
theorem dX8_bestOf_70 : decode cX8_bestOf 70 = .ok (.iload 9, 2) := by decide +kernel
theorem dX8_bestOf_72 : decode cX8_bestOf 72 = .ok (.ifCond .eq 8, 3) := by decide +kernel
theorem dX8_bestOf_75 : decode cX8_bestOf 75 = .ok (.iload 6, 2) := by decide +kernel
theorem dX8_bestOf_77 : decode cX8_bestOf 77 = .ok (.goto 4, 3) := by decide +kernel
theorem dX8_bestOf_80 : decode cX8_bestOf 80 = .ok (.iload_n 3, 1) := by decide +kernel
theorem dX8_bestOf_81 : decode cX8_bestOf 81 = .ok (.istore_n 3, 1) := by decide +kernel
theorem dX8_bestOf_82 : decode cX8_bestOf 82 = .ok (.iload 9, 2) := by decide +kernel
theorem dX8_bestOf_84 : decode cX8_bestOf 84 = .ok (.ifCond .eq 8, 3) := by decide +kernel
theorem dX8_bestOf_87 : decode cX8_bestOf 87 = .ok (.iload 7, 2) := by decide +kernel
theorem dX8_bestOf_89 : decode cX8_bestOf 89 = .ok (.goto 5, 3) := by decide +kernel
theorem dX8_bestOf_92 : decode cX8_bestOf 92 = .ok (.iload 4, 2) := by decide +kernel
theorem dX8_bestOf_94 : decode cX8_bestOf 94 = .ok (.istore 4, 2) := by decide +kernel
theorem dX8_bestOf_96 : decode cX8_bestOf 96 = .ok (.iload 9, 2) := by decide +kernel
theorem dX8_bestOf_98 : decode cX8_bestOf 98 = .ok (.ifCond .eq 8, 3) := by decide +kernel
theorem dX8_bestOf_101 : decode cX8_bestOf 101 = .ok (.iload 8, 2) := by decide +kernel
theorem dX8_bestOf_103 : decode cX8_bestOf 103 = .ok (.goto 5, 3) := by decide +kernel
theorem dX8_bestOf_106 : decode cX8_bestOf 106 = .ok (.iload 5, 2) := by decide +kernel
theorem dX8_bestOf_108 : decode cX8_bestOf 108 = .ok (.istore 5, 2) := by decide +kernel
theorem dX8_bestOf_110 : decode cX8_bestOf 110 = .ok (.iinc 7 1, 3) := by decide +kernel
theorem dX8_bestOf_113 : decode cX8_bestOf 113 = .ok (.goto (-86), 3) := by decide +kernel
theorem dX8_bestOf_116 : decode cX8_bestOf 116 = .ok (.iinc 6 1, 3) := by decide +kernel
theorem dX8_bestOf_119 : decode cX8_bestOf 119 = .ok (.goto (-101), 3) := by decide +kernel
theorem dX8_bestOf_122 : decode cX8_bestOf 122 = .ok (.aload_n 0, 1) := by decide +kernel
theorem dX8_bestOf_123 : decode cX8_bestOf 123 = .ok (.getfield 7, 3) := by decide +kernel
theorem dX8_bestOf_126 : decode cX8_bestOf 126 = .ok (.iconst 2, 1) := by decide +kernel
theorem dX8_bestOf_127 : decode cX8_bestOf 127 = .ok (.iload_n 2, 1) := by decide +kernel
theorem dX8_bestOf_128 : decode cX8_bestOf 128 = .ok (.iastore, 1) := by decide +kernel
theorem dX8_bestOf_129 : decode cX8_bestOf 129 = .ok (.iload_n 1, 1) := by decide +kernel
theorem dX8_bestOf_130 : decode cX8_bestOf 130 = .ok (.ifCond .ne 7, 3) := by decide +kernel
theorem dX8_bestOf_133 : decode cX8_bestOf 133 = .ok (.iload_n 3, 1) := by decide +kernel
theorem dX8_bestOf_134 : decode cX8_bestOf 134 = .ok (.goto 15, 3) := by decide +kernel
theorem dX8_bestOf_137 : decode cX8_bestOf 137 = .ok (.iload_n 1, 1) := by decide +kernel
theorem dX8_bestOf_138 : decode cX8_bestOf 138 = .ok (.iconst 1, 1) := by decide +kernel
theorem dX8_bestOf_139 : decode cX8_bestOf 139 = .ok (.if_icmp .ne 8, 3) := by decide +kernel
theorem dX8_bestOf_142 : decode cX8_bestOf 142 = .ok (.iload 4, 2) := by decide +kernel
theorem dX8_bestOf_144 : decode cX8_bestOf 144 = .ok (.goto 5, 3) := by decide +kernel
theorem dX8_bestOf_147 : decode cX8_bestOf 147 = .ok (.iload 5, 2) := by decide +kernel
theorem dX8_bestOf_149 : decode cX8_bestOf 149 = .ok (.ireturn, 1) := by decide +kernel
set_option maxRecDepth 20000 in
theorem ggX8_best_X8_in : GoodIn wsX8_best wsX8_in := goodIn_r _ [5] (by decide +kernel) (by decide +kernel)
set_option maxRecDepth 20000 in
theorem gX8_best_X8_in : GoodIn wsX8_best (va_wsS RX8 33 yX8_in wsX8_in) := goodIn_app (goodIn_of _ (by decide +kernel)) ggX8_best_X8_in
set_option maxRecDepth 20000 in
theorem ggX8_best_X8_bestOf : GoodIn wsX8_best wsX8_bestOf := goodIn_r _ [9, 10, 11, 12, 13, 4, 14, 15, 16, 17, 18, 19, 20, 21, 22, 23, 24, 25, 26, 27, 28, 29, 30, 31, 32, 33, 34, 35, 36, 37, 38, 39, 40, 41, 42, 43, 44, 45, 46, 47, 48, 49, 50, 51, 52, 53, 54, 55, 56, 57, 58, 59, 60] (by decide +kernel) (by decide +kernel)
set_option maxRecDepth 20000 in
theorem gX8_best_X8_bestOf : GoodIn wsX8_best (wsV RX8 181 RX8 yX8_bestOf wsX8_bestOf) := goodIn_app (goodIn_of _ (by decide +kernel)) ggX8_best_X8_bestOf
theorem dX8_best_0 : decode cX8_best 0 = .ok (.aload_n 0, 1) := by decide +kernel
theorem dX8_best_1 : decode cX8_best 1 = .ok (.iload_n 1, 1) := by decide +kernel
theorem dX8_best_2 : decode cX8_best 2 = .ok (.iconst 0, 1) := by decide +kernel
theorem dX8_best_3 : decode cX8_best 3 = .ok (.iconst 2, 1) := by decide +kernel
theorem dX8_best_4 : decode cX8_best 4 = .ok (.invokestatic 33, 3) := by decide +kernel
theorem dX8_best_7 : decode cX8_best 7 = .ok (.ifCond .eq 7, 3) := by decide +kernel
theorem dX8_best_10 : decode cX8_best 10 = .ok (.iconst 0, 1) := by decide +kernel
theorem dX8_best_11 : decode cX8_best 11 = .ok (.goto 4, 3) := by decide +kernel
theorem dX8_best_14 : decode cX8_best 14 = .ok (.iconst 1, 1) := by decide +kernel
theorem dX8_best_15 : decode cX8_best 15 = .ok (.putfield 25, 3) := by decide +kernel
theorem dX8_best_18 : decode cX8_best 18 = .ok (.aload_n 0, 1) := by decide +kernel
theorem dX8_best_19 : decode cX8_best 19 = .ok (.getfield 25, 3) := by decide +kernel
theorem dX8_best_22 : decode cX8_best 22 = .ok (.ifCond .le 7, 3) := by decide +kernel
theorem dX8_best_25 : decode cX8_best 25 = .ok (.iconst 0, 1) := by decide +kernel
theorem dX8_best_26 : decode cX8_best 26 = .ok (.goto 8, 3) := by decide +kernel
theorem dX8_best_29 : decode cX8_best 29 = .ok (.aload_n 0, 1) := by decide +kernel
theorem dX8_best_30 : decode cX8_best 30 = .ok (.iload_n 1, 1) := by decide +kernel
theorem dX8_best_31 : decode cX8_best 31 = .ok (.invokevirtual 181, 3) := by decide +kernel
theorem dX8_best_34 : decode cX8_best 34 = .ok (.ireturn, 1) := by decide +kernel
set_option maxRecDepth 20000 in
theorem ggX8_heaviestOf_X8_offsets : GoodIn wsX8_heaviestOf wsX8_offsets := goodIn_r _ [6, 1, 21, 22, 23, 24, 25, 26, 27, 28, 29, 30, 31, 32] (by decide +kernel) (by decide +kernel)
set_option maxRecDepth 20000 in
theorem gX8_heaviestOf_X8_offsets : GoodIn wsX8_heaviestOf (wsV RX8 51 RX8 yX8_offsets wsX8_offsets) := goodIn_app (goodIn_of _ (by decide +kernel)) ggX8_heaviestOf_X8_offsets
set_option maxRecDepth 20000 in
theorem ggX8_heaviestOf_X8_lineSum : GoodIn wsX8_heaviestOf wsX8_lineSum := goodIn_r _ [10, 1, 11, 12, 13, 5, 14, 15, 16, 17, 18, 19, 20, 21, 22, 23, 24, 25, 26, 27, 28, 29, 30, 31, 32] (by decide +kernel) (by decide +kernel)
set_option maxRecDepth 20000 in
theorem gX8_heaviestOf_X8_lineSum : GoodIn wsX8_heaviestOf (wsV RX8 137 RX8 yX8_lineSum wsX8_lineSum) := goodIn_app (goodIn_of _ (by decide +kernel)) ggX8_heaviestOf_X8_lineSum
theorem dX8_heaviestOf_0 : decode cX8_heaviestOf 0 = .ok (.iconst 0, 1) := by decide +kernel
theorem dX8_heaviestOf_1 : decode cX8_heaviestOf 1 = .ok (.istore_n 2, 1) := by decide +kernel
theorem dX8_heaviestOf_2 : decode cX8_heaviestOf 2 = .ok (.iconst 0, 1) := by decide +kernel
theorem dX8_heaviestOf_3 : decode cX8_heaviestOf 3 = .ok (.istore_n 3, 1) := by decide +kernel
theorem dX8_heaviestOf_4 : decode cX8_heaviestOf 4 = .ok (.iconst 0, 1) := by decide +kernel
theorem dX8_heaviestOf_5 : decode cX8_heaviestOf 5 = .ok (.istore 4, 2) := by decide +kernel
theorem dX8_heaviestOf_7 : decode cX8_heaviestOf 7 = .ok (.iload 4, 2) := by decide +kernel
theorem dX8_heaviestOf_9 : decode cX8_heaviestOf 9 = .ok (.iconst 3, 1) := by decide +kernel
theorem dX8_heaviestOf_10 : decode cX8_heaviestOf 10 = .ok (.aload_n 0, 1) := by decide +kernel
theorem dX8_heaviestOf_11 : decode cX8_heaviestOf 11 = .ok (.invokevirtual 51, 3) := by decide +kernel
theorem dX8_heaviestOf_14 : decode cX8_heaviestOf 14 = .ok (.imul, 1) := by decide +kernel
theorem dX8_heaviestOf_15 : decode cX8_heaviestOf 15 = .ok (.if_icmp .ge 87, 3) := by decide +kernel
theorem dX8_heaviestOf_18 : decode cX8_heaviestOf 18 = .ok (.aload_n 0, 1) := by decide +kernel
theorem dX8_heaviestOf_19 : decode cX8_heaviestOf 19 = .ok (.iload 4, 2) := by decide +kernel
theorem dX8_heaviestOf_21 : decode cX8_heaviestOf 21 = .ok (.aload_n 0, 1) := by decide +kernel
theorem dX8_heaviestOf_22 : decode cX8_heaviestOf 22 = .ok (.invokevirtual 51, 3) := by decide +kernel
theorem dX8_heaviestOf_25 : decode cX8_heaviestOf 25 = .ok (.idiv, 1) := by decide +kernel
theorem dX8_heaviestOf_26 : decode cX8_heaviestOf 26 = .ok (.iload 4, 2) := by decide +kernel
theorem dX8_heaviestOf_28 : decode cX8_heaviestOf 28 = .ok (.aload_n 0, 1) := by decide +kernel
theorem dX8_heaviestOf_29 : decode cX8_heaviestOf 29 = .ok (.invokevirtual 51, 3) := by decide +kernel
theorem dX8_heaviestOf_32 : decode cX8_heaviestOf 32 = .ok (.irem, 1) := by decide +kernel
theorem dX8_heaviestOf_33 : decode cX8_heaviestOf 33 = .ok (.aload_n 0, 1) := by decide +kernel
theorem dX8_heaviestOf_34 : decode cX8_heaviestOf 34 = .ok (.getfield 7, 3) := by decide +kernel
theorem dX8_heaviestOf_37 : decode cX8_heaviestOf 37 = .ok (.iconst 0, 1) := by decide +kernel
theorem dX8_heaviestOf_38 : decode cX8_heaviestOf 38 = .ok (.iaload, 1) := by decide +kernel
theorem dX8_heaviestOf_39 : decode cX8_heaviestOf 39 = .ok (.idiv, 1) := by decide +kernel
theorem dX8_heaviestOf_40 : decode cX8_heaviestOf 40 = .ok (.iload 4, 2) := by decide +kernel
theorem dX8_heaviestOf_42 : decode cX8_heaviestOf 42 = .ok (.aload_n 0, 1) := by decide +kernel
theorem dX8_heaviestOf_43 : decode cX8_heaviestOf 43 = .ok (.getfield 7, 3) := by decide +kernel
theorem dX8_heaviestOf_46 : decode cX8_heaviestOf 46 = .ok (.iconst 0, 1) := by decide +kernel
theorem dX8_heaviestOf_47 : decode cX8_heaviestOf 47 = .ok (.iaload, 1) := by decide +kernel
theorem dX8_heaviestOf_48 : decode cX8_heaviestOf 48 = .ok (.irem, 1) := by decide +kernel
theorem dX8_heaviestOf_49 : decode cX8_heaviestOf 49 = .ok (.invokevirtual 137, 3) := by decide +kernel
theorem dX8_heaviestOf_52 : decode cX8_heaviestOf 52 = .ok (.istore 5, 2) := by decide +kernel
theorem dX8_heaviestOf_54 : decode cX8_heaviestOf 54 = .ok (.iload 4, 2) := by decide +kernel
theorem dX8_heaviestOf_56 : decode cX8_heaviestOf 56 = .ok (.ifCond .eq 9, 3) := by decide +kernel
theorem dX8_heaviestOf_59 : decode cX8_heaviestOf 59 = .ok (.iload 5, 2) := by decide +kernel
theorem dX8_heaviestOf_61 : decode cX8_heaviestOf 61 = .ok (.iload_n 3, 1) := by decide +kernel
theorem dX8_heaviestOf_62 : decode cX8_heaviestOf 62 = .ok (.if_icmp .le 7, 3) := by decide +kernel
theorem dX8_heaviestOf_65 : decode cX8_heaviestOf 65 = .ok (.iconst 1, 1) := by decide +kernel
theorem dX8_heaviestOf_66 : decode cX8_heaviestOf 66 = .ok (.goto 4, 3) := by decide +kernel
theorem dX8_heaviestOf_69 : decode cX8_heaviestOf 69 = .ok (.iconst 0, 1) := by decide +kernel
theorem dX8_heaviestOf_70 : decode cX8_heaviestOf 70 = .ok (.istore 6, 2) := by decide +kernel
theorem dX8_heaviestOf_72 : decode cX8_heaviestOf 72 = .ok (.iload 6, 2) := by decide +kernel
theorem dX8_heaviestOf_74 : decode cX8_heaviestOf 74 = .ok (.ifCond .eq 8, 3) := by decide +kernel
theorem dX8_heaviestOf_77 : decode cX8_heaviestOf 77 = .ok (.iload 4, 2) := by decide +kernel
theorem dX8_heaviestOf_79 : decode cX8_heaviestOf 79 = .ok (.goto 4, 3) := by decide +kernel
theorem dX8_heaviestOf_82 : decode cX8_heaviestOf 82 = .ok (.iload_n 2, 1) := by decide +kernel
theorem dX8_heaviestOf_83 : decode cX8_heaviestOf 83 = .ok (.istore_n 2, 1) := by decide +kernel
theorem dX8_heaviestOf_84 : decode cX8_heaviestOf 84 = .ok (.iload 6, 2) := by decide +kernel
theorem dX8_heaviestOf_86 : decode cX8_heaviestOf 86 = .ok (.ifCond .eq 8, 3) := by decide +kernel
theorem dX8_heaviestOf_89 : decode cX8_heaviestOf 89 = .ok (.iload 5, 2) := by decide +kernel
theorem dX8_heaviestOf_91 : decode cX8_heaviestOf 91 = .ok (.goto 4, 3) := by decide +kernel
theorem dX8_heaviestOf_94 : decode cX8_heaviestOf 94 = .ok (.iload_n 3, 1) := by decide +kernel
theorem dX8_heaviestOf_95 : decode cX8_heaviestOf 95 = .ok (.istore_n 3, 1) := by decide +kernel
theorem dX8_heaviestOf_96 : decode cX8_heaviestOf 96 = .ok (.iinc 4 1, 3) := by decide +kernel
theorem dX8_heaviestOf_99 : decode cX8_heaviestOf 99 = .ok (.goto (-92), 3) := by decide +kernel
theorem dX8_heaviestOf_102 : decode cX8_heaviestOf 102 = .ok (.iload_n 1, 1) := by decide +kernel
theorem dX8_heaviestOf_103 : decode cX8_heaviestOf 103 = .ok (.ifCond .ne 12, 3) := by decide +kernel
theorem dX8_heaviestOf_106 : decode cX8_heaviestOf 106 = .ok (.iload_n 2, 1) := by decide +kernel
theorem dX8_heaviestOf_107 : decode cX8_heaviestOf 107 = .ok (.aload_n 0, 1) := by decide +kernel
theorem dX8_heaviestOf_108 : decode cX8_heaviestOf 108 = .ok (.invokevirtual 51, 3) := by decide +kernel
theorem dX8_heaviestOf_111 : decode cX8_heaviestOf 111 = .ok (.idiv, 1) := by decide +kernel
theorem dX8_heaviestOf_112 : decode cX8_heaviestOf 112 = .ok (.goto 45, 3) := by decide +kernel
theorem dX8_heaviestOf_115 : decode cX8_heaviestOf 115 = .ok (.iload_n 1, 1) := by decide +kernel
theorem dX8_heaviestOf_116 : decode cX8_heaviestOf 116 = .ok (.iconst 1, 1) := by decide +kernel
theorem dX8_heaviestOf_117 : decode cX8_heaviestOf 117 = .ok (.if_icmp .ne 19, 3) := by decide +kernel
theorem dX8_heaviestOf_120 : decode cX8_heaviestOf 120 = .ok (.iload_n 2, 1) := by decide +kernel
theorem dX8_heaviestOf_121 : decode cX8_heaviestOf 121 = .ok (.aload_n 0, 1) := by decide +kernel
theorem dX8_heaviestOf_122 : decode cX8_heaviestOf 122 = .ok (.invokevirtual 51, 3) := by decide +kernel
theorem dX8_heaviestOf_125 : decode cX8_heaviestOf 125 = .ok (.irem, 1) := by decide +kernel
theorem dX8_heaviestOf_126 : decode cX8_heaviestOf 126 = .ok (.aload_n 0, 1) := by decide +kernel
theorem dX8_heaviestOf_127 : decode cX8_heaviestOf 127 = .ok (.getfield 7, 3) := by decide +kernel
theorem dX8_heaviestOf_130 : decode cX8_heaviestOf 130 = .ok (.iconst 0, 1) := by decide +kernel
theorem dX8_heaviestOf_131 : decode cX8_heaviestOf 131 = .ok (.iaload, 1) := by decide +kernel
theorem dX8_heaviestOf_132 : decode cX8_heaviestOf 132 = .ok (.idiv, 1) := by decide +kernel
theorem dX8_heaviestOf_133 : decode cX8_heaviestOf 133 = .ok (.goto 24, 3) := by decide +kernel
theorem dX8_heaviestOf_136 : decode cX8_heaviestOf 136 = .ok (.iload_n 1, 1) := by decide +kernel
theorem dX8_heaviestOf_137 : decode cX8_heaviestOf 137 = .ok (.iconst 2, 1) := by decide +kernel
theorem dX8_heaviestOf_138 : decode cX8_heaviestOf 138 = .ok (.if_icmp .ne 14, 3) := by decide +kernel
theorem dX8_heaviestOf_141 : decode cX8_heaviestOf 141 = .ok (.iload_n 2, 1) := by decide +kernel
theorem dX8_heaviestOf_142 : decode cX8_heaviestOf 142 = .ok (.aload_n 0, 1) := by decide +kernel
theorem dX8_heaviestOf_143 : decode cX8_heaviestOf 143 = .ok (.getfield 7, 3) := by decide +kernel
theorem dX8_heaviestOf_146 : decode cX8_heaviestOf 146 = .ok (.iconst 0, 1) := by decide +kernel
theorem dX8_heaviestOf_147 : decode cX8_heaviestOf 147 = .ok (.iaload, 1) := by decide +kernel
theorem dX8_heaviestOf_148 : decode cX8_heaviestOf 148 = .ok (.irem, 1) := by decide +kernel
theorem dX8_heaviestOf_149 : decode cX8_heaviestOf 149 = .ok (.goto 8, 3) := by decide +kernel
theorem dX8_heaviestOf_152 : decode cX8_heaviestOf 152 = .ok (.iload_n 3, 1) := by decide +kernel
theorem dX8_heaviestOf_153 : decode cX8_heaviestOf 153 = .ok (.sipush 10000, 3) := by decide +kernel
theorem dX8_heaviestOf_156 : decode cX8_heaviestOf 156 = .ok (.iadd, 1) := by decide +kernel
theorem dX8_heaviestOf_157 : decode cX8_heaviestOf 157 = .ok (.ireturn, 1) := by decide +kernel
set_option maxRecDepth 20000 in
theorem ggX8_heaviest_X8_in : GoodIn wsX8_heaviest wsX8_in := goodIn_r _ [5] (by decide +kernel) (by decide +kernel)
set_option maxRecDepth 20000 in
theorem gX8_heaviest_X8_in : GoodIn wsX8_heaviest (va_wsS RX8 33 yX8_in wsX8_in) := goodIn_app (goodIn_of _ (by decide +kernel)) ggX8_heaviest_X8_in
set_option maxRecDepth 20000 in
theorem ggX8_heaviest_X8_heaviestOf : GoodIn wsX8_heaviest wsX8_heaviestOf := goodIn_r _ [9, 10, 11, 12, 13, 4, 14, 15, 16, 17, 18, 19, 20, 21, 22, 23, 24, 25, 26, 27, 28, 29, 30, 31, 32, 33, 34, 35, 36, 37, 38, 39, 40] (by decide +kernel) (by decide +kernel)
set_option maxRecDepth 20000 in
theorem gX8_heaviest_X8_heaviestOf : GoodIn wsX8_heaviest (wsV RX8 184 RX8 yX8_heaviestOf wsX8_heaviestOf) := goodIn_app (goodIn_of _ (by decide +kernel)) ggX8_heaviest_X8_heaviestOf
theorem dX8_heaviest_0 : decode cX8_heaviest 0 = .ok (.aload_n 0, 1) := by decide +kernel
theorem dX8_heaviest_1 : decode cX8_heaviest 1 = .ok (.iload_n 1, 1) := by decide +kernel
theorem dX8_heaviest_2 : decode cX8_heaviest 2 = .ok (.iconst 0, 1) := by decide +kernel
theorem dX8_heaviest_3 : decode cX8_heaviest 3 = .ok (.iconst 3, 1) := by decide +kernel
theorem dX8_heaviest_4 : decode cX8_heaviest 4 = .ok (.invokestatic 33, 3) := by decide +kernel
theorem dX8_heaviest_7 : decode cX8_heaviest 7 = .ok (.ifCond .eq 7, 3) := by decide +kernel
theorem dX8_heaviest_10 : decode cX8_heaviest 10 = .ok (.iconst 0, 1) := by decide +kernel
theorem dX8_heaviest_11 : decode cX8_heaviest 11 = .ok (.goto 4, 3) := by decide +kernel
theorem dX8_heaviest_14 : decode cX8_heaviest 14 = .ok (.iconst 1, 1) := by decide +kernel
theorem dX8_heaviest_15 : decode cX8_heaviest 15 = .ok (.putfield 25, 3) := by decide +kernel
theorem dX8_heaviest_18 : decode cX8_heaviest 18 = .ok (.aload_n 0, 1) := by decide +kernel
theorem dX8_heaviest_19 : decode cX8_heaviest 19 = .ok (.getfield 25, 3) := by decide +kernel
theorem dX8_heaviest_22 : decode cX8_heaviest 22 = .ok (.ifCond .le 7, 3) := by decide +kernel
theorem dX8_heaviest_25 : decode cX8_heaviest 25 = .ok (.iconst 0, 1) := by decide +kernel
theorem dX8_heaviest_26 : decode cX8_heaviest 26 = .ok (.goto 8, 3) := by decide +kernel
theorem dX8_heaviest_29 : decode cX8_heaviest 29 = .ok (.aload_n 0, 1) := by decide +kernel
theorem dX8_heaviest_30 : decode cX8_heaviest 30 = .ok (.iload_n 1, 1) := by decide +kernel
theorem dX8_heaviest_31 : decode cX8_heaviest 31 = .ok (.invokevirtual 184, 3) := by decide +kernel
theorem dX8_heaviest_34 : decode cX8_heaviest 34 = .ok (.ireturn, 1) := by decide +kernel
set_option maxRecDepth 20000 in
theorem ggX8_share_X8_room : GoodIn wsX8_share wsX8_room := goodIn_r _ [6, 1, 7, 8, 9, 5, 10, 11, 12, 13, 14, 15, 16, 17, 18, 19, 20, 21, 22, 23, 24, 25, 26, 27, 28, 29, 30, 31, 32, 33, 34, 35, 36, 37, 38, 39, 40, 41, 42, 43, 44, 45, 46, 47, 48, 49, 50, 51, 52, 53, 54, 55, 56] (by decide +kernel) (by decide +kernel)
set_option maxRecDepth 20000 in
theorem gX8_share_X8_room : GoodIn wsX8_share (wsV RX8 97 RX8 yX8_room wsX8_room) := goodIn_app (goodIn_of _ (by decide +kernel)) ggX8_share_X8_room
set_option maxRecDepth 20000 in
theorem ggX8_share_X8_offsets : GoodIn wsX8_share wsX8_offsets := goodIn_r _ [22, 1, 45, 46, 47, 48, 49, 50, 51, 52, 53, 54, 55, 56] (by decide +kernel) (by decide +kernel)
set_option maxRecDepth 20000 in
theorem gX8_share_X8_offsets : GoodIn wsX8_share (wsV RX8 51 RX8 yX8_offsets wsX8_offsets) := goodIn_app (goodIn_of _ (by decide +kernel)) ggX8_share_X8_offsets
theorem dX8_share_0 : decode cX8_share 0 = .ok (.aload_n 0, 1) := by decide +kernel
theorem dX8_share_1 : decode cX8_share 1 = .ok (.invokevirtual 97, 3) := by decide +kernel
theorem dX8_share_4 : decode cX8_share 4 = .ok (.i2d, 1) := by decide +kernel
theorem dX8_share_5 : decode cX8_share 5 = .ok (.aload_n 0, 1) := by decide +kernel
theorem dX8_share_6 : decode cX8_share 6 = .ok (.getfield 7, 3) := by decide +kernel
theorem dX8_share_9 : decode cX8_share 9 = .ok (.iconst 0, 1) := by decide +kernel
theorem dX8_share_10 : decode cX8_share 10 = .ok (.iaload, 1) := by decide +kernel
theorem dX8_share_11 : decode cX8_share 11 = .ok (.iconst 1, 1) := by decide +kernel
theorem dX8_share_12 : decode cX8_share 12 = .ok (.aload_n 0, 1) := by decide +kernel
theorem dX8_share_13 : decode cX8_share 13 = .ok (.invokevirtual 51, 3) := by decide +kernel
theorem dX8_share_16 : decode cX8_share 16 = .ok (.iadd, 1) := by decide +kernel
theorem dX8_share_17 : decode cX8_share 17 = .ok (.imul, 1) := by decide +kernel
theorem dX8_share_18 : decode cX8_share 18 = .ok (.i2d, 1) := by decide +kernel
theorem dX8_share_19 : decode cX8_share 19 = .ok (.ddiv, 1) := by decide +kernel
theorem dX8_share_20 : decode cX8_share 20 = .ok (.dreturn, 1) := by decide +kernel
set_option maxRecDepth 20000 in
theorem ggX8_roomShare_X8_share : GoodIn wsX8_roomShare wsX8_share := goodIn_r _ [6, 7, 8, 9, 10, 5, 11, 12, 13, 14, 15, 16, 17, 18, 19, 20, 21, 22, 23, 24, 25, 26, 27, 28, 29, 30, 31, 32, 33, 34, 35, 36, 37, 38, 39, 40, 41, 42, 43, 44, 45, 46, 47, 48, 49, 50, 51, 52, 53, 54, 55, 56, 57, 58, 59, 60, 61] (by decide +kernel) (by decide +kernel)
set_option maxRecDepth 20000 in
theorem gX8_roomShare_X8_share : GoodIn wsX8_roomShare (wsV RX8 187 RX8 yX8_share wsX8_share) := goodIn_app (goodIn_of _ (by decide +kernel)) ggX8_roomShare_X8_share
theorem dX8_roomShare_0 : decode cX8_roomShare 0 = .ok (.aload_n 0, 1) := by decide +kernel
theorem dX8_roomShare_1 : decode cX8_roomShare 1 = .ok (.iconst 0, 1) := by decide +kernel
theorem dX8_roomShare_2 : decode cX8_roomShare 2 = .ok (.putfield 25, 3) := by decide +kernel
theorem dX8_roomShare_5 : decode cX8_roomShare 5 = .ok (.aload_n 0, 1) := by decide +kernel
theorem dX8_roomShare_6 : decode cX8_roomShare 6 = .ok (.invokevirtual 187, 3) := by decide +kernel
theorem dX8_roomShare_9 : decode cX8_roomShare 9 = .ok (.dreturn, 1) := by decide +kernel
theorem dX8_bitsOf_0 : decode cX8_bitsOf 0 = .ok (.dload_n 0, 1) := by decide +kernel
theorem dX8_bitsOf_1 : decode cX8_bitsOf 1 = .ok (.dconst 0, 1) := by decide +kernel
theorem dX8_bitsOf_2 : decode cX8_bitsOf 2 = .ok (.dcmp .l, 1) := by decide +kernel
theorem dX8_bitsOf_3 : decode cX8_bitsOf 3 = .ok (.ifCond .ne 5, 3) := by decide +kernel
theorem dX8_bitsOf_6 : decode cX8_bitsOf 6 = .ok (.lconst 0, 1) := by decide +kernel
theorem dX8_bitsOf_7 : decode cX8_bitsOf 7 = .ok (.lreturn, 1) := by decide +kernel
theorem dX8_bitsOf_8 : decode cX8_bitsOf 8 = .ok (.dload_n 0, 1) := by decide +kernel
theorem dX8_bitsOf_9 : decode cX8_bitsOf 9 = .ok (.dstore_n 2, 1) := by decide +kernel
theorem dX8_bitsOf_10 : decode cX8_bitsOf 10 = .ok (.ldc2_w 191, 3) := by decide +kernel
theorem dX8_bitsOf_13 : decode cX8_bitsOf 13 = .ok (.lstore 4, 2) := by decide +kernel
theorem dX8_bitsOf_15 : decode cX8_bitsOf 15 = .ok (.dload_n 2, 1) := by decide +kernel
theorem dX8_bitsOf_16 : decode cX8_bitsOf 16 = .ok (.ldc2_w 193, 3) := by decide +kernel
theorem dX8_bitsOf_19 : decode cX8_bitsOf 19 = .ok (.dcmp .l, 1) := by decide +kernel
theorem dX8_bitsOf_20 : decode cX8_bitsOf 20 = .ok (.ifCond .lt 18, 3) := by decide +kernel
theorem dX8_bitsOf_23 : decode cX8_bitsOf 23 = .ok (.dload_n 2, 1) := by decide +kernel
theorem dX8_bitsOf_24 : decode cX8_bitsOf 24 = .ok (.ldc2_w 193, 3) := by decide +kernel
theorem dX8_bitsOf_27 : decode cX8_bitsOf 27 = .ok (.ddiv, 1) := by decide +kernel
theorem dX8_bitsOf_28 : decode cX8_bitsOf 28 = .ok (.dstore_n 2, 1) := by decide +kernel
theorem dX8_bitsOf_29 : decode cX8_bitsOf 29 = .ok (.lload 4, 2) := by decide +kernel
theorem dX8_bitsOf_31 : decode cX8_bitsOf 31 = .ok (.lconst 1, 1) := by decide +kernel
theorem dX8_bitsOf_32 : decode cX8_bitsOf 32 = .ok (.ladd, 1) := by decide +kernel
theorem dX8_bitsOf_33 : decode cX8_bitsOf 33 = .ok (.lstore 4, 2) := by decide +kernel
theorem dX8_bitsOf_35 : decode cX8_bitsOf 35 = .ok (.goto (-20), 3) := by decide +kernel
theorem dX8_bitsOf_38 : decode cX8_bitsOf 38 = .ok (.dload_n 2, 1) := by decide +kernel
theorem dX8_bitsOf_39 : decode cX8_bitsOf 39 = .ok (.dconst 1, 1) := by decide +kernel
theorem dX8_bitsOf_40 : decode cX8_bitsOf 40 = .ok (.dcmp .g, 1) := by decide +kernel
theorem dX8_bitsOf_41 : decode cX8_bitsOf 41 = .ok (.ifCond .ge 18, 3) := by decide +kernel
theorem dX8_bitsOf_44 : decode cX8_bitsOf 44 = .ok (.dload_n 2, 1) := by decide +kernel
theorem dX8_bitsOf_45 : decode cX8_bitsOf 45 = .ok (.ldc2_w 193, 3) := by decide +kernel
theorem dX8_bitsOf_48 : decode cX8_bitsOf 48 = .ok (.dmul, 1) := by decide +kernel
theorem dX8_bitsOf_49 : decode cX8_bitsOf 49 = .ok (.dstore_n 2, 1) := by decide +kernel
theorem dX8_bitsOf_50 : decode cX8_bitsOf 50 = .ok (.lload 4, 2) := by decide +kernel
theorem dX8_bitsOf_52 : decode cX8_bitsOf 52 = .ok (.lconst 1, 1) := by decide +kernel
theorem dX8_bitsOf_53 : decode cX8_bitsOf 53 = .ok (.lsub, 1) := by decide +kernel
theorem dX8_bitsOf_54 : decode cX8_bitsOf 54 = .ok (.lstore 4, 2) := by decide +kernel
theorem dX8_bitsOf_56 : decode cX8_bitsOf 56 = .ok (.goto (-18), 3) := by decide +kernel
theorem dX8_bitsOf_59 : decode cX8_bitsOf 59 = .ok (.lload 4, 2) := by decide +kernel
theorem dX8_bitsOf_61 : decode cX8_bitsOf 61 = .ok (.bipush 52, 2) := by decide +kernel
theorem dX8_bitsOf_63 : decode cX8_bitsOf 63 = .ok (.lshl, 1) := by decide +kernel
theorem dX8_bitsOf_64 : decode cX8_bitsOf 64 = .ok (.dload_n 2, 1) := by decide +kernel
theorem dX8_bitsOf_65 : decode cX8_bitsOf 65 = .ok (.ldc2_w 195, 3) := by decide +kernel
theorem dX8_bitsOf_68 : decode cX8_bitsOf 68 = .ok (.dmul, 1) := by decide +kernel
theorem dX8_bitsOf_69 : decode cX8_bitsOf 69 = .ok (.d2l, 1) := by decide +kernel
theorem dX8_bitsOf_70 : decode cX8_bitsOf 70 = .ok (.ladd, 1) := by decide +kernel
theorem dX8_bitsOf_71 : decode cX8_bitsOf 71 = .ok (.ldc2_w 197, 3) := by decide +kernel
theorem dX8_bitsOf_74 : decode cX8_bitsOf 74 = .ok (.lsub, 1) := by decide +kernel
theorem dX8_bitsOf_75 : decode cX8_bitsOf 75 = .ok (.lreturn, 1) := by decide +kernel
theorem dX8_mix_0 : decode cX8_mix 0 = .ok (.aload_n 0, 1) := by decide +kernel
theorem dX8_mix_1 : decode cX8_mix 1 = .ok (.ldc2_w 199, 3) := by decide +kernel
theorem dX8_mix_4 : decode cX8_mix 4 = .ok (.aload_n 0, 1) := by decide +kernel
theorem dX8_mix_5 : decode cX8_mix 5 = .ok (.getfield 201, 3) := by decide +kernel
theorem dX8_mix_8 : decode cX8_mix 8 = .ok (.lmul, 1) := by decide +kernel
theorem dX8_mix_9 : decode cX8_mix 9 = .ok (.lload_n 1, 1) := by decide +kernel
theorem dX8_mix_10 : decode cX8_mix 10 = .ok (.ladd, 1) := by decide +kernel
theorem dX8_mix_11 : decode cX8_mix 11 = .ok (.putfield 201, 3) := by decide +kernel
theorem dX8_mix_14 : decode cX8_mix 14 = .ok (.return_, 1) := by decide +kernel
set_option maxRecDepth 20000 in
theorem ggX8_mixCube_X8_place : GoodIn wsX8_mixCube wsX8_place := goodIn_r _ [5] (by decide +kernel) (by decide +kernel)
set_option maxRecDepth 20000 in
theorem gX8_mixCube_X8_place : GoodIn wsX8_mixCube (va_wsS RX8 37 yX8_place wsX8_place) := goodIn_app (goodIn_of _ (by decide +kernel)) ggX8_mixCube_X8_place
set_option maxRecDepth 20000 in
theorem ggX8_mixCube_X8_mix : GoodIn wsX8_mixCube wsX8_mix := goodIn_r _ [9, 10, 11, 59, 60, 61, 62, 63, 64, 65, 66, 67, 68, 69, 70] (by decide +kernel) (by decide +kernel)
set_option maxRecDepth 20000 in
theorem gX8_mixCube_X8_mix : GoodIn wsX8_mixCube (wsV RX8 205 RX8 yX8_mix wsX8_mix) := goodIn_app (goodIn_of _ (by decide +kernel)) ggX8_mixCube_X8_mix
set_option maxRecDepth 20000 in
theorem ggX8_mixCube_X8_toldSlice : GoodIn wsX8_mixCube wsX8_toldSlice := goodIn_r _ [15, 16, 17, 18, 4, 19, 20, 21, 22, 23, 1, 24, 25, 26, 27, 28, 29, 30, 31, 32, 33, 34, 2, 3, 5, 35, 36, 37, 38, 39, 40, 41, 42, 43, 44, 45, 46, 47, 48, 49, 50, 51, 52, 53, 54, 59, 60, 61, 62, 63, 64, 65, 66, 67, 68, 69, 70] (by decide +kernel) (by decide +kernel)
set_option maxRecDepth 20000 in
theorem gX8_mixCube_X8_toldSlice : GoodIn wsX8_mixCube (wsV RX8 146 RX8 yX8_toldSlice wsX8_toldSlice) := goodIn_app (goodIn_of _ (by decide +kernel)) ggX8_mixCube_X8_toldSlice
set_option maxRecDepth 20000 in
theorem ggX8_mixCube_X8_offsets : GoodIn wsX8_mixCube wsX8_offsets := goodIn_r _ [23, 1, 59, 60, 61, 62, 63, 64, 65, 66, 67, 68, 69, 70] (by decide +kernel) (by decide +kernel)
set_option maxRecDepth 20000 in
theorem gX8_mixCube_X8_offsets : GoodIn wsX8_mixCube (wsV RX8 51 RX8 yX8_offsets wsX8_offsets) := goodIn_app (goodIn_of _ (by decide +kernel)) ggX8_mixCube_X8_offsets
set_option maxRecDepth 20000 in
theorem ggX8_mixCube_X8_lineSum : GoodIn wsX8_mixCube wsX8_lineSum := goodIn_r _ [58, 1, 28, 29, 30, 4, 31, 32, 33, 34, 2, 3, 5, 59, 60, 61, 62, 63, 64, 65, 66, 67, 68, 69, 70] (by decide +kernel) (by decide +kernel)
set_option maxRecDepth 20000 in
theorem gX8_mixCube_X8_lineSum : GoodIn wsX8_mixCube (wsV RX8 137 RX8 yX8_lineSum wsX8_lineSum) := goodIn_app (goodIn_of _ (by decide +kernel)) ggX8_mixCube_X8_lineSum
theorem dX8_mixCube_0 : decode cX8_mixCube 0 = .ok (.aload_n 0, 1) := by decide +kernel
theorem dX8_mixCube_1 : decode cX8_mixCube 1 = .ok (.getfield 7, 3) := by decide +kernel
theorem dX8_mixCube_4 : decode cX8_mixCube 4 = .ok (.iconst 0, 1) := by decide +kernel
theorem dX8_mixCube_5 : decode cX8_mixCube 5 = .ok (.iaload, 1) := by decide +kernel
theorem dX8_mixCube_6 : decode cX8_mixCube 6 = .ok (.istore_n 1, 1) := by decide +kernel
theorem dX8_mixCube_7 : decode cX8_mixCube 7 = .ok (.iconst 0, 1) := by decide +kernel
theorem dX8_mixCube_8 : decode cX8_mixCube 8 = .ok (.istore_n 2, 1) := by decide +kernel
theorem dX8_mixCube_9 : decode cX8_mixCube 9 = .ok (.iload_n 2, 1) := by decide +kernel
theorem dX8_mixCube_10 : decode cX8_mixCube 10 = .ok (.iload_n 1, 1) := by decide +kernel
theorem dX8_mixCube_11 : decode cX8_mixCube 11 = .ok (.iload_n 1, 1) := by decide +kernel
theorem dX8_mixCube_12 : decode cX8_mixCube 12 = .ok (.imul, 1) := by decide +kernel
theorem dX8_mixCube_13 : decode cX8_mixCube 13 = .ok (.iload_n 1, 1) := by decide +kernel
theorem dX8_mixCube_14 : decode cX8_mixCube 14 = .ok (.imul, 1) := by decide +kernel
theorem dX8_mixCube_15 : decode cX8_mixCube 15 = .ok (.if_icmp .ge 37, 3) := by decide +kernel
theorem dX8_mixCube_18 : decode cX8_mixCube 18 = .ok (.aload_n 0, 1) := by decide +kernel
theorem dX8_mixCube_19 : decode cX8_mixCube 19 = .ok (.aload_n 0, 1) := by decide +kernel
theorem dX8_mixCube_20 : decode cX8_mixCube 20 = .ok (.getfield 7, 3) := by decide +kernel
theorem dX8_mixCube_23 : decode cX8_mixCube 23 = .ok (.iconst 3, 1) := by decide +kernel
theorem dX8_mixCube_24 : decode cX8_mixCube 24 = .ok (.iload_n 2, 1) := by decide +kernel
theorem dX8_mixCube_25 : decode cX8_mixCube 25 = .ok (.iload_n 1, 1) := by decide +kernel
theorem dX8_mixCube_26 : decode cX8_mixCube 26 = .ok (.irem, 1) := by decide +kernel
theorem dX8_mixCube_27 : decode cX8_mixCube 27 = .ok (.iload_n 2, 1) := by decide +kernel
theorem dX8_mixCube_28 : decode cX8_mixCube 28 = .ok (.iload_n 1, 1) := by decide +kernel
theorem dX8_mixCube_29 : decode cX8_mixCube 29 = .ok (.idiv, 1) := by decide +kernel
theorem dX8_mixCube_30 : decode cX8_mixCube 30 = .ok (.iload_n 1, 1) := by decide +kernel
theorem dX8_mixCube_31 : decode cX8_mixCube 31 = .ok (.irem, 1) := by decide +kernel
theorem dX8_mixCube_32 : decode cX8_mixCube 32 = .ok (.iload_n 2, 1) := by decide +kernel
theorem dX8_mixCube_33 : decode cX8_mixCube 33 = .ok (.iload_n 1, 1) := by decide +kernel
theorem dX8_mixCube_34 : decode cX8_mixCube 34 = .ok (.iload_n 1, 1) := by decide +kernel
theorem dX8_mixCube_35 : decode cX8_mixCube 35 = .ok (.imul, 1) := by decide +kernel
theorem dX8_mixCube_36 : decode cX8_mixCube 36 = .ok (.idiv, 1) := by decide +kernel
theorem dX8_mixCube_37 : decode cX8_mixCube 37 = .ok (.invokestatic 37, 3) := by decide +kernel
theorem dX8_mixCube_40 : decode cX8_mixCube 40 = .ok (.iadd, 1) := by decide +kernel
theorem dX8_mixCube_41 : decode cX8_mixCube 41 = .ok (.iaload, 1) := by decide +kernel
theorem dX8_mixCube_42 : decode cX8_mixCube 42 = .ok (.i2l, 1) := by decide +kernel
theorem dX8_mixCube_43 : decode cX8_mixCube 43 = .ok (.invokevirtual 205, 3) := by decide +kernel
theorem dX8_mixCube_46 : decode cX8_mixCube 46 = .ok (.iinc 2 1, 3) := by decide +kernel
theorem dX8_mixCube_49 : decode cX8_mixCube 49 = .ok (.goto (-40), 3) := by decide +kernel
theorem dX8_mixCube_52 : decode cX8_mixCube 52 = .ok (.iconst 0, 1) := by decide +kernel
theorem dX8_mixCube_53 : decode cX8_mixCube 53 = .ok (.istore_n 2, 1) := by decide +kernel
theorem dX8_mixCube_54 : decode cX8_mixCube 54 = .ok (.iload_n 2, 1) := by decide +kernel
theorem dX8_mixCube_55 : decode cX8_mixCube 55 = .ok (.iconst 3, 1) := by decide +kernel
theorem dX8_mixCube_56 : decode cX8_mixCube 56 = .ok (.if_icmp .ge 50, 3) := by decide +kernel
theorem dX8_mixCube_59 : decode cX8_mixCube 59 = .ok (.iconst 0, 1) := by decide +kernel
theorem dX8_mixCube_60 : decode cX8_mixCube 60 = .ok (.istore_n 3, 1) := by decide +kernel
theorem dX8_mixCube_61 : decode cX8_mixCube 61 = .ok (.iload_n 3, 1) := by decide +kernel
theorem dX8_mixCube_62 : decode cX8_mixCube 62 = .ok (.iload_n 1, 1) := by decide +kernel
theorem dX8_mixCube_63 : decode cX8_mixCube 63 = .ok (.if_icmp .ge 37, 3) := by decide +kernel
theorem dX8_mixCube_66 : decode cX8_mixCube 66 = .ok (.iconst 0, 1) := by decide +kernel
theorem dX8_mixCube_67 : decode cX8_mixCube 67 = .ok (.istore 4, 2) := by decide +kernel
theorem dX8_mixCube_69 : decode cX8_mixCube 69 = .ok (.iload 4, 2) := by decide +kernel
theorem dX8_mixCube_71 : decode cX8_mixCube 71 = .ok (.iconst 4, 1) := by decide +kernel
theorem dX8_mixCube_72 : decode cX8_mixCube 72 = .ok (.if_icmp .gt 22, 3) := by decide +kernel
theorem dX8_mixCube_75 : decode cX8_mixCube 75 = .ok (.aload_n 0, 1) := by decide +kernel
theorem dX8_mixCube_76 : decode cX8_mixCube 76 = .ok (.aload_n 0, 1) := by decide +kernel
theorem dX8_mixCube_77 : decode cX8_mixCube 77 = .ok (.iload_n 2, 1) := by decide +kernel
theorem dX8_mixCube_78 : decode cX8_mixCube 78 = .ok (.iload_n 3, 1) := by decide +kernel
theorem dX8_mixCube_79 : decode cX8_mixCube 79 = .ok (.iload 4, 2) := by decide +kernel
theorem dX8_mixCube_81 : decode cX8_mixCube 81 = .ok (.invokevirtual 146, 3) := by decide +kernel
theorem dX8_mixCube_84 : decode cX8_mixCube 84 = .ok (.i2l, 1) := by decide +kernel
theorem dX8_mixCube_85 : decode cX8_mixCube 85 = .ok (.invokevirtual 205, 3) := by decide +kernel
theorem dX8_mixCube_88 : decode cX8_mixCube 88 = .ok (.iinc 4 1, 3) := by decide +kernel
theorem dX8_mixCube_91 : decode cX8_mixCube 91 = .ok (.goto (-22), 3) := by decide +kernel
theorem dX8_mixCube_94 : decode cX8_mixCube 94 = .ok (.iinc 3 1, 3) := by decide +kernel
theorem dX8_mixCube_97 : decode cX8_mixCube 97 = .ok (.goto (-36), 3) := by decide +kernel
theorem dX8_mixCube_100 : decode cX8_mixCube 100 = .ok (.iinc 2 1, 3) := by decide +kernel
theorem dX8_mixCube_103 : decode cX8_mixCube 103 = .ok (.goto (-49), 3) := by decide +kernel
theorem dX8_mixCube_106 : decode cX8_mixCube 106 = .ok (.iconst 0, 1) := by decide +kernel
theorem dX8_mixCube_107 : decode cX8_mixCube 107 = .ok (.istore_n 2, 1) := by decide +kernel
theorem dX8_mixCube_108 : decode cX8_mixCube 108 = .ok (.iload_n 2, 1) := by decide +kernel
theorem dX8_mixCube_109 : decode cX8_mixCube 109 = .ok (.iconst 3, 1) := by decide +kernel
theorem dX8_mixCube_110 : decode cX8_mixCube 110 = .ok (.aload_n 0, 1) := by decide +kernel
theorem dX8_mixCube_111 : decode cX8_mixCube 111 = .ok (.invokevirtual 51, 3) := by decide +kernel
theorem dX8_mixCube_114 : decode cX8_mixCube 114 = .ok (.imul, 1) := by decide +kernel
theorem dX8_mixCube_115 : decode cX8_mixCube 115 = .ok (.if_icmp .ge 35, 3) := by decide +kernel
theorem dX8_mixCube_118 : decode cX8_mixCube 118 = .ok (.aload_n 0, 1) := by decide +kernel
theorem dX8_mixCube_119 : decode cX8_mixCube 119 = .ok (.aload_n 0, 1) := by decide +kernel
theorem dX8_mixCube_120 : decode cX8_mixCube 120 = .ok (.iload_n 2, 1) := by decide +kernel
theorem dX8_mixCube_121 : decode cX8_mixCube 121 = .ok (.aload_n 0, 1) := by decide +kernel
theorem dX8_mixCube_122 : decode cX8_mixCube 122 = .ok (.invokevirtual 51, 3) := by decide +kernel
theorem dX8_mixCube_125 : decode cX8_mixCube 125 = .ok (.idiv, 1) := by decide +kernel
theorem dX8_mixCube_126 : decode cX8_mixCube 126 = .ok (.iload_n 2, 1) := by decide +kernel
theorem dX8_mixCube_127 : decode cX8_mixCube 127 = .ok (.aload_n 0, 1) := by decide +kernel
theorem dX8_mixCube_128 : decode cX8_mixCube 128 = .ok (.invokevirtual 51, 3) := by decide +kernel
theorem dX8_mixCube_131 : decode cX8_mixCube 131 = .ok (.irem, 1) := by decide +kernel
theorem dX8_mixCube_132 : decode cX8_mixCube 132 = .ok (.iload_n 1, 1) := by decide +kernel
theorem dX8_mixCube_133 : decode cX8_mixCube 133 = .ok (.idiv, 1) := by decide +kernel
theorem dX8_mixCube_134 : decode cX8_mixCube 134 = .ok (.iload_n 2, 1) := by decide +kernel
theorem dX8_mixCube_135 : decode cX8_mixCube 135 = .ok (.iload_n 1, 1) := by decide +kernel
theorem dX8_mixCube_136 : decode cX8_mixCube 136 = .ok (.irem, 1) := by decide +kernel
theorem dX8_mixCube_137 : decode cX8_mixCube 137 = .ok (.invokevirtual 137, 3) := by decide +kernel
theorem dX8_mixCube_140 : decode cX8_mixCube 140 = .ok (.i2l, 1) := by decide +kernel
theorem dX8_mixCube_141 : decode cX8_mixCube 141 = .ok (.invokevirtual 205, 3) := by decide +kernel
theorem dX8_mixCube_144 : decode cX8_mixCube 144 = .ok (.iinc 2 1, 3) := by decide +kernel
theorem dX8_mixCube_147 : decode cX8_mixCube 147 = .ok (.goto (-39), 3) := by decide +kernel
theorem dX8_mixCube_150 : decode cX8_mixCube 150 = .ok (.return_, 1) := by decide +kernel
set_option maxRecDepth 20000 in
theorem ggX8_mixRank_X8_toldRank : GoodIn wsX8_mixRank wsX8_toldRank := goodIn_r _ [5, 6, 7, 8, 9, 4, 10, 11, 12, 13, 14, 15, 16, 17, 18, 19, 20, 21, 22, 23, 24, 25, 26, 27, 28, 35, 36, 37, 38, 39, 40, 41, 42, 43, 44, 45, 46] (by decide +kernel) (by decide +kernel)
set_option maxRecDepth 20000 in
theorem gX8_mixRank_X8_toldRank : GoodIn wsX8_mixRank (wsV RX8 152 RX8 yX8_toldRank wsX8_toldRank) := goodIn_app (goodIn_of _ (by decide +kernel)) ggX8_mixRank_X8_toldRank
set_option maxRecDepth 20000 in
theorem ggX8_mixRank_X8_mix : GoodIn wsX8_mixRank wsX8_mix := goodIn_r _ [32, 33, 34, 35, 36, 37, 38, 39, 40, 41, 42, 43, 44, 45, 46] (by decide +kernel) (by decide +kernel)
set_option maxRecDepth 20000 in
theorem gX8_mixRank_X8_mix : GoodIn wsX8_mixRank (wsV RX8 205 RX8 yX8_mix wsX8_mix) := goodIn_app (goodIn_of _ (by decide +kernel)) ggX8_mixRank_X8_mix
theorem dX8_mixRank_0 : decode cX8_mixRank 0 = .ok (.iconst 0, 1) := by decide +kernel
theorem dX8_mixRank_1 : decode cX8_mixRank 1 = .ok (.istore_n 2, 1) := by decide +kernel
theorem dX8_mixRank_2 : decode cX8_mixRank 2 = .ok (.iload_n 2, 1) := by decide +kernel
theorem dX8_mixRank_3 : decode cX8_mixRank 3 = .ok (.iconst 3, 1) := by decide +kernel
theorem dX8_mixRank_4 : decode cX8_mixRank 4 = .ok (.if_icmp .gt 20, 3) := by decide +kernel
theorem dX8_mixRank_7 : decode cX8_mixRank 7 = .ok (.aload_n 0, 1) := by decide +kernel
theorem dX8_mixRank_8 : decode cX8_mixRank 8 = .ok (.aload_n 0, 1) := by decide +kernel
theorem dX8_mixRank_9 : decode cX8_mixRank 9 = .ok (.iload_n 1, 1) := by decide +kernel
theorem dX8_mixRank_10 : decode cX8_mixRank 10 = .ok (.iload_n 2, 1) := by decide +kernel
theorem dX8_mixRank_11 : decode cX8_mixRank 11 = .ok (.invokevirtual 152, 3) := by decide +kernel
theorem dX8_mixRank_14 : decode cX8_mixRank 14 = .ok (.i2l, 1) := by decide +kernel
theorem dX8_mixRank_15 : decode cX8_mixRank 15 = .ok (.invokevirtual 205, 3) := by decide +kernel
theorem dX8_mixRank_18 : decode cX8_mixRank 18 = .ok (.iinc 2 1, 3) := by decide +kernel
theorem dX8_mixRank_21 : decode cX8_mixRank 21 = .ok (.goto (-19), 3) := by decide +kernel
theorem dX8_mixRank_24 : decode cX8_mixRank 24 = .ok (.return_, 1) := by decide +kernel
set_option maxRecDepth 20000 in
theorem ggX8_digest_X8_counted : GoodIn wsX8_digest wsX8_counted := goodIn_r _ [11, 4, 12, 13, 14, 15, 10, 16, 17, 18, 19, 20, 21, 22, 23, 24, 25, 26, 27, 28, 29, 30, 31, 32, 33, 34, 35, 36, 37, 38, 39, 40, 41, 42, 43, 44, 45, 46, 47, 48, 49, 50, 51, 52, 53, 54, 55, 56, 57, 58, 59, 60, 61, 62, 143, 144, 145, 146, 147, 148, 149, 150, 151, 152, 153, 154] (by decide +kernel) (by decide +kernel)
set_option maxRecDepth 20000 in
theorem gX8_digest_X8_counted : GoodIn wsX8_digest (wsV RX8 174 RX8 yX8_counted wsX8_counted) := goodIn_app (goodIn_of _ (by decide +kernel)) ggX8_digest_X8_counted
set_option maxRecDepth 20000 in
theorem ggX8_digest_X8_mix : GoodIn wsX8_digest wsX8_mix := goodIn_r _ [66, 67, 3, 143, 144, 145, 146, 147, 148, 149, 150, 151, 152, 153, 154] (by decide +kernel) (by decide +kernel)
set_option maxRecDepth 20000 in
theorem gX8_digest_X8_mix : GoodIn wsX8_digest (wsV RX8 205 RX8 yX8_mix wsX8_mix) := goodIn_app (goodIn_of _ (by decide +kernel)) ggX8_digest_X8_mix
set_option maxRecDepth 20000 in
theorem ggX8_digest_X8_mixCube : GoodIn wsX8_digest wsX8_mixCube := goodIn_r _ [71, 4, 48, 49, 10, 50, 63, 64, 65, 66, 67, 3, 72, 73, 74, 75, 76, 77, 78, 79, 33, 34, 35, 36, 37, 38, 39, 40, 41, 42, 43, 44, 45, 46, 47, 29, 30, 31, 32, 80, 81, 82, 83, 25, 26, 27, 28, 51, 52, 53, 54, 55, 56, 57, 58, 84, 85, 86, 87, 143, 144, 145, 146, 147, 148, 149, 150, 151, 152, 153, 154] (by decide +kernel) (by decide +kernel)
set_option maxRecDepth 20000 in
theorem gX8_digest_X8_mixCube : GoodIn wsX8_digest (wsV RX8 211 RX8 yX8_mixCube wsX8_mixCube) := goodIn_app (goodIn_of _ (by decide +kernel)) ggX8_digest_X8_mixCube
set_option maxRecDepth 20000 in
theorem ggX8_digest_X8_mixRank : GoodIn wsX8_digest wsX8_mixRank := goodIn_r _ [91, 92, 93, 94, 10, 95, 4, 96, 97, 98, 99, 33, 34, 35, 36, 37, 38, 39, 40, 41, 42, 43, 44, 45, 46, 47, 48, 49, 50, 63, 64, 65, 66, 67, 3, 143, 144, 145, 146, 147, 148, 149, 150, 151, 152, 153, 154] (by decide +kernel) (by decide +kernel)
set_option maxRecDepth 20000 in
theorem gX8_digest_X8_mixRank : GoodIn wsX8_digest (wsV RX8 214 RX8 yX8_mixRank wsX8_mixRank) := goodIn_app (goodIn_of _ (by decide +kernel)) ggX8_digest_X8_mixRank
set_option maxRecDepth 20000 in
theorem ggX8_digest_X8_toldDifference : GoodIn wsX8_digest wsX8_toldDifference := goodIn_r _ [103, 104, 105, 106, 10, 107, 4, 108, 109, 110, 111, 112, 113, 114, 115, 116, 117, 118, 119, 33, 34, 35, 36, 143, 144, 145, 146, 147, 148, 149, 150, 151, 152, 153, 154] (by decide +kernel) (by decide +kernel)
set_option maxRecDepth 20000 in
theorem gX8_digest_X8_toldDifference : GoodIn wsX8_digest (wsV RX8 165 RX8 yX8_toldDifference wsX8_toldDifference) := goodIn_app (goodIn_of _ (by decide +kernel)) ggX8_digest_X8_toldDifference
set_option maxRecDepth 20000 in
theorem ggX8_digest_X8_roomBy : GoodIn wsX8_digest wsX8_roomBy := goodIn_r _ [24, 4, 25, 26, 27, 10, 28, 29, 30, 31, 32, 33, 34, 35, 36, 37, 38, 39, 40, 41, 42, 43, 44, 45, 46, 47, 48, 49, 50, 51, 52, 53, 54, 55, 56, 57, 58, 143, 144, 145, 146, 147, 148, 149, 150, 151, 152, 153, 154] (by decide +kernel) (by decide +kernel)
set_option maxRecDepth 20000 in
theorem gX8_digest_X8_roomBy : GoodIn wsX8_digest (wsV RX8 71 RX8 yX8_roomBy wsX8_roomBy) := goodIn_app (goodIn_of _ (by decide +kernel)) ggX8_digest_X8_roomBy
set_option maxRecDepth 20000 in
theorem ggX8_digest_X8_wouldPut : GoodIn wsX8_digest wsX8_wouldPut := goodIn_r _ [123, 4, 48, 49, 10, 50, 17, 18, 19, 20, 21, 22, 23, 24, 25, 26, 27, 28, 29, 30, 31, 32, 33, 34, 35, 36, 37, 38, 39, 40, 41, 42, 43, 44, 45, 46, 47, 51, 52, 53, 54, 55, 56, 57, 58, 143, 144, 145, 146, 147, 148, 149, 150, 151, 152, 153, 154] (by decide +kernel) (by decide +kernel)
set_option maxRecDepth 20000 in
theorem gX8_digest_X8_wouldPut : GoodIn wsX8_digest (wsV RX8 177 RX8 yX8_wouldPut wsX8_wouldPut) := goodIn_app (goodIn_of _ (by decide +kernel)) ggX8_digest_X8_wouldPut
set_option maxRecDepth 20000 in
theorem ggX8_digest_X8_bestOf : GoodIn wsX8_digest wsX8_bestOf := goodIn_r _ [127, 4, 21, 22, 23, 10, 24, 25, 26, 27, 28, 29, 30, 31, 32, 33, 34, 35, 36, 37, 38, 39, 40, 41, 42, 43, 44, 45, 46, 47, 48, 49, 50, 51, 52, 53, 54, 55, 56, 57, 58, 143, 144, 145, 146, 147, 148, 149, 150, 151, 152, 153, 154] (by decide +kernel) (by decide +kernel)
set_option maxRecDepth 20000 in
theorem gX8_digest_X8_bestOf : GoodIn wsX8_digest (wsV RX8 181 RX8 yX8_bestOf wsX8_bestOf) := goodIn_app (goodIn_of _ (by decide +kernel)) ggX8_digest_X8_bestOf
set_option maxRecDepth 20000 in
theorem ggX8_digest_X8_heaviestOf : GoodIn wsX8_digest wsX8_heaviestOf := goodIn_r _ [131, 4, 33, 34, 35, 10, 36, 84, 85, 86, 87, 41, 42, 43, 44, 45, 46, 47, 48, 49, 50, 143, 144, 145, 146, 147, 148, 149, 150, 151, 152, 153, 154] (by decide +kernel) (by decide +kernel)
set_option maxRecDepth 20000 in
theorem gX8_digest_X8_heaviestOf : GoodIn wsX8_digest (wsV RX8 184 RX8 yX8_heaviestOf wsX8_heaviestOf) := goodIn_app (goodIn_of _ (by decide +kernel)) ggX8_digest_X8_heaviestOf
set_option maxRecDepth 20000 in
theorem ggX8_digest_X8_share : GoodIn wsX8_digest wsX8_share := goodIn_r _ [135, 4, 17, 18, 19, 10, 20, 21, 22, 23, 24, 25, 26, 27, 28, 29, 30, 31, 32, 33, 34, 35, 36, 37, 38, 39, 40, 41, 42, 43, 44, 45, 46, 47, 48, 49, 50, 51, 52, 53, 54, 55, 56, 57, 58, 143, 144, 145, 146, 147, 148, 149, 150, 151, 152, 153, 154] (by decide +kernel) (by decide +kernel)
set_option maxRecDepth 20000 in
theorem gX8_digest_X8_share : GoodIn wsX8_digest (wsV RX8 187 RX8 yX8_share wsX8_share) := goodIn_app (goodIn_of _ (by decide +kernel)) ggX8_digest_X8_share
set_option maxRecDepth 20000 in
theorem ggX8_digest_X8_bitsOf : GoodIn wsX8_digest wsX8_bitsOf := goodIn_r _ [138, 139, 140, 141, 142] (by decide +kernel) (by decide +kernel)
set_option maxRecDepth 20000 in
theorem gX8_digest_X8_bitsOf : GoodIn wsX8_digest (va_wsS RX8 218 yX8_bitsOf wsX8_bitsOf) := goodIn_app (goodIn_of _ (by decide +kernel)) ggX8_digest_X8_bitsOf
theorem dX8_digest_0 : decode cX8_digest 0 = .ok (.aload_n 0, 1) := by decide +kernel
theorem dX8_digest_1 : decode cX8_digest 1 = .ok (.iconst 0, 1) := by decide +kernel
theorem dX8_digest_2 : decode cX8_digest 2 = .ok (.putfield 25, 3) := by decide +kernel
theorem dX8_digest_5 : decode cX8_digest 5 = .ok (.aload_n 0, 1) := by decide +kernel
theorem dX8_digest_6 : decode cX8_digest 6 = .ok (.ldc2_w 209, 3) := by decide +kernel
theorem dX8_digest_9 : decode cX8_digest 9 = .ok (.putfield 201, 3) := by decide +kernel
theorem dX8_digest_12 : decode cX8_digest 12 = .ok (.iconst 0, 1) := by decide +kernel
theorem dX8_digest_13 : decode cX8_digest 13 = .ok (.istore_n 1, 1) := by decide +kernel
theorem dX8_digest_14 : decode cX8_digest 14 = .ok (.iload_n 1, 1) := by decide +kernel
theorem dX8_digest_15 : decode cX8_digest 15 = .ok (.bipush 8, 2) := by decide +kernel
theorem dX8_digest_17 : decode cX8_digest 17 = .ok (.if_icmp .gt 19, 3) := by decide +kernel
theorem dX8_digest_20 : decode cX8_digest 20 = .ok (.aload_n 0, 1) := by decide +kernel
theorem dX8_digest_21 : decode cX8_digest 21 = .ok (.aload_n 0, 1) := by decide +kernel
theorem dX8_digest_22 : decode cX8_digest 22 = .ok (.iload_n 1, 1) := by decide +kernel
theorem dX8_digest_23 : decode cX8_digest 23 = .ok (.invokevirtual 174, 3) := by decide +kernel
theorem dX8_digest_26 : decode cX8_digest 26 = .ok (.i2l, 1) := by decide +kernel
theorem dX8_digest_27 : decode cX8_digest 27 = .ok (.invokevirtual 205, 3) := by decide +kernel
theorem dX8_digest_30 : decode cX8_digest 30 = .ok (.iinc 1 1, 3) := by decide +kernel
theorem dX8_digest_33 : decode cX8_digest 33 = .ok (.goto (-19), 3) := by decide +kernel
theorem dX8_digest_36 : decode cX8_digest 36 = .ok (.aload_n 0, 1) := by decide +kernel
theorem dX8_digest_37 : decode cX8_digest 37 = .ok (.aload_n 0, 1) := by decide +kernel
theorem dX8_digest_38 : decode cX8_digest 38 = .ok (.getfield 7, 3) := by decide +kernel
theorem dX8_digest_41 : decode cX8_digest 41 = .ok (.iconst 2, 1) := by decide +kernel
theorem dX8_digest_42 : decode cX8_digest 42 = .ok (.iaload, 1) := by decide +kernel
theorem dX8_digest_43 : decode cX8_digest 43 = .ok (.i2l, 1) := by decide +kernel
theorem dX8_digest_44 : decode cX8_digest 44 = .ok (.invokevirtual 205, 3) := by decide +kernel
theorem dX8_digest_47 : decode cX8_digest 47 = .ok (.aload_n 0, 1) := by decide +kernel
theorem dX8_digest_48 : decode cX8_digest 48 = .ok (.invokevirtual 211, 3) := by decide +kernel
theorem dX8_digest_51 : decode cX8_digest 51 = .ok (.aload_n 0, 1) := by decide +kernel
theorem dX8_digest_52 : decode cX8_digest 52 = .ok (.iconst 0, 1) := by decide +kernel
theorem dX8_digest_53 : decode cX8_digest 53 = .ok (.invokevirtual 214, 3) := by decide +kernel
theorem dX8_digest_56 : decode cX8_digest 56 = .ok (.aload_n 0, 1) := by decide +kernel
theorem dX8_digest_57 : decode cX8_digest 57 = .ok (.iconst 1, 1) := by decide +kernel
theorem dX8_digest_58 : decode cX8_digest 58 = .ok (.invokevirtual 214, 3) := by decide +kernel
theorem dX8_digest_61 : decode cX8_digest 61 = .ok (.aload_n 0, 1) := by decide +kernel
theorem dX8_digest_62 : decode cX8_digest 62 = .ok (.iconst 5, 1) := by decide +kernel
theorem dX8_digest_63 : decode cX8_digest 63 = .ok (.invokevirtual 214, 3) := by decide +kernel
theorem dX8_digest_66 : decode cX8_digest 66 = .ok (.iconst 0, 1) := by decide +kernel
theorem dX8_digest_67 : decode cX8_digest 67 = .ok (.istore_n 1, 1) := by decide +kernel
theorem dX8_digest_68 : decode cX8_digest 68 = .ok (.iload_n 1, 1) := by decide +kernel
theorem dX8_digest_69 : decode cX8_digest 69 = .ok (.iconst 3, 1) := by decide +kernel
theorem dX8_digest_70 : decode cX8_digest 70 = .ok (.if_icmp .gt 19, 3) := by decide +kernel
theorem dX8_digest_73 : decode cX8_digest 73 = .ok (.aload_n 0, 1) := by decide +kernel
theorem dX8_digest_74 : decode cX8_digest 74 = .ok (.aload_n 0, 1) := by decide +kernel
theorem dX8_digest_75 : decode cX8_digest 75 = .ok (.iload_n 1, 1) := by decide +kernel
theorem dX8_digest_76 : decode cX8_digest 76 = .ok (.invokevirtual 165, 3) := by decide +kernel
theorem dX8_digest_79 : decode cX8_digest 79 = .ok (.i2l, 1) := by decide +kernel
theorem dX8_digest_80 : decode cX8_digest 80 = .ok (.invokevirtual 205, 3) := by decide +kernel
theorem dX8_digest_83 : decode cX8_digest 83 = .ok (.iinc 1 1, 3) := by decide +kernel
theorem dX8_digest_86 : decode cX8_digest 86 = .ok (.goto (-18), 3) := by decide +kernel
theorem dX8_digest_89 : decode cX8_digest 89 = .ok (.iconst 0, 1) := by decide +kernel
theorem dX8_digest_90 : decode cX8_digest 90 = .ok (.istore_n 1, 1) := by decide +kernel
theorem dX8_digest_91 : decode cX8_digest 91 = .ok (.iload_n 1, 1) := by decide +kernel
theorem dX8_digest_92 : decode cX8_digest 92 = .ok (.iconst 3, 1) := by decide +kernel
theorem dX8_digest_93 : decode cX8_digest 93 = .ok (.if_icmp .ge 19, 3) := by decide +kernel
theorem dX8_digest_96 : decode cX8_digest 96 = .ok (.aload_n 0, 1) := by decide +kernel
theorem dX8_digest_97 : decode cX8_digest 97 = .ok (.aload_n 0, 1) := by decide +kernel
theorem dX8_digest_98 : decode cX8_digest 98 = .ok (.iload_n 1, 1) := by decide +kernel
theorem dX8_digest_99 : decode cX8_digest 99 = .ok (.invokevirtual 71, 3) := by decide +kernel
theorem dX8_digest_102 : decode cX8_digest 102 = .ok (.i2l, 1) := by decide +kernel
theorem dX8_digest_103 : decode cX8_digest 103 = .ok (.invokevirtual 205, 3) := by decide +kernel
theorem dX8_digest_106 : decode cX8_digest 106 = .ok (.iinc 1 1, 3) := by decide +kernel
theorem dX8_digest_109 : decode cX8_digest 109 = .ok (.goto (-18), 3) := by decide +kernel
theorem dX8_digest_112 : decode cX8_digest 112 = .ok (.iconst 0, 1) := by decide +kernel
theorem dX8_digest_113 : decode cX8_digest 113 = .ok (.istore_n 1, 1) := by decide +kernel
theorem dX8_digest_114 : decode cX8_digest 114 = .ok (.iload_n 1, 1) := by decide +kernel
theorem dX8_digest_115 : decode cX8_digest 115 = .ok (.iconst 4, 1) := by decide +kernel
theorem dX8_digest_116 : decode cX8_digest 116 = .ok (.if_icmp .ge 35, 3) := by decide +kernel
theorem dX8_digest_119 : decode cX8_digest 119 = .ok (.aload_n 0, 1) := by decide +kernel
theorem dX8_digest_120 : decode cX8_digest 120 = .ok (.aload_n 0, 1) := by decide +kernel
theorem dX8_digest_121 : decode cX8_digest 121 = .ok (.iconst 0, 1) := by decide +kernel
theorem dX8_digest_122 : decode cX8_digest 122 = .ok (.iconst 1, 1) := by decide +kernel
theorem dX8_digest_123 : decode cX8_digest 123 = .ok (.iconst 0, 1) := by decide +kernel
theorem dX8_digest_124 : decode cX8_digest 124 = .ok (.iload_n 1, 1) := by decide +kernel
theorem dX8_digest_125 : decode cX8_digest 125 = .ok (.iconst 2, 1) := by decide +kernel
theorem dX8_digest_126 : decode cX8_digest 126 = .ok (.if_icmp .ge 8, 3) := by decide +kernel
theorem dX8_digest_129 : decode cX8_digest 129 = .ok (.bipush 7, 2) := by decide +kernel
theorem dX8_digest_131 : decode cX8_digest 131 = .ok (.goto 4, 3) := by decide +kernel
theorem dX8_digest_134 : decode cX8_digest 134 = .ok (.iconst 0, 1) := by decide +kernel
theorem dX8_digest_135 : decode cX8_digest 135 = .ok (.iload_n 1, 1) := by decide +kernel
theorem dX8_digest_136 : decode cX8_digest 136 = .ok (.iconst 2, 1) := by decide +kernel
theorem dX8_digest_137 : decode cX8_digest 137 = .ok (.irem, 1) := by decide +kernel
theorem dX8_digest_138 : decode cX8_digest 138 = .ok (.invokevirtual 177, 3) := by decide +kernel
theorem dX8_digest_141 : decode cX8_digest 141 = .ok (.i2l, 1) := by decide +kernel
theorem dX8_digest_142 : decode cX8_digest 142 = .ok (.invokevirtual 205, 3) := by decide +kernel
theorem dX8_digest_145 : decode cX8_digest 145 = .ok (.iinc 1 1, 3) := by decide +kernel
theorem dX8_digest_148 : decode cX8_digest 148 = .ok (.goto (-34), 3) := by decide +kernel
theorem dX8_digest_151 : decode cX8_digest 151 = .ok (.iconst 0, 1) := by decide +kernel
theorem dX8_digest_152 : decode cX8_digest 152 = .ok (.istore_n 1, 1) := by decide +kernel
theorem dX8_digest_153 : decode cX8_digest 153 = .ok (.iload_n 1, 1) := by decide +kernel
theorem dX8_digest_154 : decode cX8_digest 154 = .ok (.iconst 2, 1) := by decide +kernel
theorem dX8_digest_155 : decode cX8_digest 155 = .ok (.if_icmp .gt 19, 3) := by decide +kernel
theorem dX8_digest_158 : decode cX8_digest 158 = .ok (.aload_n 0, 1) := by decide +kernel
theorem dX8_digest_159 : decode cX8_digest 159 = .ok (.aload_n 0, 1) := by decide +kernel
theorem dX8_digest_160 : decode cX8_digest 160 = .ok (.iload_n 1, 1) := by decide +kernel
theorem dX8_digest_161 : decode cX8_digest 161 = .ok (.invokevirtual 181, 3) := by decide +kernel
theorem dX8_digest_164 : decode cX8_digest 164 = .ok (.i2l, 1) := by decide +kernel
theorem dX8_digest_165 : decode cX8_digest 165 = .ok (.invokevirtual 205, 3) := by decide +kernel
theorem dX8_digest_168 : decode cX8_digest 168 = .ok (.iinc 1 1, 3) := by decide +kernel
theorem dX8_digest_171 : decode cX8_digest 171 = .ok (.goto (-18), 3) := by decide +kernel
theorem dX8_digest_174 : decode cX8_digest 174 = .ok (.iconst 0, 1) := by decide +kernel
theorem dX8_digest_175 : decode cX8_digest 175 = .ok (.istore_n 1, 1) := by decide +kernel
theorem dX8_digest_176 : decode cX8_digest 176 = .ok (.iload_n 1, 1) := by decide +kernel
theorem dX8_digest_177 : decode cX8_digest 177 = .ok (.iconst 3, 1) := by decide +kernel
theorem dX8_digest_178 : decode cX8_digest 178 = .ok (.if_icmp .gt 19, 3) := by decide +kernel
theorem dX8_digest_181 : decode cX8_digest 181 = .ok (.aload_n 0, 1) := by decide +kernel
theorem dX8_digest_182 : decode cX8_digest 182 = .ok (.aload_n 0, 1) := by decide +kernel
theorem dX8_digest_183 : decode cX8_digest 183 = .ok (.iload_n 1, 1) := by decide +kernel
theorem dX8_digest_184 : decode cX8_digest 184 = .ok (.invokevirtual 184, 3) := by decide +kernel
theorem dX8_digest_187 : decode cX8_digest 187 = .ok (.i2l, 1) := by decide +kernel
theorem dX8_digest_188 : decode cX8_digest 188 = .ok (.invokevirtual 205, 3) := by decide +kernel
theorem dX8_digest_191 : decode cX8_digest 191 = .ok (.iinc 1 1, 3) := by decide +kernel
theorem dX8_digest_194 : decode cX8_digest 194 = .ok (.goto (-18), 3) := by decide +kernel
theorem dX8_digest_197 : decode cX8_digest 197 = .ok (.aload_n 0, 1) := by decide +kernel
theorem dX8_digest_198 : decode cX8_digest 198 = .ok (.aload_n 0, 1) := by decide +kernel
theorem dX8_digest_199 : decode cX8_digest 199 = .ok (.invokevirtual 187, 3) := by decide +kernel
theorem dX8_digest_202 : decode cX8_digest 202 = .ok (.invokestatic 218, 3) := by decide +kernel
theorem dX8_digest_205 : decode cX8_digest 205 = .ok (.invokevirtual 205, 3) := by decide +kernel
theorem dX8_digest_208 : decode cX8_digest 208 = .ok (.aload_n 0, 1) := by decide +kernel
theorem dX8_digest_209 : decode cX8_digest 209 = .ok (.aload_n 0, 1) := by decide +kernel
theorem dX8_digest_210 : decode cX8_digest 210 = .ok (.getfield 103, 3) := by decide +kernel
theorem dX8_digest_213 : decode cX8_digest 213 = .ok (.i2l, 1) := by decide +kernel
theorem dX8_digest_214 : decode cX8_digest 214 = .ok (.invokevirtual 205, 3) := by decide +kernel
theorem dX8_digest_217 : decode cX8_digest 217 = .ok (.iconst 0, 1) := by decide +kernel
theorem dX8_digest_218 : decode cX8_digest 218 = .ok (.istore_n 1, 1) := by decide +kernel
theorem dX8_digest_219 : decode cX8_digest 219 = .ok (.iload_n 1, 1) := by decide +kernel
theorem dX8_digest_220 : decode cX8_digest 220 = .ok (.aload_n 0, 1) := by decide +kernel
theorem dX8_digest_221 : decode cX8_digest 221 = .ok (.getfield 103, 3) := by decide +kernel
theorem dX8_digest_224 : decode cX8_digest 224 = .ok (.if_icmp .ge 20, 3) := by decide +kernel
theorem dX8_digest_227 : decode cX8_digest 227 = .ok (.aload_n 0, 1) := by decide +kernel
theorem dX8_digest_228 : decode cX8_digest 228 = .ok (.aload_n 0, 1) := by decide +kernel
theorem dX8_digest_229 : decode cX8_digest 229 = .ok (.getfield 19, 3) := by decide +kernel
theorem dX8_digest_232 : decode cX8_digest 232 = .ok (.iload_n 1, 1) := by decide +kernel
theorem dX8_digest_233 : decode cX8_digest 233 = .ok (.iaload, 1) := by decide +kernel
theorem dX8_digest_234 : decode cX8_digest 234 = .ok (.i2l, 1) := by decide +kernel
theorem dX8_digest_235 : decode cX8_digest 235 = .ok (.invokevirtual 205, 3) := by decide +kernel
theorem dX8_digest_238 : decode cX8_digest 238 = .ok (.iinc 1 1, 3) := by decide +kernel
theorem dX8_digest_241 : decode cX8_digest 241 = .ok (.goto (-22), 3) := by decide +kernel
theorem dX8_digest_244 : decode cX8_digest 244 = .ok (.aload_n 0, 1) := by decide +kernel
theorem dX8_digest_245 : decode cX8_digest 245 = .ok (.getfield 201, 3) := by decide +kernel
theorem dX8_digest_248 : decode cX8_digest 248 = .ok (.lreturn, 1) := by decide +kernel
theorem dJ9_abs_0f7a4_0 : decode cJ9_abs_0f7a4 0 = .ok (.iload_n 0, 1) := by decide +kernel
theorem dJ9_abs_0f7a4_1 : decode cJ9_abs_0f7a4 1 = .ok (.ifCond .ge 8, 3) := by decide +kernel
theorem dJ9_abs_0f7a4_4 : decode cJ9_abs_0f7a4 4 = .ok (.iload_n 0, 1) := by decide +kernel
theorem dJ9_abs_0f7a4_5 : decode cJ9_abs_0f7a4 5 = .ok (.ineg, 1) := by decide +kernel
theorem dJ9_abs_0f7a4_6 : decode cJ9_abs_0f7a4 6 = .ok (.goto 4, 3) := by decide +kernel
theorem dJ9_abs_0f7a4_9 : decode cJ9_abs_0f7a4 9 = .ok (.iload_n 0, 1) := by decide +kernel
theorem dJ9_abs_0f7a4_10 : decode cJ9_abs_0f7a4 10 = .ok (.ireturn, 1) := by decide +kernel
theorem dJ9_max_7cf53_0 : decode cJ9_max_7cf53 0 = .ok (.iload_n 0, 1) := by decide +kernel
theorem dJ9_max_7cf53_1 : decode cJ9_max_7cf53 1 = .ok (.iload_n 1, 1) := by decide +kernel
theorem dJ9_max_7cf53_2 : decode cJ9_max_7cf53 2 = .ok (.if_icmp .lt 7, 3) := by decide +kernel
theorem dJ9_max_7cf53_5 : decode cJ9_max_7cf53 5 = .ok (.iload_n 0, 1) := by decide +kernel
theorem dJ9_max_7cf53_6 : decode cJ9_max_7cf53 6 = .ok (.goto 4, 3) := by decide +kernel
theorem dJ9_max_7cf53_9 : decode cJ9_max_7cf53 9 = .ok (.iload_n 1, 1) := by decide +kernel
theorem dJ9_max_7cf53_10 : decode cJ9_max_7cf53 10 = .ok (.ireturn, 1) := by decide +kernel
set_option maxRecDepth 20000 in
theorem ggL_begin_X7_begin : GoodIn wsL_begin wsX7_begin := goodIn_ca (goodIn_r _ [6, 7, 8, 9, 10, 11, 12, 13, 14, 15, 16, 17, 18, 19, 20, 21, 22, 23, 24, 25, 26, 27, 28, 29, 30, 31, 32, 33, 5, 34, 35, 36, 37, 38, 39, 40, 41, 42, 43, 44, 45, 46, 47, 48, 49, 50, 51, 52, 53, 54, 55, 56, 57, 58, 59, 60, 61, 62, 63, 64] (by decide +kernel) (by decide +kernel)) (goodIn_sub (fun _ h => List.mem_cons_of_mem _ (List.mem_append_right _ h)) (by decide +kernel))
set_option maxRecDepth 20000 in
theorem gL_begin_X7_begin : GoodIn wsL_begin (wsV RL 7 RX7 yX7_begin wsX7_begin) := goodIn_app (goodIn_of _ (by decide +kernel)) ggL_begin_X7_begin
theorem dL_begin_0 : decode cL_begin 0 = .ok (.aload_n 2, 1) := by decide +kernel
theorem dL_begin_1 : decode cL_begin 1 = .ok (.iconst 0, 1) := by decide +kernel
theorem dL_begin_2 : decode cL_begin 2 = .ok (.aload_n 0, 1) := by decide +kernel
theorem dL_begin_3 : decode cL_begin 3 = .ok (.iload_n 1, 1) := by decide +kernel
theorem dL_begin_4 : decode cL_begin 4 = .ok (.invokevirtual 7, 3) := by decide +kernel
theorem dL_begin_7 : decode cL_begin 7 = .ok (.i2l, 1) := by decide +kernel
theorem dL_begin_8 : decode cL_begin 8 = .ok (.lastore, 1) := by decide +kernel
theorem dL_begin_9 : decode cL_begin 9 = .ok (.goto 6, 3) := by decide +kernel
theorem dL_begin_12 : decode cL_begin 12 = .ok (.astore_n 3, 1) := by decide +kernel
theorem dL_begin_13 : decode cL_begin 13 = .ok (.iconst 1, 1) := by decide +kernel
theorem dL_begin_14 : decode cL_begin 14 = .ok (.ireturn, 1) := by decide +kernel
theorem dL_begin_15 : decode cL_begin 15 = .ok (.iconst 0, 1) := by decide +kernel
theorem dL_begin_16 : decode cL_begin 16 = .ok (.ireturn, 1) := by decide +kernel
set_option maxRecDepth 20000 in
theorem ggL_put_X7_put : GoodIn wsL_put wsX7_put := goodIn_ca (goodIn_ca (goodIn_r _ [7, 8, 9, 10, 11, 12, 13, 14, 15, 16, 17, 18, 19, 20, 21, 22, 23, 24, 25, 6, 26, 27, 28, 29, 30, 31, 32, 33, 34, 35, 36, 37, 38, 39, 40, 41, 42, 43, 44, 45, 46, 47, 48, 49, 50, 51, 52, 53, 54, 55, 56, 57, 58, 59, 60, 61, 62, 63, 64, 65, 66, 67, 68, 69, 70, 71, 72, 73, 74, 75, 76, 77, 78, 79, 80, 81, 82, 83, 84] (by decide +kernel) (by decide +kernel)) (goodIn_sub (fun _ h => List.mem_cons_of_mem _ (List.mem_append_left _ (List.mem_append_right _ h))) (by decide +kernel))) (goodIn_sub (fun _ h => List.mem_cons_of_mem _ (List.mem_append_right _ h)) (by decide +kernel))
set_option maxRecDepth 20000 in
theorem gL_put_X7_put : GoodIn wsL_put (wsV RL 15 RX7 yX7_put wsX7_put) := goodIn_app (goodIn_of _ (by decide +kernel)) ggL_put_X7_put
theorem dL_put_0 : decode cL_put 0 = .ok (.aload 5, 2) := by decide +kernel
theorem dL_put_2 : decode cL_put 2 = .ok (.iconst 0, 1) := by decide +kernel
theorem dL_put_3 : decode cL_put 3 = .ok (.aload_n 0, 1) := by decide +kernel
theorem dL_put_4 : decode cL_put 4 = .ok (.iload_n 1, 1) := by decide +kernel
theorem dL_put_5 : decode cL_put 5 = .ok (.iload_n 2, 1) := by decide +kernel
theorem dL_put_6 : decode cL_put 6 = .ok (.iload_n 3, 1) := by decide +kernel
theorem dL_put_7 : decode cL_put 7 = .ok (.iload 4, 2) := by decide +kernel
theorem dL_put_9 : decode cL_put 9 = .ok (.invokevirtual 15, 3) := by decide +kernel
theorem dL_put_12 : decode cL_put 12 = .ok (.i2l, 1) := by decide +kernel
theorem dL_put_13 : decode cL_put 13 = .ok (.lastore, 1) := by decide +kernel
theorem dL_put_14 : decode cL_put 14 = .ok (.goto 11, 3) := by decide +kernel
theorem dL_put_17 : decode cL_put 17 = .ok (.astore 6, 2) := by decide +kernel
theorem dL_put_19 : decode cL_put 19 = .ok (.iconst 1, 1) := by decide +kernel
theorem dL_put_20 : decode cL_put 20 = .ok (.ireturn, 1) := by decide +kernel
theorem dL_put_21 : decode cL_put 21 = .ok (.astore 6, 2) := by decide +kernel
theorem dL_put_23 : decode cL_put 23 = .ok (.iconst 2, 1) := by decide +kernel
theorem dL_put_24 : decode cL_put 24 = .ok (.ireturn, 1) := by decide +kernel
theorem dL_put_25 : decode cL_put 25 = .ok (.iconst 0, 1) := by decide +kernel
theorem dL_put_26 : decode cL_put 26 = .ok (.ireturn, 1) := by decide +kernel
set_option maxRecDepth 20000 in
theorem ggL_add_X7_add : GoodIn wsL_add wsX7_add := goodIn_ca (goodIn_ca (goodIn_ca (goodIn_r _ [8, 9, 10, 11, 12, 13, 14, 15, 16, 17, 18, 19, 20, 21, 22, 23, 24, 25, 26, 27, 28, 7, 29, 30, 31, 32, 33, 34, 35, 36, 37, 38, 39, 40, 41, 42, 43, 44, 45, 46, 47, 48, 49, 50, 51, 52, 53, 54, 55, 56, 57, 58, 59, 60, 61, 62, 63, 64, 65, 66, 67, 68, 69, 70, 71, 72, 73, 74, 75, 76, 77, 78, 79, 80, 81, 82, 83, 84, 85, 86, 87, 88, 89, 90, 91, 92, 93, 94, 95, 96] (by decide +kernel) (by decide +kernel)) (goodIn_sub (fun _ h => List.mem_cons_of_mem _ (List.mem_append_left _ (List.mem_append_left _ (List.mem_append_right _ h)))) (by decide +kernel))) (goodIn_sub (fun _ h => List.mem_cons_of_mem _ (List.mem_append_left _ (List.mem_append_right _ h))) (by decide +kernel))) (goodIn_sub (fun _ h => List.mem_cons_of_mem _ (List.mem_append_right _ h)) (by decide +kernel))
set_option maxRecDepth 20000 in
theorem gL_add_X7_add : GoodIn wsL_add (wsV RL 21 RX7 yX7_add wsX7_add) := goodIn_app (goodIn_of _ (by decide +kernel)) ggL_add_X7_add
theorem dL_add_0 : decode cL_add 0 = .ok (.aload 6, 2) := by decide +kernel
theorem dL_add_2 : decode cL_add 2 = .ok (.iconst 0, 1) := by decide +kernel
theorem dL_add_3 : decode cL_add 3 = .ok (.aload_n 0, 1) := by decide +kernel
theorem dL_add_4 : decode cL_add 4 = .ok (.iload_n 1, 1) := by decide +kernel
theorem dL_add_5 : decode cL_add 5 = .ok (.iload_n 2, 1) := by decide +kernel
theorem dL_add_6 : decode cL_add 6 = .ok (.iload_n 3, 1) := by decide +kernel
theorem dL_add_7 : decode cL_add 7 = .ok (.iload 4, 2) := by decide +kernel
theorem dL_add_9 : decode cL_add 9 = .ok (.iload 5, 2) := by decide +kernel
theorem dL_add_11 : decode cL_add 11 = .ok (.invokevirtual 21, 3) := by decide +kernel
theorem dL_add_14 : decode cL_add 14 = .ok (.i2l, 1) := by decide +kernel
theorem dL_add_15 : decode cL_add 15 = .ok (.lastore, 1) := by decide +kernel
theorem dL_add_16 : decode cL_add 16 = .ok (.goto 15, 3) := by decide +kernel
theorem dL_add_19 : decode cL_add 19 = .ok (.astore 7, 2) := by decide +kernel
theorem dL_add_21 : decode cL_add 21 = .ok (.iconst 1, 1) := by decide +kernel
theorem dL_add_22 : decode cL_add 22 = .ok (.ireturn, 1) := by decide +kernel
theorem dL_add_23 : decode cL_add 23 = .ok (.astore 7, 2) := by decide +kernel
theorem dL_add_25 : decode cL_add 25 = .ok (.iconst 2, 1) := by decide +kernel
theorem dL_add_26 : decode cL_add 26 = .ok (.ireturn, 1) := by decide +kernel
theorem dL_add_27 : decode cL_add 27 = .ok (.astore 7, 2) := by decide +kernel
theorem dL_add_29 : decode cL_add 29 = .ok (.iconst 3, 1) := by decide +kernel
theorem dL_add_30 : decode cL_add 30 = .ok (.ireturn, 1) := by decide +kernel
theorem dL_add_31 : decode cL_add 31 = .ok (.iconst 0, 1) := by decide +kernel
theorem dL_add_32 : decode cL_add 32 = .ok (.ireturn, 1) := by decide +kernel
set_option maxRecDepth 20000 in
theorem ggL_wipe_X7_wipe : GoodIn wsL_wipe wsX7_wipe := goodIn_ca (goodIn_ca (goodIn_r _ [7, 8, 9, 10, 11, 12, 13, 14, 15, 16, 17, 18, 19, 20, 21, 6, 22, 23, 24, 25, 26, 27, 28, 29, 30, 31, 32, 33, 34, 35, 36, 37, 38, 39, 40, 41, 42, 43, 44, 45, 46, 47, 48, 49, 50, 51, 52, 53, 54, 55, 56, 57, 58, 59, 60, 61, 62, 63, 64, 65, 66, 67, 68, 69, 70, 71, 72, 73, 74, 75, 76, 77, 78, 79, 80, 81, 82, 83, 84, 85, 86, 87, 88, 89, 90, 91, 92] (by decide +kernel) (by decide +kernel)) (goodIn_sub (fun _ h => List.mem_cons_of_mem _ (List.mem_append_left _ (List.mem_append_right _ h))) (by decide +kernel))) (goodIn_sub (fun _ h => List.mem_cons_of_mem _ (List.mem_append_right _ h)) (by decide +kernel))
set_option maxRecDepth 20000 in
theorem gL_wipe_X7_wipe : GoodIn wsL_wipe (wsV RL 27 RX7 yX7_wipe wsX7_wipe) := goodIn_app (goodIn_of _ (by decide +kernel)) ggL_wipe_X7_wipe
theorem dL_wipe_0 : decode cL_wipe 0 = .ok (.aload_n 3, 1) := by decide +kernel
theorem dL_wipe_1 : decode cL_wipe 1 = .ok (.iconst 0, 1) := by decide +kernel
theorem dL_wipe_2 : decode cL_wipe 2 = .ok (.aload_n 0, 1) := by decide +kernel
theorem dL_wipe_3 : decode cL_wipe 3 = .ok (.iload_n 1, 1) := by decide +kernel
theorem dL_wipe_4 : decode cL_wipe 4 = .ok (.iload_n 2, 1) := by decide +kernel
theorem dL_wipe_5 : decode cL_wipe 5 = .ok (.invokevirtual 27, 3) := by decide +kernel
theorem dL_wipe_8 : decode cL_wipe 8 = .ok (.i2l, 1) := by decide +kernel
theorem dL_wipe_9 : decode cL_wipe 9 = .ok (.lastore, 1) := by decide +kernel
theorem dL_wipe_10 : decode cL_wipe 10 = .ok (.goto 11, 3) := by decide +kernel
theorem dL_wipe_13 : decode cL_wipe 13 = .ok (.astore 4, 2) := by decide +kernel
theorem dL_wipe_15 : decode cL_wipe 15 = .ok (.iconst 1, 1) := by decide +kernel
theorem dL_wipe_16 : decode cL_wipe 16 = .ok (.ireturn, 1) := by decide +kernel
theorem dL_wipe_17 : decode cL_wipe 17 = .ok (.astore 4, 2) := by decide +kernel
theorem dL_wipe_19 : decode cL_wipe 19 = .ok (.iconst 2, 1) := by decide +kernel
theorem dL_wipe_20 : decode cL_wipe 20 = .ok (.ireturn, 1) := by decide +kernel
theorem dL_wipe_21 : decode cL_wipe 21 = .ok (.iconst 0, 1) := by decide +kernel
theorem dL_wipe_22 : decode cL_wipe 22 = .ok (.ireturn, 1) := by decide +kernel
set_option maxRecDepth 20000 in
theorem ggL_shift_X7_shift : GoodIn wsL_shift wsX7_shift := goodIn_ca (goodIn_r _ [6, 7, 8, 9, 10, 11, 12, 5, 13, 14, 15, 16, 17, 18, 19, 20, 21, 22, 23, 24, 25, 26, 27, 28, 29, 30, 31, 32, 33, 34, 35, 36, 37, 38, 39, 40, 41, 42, 43, 44, 45, 46, 47, 48, 49, 50, 51, 52, 53, 54, 55, 56, 57, 58, 59, 60, 61, 62, 63, 64, 65, 66, 67, 68, 69, 70, 71, 72, 73, 74, 75, 76, 77, 78, 79, 80, 81, 82, 83, 84, 85] (by decide +kernel) (by decide +kernel)) (goodIn_sub (fun _ h => List.mem_cons_of_mem _ (List.mem_append_right _ h)) (by decide +kernel))
set_option maxRecDepth 20000 in
theorem gL_shift_X7_shift : GoodIn wsL_shift (wsV RL 31 RX7 yX7_shift wsX7_shift) := goodIn_app (goodIn_of _ (by decide +kernel)) ggL_shift_X7_shift
theorem dL_shift_0 : decode cL_shift 0 = .ok (.aload_n 2, 1) := by decide +kernel
theorem dL_shift_1 : decode cL_shift 1 = .ok (.iconst 0, 1) := by decide +kernel
theorem dL_shift_2 : decode cL_shift 2 = .ok (.aload_n 0, 1) := by decide +kernel
theorem dL_shift_3 : decode cL_shift 3 = .ok (.iload_n 1, 1) := by decide +kernel
theorem dL_shift_4 : decode cL_shift 4 = .ok (.invokevirtual 31, 3) := by decide +kernel
theorem dL_shift_7 : decode cL_shift 7 = .ok (.i2l, 1) := by decide +kernel
theorem dL_shift_8 : decode cL_shift 8 = .ok (.lastore, 1) := by decide +kernel
theorem dL_shift_9 : decode cL_shift 9 = .ok (.goto 6, 3) := by decide +kernel
theorem dL_shift_12 : decode cL_shift 12 = .ok (.astore_n 3, 1) := by decide +kernel
theorem dL_shift_13 : decode cL_shift 13 = .ok (.iconst 1, 1) := by decide +kernel
theorem dL_shift_14 : decode cL_shift 14 = .ok (.ireturn, 1) := by decide +kernel
theorem dL_shift_15 : decode cL_shift 15 = .ok (.iconst 0, 1) := by decide +kernel
theorem dL_shift_16 : decode cL_shift 16 = .ok (.ireturn, 1) := by decide +kernel
set_option maxRecDepth 20000 in
theorem ggL_keep_X7_keep : GoodIn wsL_keep wsX7_keep := goodIn_ca (goodIn_r _ [6, 7, 8, 9, 10, 11, 12, 5, 13, 14, 15, 16, 17, 18, 19, 20, 21, 22, 23, 24, 25, 26, 27, 28, 29, 30, 31, 32, 33, 34, 35, 36, 37, 38, 39, 40, 41, 42, 43, 44, 45, 46, 47, 48, 49, 50, 51, 52, 53, 54, 55, 56, 57, 58, 59, 60, 61, 62, 63, 64, 65, 66, 67, 68, 69, 70, 71, 72, 73, 74, 75, 76, 77, 78, 79, 80, 81, 82, 83, 84, 85, 86, 87, 88, 89, 90, 91, 92, 93, 94, 95, 96, 97, 98, 99, 100, 101, 102, 103, 104, 105, 106, 107, 108, 109, 110, 111, 112, 113, 114, 115, 116, 117, 118] (by decide +kernel) (by decide +kernel)) (goodIn_sub (fun _ h => List.mem_cons_of_mem _ (List.mem_append_right _ h)) (by decide +kernel))
set_option maxRecDepth 20000 in
theorem gL_keep_X7_keep : GoodIn wsL_keep (wsV RL 34 RX7 yX7_keep wsX7_keep) := goodIn_app (goodIn_of _ (by decide +kernel)) ggL_keep_X7_keep
theorem dL_keep_0 : decode cL_keep 0 = .ok (.aload_n 2, 1) := by decide +kernel
theorem dL_keep_1 : decode cL_keep 1 = .ok (.iconst 0, 1) := by decide +kernel
theorem dL_keep_2 : decode cL_keep 2 = .ok (.aload_n 0, 1) := by decide +kernel
theorem dL_keep_3 : decode cL_keep 3 = .ok (.iload_n 1, 1) := by decide +kernel
theorem dL_keep_4 : decode cL_keep 4 = .ok (.invokevirtual 34, 3) := by decide +kernel
theorem dL_keep_7 : decode cL_keep 7 = .ok (.i2l, 1) := by decide +kernel
theorem dL_keep_8 : decode cL_keep 8 = .ok (.lastore, 1) := by decide +kernel
theorem dL_keep_9 : decode cL_keep 9 = .ok (.goto 6, 3) := by decide +kernel
theorem dL_keep_12 : decode cL_keep 12 = .ok (.astore_n 3, 1) := by decide +kernel
theorem dL_keep_13 : decode cL_keep 13 = .ok (.iconst 1, 1) := by decide +kernel
theorem dL_keep_14 : decode cL_keep 14 = .ok (.ireturn, 1) := by decide +kernel
theorem dL_keep_15 : decode cL_keep 15 = .ok (.iconst 0, 1) := by decide +kernel
theorem dL_keep_16 : decode cL_keep 16 = .ok (.ireturn, 1) := by decide +kernel
set_option maxRecDepth 20000 in
theorem ggL_set_X7_set : GoodIn wsL_set wsX7_set := goodIn_ca (goodIn_r _ [6, 7, 8, 9, 10, 11, 12, 13, 14, 15, 16, 17, 18, 19, 20, 21, 22, 23, 24, 25, 26, 27, 28, 29, 30, 31, 32, 33, 5, 34, 35, 36, 37, 38, 39, 40, 41, 42, 43, 44, 45, 46, 47, 48, 49, 50, 51, 52, 53, 54] (by decide +kernel) (by decide +kernel)) (goodIn_sub (fun _ h => List.mem_cons_of_mem _ (List.mem_append_right _ h)) (by decide +kernel))
set_option maxRecDepth 20000 in
theorem gL_set_X7_set : GoodIn wsL_set (wsV RL 37 RX7 yX7_set wsX7_set) := goodIn_app (goodIn_of _ (by decide +kernel)) ggL_set_X7_set
theorem dL_set_0 : decode cL_set 0 = .ok (.aload_n 2, 1) := by decide +kernel
theorem dL_set_1 : decode cL_set 1 = .ok (.iconst 0, 1) := by decide +kernel
theorem dL_set_2 : decode cL_set 2 = .ok (.aload_n 0, 1) := by decide +kernel
theorem dL_set_3 : decode cL_set 3 = .ok (.iload_n 1, 1) := by decide +kernel
theorem dL_set_4 : decode cL_set 4 = .ok (.invokevirtual 37, 3) := by decide +kernel
theorem dL_set_7 : decode cL_set 7 = .ok (.i2l, 1) := by decide +kernel
theorem dL_set_8 : decode cL_set 8 = .ok (.lastore, 1) := by decide +kernel
theorem dL_set_9 : decode cL_set 9 = .ok (.goto 6, 3) := by decide +kernel
theorem dL_set_12 : decode cL_set 12 = .ok (.astore_n 3, 1) := by decide +kernel
theorem dL_set_13 : decode cL_set 13 = .ok (.iconst 1, 1) := by decide +kernel
theorem dL_set_14 : decode cL_set 14 = .ok (.ireturn, 1) := by decide +kernel
theorem dL_set_15 : decode cL_set 15 = .ok (.iconst 0, 1) := by decide +kernel
theorem dL_set_16 : decode cL_set 16 = .ok (.ireturn, 1) := by decide +kernel
set_option maxRecDepth 20000 in
theorem ggL_append_X7_append : GoodIn wsL_append wsX7_append := goodIn_ca (goodIn_ca (goodIn_r _ [7, 8, 9, 10, 11, 12, 13, 14, 15, 16, 17, 18, 19, 20, 6, 21, 22, 23, 24, 25, 26, 27, 28, 29, 30, 31] (by decide +kernel) (by decide +kernel)) (goodIn_sub (fun _ h => List.mem_cons_of_mem _ (List.mem_append_left _ (List.mem_append_right _ h))) (by decide +kernel))) (goodIn_sub (fun _ h => List.mem_cons_of_mem _ (List.mem_append_right _ h)) (by decide +kernel))
set_option maxRecDepth 20000 in
theorem gL_append_X7_append : GoodIn wsL_append (wsV RL 40 RX7 yX7_append wsX7_append) := goodIn_app (goodIn_of _ (by decide +kernel)) ggL_append_X7_append
theorem dL_append_0 : decode cL_append 0 = .ok (.aload_n 2, 1) := by decide +kernel
theorem dL_append_1 : decode cL_append 1 = .ok (.iconst 0, 1) := by decide +kernel
theorem dL_append_2 : decode cL_append 2 = .ok (.aload_n 0, 1) := by decide +kernel
theorem dL_append_3 : decode cL_append 3 = .ok (.iload_n 1, 1) := by decide +kernel
theorem dL_append_4 : decode cL_append 4 = .ok (.invokevirtual 40, 3) := by decide +kernel
theorem dL_append_7 : decode cL_append 7 = .ok (.i2l, 1) := by decide +kernel
theorem dL_append_8 : decode cL_append 8 = .ok (.lastore, 1) := by decide +kernel
theorem dL_append_9 : decode cL_append 9 = .ok (.goto 9, 3) := by decide +kernel
theorem dL_append_12 : decode cL_append 12 = .ok (.astore_n 3, 1) := by decide +kernel
theorem dL_append_13 : decode cL_append 13 = .ok (.iconst 1, 1) := by decide +kernel
theorem dL_append_14 : decode cL_append 14 = .ok (.ireturn, 1) := by decide +kernel
theorem dL_append_15 : decode cL_append 15 = .ok (.astore_n 3, 1) := by decide +kernel
theorem dL_append_16 : decode cL_append 16 = .ok (.iconst 2, 1) := by decide +kernel
theorem dL_append_17 : decode cL_append 17 = .ok (.ireturn, 1) := by decide +kernel
theorem dL_append_18 : decode cL_append 18 = .ok (.iconst 0, 1) := by decide +kernel
theorem dL_append_19 : decode cL_append 19 = .ok (.ireturn, 1) := by decide +kernel
set_option maxRecDepth 20000 in
theorem ggL_read_X7_read : GoodIn wsL_read wsX7_read := goodIn_ca (goodIn_r _ [6, 7, 8, 9, 10, 11, 12, 13, 14, 15, 16, 17, 18, 19, 20, 21, 22, 23, 5, 24, 25, 26, 27, 28, 29, 30, 31, 32, 33, 34, 35, 36, 37, 38, 39, 40, 41, 42, 43, 44, 45, 46, 47, 48, 49, 50, 51, 52, 53, 54, 55, 56, 57, 58, 59, 60, 61, 62, 63, 64, 65, 66, 67, 68, 69, 70, 71, 72, 73, 74, 75, 76, 77, 78, 79, 80, 81, 82, 83, 84, 85, 86, 87, 88, 89, 90, 91, 92, 93, 94, 95, 96, 97, 98, 99, 100, 101, 102, 103, 104, 105, 106, 107, 108, 109, 110] (by decide +kernel) (by decide +kernel)) (goodIn_sub (fun _ h => List.mem_cons_of_mem _ (List.mem_append_right _ h)) (by decide +kernel))
set_option maxRecDepth 20000 in
theorem gL_read_X7_read : GoodIn wsL_read (wsV RL 43 RX7 yX7_read wsX7_read) := goodIn_app (goodIn_of _ (by decide +kernel)) ggL_read_X7_read
theorem dL_read_0 : decode cL_read 0 = .ok (.aload_n 1, 1) := by decide +kernel
theorem dL_read_1 : decode cL_read 1 = .ok (.iconst 0, 1) := by decide +kernel
theorem dL_read_2 : decode cL_read 2 = .ok (.aload_n 0, 1) := by decide +kernel
theorem dL_read_3 : decode cL_read 3 = .ok (.invokevirtual 43, 3) := by decide +kernel
theorem dL_read_6 : decode cL_read 6 = .ok (.i2l, 1) := by decide +kernel
theorem dL_read_7 : decode cL_read 7 = .ok (.lastore, 1) := by decide +kernel
theorem dL_read_8 : decode cL_read 8 = .ok (.goto 6, 3) := by decide +kernel
theorem dL_read_11 : decode cL_read 11 = .ok (.astore_n 2, 1) := by decide +kernel
theorem dL_read_12 : decode cL_read 12 = .ok (.iconst 1, 1) := by decide +kernel
theorem dL_read_13 : decode cL_read 13 = .ok (.ireturn, 1) := by decide +kernel
theorem dL_read_14 : decode cL_read 14 = .ok (.iconst 0, 1) := by decide +kernel
theorem dL_read_15 : decode cL_read 15 = .ok (.ireturn, 1) := by decide +kernel
set_option maxRecDepth 20000 in
theorem ggL_undo_X7_undo : GoodIn wsL_undo wsX7_undo := goodIn_ca (goodIn_r _ [6, 7, 8, 9, 10, 11, 12, 13, 14, 15, 16, 17, 18, 19, 20, 21, 22, 23, 24, 25, 26, 27, 28, 29, 30, 31, 32, 33, 5, 34, 35, 36, 37, 38, 39, 40, 41, 42, 43, 44, 45, 46, 47, 48, 49, 50, 51, 52, 53, 54] (by decide +kernel) (by decide +kernel)) (goodIn_sub (fun _ h => List.mem_cons_of_mem _ (List.mem_append_right _ h)) (by decide +kernel))
set_option maxRecDepth 20000 in
theorem gL_undo_X7_undo : GoodIn wsL_undo (wsV RL 47 RX7 yX7_undo wsX7_undo) := goodIn_app (goodIn_of _ (by decide +kernel)) ggL_undo_X7_undo
theorem dL_undo_0 : decode cL_undo 0 = .ok (.aload_n 1, 1) := by decide +kernel
theorem dL_undo_1 : decode cL_undo 1 = .ok (.iconst 0, 1) := by decide +kernel
theorem dL_undo_2 : decode cL_undo 2 = .ok (.aload_n 0, 1) := by decide +kernel
theorem dL_undo_3 : decode cL_undo 3 = .ok (.invokevirtual 47, 3) := by decide +kernel
theorem dL_undo_6 : decode cL_undo 6 = .ok (.i2l, 1) := by decide +kernel
theorem dL_undo_7 : decode cL_undo 7 = .ok (.lastore, 1) := by decide +kernel
theorem dL_undo_8 : decode cL_undo 8 = .ok (.goto 6, 3) := by decide +kernel
theorem dL_undo_11 : decode cL_undo 11 = .ok (.astore_n 2, 1) := by decide +kernel
theorem dL_undo_12 : decode cL_undo 12 = .ok (.iconst 1, 1) := by decide +kernel
theorem dL_undo_13 : decode cL_undo 13 = .ok (.ireturn, 1) := by decide +kernel
theorem dL_undo_14 : decode cL_undo 14 = .ok (.iconst 0, 1) := by decide +kernel
theorem dL_undo_15 : decode cL_undo 15 = .ok (.ireturn, 1) := by decide +kernel
set_option maxRecDepth 20000 in
theorem ggL_at_X7_at : GoodIn wsL_at wsX7_at := goodIn_ca (goodIn_r _ [6, 7, 8, 9, 10, 11, 12, 13, 14, 15, 16, 17, 18, 19, 20, 21, 22, 23, 24, 25, 26, 27, 28, 29, 5, 30, 31, 32, 33, 34, 35, 36, 37, 38, 39, 40, 41, 42, 43] (by decide +kernel) (by decide +kernel)) (goodIn_sub (fun _ h => List.mem_cons_of_mem _ (List.mem_append_right _ h)) (by decide +kernel))
set_option maxRecDepth 20000 in
theorem gL_at_X7_at : GoodIn wsL_at (wsV RL 50 RX7 yX7_at wsX7_at) := goodIn_app (goodIn_of _ (by decide +kernel)) ggL_at_X7_at
theorem dL_at_0 : decode cL_at 0 = .ok (.aload 4, 2) := by decide +kernel
theorem dL_at_2 : decode cL_at 2 = .ok (.iconst 0, 1) := by decide +kernel
theorem dL_at_3 : decode cL_at 3 = .ok (.aload_n 0, 1) := by decide +kernel
theorem dL_at_4 : decode cL_at 4 = .ok (.iload_n 1, 1) := by decide +kernel
theorem dL_at_5 : decode cL_at 5 = .ok (.iload_n 2, 1) := by decide +kernel
theorem dL_at_6 : decode cL_at 6 = .ok (.iload_n 3, 1) := by decide +kernel
theorem dL_at_7 : decode cL_at 7 = .ok (.invokevirtual 50, 3) := by decide +kernel
theorem dL_at_10 : decode cL_at 10 = .ok (.i2l, 1) := by decide +kernel
theorem dL_at_11 : decode cL_at 11 = .ok (.lastore, 1) := by decide +kernel
theorem dL_at_12 : decode cL_at 12 = .ok (.goto 7, 3) := by decide +kernel
theorem dL_at_15 : decode cL_at 15 = .ok (.astore 5, 2) := by decide +kernel
theorem dL_at_17 : decode cL_at 17 = .ok (.iconst 1, 1) := by decide +kernel
theorem dL_at_18 : decode cL_at 18 = .ok (.ireturn, 1) := by decide +kernel
theorem dL_at_19 : decode cL_at 19 = .ok (.iconst 0, 1) := by decide +kernel
theorem dL_at_20 : decode cL_at 20 = .ok (.ireturn, 1) := by decide +kernel
set_option maxRecDepth 20000 in
theorem ggL_line_X7_line : GoodIn wsL_line wsX7_line := goodIn_ca (goodIn_ca (goodIn_r _ [7, 8, 9, 10, 11, 12, 13, 14, 15, 16, 17, 18, 19, 20, 6, 21, 22, 23, 24, 25, 26, 27, 28, 29, 30, 31, 32, 33, 34, 35, 36, 37, 38, 39, 40, 41, 42, 43, 44, 45, 46, 47, 48, 49, 50, 51, 52, 53, 54, 55, 56, 57] (by decide +kernel) (by decide +kernel)) (goodIn_sub (fun _ h => List.mem_cons_of_mem _ (List.mem_append_left _ (List.mem_append_right _ h))) (by decide +kernel))) (goodIn_sub (fun _ h => List.mem_cons_of_mem _ (List.mem_append_right _ h)) (by decide +kernel))
set_option maxRecDepth 20000 in
theorem gL_line_X7_line : GoodIn wsL_line (wsV RL 54 RX7 yX7_line wsX7_line) := goodIn_app (goodIn_of _ (by decide +kernel)) ggL_line_X7_line
theorem dL_line_0 : decode cL_line 0 = .ok (.aload 4, 2) := by decide +kernel
theorem dL_line_2 : decode cL_line 2 = .ok (.iconst 0, 1) := by decide +kernel
theorem dL_line_3 : decode cL_line 3 = .ok (.aload_n 0, 1) := by decide +kernel
theorem dL_line_4 : decode cL_line 4 = .ok (.iload_n 1, 1) := by decide +kernel
theorem dL_line_5 : decode cL_line 5 = .ok (.iload_n 2, 1) := by decide +kernel
theorem dL_line_6 : decode cL_line 6 = .ok (.iload_n 3, 1) := by decide +kernel
theorem dL_line_7 : decode cL_line 7 = .ok (.invokevirtual 54, 3) := by decide +kernel
theorem dL_line_10 : decode cL_line 10 = .ok (.i2l, 1) := by decide +kernel
theorem dL_line_11 : decode cL_line 11 = .ok (.lastore, 1) := by decide +kernel
theorem dL_line_12 : decode cL_line 12 = .ok (.goto 11, 3) := by decide +kernel
theorem dL_line_15 : decode cL_line 15 = .ok (.astore 5, 2) := by decide +kernel
theorem dL_line_17 : decode cL_line 17 = .ok (.iconst 1, 1) := by decide +kernel
theorem dL_line_18 : decode cL_line 18 = .ok (.ireturn, 1) := by decide +kernel
theorem dL_line_19 : decode cL_line 19 = .ok (.astore 5, 2) := by decide +kernel
theorem dL_line_21 : decode cL_line 21 = .ok (.iconst 2, 1) := by decide +kernel
theorem dL_line_22 : decode cL_line 22 = .ok (.ireturn, 1) := by decide +kernel
theorem dL_line_23 : decode cL_line 23 = .ok (.iconst 0, 1) := by decide +kernel
theorem dL_line_24 : decode cL_line 24 = .ok (.ireturn, 1) := by decide +kernel
set_option maxRecDepth 20000 in
theorem ggL_slice_X7_slice : GoodIn wsL_slice wsX7_slice := goodIn_ca (goodIn_ca (goodIn_r _ [7, 8, 9, 10, 11, 12, 13, 14, 15, 16, 17, 18, 19, 20, 21, 6, 22, 23, 24, 25, 26, 27, 28, 29, 30, 31, 32, 33, 34, 35, 36, 37, 38, 39, 40, 41, 42, 43, 44, 45, 46, 47, 48, 49, 50, 51, 52, 53, 54, 55, 56, 57, 58, 59, 60, 61, 62, 63, 64, 65, 66, 67, 68, 69, 70, 71, 72, 73, 74, 75, 76, 77, 78, 79, 80, 81, 82, 83, 84, 85, 86, 87, 88] (by decide +kernel) (by decide +kernel)) (goodIn_sub (fun _ h => List.mem_cons_of_mem _ (List.mem_append_left _ (List.mem_append_right _ h))) (by decide +kernel))) (goodIn_sub (fun _ h => List.mem_cons_of_mem _ (List.mem_append_right _ h)) (by decide +kernel))
set_option maxRecDepth 20000 in
theorem gL_slice_X7_slice : GoodIn wsL_slice (wsV RL 57 RX7 yX7_slice wsX7_slice) := goodIn_app (goodIn_of _ (by decide +kernel)) ggL_slice_X7_slice
theorem dL_slice_0 : decode cL_slice 0 = .ok (.aload 4, 2) := by decide +kernel
theorem dL_slice_2 : decode cL_slice 2 = .ok (.iconst 0, 1) := by decide +kernel
theorem dL_slice_3 : decode cL_slice 3 = .ok (.aload_n 0, 1) := by decide +kernel
theorem dL_slice_4 : decode cL_slice 4 = .ok (.iload_n 1, 1) := by decide +kernel
theorem dL_slice_5 : decode cL_slice 5 = .ok (.iload_n 2, 1) := by decide +kernel
theorem dL_slice_6 : decode cL_slice 6 = .ok (.iload_n 3, 1) := by decide +kernel
theorem dL_slice_7 : decode cL_slice 7 = .ok (.invokevirtual 57, 3) := by decide +kernel
theorem dL_slice_10 : decode cL_slice 10 = .ok (.i2l, 1) := by decide +kernel
theorem dL_slice_11 : decode cL_slice 11 = .ok (.lastore, 1) := by decide +kernel
theorem dL_slice_12 : decode cL_slice 12 = .ok (.goto 11, 3) := by decide +kernel
theorem dL_slice_15 : decode cL_slice 15 = .ok (.astore 5, 2) := by decide +kernel
theorem dL_slice_17 : decode cL_slice 17 = .ok (.iconst 1, 1) := by decide +kernel
theorem dL_slice_18 : decode cL_slice 18 = .ok (.ireturn, 1) := by decide +kernel
theorem dL_slice_19 : decode cL_slice 19 = .ok (.astore 5, 2) := by decide +kernel
theorem dL_slice_21 : decode cL_slice 21 = .ok (.iconst 2, 1) := by decide +kernel
theorem dL_slice_22 : decode cL_slice 22 = .ok (.ireturn, 1) := by decide +kernel
theorem dL_slice_23 : decode cL_slice 23 = .ok (.iconst 0, 1) := by decide +kernel
theorem dL_slice_24 : decode cL_slice 24 = .ok (.ireturn, 1) := by decide +kernel
set_option maxRecDepth 20000 in
theorem ggL_ordered_X7_ordered : GoodIn wsL_ordered wsX7_ordered := goodIn_ca (goodIn_r _ [6, 7, 8, 9, 10, 11, 12, 13, 14, 15, 16, 17, 5, 18, 19, 20, 21, 22, 23, 24, 25, 26, 27, 28, 29, 30, 31, 32, 33, 34, 35, 36, 37, 38, 39, 40, 41, 42, 43, 44, 45, 46, 47, 48, 49, 50, 51, 52, 53, 54, 55, 56, 57] (by decide +kernel) (by decide +kernel)) (goodIn_sub (fun _ h => List.mem_cons_of_mem _ (List.mem_append_right _ h)) (by decide +kernel))
set_option maxRecDepth 20000 in
theorem gL_ordered_X7_ordered : GoodIn wsL_ordered (wsV RL 60 RX7 yX7_ordered wsX7_ordered) := goodIn_app (goodIn_of _ (by decide +kernel)) ggL_ordered_X7_ordered
theorem dL_ordered_0 : decode cL_ordered 0 = .ok (.aload_n 3, 1) := by decide +kernel
theorem dL_ordered_1 : decode cL_ordered 1 = .ok (.iconst 0, 1) := by decide +kernel
theorem dL_ordered_2 : decode cL_ordered 2 = .ok (.aload_n 0, 1) := by decide +kernel
theorem dL_ordered_3 : decode cL_ordered 3 = .ok (.iload_n 1, 1) := by decide +kernel
theorem dL_ordered_4 : decode cL_ordered 4 = .ok (.iload_n 2, 1) := by decide +kernel
theorem dL_ordered_5 : decode cL_ordered 5 = .ok (.invokevirtual 60, 3) := by decide +kernel
theorem dL_ordered_8 : decode cL_ordered 8 = .ok (.i2l, 1) := by decide +kernel
theorem dL_ordered_9 : decode cL_ordered 9 = .ok (.lastore, 1) := by decide +kernel
theorem dL_ordered_10 : decode cL_ordered 10 = .ok (.goto 7, 3) := by decide +kernel
theorem dL_ordered_13 : decode cL_ordered 13 = .ok (.astore 4, 2) := by decide +kernel
theorem dL_ordered_15 : decode cL_ordered 15 = .ok (.iconst 1, 1) := by decide +kernel
theorem dL_ordered_16 : decode cL_ordered 16 = .ok (.ireturn, 1) := by decide +kernel
theorem dL_ordered_17 : decode cL_ordered 17 = .ok (.iconst 0, 1) := by decide +kernel
theorem dL_ordered_18 : decode cL_ordered 18 = .ok (.ireturn, 1) := by decide +kernel
set_option maxRecDepth 20000 in
theorem ggL_difference_X7_difference : GoodIn wsL_difference wsX7_difference := goodIn_ca (goodIn_r _ [6, 7, 8, 9, 10, 11, 12, 13, 14, 15, 16, 17, 18, 19, 20, 21, 22, 23, 24, 25, 26, 27, 28, 29, 30, 31, 32, 33, 34, 35, 36, 37, 38, 5, 39, 40, 41, 42, 43, 44, 45, 46, 47, 48, 49, 50, 51, 52, 53, 54, 55, 56, 57, 58, 59, 60] (by decide +kernel) (by decide +kernel)) (goodIn_sub (fun _ h => List.mem_cons_of_mem _ (List.mem_append_right _ h)) (by decide +kernel))
set_option maxRecDepth 20000 in
theorem gL_difference_X7_difference : GoodIn wsL_difference (wsV RL 63 RX7 yX7_difference wsX7_difference) := goodIn_app (goodIn_of _ (by decide +kernel)) ggL_difference_X7_difference
theorem dL_difference_0 : decode cL_difference 0 = .ok (.aload_n 2, 1) := by decide +kernel
theorem dL_difference_1 : decode cL_difference 1 = .ok (.iconst 0, 1) := by decide +kernel
theorem dL_difference_2 : decode cL_difference 2 = .ok (.aload_n 0, 1) := by decide +kernel
theorem dL_difference_3 : decode cL_difference 3 = .ok (.iload_n 1, 1) := by decide +kernel
theorem dL_difference_4 : decode cL_difference 4 = .ok (.invokevirtual 63, 3) := by decide +kernel
theorem dL_difference_7 : decode cL_difference 7 = .ok (.i2l, 1) := by decide +kernel
theorem dL_difference_8 : decode cL_difference 8 = .ok (.lastore, 1) := by decide +kernel
theorem dL_difference_9 : decode cL_difference 9 = .ok (.goto 6, 3) := by decide +kernel
theorem dL_difference_12 : decode cL_difference 12 = .ok (.astore_n 3, 1) := by decide +kernel
theorem dL_difference_13 : decode cL_difference 13 = .ok (.iconst 1, 1) := by decide +kernel
theorem dL_difference_14 : decode cL_difference 14 = .ok (.ireturn, 1) := by decide +kernel
theorem dL_difference_15 : decode cL_difference 15 = .ok (.iconst 0, 1) := by decide +kernel
theorem dL_difference_16 : decode cL_difference 16 = .ok (.ireturn, 1) := by decide +kernel
set_option maxRecDepth 20000 in
theorem ggL_count_X7_count : GoodIn wsL_count wsX7_count := goodIn_ca (goodIn_r _ [6, 7, 8, 9, 10, 11, 12, 13, 14, 15, 16, 17, 18, 19, 20, 21, 22, 23, 24, 25, 26, 27, 5, 28, 29, 30, 31, 32, 33, 34, 35, 36, 37, 38, 39, 40, 41, 42, 43, 44, 45, 46, 47, 48, 49, 50, 51, 52, 53, 54, 55, 56, 57, 58, 59, 60, 61, 62, 63, 64, 65, 66, 67, 68, 69, 70, 71, 72, 73, 74, 75, 76, 77, 78, 79, 80, 81, 82, 83, 84, 85, 86, 87, 88, 89, 90, 91, 92, 93, 94, 95, 96, 97, 98, 99, 100, 101, 102, 103, 104, 105, 106, 107] (by decide +kernel) (by decide +kernel)) (goodIn_sub (fun _ h => List.mem_cons_of_mem _ (List.mem_append_right _ h)) (by decide +kernel))
set_option maxRecDepth 20000 in
theorem gL_count_X7_count : GoodIn wsL_count (wsV RL 66 RX7 yX7_count wsX7_count) := goodIn_app (goodIn_of _ (by decide +kernel)) ggL_count_X7_count
theorem dL_count_0 : decode cL_count 0 = .ok (.aload_n 2, 1) := by decide +kernel
theorem dL_count_1 : decode cL_count 1 = .ok (.iconst 0, 1) := by decide +kernel
theorem dL_count_2 : decode cL_count 2 = .ok (.aload_n 0, 1) := by decide +kernel
theorem dL_count_3 : decode cL_count 3 = .ok (.iload_n 1, 1) := by decide +kernel
theorem dL_count_4 : decode cL_count 4 = .ok (.invokevirtual 66, 3) := by decide +kernel
theorem dL_count_7 : decode cL_count 7 = .ok (.i2l, 1) := by decide +kernel
theorem dL_count_8 : decode cL_count 8 = .ok (.lastore, 1) := by decide +kernel
theorem dL_count_9 : decode cL_count 9 = .ok (.goto 6, 3) := by decide +kernel
theorem dL_count_12 : decode cL_count 12 = .ok (.astore_n 3, 1) := by decide +kernel
theorem dL_count_13 : decode cL_count 13 = .ok (.iconst 1, 1) := by decide +kernel
theorem dL_count_14 : decode cL_count 14 = .ok (.ireturn, 1) := by decide +kernel
theorem dL_count_15 : decode cL_count 15 = .ok (.iconst 0, 1) := by decide +kernel
theorem dL_count_16 : decode cL_count 16 = .ok (.ireturn, 1) := by decide +kernel
set_option maxRecDepth 20000 in
theorem ggL_ifKept_X7_ifKept : GoodIn wsL_ifKept wsX7_ifKept := goodIn_ca (goodIn_r _ [6, 7, 8, 9, 10, 5, 11, 12, 13, 14, 15, 16, 17, 18, 19, 20, 21, 22, 23, 24, 25, 26, 27, 28, 29, 30, 31, 32, 33, 34, 35, 36, 37, 38, 39, 40, 41, 42, 43, 44, 45, 46, 47, 48, 49, 50, 51, 52, 53, 54, 55, 56, 57, 58, 59, 60, 61, 62, 63, 64, 65, 66, 67, 68, 69, 70, 71, 72, 73, 74, 75, 76, 77, 78, 79, 80, 81, 82, 83, 84, 85, 86, 87, 88, 89] (by decide +kernel) (by decide +kernel)) (goodIn_sub (fun _ h => List.mem_cons_of_mem _ (List.mem_append_right _ h)) (by decide +kernel))
set_option maxRecDepth 20000 in
theorem gL_ifKept_X7_ifKept : GoodIn wsL_ifKept (wsV RL 69 RX7 yX7_ifKept wsX7_ifKept) := goodIn_app (goodIn_of _ (by decide +kernel)) ggL_ifKept_X7_ifKept
theorem dL_ifKept_0 : decode cL_ifKept 0 = .ok (.aload_n 2, 1) := by decide +kernel
theorem dL_ifKept_1 : decode cL_ifKept 1 = .ok (.iconst 0, 1) := by decide +kernel
theorem dL_ifKept_2 : decode cL_ifKept 2 = .ok (.aload_n 0, 1) := by decide +kernel
theorem dL_ifKept_3 : decode cL_ifKept 3 = .ok (.iload_n 1, 1) := by decide +kernel
theorem dL_ifKept_4 : decode cL_ifKept 4 = .ok (.invokevirtual 69, 3) := by decide +kernel
theorem dL_ifKept_7 : decode cL_ifKept 7 = .ok (.i2l, 1) := by decide +kernel
theorem dL_ifKept_8 : decode cL_ifKept 8 = .ok (.lastore, 1) := by decide +kernel
theorem dL_ifKept_9 : decode cL_ifKept 9 = .ok (.goto 6, 3) := by decide +kernel
theorem dL_ifKept_12 : decode cL_ifKept 12 = .ok (.astore_n 3, 1) := by decide +kernel
theorem dL_ifKept_13 : decode cL_ifKept 13 = .ok (.iconst 1, 1) := by decide +kernel
theorem dL_ifKept_14 : decode cL_ifKept 14 = .ok (.ireturn, 1) := by decide +kernel
theorem dL_ifKept_15 : decode cL_ifKept 15 = .ok (.iconst 0, 1) := by decide +kernel
theorem dL_ifKept_16 : decode cL_ifKept 16 = .ok (.ireturn, 1) := by decide +kernel
set_option maxRecDepth 20000 in
theorem ggL_ifPut_X7_ifPut : GoodIn wsL_ifPut wsX7_ifPut := goodIn_ca (goodIn_ca (goodIn_r _ [7, 8, 9, 10, 11, 12, 13, 14, 15, 16, 17, 18, 19, 20, 21, 22, 23, 24, 25, 6, 26, 27, 28, 29, 30, 31, 32, 33, 34, 35, 36, 37, 38, 39, 40, 41, 42, 43, 44, 45, 46, 47, 48, 49, 50, 51, 52, 53, 54, 55, 56, 57, 58, 59, 60, 61, 62, 63, 64, 65, 66, 67, 68, 69, 70, 71, 72, 73, 74, 75, 76, 77, 78, 79, 80, 81, 82, 83, 84, 85, 86, 87, 88, 89, 90, 91, 92, 93, 94, 95, 96, 97, 98, 99, 100, 101, 102, 103, 104, 105, 106, 107, 108, 109, 110] (by decide +kernel) (by decide +kernel)) (goodIn_sub (fun _ h => List.mem_cons_of_mem _ (List.mem_append_left _ (List.mem_append_right _ h))) (by decide +kernel))) (goodIn_sub (fun _ h => List.mem_cons_of_mem _ (List.mem_append_right _ h)) (by decide +kernel))
set_option maxRecDepth 20000 in
theorem gL_ifPut_X7_ifPut : GoodIn wsL_ifPut (wsV RL 72 RX7 yX7_ifPut wsX7_ifPut) := goodIn_app (goodIn_of _ (by decide +kernel)) ggL_ifPut_X7_ifPut
theorem dL_ifPut_0 : decode cL_ifPut 0 = .ok (.aload 6, 2) := by decide +kernel
theorem dL_ifPut_2 : decode cL_ifPut 2 = .ok (.iconst 0, 1) := by decide +kernel
theorem dL_ifPut_3 : decode cL_ifPut 3 = .ok (.aload_n 0, 1) := by decide +kernel
theorem dL_ifPut_4 : decode cL_ifPut 4 = .ok (.iload_n 1, 1) := by decide +kernel
theorem dL_ifPut_5 : decode cL_ifPut 5 = .ok (.iload_n 2, 1) := by decide +kernel
theorem dL_ifPut_6 : decode cL_ifPut 6 = .ok (.iload_n 3, 1) := by decide +kernel
theorem dL_ifPut_7 : decode cL_ifPut 7 = .ok (.iload 4, 2) := by decide +kernel
theorem dL_ifPut_9 : decode cL_ifPut 9 = .ok (.iload 5, 2) := by decide +kernel
theorem dL_ifPut_11 : decode cL_ifPut 11 = .ok (.invokevirtual 72, 3) := by decide +kernel
theorem dL_ifPut_14 : decode cL_ifPut 14 = .ok (.i2l, 1) := by decide +kernel
theorem dL_ifPut_15 : decode cL_ifPut 15 = .ok (.lastore, 1) := by decide +kernel
theorem dL_ifPut_16 : decode cL_ifPut 16 = .ok (.goto 11, 3) := by decide +kernel
theorem dL_ifPut_19 : decode cL_ifPut 19 = .ok (.astore 7, 2) := by decide +kernel
theorem dL_ifPut_21 : decode cL_ifPut 21 = .ok (.iconst 1, 1) := by decide +kernel
theorem dL_ifPut_22 : decode cL_ifPut 22 = .ok (.ireturn, 1) := by decide +kernel
theorem dL_ifPut_23 : decode cL_ifPut 23 = .ok (.astore 7, 2) := by decide +kernel
theorem dL_ifPut_25 : decode cL_ifPut 25 = .ok (.iconst 2, 1) := by decide +kernel
theorem dL_ifPut_26 : decode cL_ifPut 26 = .ok (.ireturn, 1) := by decide +kernel
theorem dL_ifPut_27 : decode cL_ifPut 27 = .ok (.iconst 0, 1) := by decide +kernel
theorem dL_ifPut_28 : decode cL_ifPut 28 = .ok (.ireturn, 1) := by decide +kernel
set_option maxRecDepth 20000 in
theorem ggL_best_X7_best : GoodIn wsL_best wsX7_best := goodIn_ca (goodIn_r _ [6, 7, 8, 9, 10, 11, 12, 13, 14, 15, 16, 17, 18, 19, 20, 21, 22, 23, 24, 25, 26, 27, 28, 29, 30, 31, 32, 33, 34, 35, 36, 37, 38, 39, 5, 40, 41, 42, 43, 44, 45, 46, 47, 48, 49, 50, 51, 52, 53, 54, 55, 56, 57, 58, 59, 60, 61, 62, 63, 64, 65, 66, 67, 68, 69, 70, 71, 72, 73, 74, 75, 76, 77, 78, 79, 80, 81, 82, 83, 84, 85, 86, 87, 88, 89, 90, 91, 92, 93, 94, 95, 96, 97, 98, 99] (by decide +kernel) (by decide +kernel)) (goodIn_sub (fun _ h => List.mem_cons_of_mem _ (List.mem_append_right _ h)) (by decide +kernel))
set_option maxRecDepth 20000 in
theorem gL_best_X7_best : GoodIn wsL_best (wsV RL 75 RX7 yX7_best wsX7_best) := goodIn_app (goodIn_of _ (by decide +kernel)) ggL_best_X7_best
theorem dL_best_0 : decode cL_best 0 = .ok (.aload_n 2, 1) := by decide +kernel
theorem dL_best_1 : decode cL_best 1 = .ok (.iconst 0, 1) := by decide +kernel
theorem dL_best_2 : decode cL_best 2 = .ok (.aload_n 0, 1) := by decide +kernel
theorem dL_best_3 : decode cL_best 3 = .ok (.iload_n 1, 1) := by decide +kernel
theorem dL_best_4 : decode cL_best 4 = .ok (.invokevirtual 75, 3) := by decide +kernel
theorem dL_best_7 : decode cL_best 7 = .ok (.i2l, 1) := by decide +kernel
theorem dL_best_8 : decode cL_best 8 = .ok (.lastore, 1) := by decide +kernel
theorem dL_best_9 : decode cL_best 9 = .ok (.goto 6, 3) := by decide +kernel
theorem dL_best_12 : decode cL_best 12 = .ok (.astore_n 3, 1) := by decide +kernel
theorem dL_best_13 : decode cL_best 13 = .ok (.iconst 1, 1) := by decide +kernel
theorem dL_best_14 : decode cL_best 14 = .ok (.ireturn, 1) := by decide +kernel
theorem dL_best_15 : decode cL_best 15 = .ok (.iconst 0, 1) := by decide +kernel
theorem dL_best_16 : decode cL_best 16 = .ok (.ireturn, 1) := by decide +kernel
set_option maxRecDepth 20000 in
theorem ggL_heaviest_X7_heaviest : GoodIn wsL_heaviest wsX7_heaviest := goodIn_ca (goodIn_r _ [6, 7, 8, 9, 10, 11, 12, 13, 14, 15, 16, 17, 18, 19, 20, 21, 22, 23, 24, 25, 26, 27, 28, 29, 30, 31, 32, 33, 34, 35, 5, 36, 37, 38, 39, 40, 41, 42, 43, 44, 45, 46, 47, 48, 49, 50, 51, 52, 53, 54, 55, 56, 57, 58, 59, 60, 61, 62, 63, 64, 65, 66] (by decide +kernel) (by decide +kernel)) (goodIn_sub (fun _ h => List.mem_cons_of_mem _ (List.mem_append_right _ h)) (by decide +kernel))
set_option maxRecDepth 20000 in
theorem gL_heaviest_X7_heaviest : GoodIn wsL_heaviest (wsV RL 78 RX7 yX7_heaviest wsX7_heaviest) := goodIn_app (goodIn_of _ (by decide +kernel)) ggL_heaviest_X7_heaviest
theorem dL_heaviest_0 : decode cL_heaviest 0 = .ok (.aload_n 2, 1) := by decide +kernel
theorem dL_heaviest_1 : decode cL_heaviest 1 = .ok (.iconst 0, 1) := by decide +kernel
theorem dL_heaviest_2 : decode cL_heaviest 2 = .ok (.aload_n 0, 1) := by decide +kernel
theorem dL_heaviest_3 : decode cL_heaviest 3 = .ok (.iload_n 1, 1) := by decide +kernel
theorem dL_heaviest_4 : decode cL_heaviest 4 = .ok (.invokevirtual 78, 3) := by decide +kernel
theorem dL_heaviest_7 : decode cL_heaviest 7 = .ok (.i2l, 1) := by decide +kernel
theorem dL_heaviest_8 : decode cL_heaviest 8 = .ok (.lastore, 1) := by decide +kernel
theorem dL_heaviest_9 : decode cL_heaviest 9 = .ok (.goto 6, 3) := by decide +kernel
theorem dL_heaviest_12 : decode cL_heaviest 12 = .ok (.astore_n 3, 1) := by decide +kernel
theorem dL_heaviest_13 : decode cL_heaviest 13 = .ok (.iconst 1, 1) := by decide +kernel
theorem dL_heaviest_14 : decode cL_heaviest 14 = .ok (.ireturn, 1) := by decide +kernel
theorem dL_heaviest_15 : decode cL_heaviest 15 = .ok (.iconst 0, 1) := by decide +kernel
theorem dL_heaviest_16 : decode cL_heaviest 16 = .ok (.ireturn, 1) := by decide +kernel
