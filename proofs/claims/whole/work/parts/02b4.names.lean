theorem dX8_add_197 : decode cX8_add 197 = .ok (.iastore, 1) := by decide +kernel
theorem dX8_add_198 : decode cX8_add 198 = .ok (.iload 8, 2) := by decide +kernel
theorem dX8_add_200 : decode cX8_add 200 = .ok (.aload_n 0, 1) := by decide +kernel
theorem dX8_add_201 : decode cX8_add 201 = .ok (.getfield 7, 3) := by decide +kernel
theorem dX8_add_204 : decode cX8_add 204 = .ok (.iload 10, 2) := by decide +kernel
theorem dX8_add_206 : decode cX8_add 206 = .ok (.iaload, 1) := by decide +kernel
theorem dX8_add_207 : decode cX8_add 207 = .ok (.ifCond .ne 7, 3) := by decide +kernel
theorem dX8_add_210 : decode cX8_add 210 = .ok (.iconst 0, 1) := by decide +kernel
theorem dX8_add_211 : decode cX8_add 211 = .ok (.goto 4, 3) := by decide +kernel
theorem dX8_add_214 : decode cX8_add 214 = .ok (.iconst 1, 1) := by decide +kernel
theorem dX8_add_215 : decode cX8_add 215 = .ok (.iadd, 1) := by decide +kernel
theorem dX8_add_216 : decode cX8_add 216 = .ok (.istore 8, 2) := by decide +kernel
theorem dX8_add_218 : decode cX8_add 218 = .ok (.iinc 9 1, 3) := by decide +kernel
theorem dX8_add_221 : decode cX8_add 221 = .ok (.goto (-82), 3) := by decide +kernel
theorem dX8_add_224 : decode cX8_add 224 = .ok (.iload 8, 2) := by decide +kernel
theorem dX8_add_226 : decode cX8_add 226 = .ok (.ireturn, 1) := by decide +kernel
set_option maxRecDepth 20000 in
theorem ggX8_wipe_X8_isCoordinate : GoodIn wsX8_wipe wsX8_isCoordinate := goodIn_r _ [7, 2, 42, 43, 44, 45, 46, 47, 48, 49, 50, 51, 52, 53] (by decide +kernel) (by decide +kernel)
set_option maxRecDepth 20000 in
theorem gX8_wipe_X8_isCoordinate : GoodIn wsX8_wipe (wsV RX8 29 RX8 yX8_isCoordinate wsX8_isCoordinate) := goodIn_app (goodIn_of _ (by decide +kernel)) ggX8_wipe_X8_isCoordinate
set_option maxRecDepth 20000 in
theorem ggX8_wipe_X8_isAxis : GoodIn wsX8_wipe wsX8_isAxis := goodIn_r _ [10, 11, 12, 6, 13] (by decide +kernel) (by decide +kernel)
set_option maxRecDepth 20000 in
theorem gX8_wipe_X8_isAxis : GoodIn wsX8_wipe (va_wsS RX8 88 yX8_isAxis wsX8_isAxis) := goodIn_app (goodIn_of _ (by decide +kernel)) ggX8_wipe_X8_isAxis
set_option maxRecDepth 20000 in
theorem ggX8_wipe_X8_save : GoodIn wsX8_wipe wsX8_save := goodIn_r _ [17, 18, 19, 2, 42, 43, 44, 45, 46, 47, 48, 49, 50, 51, 52, 53] (by decide +kernel) (by decide +kernel)
set_option maxRecDepth 20000 in
theorem gX8_wipe_X8_save : GoodIn wsX8_wipe (wsV RX8 75 RX8 yX8_save wsX8_save) := goodIn_app (goodIn_of _ (by decide +kernel)) ggX8_wipe_X8_save
set_option maxRecDepth 20000 in
theorem ggX8_wipe_X8_filled : GoodIn wsX8_wipe wsX8_filled := goodIn_r _ [23, 24, 25, 26, 6, 27, 2, 28, 29, 30, 31, 32, 33, 34, 35, 36, 37, 38, 39, 40, 41, 42, 43, 44, 45, 46, 47, 48, 49, 50, 51, 52, 53] (by decide +kernel) (by decide +kernel)
set_option maxRecDepth 20000 in
theorem gX8_wipe_X8_filled : GoodIn wsX8_wipe (wsV RX8 58 RX8 yX8_filled wsX8_filled) := goodIn_app (goodIn_of _ (by decide +kernel)) ggX8_wipe_X8_filled
set_option maxRecDepth 20000 in
theorem ggX8_wipe_X8_offsets : GoodIn wsX8_wipe wsX8_offsets := goodIn_r _ [27, 2, 42, 43, 44, 45, 46, 47, 48, 49, 50, 51, 52, 53] (by decide +kernel) (by decide +kernel)
set_option maxRecDepth 20000 in
theorem gX8_wipe_X8_offsets : GoodIn wsX8_wipe (wsV RX8 51 RX8 yX8_offsets wsX8_offsets) := goodIn_app (goodIn_of _ (by decide +kernel)) ggX8_wipe_X8_offsets
set_option maxRecDepth 20000 in
theorem ggX8_wipe_X8_placeBy : GoodIn wsX8_wipe wsX8_placeBy := goodIn_r _ [38, 39, 40, 6, 41] (by decide +kernel) (by decide +kernel)
set_option maxRecDepth 20000 in
theorem gX8_wipe_X8_placeBy : GoodIn wsX8_wipe (va_wsS RX8 41 yX8_placeBy wsX8_placeBy) := goodIn_app (goodIn_of _ (by decide +kernel)) ggX8_wipe_X8_placeBy
theorem dX8_wipe_0 : decode cX8_wipe 0 = .ok (.aload_n 0, 1) := by decide +kernel
theorem dX8_wipe_1 : decode cX8_wipe 1 = .ok (.aload_n 0, 1) := by decide +kernel
theorem dX8_wipe_2 : decode cX8_wipe 2 = .ok (.iload_n 2, 1) := by decide +kernel
theorem dX8_wipe_3 : decode cX8_wipe 3 = .ok (.invokevirtual 29, 3) := by decide +kernel
theorem dX8_wipe_6 : decode cX8_wipe 6 = .ok (.ifCond .ne 7, 3) := by decide +kernel
theorem dX8_wipe_9 : decode cX8_wipe 9 = .ok (.iconst 1, 1) := by decide +kernel
theorem dX8_wipe_10 : decode cX8_wipe 10 = .ok (.goto 15, 3) := by decide +kernel
theorem dX8_wipe_13 : decode cX8_wipe 13 = .ok (.iload_n 1, 1) := by decide +kernel
theorem dX8_wipe_14 : decode cX8_wipe 14 = .ok (.invokestatic 88, 3) := by decide +kernel
theorem dX8_wipe_17 : decode cX8_wipe 17 = .ok (.ifCond .eq 7, 3) := by decide +kernel
theorem dX8_wipe_20 : decode cX8_wipe 20 = .ok (.iconst 0, 1) := by decide +kernel
theorem dX8_wipe_21 : decode cX8_wipe 21 = .ok (.goto 4, 3) := by decide +kernel
theorem dX8_wipe_24 : decode cX8_wipe 24 = .ok (.iconst 2, 1) := by decide +kernel
theorem dX8_wipe_25 : decode cX8_wipe 25 = .ok (.putfield 25, 3) := by decide +kernel
theorem dX8_wipe_28 : decode cX8_wipe 28 = .ok (.aload_n 0, 1) := by decide +kernel
theorem dX8_wipe_29 : decode cX8_wipe 29 = .ok (.getfield 25, 3) := by decide +kernel
theorem dX8_wipe_32 : decode cX8_wipe 32 = .ok (.ifCond .le 5, 3) := by decide +kernel
theorem dX8_wipe_35 : decode cX8_wipe 35 = .ok (.iconst 0, 1) := by decide +kernel
theorem dX8_wipe_36 : decode cX8_wipe 36 = .ok (.ireturn, 1) := by decide +kernel
theorem dX8_wipe_37 : decode cX8_wipe 37 = .ok (.aload_n 0, 1) := by decide +kernel
theorem dX8_wipe_38 : decode cX8_wipe 38 = .ok (.invokevirtual 75, 3) := by decide +kernel
theorem dX8_wipe_41 : decode cX8_wipe 41 = .ok (.aload_n 0, 1) := by decide +kernel
theorem dX8_wipe_42 : decode cX8_wipe 42 = .ok (.iload_n 1, 1) := by decide +kernel
theorem dX8_wipe_43 : decode cX8_wipe 43 = .ok (.iload_n 2, 1) := by decide +kernel
theorem dX8_wipe_44 : decode cX8_wipe 44 = .ok (.invokevirtual 58, 3) := by decide +kernel
theorem dX8_wipe_47 : decode cX8_wipe 47 = .ok (.istore_n 3, 1) := by decide +kernel
theorem dX8_wipe_48 : decode cX8_wipe 48 = .ok (.iconst 0, 1) := by decide +kernel
theorem dX8_wipe_49 : decode cX8_wipe 49 = .ok (.istore 4, 2) := by decide +kernel
theorem dX8_wipe_51 : decode cX8_wipe 51 = .ok (.iload 4, 2) := by decide +kernel
theorem dX8_wipe_53 : decode cX8_wipe 53 = .ok (.aload_n 0, 1) := by decide +kernel
theorem dX8_wipe_54 : decode cX8_wipe 54 = .ok (.invokevirtual 51, 3) := by decide +kernel
theorem dX8_wipe_57 : decode cX8_wipe 57 = .ok (.if_icmp .ge 40, 3) := by decide +kernel
theorem dX8_wipe_60 : decode cX8_wipe 60 = .ok (.aload_n 0, 1) := by decide +kernel
theorem dX8_wipe_61 : decode cX8_wipe 61 = .ok (.getfield 7, 3) := by decide +kernel
theorem dX8_wipe_64 : decode cX8_wipe 64 = .ok (.iconst 3, 1) := by decide +kernel
theorem dX8_wipe_65 : decode cX8_wipe 65 = .ok (.iload_n 1, 1) := by decide +kernel
theorem dX8_wipe_66 : decode cX8_wipe 66 = .ok (.iload_n 2, 1) := by decide +kernel
theorem dX8_wipe_67 : decode cX8_wipe 67 = .ok (.iload 4, 2) := by decide +kernel
theorem dX8_wipe_69 : decode cX8_wipe 69 = .ok (.aload_n 0, 1) := by decide +kernel
theorem dX8_wipe_70 : decode cX8_wipe 70 = .ok (.getfield 7, 3) := by decide +kernel
theorem dX8_wipe_73 : decode cX8_wipe 73 = .ok (.iconst 0, 1) := by decide +kernel
theorem dX8_wipe_74 : decode cX8_wipe 74 = .ok (.iaload, 1) := by decide +kernel
theorem dX8_wipe_75 : decode cX8_wipe 75 = .ok (.irem, 1) := by decide +kernel
theorem dX8_wipe_76 : decode cX8_wipe 76 = .ok (.iload 4, 2) := by decide +kernel
theorem dX8_wipe_78 : decode cX8_wipe 78 = .ok (.aload_n 0, 1) := by decide +kernel
theorem dX8_wipe_79 : decode cX8_wipe 79 = .ok (.getfield 7, 3) := by decide +kernel
theorem dX8_wipe_82 : decode cX8_wipe 82 = .ok (.iconst 0, 1) := by decide +kernel
theorem dX8_wipe_83 : decode cX8_wipe 83 = .ok (.iaload, 1) := by decide +kernel
theorem dX8_wipe_84 : decode cX8_wipe 84 = .ok (.idiv, 1) := by decide +kernel
theorem dX8_wipe_85 : decode cX8_wipe 85 = .ok (.invokestatic 41, 3) := by decide +kernel
theorem dX8_wipe_88 : decode cX8_wipe 88 = .ok (.iadd, 1) := by decide +kernel
theorem dX8_wipe_89 : decode cX8_wipe 89 = .ok (.iconst 0, 1) := by decide +kernel
theorem dX8_wipe_90 : decode cX8_wipe 90 = .ok (.iastore, 1) := by decide +kernel
theorem dX8_wipe_91 : decode cX8_wipe 91 = .ok (.iinc 4 1, 3) := by decide +kernel
theorem dX8_wipe_94 : decode cX8_wipe 94 = .ok (.goto (-43), 3) := by decide +kernel
theorem dX8_wipe_97 : decode cX8_wipe 97 = .ok (.iload_n 3, 1) := by decide +kernel
theorem dX8_wipe_98 : decode cX8_wipe 98 = .ok (.ireturn, 1) := by decide +kernel
theorem dX8_putAside_0 : decode cX8_putAside 0 = .ok (.iconst 0, 1) := by decide +kernel
theorem dX8_putAside_1 : decode cX8_putAside 1 = .ok (.istore_n 1, 1) := by decide +kernel
theorem dX8_putAside_2 : decode cX8_putAside 2 = .ok (.iload_n 1, 1) := by decide +kernel
theorem dX8_putAside_3 : decode cX8_putAside 3 = .ok (.sipush 512, 3) := by decide +kernel
theorem dX8_putAside_6 : decode cX8_putAside 6 = .ok (.if_icmp .ge 23, 3) := by decide +kernel
theorem dX8_putAside_9 : decode cX8_putAside 9 = .ok (.aload_n 0, 1) := by decide +kernel
theorem dX8_putAside_10 : decode cX8_putAside 10 = .ok (.getfield 16, 3) := by decide +kernel
theorem dX8_putAside_13 : decode cX8_putAside 13 = .ok (.iload_n 1, 1) := by decide +kernel
theorem dX8_putAside_14 : decode cX8_putAside 14 = .ok (.aload_n 0, 1) := by decide +kernel
theorem dX8_putAside_15 : decode cX8_putAside 15 = .ok (.getfield 7, 3) := by decide +kernel
theorem dX8_putAside_18 : decode cX8_putAside 18 = .ok (.iconst 3, 1) := by decide +kernel
theorem dX8_putAside_19 : decode cX8_putAside 19 = .ok (.iload_n 1, 1) := by decide +kernel
theorem dX8_putAside_20 : decode cX8_putAside 20 = .ok (.iadd, 1) := by decide +kernel
theorem dX8_putAside_21 : decode cX8_putAside 21 = .ok (.iaload, 1) := by decide +kernel
theorem dX8_putAside_22 : decode cX8_putAside 22 = .ok (.iastore, 1) := by decide +kernel
theorem dX8_putAside_23 : decode cX8_putAside 23 = .ok (.iinc 1 1, 3) := by decide +kernel
theorem dX8_putAside_26 : decode cX8_putAside 26 = .ok (.goto (-24), 3) := by decide +kernel
theorem dX8_putAside_29 : decode cX8_putAside 29 = .ok (.return_, 1) := by decide +kernel
theorem dX8_others_0 : decode cX8_others 0 = .ok (.iconst 0, 1) := by decide +kernel
theorem dX8_others_1 : decode cX8_others 1 = .ok (.istore_n 1, 1) := by decide +kernel
theorem dX8_others_2 : decode cX8_others 2 = .ok (.iconst 0, 1) := by decide +kernel
theorem dX8_others_3 : decode cX8_others 3 = .ok (.istore_n 2, 1) := by decide +kernel
theorem dX8_others_4 : decode cX8_others 4 = .ok (.iload_n 2, 1) := by decide +kernel
theorem dX8_others_5 : decode cX8_others 5 = .ok (.sipush 512, 3) := by decide +kernel
theorem dX8_others_8 : decode cX8_others 8 = .ok (.if_icmp .ge 34, 3) := by decide +kernel
theorem dX8_others_11 : decode cX8_others 11 = .ok (.iload_n 1, 1) := by decide +kernel
theorem dX8_others_12 : decode cX8_others 12 = .ok (.aload_n 0, 1) := by decide +kernel
theorem dX8_others_13 : decode cX8_others 13 = .ok (.getfield 7, 3) := by decide +kernel
theorem dX8_others_16 : decode cX8_others 16 = .ok (.iconst 3, 1) := by decide +kernel
theorem dX8_others_17 : decode cX8_others 17 = .ok (.iload_n 2, 1) := by decide +kernel
theorem dX8_others_18 : decode cX8_others 18 = .ok (.iadd, 1) := by decide +kernel
theorem dX8_others_19 : decode cX8_others 19 = .ok (.iaload, 1) := by decide +kernel
theorem dX8_others_20 : decode cX8_others 20 = .ok (.aload_n 0, 1) := by decide +kernel
theorem dX8_others_21 : decode cX8_others 21 = .ok (.getfield 16, 3) := by decide +kernel
theorem dX8_others_24 : decode cX8_others 24 = .ok (.iload_n 2, 1) := by decide +kernel
theorem dX8_others_25 : decode cX8_others 25 = .ok (.iaload, 1) := by decide +kernel
theorem dX8_others_26 : decode cX8_others 26 = .ok (.if_icmp .ne 7, 3) := by decide +kernel
theorem dX8_others_29 : decode cX8_others 29 = .ok (.iconst 0, 1) := by decide +kernel
theorem dX8_others_30 : decode cX8_others 30 = .ok (.goto 4, 3) := by decide +kernel
theorem dX8_others_33 : decode cX8_others 33 = .ok (.iconst 1, 1) := by decide +kernel
theorem dX8_others_34 : decode cX8_others 34 = .ok (.iadd, 1) := by decide +kernel
theorem dX8_others_35 : decode cX8_others 35 = .ok (.istore_n 1, 1) := by decide +kernel
theorem dX8_others_36 : decode cX8_others 36 = .ok (.iinc 2 1, 3) := by decide +kernel
theorem dX8_others_39 : decode cX8_others 39 = .ok (.goto (-35), 3) := by decide +kernel
theorem dX8_others_42 : decode cX8_others 42 = .ok (.iload_n 1, 1) := by decide +kernel
theorem dX8_others_43 : decode cX8_others 43 = .ok (.ireturn, 1) := by decide +kernel
set_option maxRecDepth 20000 in
theorem ggX8_shift_X8_isAxis : GoodIn wsX8_shift wsX8_isAxis := goodIn_r _ [7, 8, 9, 6, 10] (by decide +kernel) (by decide +kernel)
set_option maxRecDepth 20000 in
theorem gX8_shift_X8_isAxis : GoodIn wsX8_shift (va_wsS RX8 88 yX8_isAxis wsX8_isAxis) := goodIn_app (goodIn_of _ (by decide +kernel)) ggX8_shift_X8_isAxis
set_option maxRecDepth 20000 in
theorem ggX8_shift_X8_save : GoodIn wsX8_shift wsX8_save := goodIn_r _ [14, 15, 16, 2, 31, 32, 33, 34, 35, 36, 37, 38, 39, 40, 41, 42] (by decide +kernel) (by decide +kernel)
set_option maxRecDepth 20000 in
theorem gX8_shift_X8_save : GoodIn wsX8_shift (wsV RX8 75 RX8 yX8_save wsX8_save) := goodIn_app (goodIn_of _ (by decide +kernel)) ggX8_shift_X8_save
set_option maxRecDepth 20000 in
theorem ggX8_shift_X8_putAside : GoodIn wsX8_shift wsX8_putAside := goodIn_r _ [20, 3, 2, 31, 32, 33, 34, 35, 36, 37, 38, 39, 40, 41, 42] (by decide +kernel) (by decide +kernel)
set_option maxRecDepth 20000 in
theorem gX8_shift_X8_putAside : GoodIn wsX8_shift (wsV RX8 91 RX8 yX8_putAside wsX8_putAside) := goodIn_app (goodIn_of _ (by decide +kernel)) ggX8_shift_X8_putAside
set_option maxRecDepth 20000 in
theorem ggX8_shift_X8_placeBy : GoodIn wsX8_shift wsX8_placeBy := goodIn_r _ [23, 24, 25, 6, 26] (by decide +kernel) (by decide +kernel)
set_option maxRecDepth 20000 in
theorem gX8_shift_X8_placeBy : GoodIn wsX8_shift (va_wsS RX8 41 yX8_placeBy wsX8_placeBy) := goodIn_app (goodIn_of _ (by decide +kernel)) ggX8_shift_X8_placeBy
set_option maxRecDepth 20000 in
theorem ggX8_shift_X8_others : GoodIn wsX8_shift wsX8_others := goodIn_r _ [30, 2, 3, 31, 32, 33, 34, 35, 36, 37, 38, 39, 40, 41, 42] (by decide +kernel) (by decide +kernel)
set_option maxRecDepth 20000 in
theorem gX8_shift_X8_others : GoodIn wsX8_shift (wsV RX8 94 RX8 yX8_others wsX8_others) := goodIn_app (goodIn_of _ (by decide +kernel)) ggX8_shift_X8_others
theorem dX8_shift_0 : decode cX8_shift 0 = .ok (.aload_n 0, 1) := by decide +kernel
theorem dX8_shift_1 : decode cX8_shift 1 = .ok (.iload_n 1, 1) := by decide +kernel
theorem dX8_shift_2 : decode cX8_shift 2 = .ok (.invokestatic 88, 3) := by decide +kernel
theorem dX8_shift_5 : decode cX8_shift 5 = .ok (.ifCond .eq 7, 3) := by decide +kernel
theorem dX8_shift_8 : decode cX8_shift 8 = .ok (.iconst 0, 1) := by decide +kernel
theorem dX8_shift_9 : decode cX8_shift 9 = .ok (.goto 4, 3) := by decide +kernel
theorem dX8_shift_12 : decode cX8_shift 12 = .ok (.iconst 1, 1) := by decide +kernel
theorem dX8_shift_13 : decode cX8_shift 13 = .ok (.putfield 25, 3) := by decide +kernel
theorem dX8_shift_16 : decode cX8_shift 16 = .ok (.aload_n 0, 1) := by decide +kernel
theorem dX8_shift_17 : decode cX8_shift 17 = .ok (.getfield 25, 3) := by decide +kernel
theorem dX8_shift_20 : decode cX8_shift 20 = .ok (.ifCond .le 5, 3) := by decide +kernel
theorem dX8_shift_23 : decode cX8_shift 23 = .ok (.iconst 0, 1) := by decide +kernel
theorem dX8_shift_24 : decode cX8_shift 24 = .ok (.ireturn, 1) := by decide +kernel
theorem dX8_shift_25 : decode cX8_shift 25 = .ok (.aload_n 0, 1) := by decide +kernel
theorem dX8_shift_26 : decode cX8_shift 26 = .ok (.invokevirtual 75, 3) := by decide +kernel
theorem dX8_shift_29 : decode cX8_shift 29 = .ok (.aload_n 0, 1) := by decide +kernel
theorem dX8_shift_30 : decode cX8_shift 30 = .ok (.invokevirtual 91, 3) := by decide +kernel
theorem dX8_shift_33 : decode cX8_shift 33 = .ok (.aload_n 0, 1) := by decide +kernel
theorem dX8_shift_34 : decode cX8_shift 34 = .ok (.getfield 7, 3) := by decide +kernel
theorem dX8_shift_37 : decode cX8_shift 37 = .ok (.iconst 0, 1) := by decide +kernel
theorem dX8_shift_38 : decode cX8_shift 38 = .ok (.iaload, 1) := by decide +kernel
theorem dX8_shift_39 : decode cX8_shift 39 = .ok (.istore_n 2, 1) := by decide +kernel
theorem dX8_shift_40 : decode cX8_shift 40 = .ok (.iconst 0, 1) := by decide +kernel
theorem dX8_shift_41 : decode cX8_shift 41 = .ok (.istore_n 3, 1) := by decide +kernel
theorem dX8_shift_42 : decode cX8_shift 42 = .ok (.iload_n 3, 1) := by decide +kernel
theorem dX8_shift_43 : decode cX8_shift 43 = .ok (.iload_n 2, 1) := by decide +kernel
theorem dX8_shift_44 : decode cX8_shift 44 = .ok (.iload_n 2, 1) := by decide +kernel
theorem dX8_shift_45 : decode cX8_shift 45 = .ok (.imul, 1) := by decide +kernel
theorem dX8_shift_46 : decode cX8_shift 46 = .ok (.iload_n 2, 1) := by decide +kernel
theorem dX8_shift_47 : decode cX8_shift 47 = .ok (.imul, 1) := by decide +kernel
theorem dX8_shift_48 : decode cX8_shift 48 = .ok (.if_icmp .ge 64, 3) := by decide +kernel
theorem dX8_shift_51 : decode cX8_shift 51 = .ok (.iload_n 3, 1) := by decide +kernel
theorem dX8_shift_52 : decode cX8_shift 52 = .ok (.iload_n 2, 1) := by decide +kernel
theorem dX8_shift_53 : decode cX8_shift 53 = .ok (.iload_n 2, 1) := by decide +kernel
theorem dX8_shift_54 : decode cX8_shift 54 = .ok (.imul, 1) := by decide +kernel
theorem dX8_shift_55 : decode cX8_shift 55 = .ok (.idiv, 1) := by decide +kernel
theorem dX8_shift_56 : decode cX8_shift 56 = .ok (.istore 4, 2) := by decide +kernel
theorem dX8_shift_58 : decode cX8_shift 58 = .ok (.iload_n 3, 1) := by decide +kernel
theorem dX8_shift_59 : decode cX8_shift 59 = .ok (.iload_n 2, 1) := by decide +kernel
theorem dX8_shift_60 : decode cX8_shift 60 = .ok (.irem, 1) := by decide +kernel
theorem dX8_shift_61 : decode cX8_shift 61 = .ok (.istore 5, 2) := by decide +kernel
theorem dX8_shift_63 : decode cX8_shift 63 = .ok (.iload_n 3, 1) := by decide +kernel
theorem dX8_shift_64 : decode cX8_shift 64 = .ok (.iload_n 2, 1) := by decide +kernel
theorem dX8_shift_65 : decode cX8_shift 65 = .ok (.idiv, 1) := by decide +kernel
theorem dX8_shift_66 : decode cX8_shift 66 = .ok (.iload_n 2, 1) := by decide +kernel
theorem dX8_shift_67 : decode cX8_shift 67 = .ok (.irem, 1) := by decide +kernel
theorem dX8_shift_68 : decode cX8_shift 68 = .ok (.istore 6, 2) := by decide +kernel
theorem dX8_shift_70 : decode cX8_shift 70 = .ok (.aload_n 0, 1) := by decide +kernel
theorem dX8_shift_71 : decode cX8_shift 71 = .ok (.getfield 7, 3) := by decide +kernel
theorem dX8_shift_74 : decode cX8_shift 74 = .ok (.iconst 3, 1) := by decide +kernel
theorem dX8_shift_75 : decode cX8_shift 75 = .ok (.iload_n 1, 1) := by decide +kernel
theorem dX8_shift_76 : decode cX8_shift 76 = .ok (.iload 4, 2) := by decide +kernel
theorem dX8_shift_78 : decode cX8_shift 78 = .ok (.iconst 1, 1) := by decide +kernel
theorem dX8_shift_79 : decode cX8_shift 79 = .ok (.iadd, 1) := by decide +kernel
theorem dX8_shift_80 : decode cX8_shift 80 = .ok (.iload_n 2, 1) := by decide +kernel
theorem dX8_shift_81 : decode cX8_shift 81 = .ok (.irem, 1) := by decide +kernel
theorem dX8_shift_82 : decode cX8_shift 82 = .ok (.iload 5, 2) := by decide +kernel
theorem dX8_shift_84 : decode cX8_shift 84 = .ok (.iload 6, 2) := by decide +kernel
theorem dX8_shift_86 : decode cX8_shift 86 = .ok (.invokestatic 41, 3) := by decide +kernel
theorem dX8_shift_89 : decode cX8_shift 89 = .ok (.iadd, 1) := by decide +kernel
theorem dX8_shift_90 : decode cX8_shift 90 = .ok (.aload_n 0, 1) := by decide +kernel
theorem dX8_shift_91 : decode cX8_shift 91 = .ok (.getfield 16, 3) := by decide +kernel
theorem dX8_shift_94 : decode cX8_shift 94 = .ok (.iload_n 1, 1) := by decide +kernel
theorem dX8_shift_95 : decode cX8_shift 95 = .ok (.iload 4, 2) := by decide +kernel
theorem dX8_shift_97 : decode cX8_shift 97 = .ok (.iload 5, 2) := by decide +kernel
theorem dX8_shift_99 : decode cX8_shift 99 = .ok (.iload 6, 2) := by decide +kernel
theorem dX8_shift_101 : decode cX8_shift 101 = .ok (.invokestatic 41, 3) := by decide +kernel
theorem dX8_shift_104 : decode cX8_shift 104 = .ok (.iaload, 1) := by decide +kernel
theorem dX8_shift_105 : decode cX8_shift 105 = .ok (.iastore, 1) := by decide +kernel
theorem dX8_shift_106 : decode cX8_shift 106 = .ok (.iinc 3 1, 3) := by decide +kernel
theorem dX8_shift_109 : decode cX8_shift 109 = .ok (.goto (-67), 3) := by decide +kernel
theorem dX8_shift_112 : decode cX8_shift 112 = .ok (.aload_n 0, 1) := by decide +kernel
theorem dX8_shift_113 : decode cX8_shift 113 = .ok (.invokevirtual 94, 3) := by decide +kernel
theorem dX8_shift_116 : decode cX8_shift 116 = .ok (.ireturn, 1) := by decide +kernel
set_option maxRecDepth 20000 in
theorem ggX8_turn_X8_save : GoodIn wsX8_turn wsX8_save := goodIn_r _ [8, 9, 10, 2, 57, 58, 59, 60, 61, 62, 63, 64, 65, 66, 67, 68] (by decide +kernel) (by decide +kernel)
set_option maxRecDepth 20000 in
theorem gX8_turn_X8_save : GoodIn wsX8_turn (wsV RX8 75 RX8 yX8_save wsX8_save) := goodIn_app (goodIn_of _ (by decide +kernel)) ggX8_turn_X8_save
set_option maxRecDepth 20000 in
theorem ggX8_turn_X8_putAside : GoodIn wsX8_turn wsX8_putAside := goodIn_r _ [14, 3, 2, 57, 58, 59, 60, 61, 62, 63, 64, 65, 66, 67, 68] (by decide +kernel) (by decide +kernel)
set_option maxRecDepth 20000 in
theorem gX8_turn_X8_putAside : GoodIn wsX8_turn (wsV RX8 91 RX8 yX8_putAside wsX8_putAside) := goodIn_app (goodIn_of _ (by decide +kernel)) ggX8_turn_X8_putAside
set_option maxRecDepth 20000 in
theorem ggX8_turn_X8_place : GoodIn wsX8_turn wsX8_place := goodIn_r _ [17] (by decide +kernel) (by decide +kernel)
set_option maxRecDepth 20000 in
theorem gX8_turn_X8_place : GoodIn wsX8_turn (va_wsS RX8 37 yX8_place wsX8_place) := goodIn_app (goodIn_of _ (by decide +kernel)) ggX8_turn_X8_place
set_option maxRecDepth 20000 in
theorem ggX8_turn_X8_room : GoodIn wsX8_turn wsX8_room := goodIn_r _ [21, 2, 22, 23, 24, 7, 25, 26, 27, 28, 29, 30, 31, 32, 33, 34, 35, 36, 37, 38, 39, 40, 41, 42, 43, 44, 45, 46, 47, 48, 15, 16, 17, 49, 50, 51, 52, 53, 54, 55, 56, 57, 58, 59, 60, 61, 62, 63, 64, 65, 66, 67, 68] (by decide +kernel) (by decide +kernel)
set_option maxRecDepth 20000 in
theorem gX8_turn_X8_room : GoodIn wsX8_turn (wsV RX8 97 RX8 yX8_room wsX8_room) := goodIn_app (goodIn_of _ (by decide +kernel)) ggX8_turn_X8_room
theorem dX8_turn_0 : decode cX8_turn 0 = .ok (.aload_n 0, 1) := by decide +kernel
theorem dX8_turn_1 : decode cX8_turn 1 = .ok (.iconst 0, 1) := by decide +kernel
theorem dX8_turn_2 : decode cX8_turn 2 = .ok (.putfield 25, 3) := by decide +kernel
theorem dX8_turn_5 : decode cX8_turn 5 = .ok (.aload_n 0, 1) := by decide +kernel
theorem dX8_turn_6 : decode cX8_turn 6 = .ok (.invokevirtual 75, 3) := by decide +kernel
theorem dX8_turn_9 : decode cX8_turn 9 = .ok (.aload_n 0, 1) := by decide +kernel
theorem dX8_turn_10 : decode cX8_turn 10 = .ok (.invokevirtual 91, 3) := by decide +kernel
theorem dX8_turn_13 : decode cX8_turn 13 = .ok (.aload_n 0, 1) := by decide +kernel
theorem dX8_turn_14 : decode cX8_turn 14 = .ok (.getfield 7, 3) := by decide +kernel
theorem dX8_turn_17 : decode cX8_turn 17 = .ok (.iconst 0, 1) := by decide +kernel
theorem dX8_turn_18 : decode cX8_turn 18 = .ok (.iaload, 1) := by decide +kernel
theorem dX8_turn_19 : decode cX8_turn 19 = .ok (.istore_n 1, 1) := by decide +kernel
theorem dX8_turn_20 : decode cX8_turn 20 = .ok (.iconst 0, 1) := by decide +kernel
theorem dX8_turn_21 : decode cX8_turn 21 = .ok (.istore_n 2, 1) := by decide +kernel
theorem dX8_turn_22 : decode cX8_turn 22 = .ok (.iload_n 2, 1) := by decide +kernel
theorem dX8_turn_23 : decode cX8_turn 23 = .ok (.iload_n 1, 1) := by decide +kernel
theorem dX8_turn_24 : decode cX8_turn 24 = .ok (.iload_n 1, 1) := by decide +kernel
theorem dX8_turn_25 : decode cX8_turn 25 = .ok (.imul, 1) := by decide +kernel
theorem dX8_turn_26 : decode cX8_turn 26 = .ok (.iload_n 1, 1) := by decide +kernel
theorem dX8_turn_27 : decode cX8_turn 27 = .ok (.imul, 1) := by decide +kernel
theorem dX8_turn_28 : decode cX8_turn 28 = .ok (.if_icmp .ge 55, 3) := by decide +kernel
theorem dX8_turn_31 : decode cX8_turn 31 = .ok (.iload_n 2, 1) := by decide +kernel
theorem dX8_turn_32 : decode cX8_turn 32 = .ok (.iload_n 1, 1) := by decide +kernel
theorem dX8_turn_33 : decode cX8_turn 33 = .ok (.irem, 1) := by decide +kernel
theorem dX8_turn_34 : decode cX8_turn 34 = .ok (.istore_n 3, 1) := by decide +kernel
theorem dX8_turn_35 : decode cX8_turn 35 = .ok (.iload_n 2, 1) := by decide +kernel
theorem dX8_turn_36 : decode cX8_turn 36 = .ok (.iload_n 1, 1) := by decide +kernel
theorem dX8_turn_37 : decode cX8_turn 37 = .ok (.idiv, 1) := by decide +kernel
theorem dX8_turn_38 : decode cX8_turn 38 = .ok (.iload_n 1, 1) := by decide +kernel
theorem dX8_turn_39 : decode cX8_turn 39 = .ok (.irem, 1) := by decide +kernel
theorem dX8_turn_40 : decode cX8_turn 40 = .ok (.istore 4, 2) := by decide +kernel
theorem dX8_turn_42 : decode cX8_turn 42 = .ok (.iload_n 2, 1) := by decide +kernel
theorem dX8_turn_43 : decode cX8_turn 43 = .ok (.iload_n 1, 1) := by decide +kernel
theorem dX8_turn_44 : decode cX8_turn 44 = .ok (.iload_n 1, 1) := by decide +kernel
theorem dX8_turn_45 : decode cX8_turn 45 = .ok (.imul, 1) := by decide +kernel
theorem dX8_turn_46 : decode cX8_turn 46 = .ok (.idiv, 1) := by decide +kernel
theorem dX8_turn_47 : decode cX8_turn 47 = .ok (.istore 5, 2) := by decide +kernel
theorem dX8_turn_49 : decode cX8_turn 49 = .ok (.aload_n 0, 1) := by decide +kernel
theorem dX8_turn_50 : decode cX8_turn 50 = .ok (.getfield 7, 3) := by decide +kernel
theorem dX8_turn_53 : decode cX8_turn 53 = .ok (.iconst 3, 1) := by decide +kernel
theorem dX8_turn_54 : decode cX8_turn 54 = .ok (.iload 5, 2) := by decide +kernel
theorem dX8_turn_56 : decode cX8_turn 56 = .ok (.iload_n 3, 1) := by decide +kernel
theorem dX8_turn_57 : decode cX8_turn 57 = .ok (.iload 4, 2) := by decide +kernel
theorem dX8_turn_59 : decode cX8_turn 59 = .ok (.invokestatic 37, 3) := by decide +kernel
theorem dX8_turn_62 : decode cX8_turn 62 = .ok (.iadd, 1) := by decide +kernel
theorem dX8_turn_63 : decode cX8_turn 63 = .ok (.aload_n 0, 1) := by decide +kernel
theorem dX8_turn_64 : decode cX8_turn 64 = .ok (.getfield 16, 3) := by decide +kernel
theorem dX8_turn_67 : decode cX8_turn 67 = .ok (.iload_n 3, 1) := by decide +kernel
theorem dX8_turn_68 : decode cX8_turn 68 = .ok (.iload 4, 2) := by decide +kernel
theorem dX8_turn_70 : decode cX8_turn 70 = .ok (.iload 5, 2) := by decide +kernel
theorem dX8_turn_72 : decode cX8_turn 72 = .ok (.invokestatic 37, 3) := by decide +kernel
theorem dX8_turn_75 : decode cX8_turn 75 = .ok (.iaload, 1) := by decide +kernel
theorem dX8_turn_76 : decode cX8_turn 76 = .ok (.iastore, 1) := by decide +kernel
theorem dX8_turn_77 : decode cX8_turn 77 = .ok (.iinc 2 1, 3) := by decide +kernel
theorem dX8_turn_80 : decode cX8_turn 80 = .ok (.goto (-58), 3) := by decide +kernel
theorem dX8_turn_83 : decode cX8_turn 83 = .ok (.aload_n 0, 1) := by decide +kernel
theorem dX8_turn_84 : decode cX8_turn 84 = .ok (.invokevirtual 97, 3) := by decide +kernel
theorem dX8_turn_87 : decode cX8_turn 87 = .ok (.ireturn, 1) := by decide +kernel
set_option maxRecDepth 20000 in
theorem ggX8_keep_X8_isAxis : GoodIn wsX8_keep wsX8_isAxis := goodIn_r _ [6, 7, 8, 5, 9] (by decide +kernel) (by decide +kernel)
set_option maxRecDepth 20000 in
theorem gX8_keep_X8_isAxis : GoodIn wsX8_keep (va_wsS RX8 88 yX8_isAxis wsX8_isAxis) := goodIn_app (goodIn_of _ (by decide +kernel)) ggX8_keep_X8_isAxis
set_option maxRecDepth 20000 in
theorem ggX8_keep_X8_save : GoodIn wsX8_keep wsX8_save := goodIn_r _ [13, 14, 15, 2, 58, 59, 60, 61, 62, 63, 64, 65, 66, 67, 68, 69] (by decide +kernel) (by decide +kernel)
set_option maxRecDepth 20000 in
theorem gX8_keep_X8_save : GoodIn wsX8_keep (wsV RX8 75 RX8 yX8_save wsX8_save) := goodIn_app (goodIn_of _ (by decide +kernel)) ggX8_keep_X8_save
set_option maxRecDepth 20000 in
theorem ggX8_keep_X8_room : GoodIn wsX8_keep wsX8_room := goodIn_r _ [19, 2, 20, 21, 22, 5, 23, 24, 25, 26, 27, 28, 29, 30, 31, 32, 33, 34, 35, 36, 37, 38, 39, 40, 41, 42, 43, 44, 45, 46, 47, 48, 49, 50, 51, 52, 53, 54, 55, 56, 57, 58, 59, 60, 61, 62, 63, 64, 65, 66, 67, 68, 69] (by decide +kernel) (by decide +kernel)
set_option maxRecDepth 20000 in
theorem gX8_keep_X8_room : GoodIn wsX8_keep (wsV RX8 97 RX8 yX8_room wsX8_room) := goodIn_app (goodIn_of _ (by decide +kernel)) ggX8_keep_X8_room
theorem dX8_keep_0 : decode cX8_keep 0 = .ok (.aload_n 0, 1) := by decide +kernel
theorem dX8_keep_1 : decode cX8_keep 1 = .ok (.iload_n 1, 1) := by decide +kernel
theorem dX8_keep_2 : decode cX8_keep 2 = .ok (.invokestatic 88, 3) := by decide +kernel
theorem dX8_keep_5 : decode cX8_keep 5 = .ok (.ifCond .eq 7, 3) := by decide +kernel
theorem dX8_keep_8 : decode cX8_keep 8 = .ok (.iconst 0, 1) := by decide +kernel
theorem dX8_keep_9 : decode cX8_keep 9 = .ok (.goto 4, 3) := by decide +kernel
theorem dX8_keep_12 : decode cX8_keep 12 = .ok (.iconst 1, 1) := by decide +kernel
theorem dX8_keep_13 : decode cX8_keep 13 = .ok (.putfield 25, 3) := by decide +kernel
theorem dX8_keep_16 : decode cX8_keep 16 = .ok (.aload_n 0, 1) := by decide +kernel
theorem dX8_keep_17 : decode cX8_keep 17 = .ok (.getfield 25, 3) := by decide +kernel
theorem dX8_keep_20 : decode cX8_keep 20 = .ok (.ifCond .le 5, 3) := by decide +kernel
theorem dX8_keep_23 : decode cX8_keep 23 = .ok (.iconst 0, 1) := by decide +kernel
theorem dX8_keep_24 : decode cX8_keep 24 = .ok (.ireturn, 1) := by decide +kernel
theorem dX8_keep_25 : decode cX8_keep 25 = .ok (.aload_n 0, 1) := by decide +kernel
theorem dX8_keep_26 : decode cX8_keep 26 = .ok (.invokevirtual 75, 3) := by decide +kernel
theorem dX8_keep_29 : decode cX8_keep 29 = .ok (.aload_n 0, 1) := by decide +kernel
theorem dX8_keep_30 : decode cX8_keep 30 = .ok (.getfield 7, 3) := by decide +kernel
theorem dX8_keep_33 : decode cX8_keep 33 = .ok (.iconst 1, 1) := by decide +kernel
theorem dX8_keep_34 : decode cX8_keep 34 = .ok (.iload_n 1, 1) := by decide +kernel
theorem dX8_keep_35 : decode cX8_keep 35 = .ok (.iastore, 1) := by decide +kernel
theorem dX8_keep_36 : decode cX8_keep 36 = .ok (.aload_n 0, 1) := by decide +kernel
theorem dX8_keep_37 : decode cX8_keep 37 = .ok (.invokevirtual 97, 3) := by decide +kernel
theorem dX8_keep_40 : decode cX8_keep 40 = .ok (.ireturn, 1) := by decide +kernel
theorem dX8_differences_0 : decode cX8_differences 0 = .ok (.iconst 0, 1) := by decide +kernel
theorem dX8_differences_1 : decode cX8_differences 1 = .ok (.istore_n 1, 1) := by decide +kernel
theorem dX8_differences_2 : decode cX8_differences 2 = .ok (.iconst 0, 1) := by decide +kernel
theorem dX8_differences_3 : decode cX8_differences 3 = .ok (.istore_n 2, 1) := by decide +kernel
theorem dX8_differences_4 : decode cX8_differences 4 = .ok (.iload_n 2, 1) := by decide +kernel
theorem dX8_differences_5 : decode cX8_differences 5 = .ok (.sipush 512, 3) := by decide +kernel
theorem dX8_differences_8 : decode cX8_differences 8 = .ok (.if_icmp .ge 38, 3) := by decide +kernel
theorem dX8_differences_11 : decode cX8_differences 11 = .ok (.iload_n 1, 1) := by decide +kernel
theorem dX8_differences_12 : decode cX8_differences 12 = .ok (.aload_n 0, 1) := by decide +kernel
theorem dX8_differences_13 : decode cX8_differences 13 = .ok (.getfield 7, 3) := by decide +kernel
theorem dX8_differences_16 : decode cX8_differences 16 = .ok (.iconst 3, 1) := by decide +kernel
theorem dX8_differences_17 : decode cX8_differences 17 = .ok (.iload_n 2, 1) := by decide +kernel
theorem dX8_differences_18 : decode cX8_differences 18 = .ok (.iadd, 1) := by decide +kernel
theorem dX8_differences_19 : decode cX8_differences 19 = .ok (.iaload, 1) := by decide +kernel
theorem dX8_differences_20 : decode cX8_differences 20 = .ok (.aload_n 0, 1) := by decide +kernel
theorem dX8_differences_21 : decode cX8_differences 21 = .ok (.getfield 7, 3) := by decide +kernel
theorem dX8_differences_24 : decode cX8_differences 24 = .ok (.sipush 515, 3) := by decide +kernel
theorem dX8_differences_27 : decode cX8_differences 27 = .ok (.iload_n 2, 1) := by decide +kernel
theorem dX8_differences_28 : decode cX8_differences 28 = .ok (.iadd, 1) := by decide +kernel
theorem dX8_differences_29 : decode cX8_differences 29 = .ok (.iaload, 1) := by decide +kernel
theorem dX8_differences_30 : decode cX8_differences 30 = .ok (.if_icmp .ne 7, 3) := by decide +kernel
theorem dX8_differences_33 : decode cX8_differences 33 = .ok (.iconst 0, 1) := by decide +kernel
theorem dX8_differences_34 : decode cX8_differences 34 = .ok (.goto 4, 3) := by decide +kernel
theorem dX8_differences_37 : decode cX8_differences 37 = .ok (.iconst 1, 1) := by decide +kernel
theorem dX8_differences_38 : decode cX8_differences 38 = .ok (.iadd, 1) := by decide +kernel
theorem dX8_differences_39 : decode cX8_differences 39 = .ok (.istore_n 1, 1) := by decide +kernel
theorem dX8_differences_40 : decode cX8_differences 40 = .ok (.iinc 2 1, 3) := by decide +kernel
theorem dX8_differences_43 : decode cX8_differences 43 = .ok (.goto (-39), 3) := by decide +kernel
theorem dX8_differences_46 : decode cX8_differences 46 = .ok (.iload_n 1, 1) := by decide +kernel
theorem dX8_differences_47 : decode cX8_differences 47 = .ok (.ireturn, 1) := by decide +kernel
set_option maxRecDepth 20000 in
theorem ggX8_mark_X8_save : GoodIn wsX8_mark wsX8_save := goodIn_r _ [7, 8, 9, 2, 14, 15, 16, 17, 18, 19, 20, 21, 22, 23, 24, 25] (by decide +kernel) (by decide +kernel)
set_option maxRecDepth 20000 in
theorem gX8_mark_X8_save : GoodIn wsX8_mark (wsV RX8 75 RX8 yX8_save wsX8_save) := goodIn_app (goodIn_of _ (by decide +kernel)) ggX8_mark_X8_save
set_option maxRecDepth 20000 in
theorem ggX8_mark_X8_differences : GoodIn wsX8_mark wsX8_differences := goodIn_r _ [13, 2, 14, 15, 16, 17, 18, 19, 20, 21, 22, 23, 24, 25] (by decide +kernel) (by decide +kernel)
set_option maxRecDepth 20000 in
theorem gX8_mark_X8_differences : GoodIn wsX8_mark (wsV RX8 100 RX8 yX8_differences wsX8_differences) := goodIn_app (goodIn_of _ (by decide +kernel)) ggX8_mark_X8_differences
theorem dX8_mark_0 : decode cX8_mark 0 = .ok (.aload_n 0, 1) := by decide +kernel
theorem dX8_mark_1 : decode cX8_mark 1 = .ok (.iconst 0, 1) := by decide +kernel
theorem dX8_mark_2 : decode cX8_mark 2 = .ok (.putfield 25, 3) := by decide +kernel
theorem dX8_mark_5 : decode cX8_mark 5 = .ok (.aload_n 0, 1) := by decide +kernel
theorem dX8_mark_6 : decode cX8_mark 6 = .ok (.invokevirtual 75, 3) := by decide +kernel
theorem dX8_mark_9 : decode cX8_mark 9 = .ok (.aload_n 0, 1) := by decide +kernel
theorem dX8_mark_10 : decode cX8_mark 10 = .ok (.invokevirtual 100, 3) := by decide +kernel
theorem dX8_mark_13 : decode cX8_mark 13 = .ok (.istore_n 1, 1) := by decide +kernel
theorem dX8_mark_14 : decode cX8_mark 14 = .ok (.iconst 0, 1) := by decide +kernel
theorem dX8_mark_15 : decode cX8_mark 15 = .ok (.istore_n 2, 1) := by decide +kernel
theorem dX8_mark_16 : decode cX8_mark 16 = .ok (.iload_n 2, 1) := by decide +kernel
theorem dX8_mark_17 : decode cX8_mark 17 = .ok (.sipush 512, 3) := by decide +kernel
theorem dX8_mark_20 : decode cX8_mark 20 = .ok (.if_icmp .ge 27, 3) := by decide +kernel
theorem dX8_mark_23 : decode cX8_mark 23 = .ok (.aload_n 0, 1) := by decide +kernel
theorem dX8_mark_24 : decode cX8_mark 24 = .ok (.getfield 7, 3) := by decide +kernel
theorem dX8_mark_27 : decode cX8_mark 27 = .ok (.sipush 515, 3) := by decide +kernel
theorem dX8_mark_30 : decode cX8_mark 30 = .ok (.iload_n 2, 1) := by decide +kernel
theorem dX8_mark_31 : decode cX8_mark 31 = .ok (.iadd, 1) := by decide +kernel
theorem dX8_mark_32 : decode cX8_mark 32 = .ok (.aload_n 0, 1) := by decide +kernel
theorem dX8_mark_33 : decode cX8_mark 33 = .ok (.getfield 7, 3) := by decide +kernel
theorem dX8_mark_36 : decode cX8_mark 36 = .ok (.iconst 3, 1) := by decide +kernel
theorem dX8_mark_37 : decode cX8_mark 37 = .ok (.iload_n 2, 1) := by decide +kernel
theorem dX8_mark_38 : decode cX8_mark 38 = .ok (.iadd, 1) := by decide +kernel
theorem dX8_mark_39 : decode cX8_mark 39 = .ok (.iaload, 1) := by decide +kernel
theorem dX8_mark_40 : decode cX8_mark 40 = .ok (.iastore, 1) := by decide +kernel
theorem dX8_mark_41 : decode cX8_mark 41 = .ok (.iinc 2 1, 3) := by decide +kernel
theorem dX8_mark_44 : decode cX8_mark 44 = .ok (.goto (-28), 3) := by decide +kernel
theorem dX8_mark_47 : decode cX8_mark 47 = .ok (.iload_n 1, 1) := by decide +kernel
theorem dX8_mark_48 : decode cX8_mark 48 = .ok (.ireturn, 1) := by decide +kernel
set_option maxRecDepth 20000 in
theorem ggX8_goBack_X8_save : GoodIn wsX8_goBack wsX8_save := goodIn_r _ [7, 8, 9, 2, 14, 15, 16, 17, 18, 19, 20, 21, 22, 23, 24, 25] (by decide +kernel) (by decide +kernel)
set_option maxRecDepth 20000 in
theorem gX8_goBack_X8_save : GoodIn wsX8_goBack (wsV RX8 75 RX8 yX8_save wsX8_save) := goodIn_app (goodIn_of _ (by decide +kernel)) ggX8_goBack_X8_save
set_option maxRecDepth 20000 in
theorem ggX8_goBack_X8_differences : GoodIn wsX8_goBack wsX8_differences := goodIn_r _ [13, 2, 14, 15, 16, 17, 18, 19, 20, 21, 22, 23, 24, 25] (by decide +kernel) (by decide +kernel)
set_option maxRecDepth 20000 in
theorem gX8_goBack_X8_differences : GoodIn wsX8_goBack (wsV RX8 100 RX8 yX8_differences wsX8_differences) := goodIn_app (goodIn_of _ (by decide +kernel)) ggX8_goBack_X8_differences
theorem dX8_goBack_0 : decode cX8_goBack 0 = .ok (.aload_n 0, 1) := by decide +kernel
theorem dX8_goBack_1 : decode cX8_goBack 1 = .ok (.iconst 0, 1) := by decide +kernel
theorem dX8_goBack_2 : decode cX8_goBack 2 = .ok (.putfield 25, 3) := by decide +kernel
theorem dX8_goBack_5 : decode cX8_goBack 5 = .ok (.aload_n 0, 1) := by decide +kernel
theorem dX8_goBack_6 : decode cX8_goBack 6 = .ok (.invokevirtual 75, 3) := by decide +kernel
theorem dX8_goBack_9 : decode cX8_goBack 9 = .ok (.aload_n 0, 1) := by decide +kernel
theorem dX8_goBack_10 : decode cX8_goBack 10 = .ok (.invokevirtual 100, 3) := by decide +kernel
theorem dX8_goBack_13 : decode cX8_goBack 13 = .ok (.istore_n 1, 1) := by decide +kernel
theorem dX8_goBack_14 : decode cX8_goBack 14 = .ok (.iconst 0, 1) := by decide +kernel
theorem dX8_goBack_15 : decode cX8_goBack 15 = .ok (.istore_n 2, 1) := by decide +kernel
theorem dX8_goBack_16 : decode cX8_goBack 16 = .ok (.iload_n 2, 1) := by decide +kernel
theorem dX8_goBack_17 : decode cX8_goBack 17 = .ok (.sipush 512, 3) := by decide +kernel
theorem dX8_goBack_20 : decode cX8_goBack 20 = .ok (.if_icmp .ge 27, 3) := by decide +kernel
theorem dX8_goBack_23 : decode cX8_goBack 23 = .ok (.aload_n 0, 1) := by decide +kernel
theorem dX8_goBack_24 : decode cX8_goBack 24 = .ok (.getfield 7, 3) := by decide +kernel
theorem dX8_goBack_27 : decode cX8_goBack 27 = .ok (.iconst 3, 1) := by decide +kernel
theorem dX8_goBack_28 : decode cX8_goBack 28 = .ok (.iload_n 2, 1) := by decide +kernel
theorem dX8_goBack_29 : decode cX8_goBack 29 = .ok (.iadd, 1) := by decide +kernel
theorem dX8_goBack_30 : decode cX8_goBack 30 = .ok (.aload_n 0, 1) := by decide +kernel
theorem dX8_goBack_31 : decode cX8_goBack 31 = .ok (.getfield 7, 3) := by decide +kernel
theorem dX8_goBack_34 : decode cX8_goBack 34 = .ok (.sipush 515, 3) := by decide +kernel
theorem dX8_goBack_37 : decode cX8_goBack 37 = .ok (.iload_n 2, 1) := by decide +kernel
theorem dX8_goBack_38 : decode cX8_goBack 38 = .ok (.iadd, 1) := by decide +kernel
theorem dX8_goBack_39 : decode cX8_goBack 39 = .ok (.iaload, 1) := by decide +kernel
theorem dX8_goBack_40 : decode cX8_goBack 40 = .ok (.iastore, 1) := by decide +kernel
theorem dX8_goBack_41 : decode cX8_goBack 41 = .ok (.iinc 2 1, 3) := by decide +kernel
theorem dX8_goBack_44 : decode cX8_goBack 44 = .ok (.goto (-28), 3) := by decide +kernel
theorem dX8_goBack_47 : decode cX8_goBack 47 = .ok (.iload_n 1, 1) := by decide +kernel
theorem dX8_goBack_48 : decode cX8_goBack 48 = .ok (.ireturn, 1) := by decide +kernel
set_option maxRecDepth 20000 in
theorem ggX8_set_X8_in : GoodIn wsX8_set wsX8_in := goodIn_r _ [6] (by decide +kernel) (by decide +kernel)
set_option maxRecDepth 20000 in
theorem gX8_set_X8_in : GoodIn wsX8_set (va_wsS RX8 33 yX8_in wsX8_in) := goodIn_app (goodIn_of _ (by decide +kernel)) ggX8_set_X8_in
set_option maxRecDepth 20000 in
theorem ggX8_set_X8_save : GoodIn wsX8_set wsX8_save := goodIn_r _ [10, 11, 12, 2, 13, 14, 15, 16, 17, 18, 19, 20, 21, 22, 23, 24] (by decide +kernel) (by decide +kernel)
set_option maxRecDepth 20000 in
theorem gX8_set_X8_save : GoodIn wsX8_set (wsV RX8 75 RX8 yX8_save wsX8_save) := goodIn_app (goodIn_of _ (by decide +kernel)) ggX8_set_X8_save
theorem dX8_set_0 : decode cX8_set 0 = .ok (.aload_n 0, 1) := by decide +kernel
theorem dX8_set_1 : decode cX8_set 1 = .ok (.iload_n 1, 1) := by decide +kernel
theorem dX8_set_2 : decode cX8_set 2 = .ok (.iconst 1, 1) := by decide +kernel
theorem dX8_set_3 : decode cX8_set 3 = .ok (.bipush 64, 2) := by decide +kernel
theorem dX8_set_5 : decode cX8_set 5 = .ok (.invokestatic 33, 3) := by decide +kernel
theorem dX8_set_8 : decode cX8_set 8 = .ok (.ifCond .eq 7, 3) := by decide +kernel
theorem dX8_set_11 : decode cX8_set 11 = .ok (.iconst 0, 1) := by decide +kernel
theorem dX8_set_12 : decode cX8_set 12 = .ok (.goto 4, 3) := by decide +kernel
theorem dX8_set_15 : decode cX8_set 15 = .ok (.iconst 1, 1) := by decide +kernel
theorem dX8_set_16 : decode cX8_set 16 = .ok (.putfield 25, 3) := by decide +kernel
theorem dX8_set_19 : decode cX8_set 19 = .ok (.aload_n 0, 1) := by decide +kernel
theorem dX8_set_20 : decode cX8_set 20 = .ok (.getfield 25, 3) := by decide +kernel
theorem dX8_set_23 : decode cX8_set 23 = .ok (.ifCond .le 5, 3) := by decide +kernel
theorem dX8_set_26 : decode cX8_set 26 = .ok (.iconst 0, 1) := by decide +kernel
theorem dX8_set_27 : decode cX8_set 27 = .ok (.ireturn, 1) := by decide +kernel
theorem dX8_set_28 : decode cX8_set 28 = .ok (.aload_n 0, 1) := by decide +kernel
theorem dX8_set_29 : decode cX8_set 29 = .ok (.invokevirtual 75, 3) := by decide +kernel
theorem dX8_set_32 : decode cX8_set 32 = .ok (.aload_n 0, 1) := by decide +kernel
theorem dX8_set_33 : decode cX8_set 33 = .ok (.getfield 7, 3) := by decide +kernel
theorem dX8_set_36 : decode cX8_set 36 = .ok (.iconst 2, 1) := by decide +kernel
theorem dX8_set_37 : decode cX8_set 37 = .ok (.iaload, 1) := by decide +kernel
theorem dX8_set_38 : decode cX8_set 38 = .ok (.istore_n 2, 1) := by decide +kernel
theorem dX8_set_39 : decode cX8_set 39 = .ok (.aload_n 0, 1) := by decide +kernel
theorem dX8_set_40 : decode cX8_set 40 = .ok (.getfield 7, 3) := by decide +kernel
theorem dX8_set_43 : decode cX8_set 43 = .ok (.iconst 2, 1) := by decide +kernel
theorem dX8_set_44 : decode cX8_set 44 = .ok (.iload_n 1, 1) := by decide +kernel
theorem dX8_set_45 : decode cX8_set 45 = .ok (.iastore, 1) := by decide +kernel
theorem dX8_set_46 : decode cX8_set 46 = .ok (.iload_n 2, 1) := by decide +kernel
theorem dX8_set_47 : decode cX8_set 47 = .ok (.ireturn, 1) := by decide +kernel
set_option maxRecDepth 20000 in
theorem ggX8_append_X8_in : GoodIn wsX8_append wsX8_in := goodIn_r _ [7] (by decide +kernel) (by decide +kernel)
set_option maxRecDepth 20000 in
theorem gX8_append_X8_in : GoodIn wsX8_append (va_wsS RX8 33 yX8_in wsX8_in) := goodIn_app (goodIn_of _ (by decide +kernel)) ggX8_append_X8_in
theorem dX8_append_0 : decode cX8_append 0 = .ok (.aload_n 0, 1) := by decide +kernel
theorem dX8_append_1 : decode cX8_append 1 = .ok (.iload_n 1, 1) := by decide +kernel
theorem dX8_append_2 : decode cX8_append 2 = .ok (.bipush 33, 2) := by decide +kernel
theorem dX8_append_4 : decode cX8_append 4 = .ok (.bipush 126, 2) := by decide +kernel
theorem dX8_append_6 : decode cX8_append 6 = .ok (.invokestatic 33, 3) := by decide +kernel
theorem dX8_append_9 : decode cX8_append 9 = .ok (.ifCond .ne 7, 3) := by decide +kernel
theorem dX8_append_12 : decode cX8_append 12 = .ok (.iconst 1, 1) := by decide +kernel
theorem dX8_append_13 : decode cX8_append 13 = .ok (.goto 17, 3) := by decide +kernel
theorem dX8_append_16 : decode cX8_append 16 = .ok (.aload_n 0, 1) := by decide +kernel
theorem dX8_append_17 : decode cX8_append 17 = .ok (.getfield 103, 3) := by decide +kernel
theorem dX8_append_20 : decode cX8_append 20 = .ok (.bipush 60, 2) := by decide +kernel
theorem dX8_append_22 : decode cX8_append 22 = .ok (.if_icmp .ne 7, 3) := by decide +kernel
theorem dX8_append_25 : decode cX8_append 25 = .ok (.iconst 2, 1) := by decide +kernel
theorem dX8_append_26 : decode cX8_append 26 = .ok (.goto 4, 3) := by decide +kernel
theorem dX8_append_29 : decode cX8_append 29 = .ok (.iconst 0, 1) := by decide +kernel
theorem dX8_append_30 : decode cX8_append 30 = .ok (.putfield 25, 3) := by decide +kernel
theorem dX8_append_33 : decode cX8_append 33 = .ok (.aload_n 0, 1) := by decide +kernel
theorem dX8_append_34 : decode cX8_append 34 = .ok (.getfield 25, 3) := by decide +kernel
theorem dX8_append_37 : decode cX8_append 37 = .ok (.ifCond .le 5, 3) := by decide +kernel
theorem dX8_append_40 : decode cX8_append 40 = .ok (.iconst 0, 1) := by decide +kernel
theorem dX8_append_41 : decode cX8_append 41 = .ok (.ireturn, 1) := by decide +kernel
theorem dX8_append_42 : decode cX8_append 42 = .ok (.aload_n 0, 1) := by decide +kernel
theorem dX8_append_43 : decode cX8_append 43 = .ok (.getfield 19, 3) := by decide +kernel
theorem dX8_append_46 : decode cX8_append 46 = .ok (.aload_n 0, 1) := by decide +kernel
theorem dX8_append_47 : decode cX8_append 47 = .ok (.getfield 103, 3) := by decide +kernel
theorem dX8_append_50 : decode cX8_append 50 = .ok (.iload_n 1, 1) := by decide +kernel
theorem dX8_append_51 : decode cX8_append 51 = .ok (.iastore, 1) := by decide +kernel
theorem dX8_append_52 : decode cX8_append 52 = .ok (.aload_n 0, 1) := by decide +kernel
theorem dX8_append_53 : decode cX8_append 53 = .ok (.dup, 1) := by decide +kernel
theorem dX8_append_54 : decode cX8_append 54 = .ok (.getfield 103, 3) := by decide +kernel
theorem dX8_append_57 : decode cX8_append 57 = .ok (.iconst 1, 1) := by decide +kernel
theorem dX8_append_58 : decode cX8_append 58 = .ok (.iadd, 1) := by decide +kernel
theorem dX8_append_59 : decode cX8_append 59 = .ok (.putfield 103, 3) := by decide +kernel
theorem dX8_append_62 : decode cX8_append 62 = .ok (.aload_n 0, 1) := by decide +kernel
theorem dX8_append_63 : decode cX8_append 63 = .ok (.getfield 103, 3) := by decide +kernel
theorem dX8_append_66 : decode cX8_append 66 = .ok (.ireturn, 1) := by decide +kernel
theorem dX8_clearBuffer_0 : decode cX8_clearBuffer 0 = .ok (.aload_n 0, 1) := by decide +kernel
theorem dX8_clearBuffer_1 : decode cX8_clearBuffer 1 = .ok (.iconst 0, 1) := by decide +kernel
theorem dX8_clearBuffer_2 : decode cX8_clearBuffer 2 = .ok (.putfield 25, 3) := by decide +kernel
theorem dX8_clearBuffer_5 : decode cX8_clearBuffer 5 = .ok (.aload_n 0, 1) := by decide +kernel
theorem dX8_clearBuffer_6 : decode cX8_clearBuffer 6 = .ok (.getfield 103, 3) := by decide +kernel
theorem dX8_clearBuffer_9 : decode cX8_clearBuffer 9 = .ok (.istore_n 1, 1) := by decide +kernel
theorem dX8_clearBuffer_10 : decode cX8_clearBuffer 10 = .ok (.aload_n 0, 1) := by decide +kernel
theorem dX8_clearBuffer_11 : decode cX8_clearBuffer 11 = .ok (.iconst 0, 1) := by decide +kernel
theorem dX8_clearBuffer_12 : decode cX8_clearBuffer 12 = .ok (.putfield 103, 3) := by decide +kernel
theorem dX8_clearBuffer_15 : decode cX8_clearBuffer 15 = .ok (.iload_n 1, 1) := by decide +kernel
theorem dX8_clearBuffer_16 : decode cX8_clearBuffer 16 = .ok (.ireturn, 1) := by decide +kernel
theorem dX8_letter_0 : decode cX8_letter 0 = .ok (.aload_n 0, 1) := by decide +kernel
theorem dX8_letter_1 : decode cX8_letter 1 = .ok (.getfield 106, 3) := by decide +kernel
theorem dX8_letter_4 : decode cX8_letter 4 = .ok (.aload_n 0, 1) := by decide +kernel
theorem dX8_letter_5 : decode cX8_letter 5 = .ok (.getfield 103, 3) := by decide +kernel
theorem dX8_letter_8 : decode cX8_letter 8 = .ok (.if_icmp .ge 15, 3) := by decide +kernel
theorem dX8_letter_11 : decode cX8_letter 11 = .ok (.aload_n 0, 1) := by decide +kernel
theorem dX8_letter_12 : decode cX8_letter 12 = .ok (.getfield 19, 3) := by decide +kernel
theorem dX8_letter_15 : decode cX8_letter 15 = .ok (.aload_n 0, 1) := by decide +kernel
theorem dX8_letter_16 : decode cX8_letter 16 = .ok (.getfield 106, 3) := by decide +kernel
theorem dX8_letter_19 : decode cX8_letter 19 = .ok (.iaload, 1) := by decide +kernel
theorem dX8_letter_20 : decode cX8_letter 20 = .ok (.goto 4, 3) := by decide +kernel
theorem dX8_letter_23 : decode cX8_letter 23 = .ok (.iconst (-1), 1) := by decide +kernel
theorem dX8_letter_24 : decode cX8_letter 24 = .ok (.ireturn, 1) := by decide +kernel
theorem dX8_wants_0 : decode cX8_wants 0 = .ok (.aload_n 0, 1) := by decide +kernel
theorem dX8_wants_1 : decode cX8_wants 1 = .ok (.getfield 109, 3) := by decide +kernel
theorem dX8_wants_4 : decode cX8_wants 4 = .ok (.iconst (-1), 1) := by decide +kernel
theorem dX8_wants_5 : decode cX8_wants 5 = .ok (.if_icmp .ne 29, 3) := by decide +kernel
theorem dX8_wants_8 : decode cX8_wants 8 = .ok (.aload_n 0, 1) := by decide +kernel
theorem dX8_wants_9 : decode cX8_wants 9 = .ok (.iload_n 1, 1) := by decide +kernel
theorem dX8_wants_10 : decode cX8_wants 10 = .ok (.ifCond .eq 7, 3) := by decide +kernel
theorem dX8_wants_13 : decode cX8_wants 13 = .ok (.iconst (-1), 1) := by decide +kernel
theorem dX8_wants_14 : decode cX8_wants 14 = .ok (.goto 7, 3) := by decide +kernel
theorem dX8_wants_17 : decode cX8_wants 17 = .ok (.aload_n 0, 1) := by decide +kernel
theorem dX8_wants_18 : decode cX8_wants 18 = .ok (.getfield 106, 3) := by decide +kernel
theorem dX8_wants_21 : decode cX8_wants 21 = .ok (.putfield 109, 3) := by decide +kernel
theorem dX8_wants_24 : decode cX8_wants 24 = .ok (.aload_n 0, 1) := by decide +kernel
theorem dX8_wants_25 : decode cX8_wants 25 = .ok (.dup, 1) := by decide +kernel
theorem dX8_wants_26 : decode cX8_wants 26 = .ok (.getfield 106, 3) := by decide +kernel
theorem dX8_wants_29 : decode cX8_wants 29 = .ok (.iconst 1, 1) := by decide +kernel
theorem dX8_wants_30 : decode cX8_wants 30 = .ok (.iadd, 1) := by decide +kernel
theorem dX8_wants_31 : decode cX8_wants 31 = .ok (.putfield 106, 3) := by decide +kernel
theorem dX8_wants_34 : decode cX8_wants 34 = .ok (.return_, 1) := by decide +kernel
set_option maxRecDepth 20000 in
theorem ggX8_digit_X8_letter : GoodIn wsX8_digit wsX8_letter := goodIn_r _ [5, 6, 7, 8, 17, 18, 19, 20, 21, 22, 23, 24, 25, 26, 27, 28] (by decide +kernel) (by decide +kernel)
set_option maxRecDepth 20000 in
theorem gX8_digit_X8_letter : GoodIn wsX8_digit (wsV RX8 112 RX8 yX8_letter wsX8_letter) := goodIn_app (goodIn_of _ (by decide +kernel)) ggX8_digit_X8_letter
set_option maxRecDepth 20000 in
theorem ggX8_digit_X8_in : GoodIn wsX8_digit wsX8_in := goodIn_r _ [11] (by decide +kernel) (by decide +kernel)
set_option maxRecDepth 20000 in
theorem gX8_digit_X8_in : GoodIn wsX8_digit (va_wsS RX8 33 yX8_in wsX8_in) := goodIn_app (goodIn_of _ (by decide +kernel)) ggX8_digit_X8_in
set_option maxRecDepth 20000 in
theorem ggX8_digit_X8_wants : GoodIn wsX8_digit wsX8_wants := goodIn_r _ [15, 16, 6, 17, 18, 19, 20, 21, 22, 23, 24, 25, 26, 27, 28] (by decide +kernel) (by decide +kernel)
set_option maxRecDepth 20000 in
theorem gX8_digit_X8_wants : GoodIn wsX8_digit (wsV RX8 115 RX8 yX8_wants wsX8_wants) := goodIn_app (goodIn_of _ (by decide +kernel)) ggX8_digit_X8_wants
theorem dX8_digit_0 : decode cX8_digit 0 = .ok (.aload_n 0, 1) := by decide +kernel
theorem dX8_digit_1 : decode cX8_digit 1 = .ok (.invokevirtual 112, 3) := by decide +kernel
theorem dX8_digit_4 : decode cX8_digit 4 = .ok (.bipush 48, 2) := by decide +kernel
theorem dX8_digit_6 : decode cX8_digit 6 = .ok (.isub, 1) := by decide +kernel
theorem dX8_digit_7 : decode cX8_digit 7 = .ok (.istore_n 1, 1) := by decide +kernel
theorem dX8_digit_8 : decode cX8_digit 8 = .ok (.aload_n 0, 1) := by decide +kernel
theorem dX8_digit_9 : decode cX8_digit 9 = .ok (.iload_n 1, 1) := by decide +kernel
theorem dX8_digit_10 : decode cX8_digit 10 = .ok (.iconst 0, 1) := by decide +kernel
theorem dX8_digit_11 : decode cX8_digit 11 = .ok (.bipush 7, 2) := by decide +kernel
theorem dX8_digit_13 : decode cX8_digit 13 = .ok (.invokestatic 33, 3) := by decide +kernel
theorem dX8_digit_16 : decode cX8_digit 16 = .ok (.invokevirtual 115, 3) := by decide +kernel
theorem dX8_digit_19 : decode cX8_digit 19 = .ok (.iload_n 1, 1) := by decide +kernel
theorem dX8_digit_20 : decode cX8_digit 20 = .ok (.ireturn, 1) := by decide +kernel
set_option maxRecDepth 20000 in
theorem ggX8_number_X8_letter : GoodIn wsX8_number wsX8_letter := goodIn_r _ [7, 2, 8, 9, 17, 18, 19, 20, 21, 22, 23, 24, 25, 26, 27, 28] (by decide +kernel) (by decide +kernel)
set_option maxRecDepth 20000 in
theorem gX8_number_X8_letter : GoodIn wsX8_number (wsV RX8 112 RX8 yX8_letter wsX8_letter) := goodIn_app (goodIn_of _ (by decide +kernel)) ggX8_number_X8_letter
set_option maxRecDepth 20000 in
theorem ggX8_number_X8_in : GoodIn wsX8_number wsX8_in := goodIn_r _ [12] (by decide +kernel) (by decide +kernel)
set_option maxRecDepth 20000 in
theorem gX8_number_X8_in : GoodIn wsX8_number (va_wsS RX8 33 yX8_in wsX8_in) := goodIn_app (goodIn_of _ (by decide +kernel)) ggX8_number_X8_in
set_option maxRecDepth 20000 in
theorem ggX8_number_X8_wants : GoodIn wsX8_number wsX8_wants := goodIn_r _ [16, 1, 2, 17, 18, 19, 20, 21, 22, 23, 24, 25, 26, 27, 28] (by decide +kernel) (by decide +kernel)
set_option maxRecDepth 20000 in
theorem gX8_number_X8_wants : GoodIn wsX8_number (wsV RX8 115 RX8 yX8_wants wsX8_wants) := goodIn_app (goodIn_of _ (by decide +kernel)) ggX8_number_X8_wants
theorem dX8_number_0 : decode cX8_number 0 = .ok (.aload_n 0, 1) := by decide +kernel
theorem dX8_number_1 : decode cX8_number 1 = .ok (.invokevirtual 112, 3) := by decide +kernel
theorem dX8_number_4 : decode cX8_number 4 = .ok (.bipush 48, 2) := by decide +kernel
theorem dX8_number_6 : decode cX8_number 6 = .ok (.isub, 1) := by decide +kernel
theorem dX8_number_7 : decode cX8_number 7 = .ok (.istore_n 1, 1) := by decide +kernel
theorem dX8_number_8 : decode cX8_number 8 = .ok (.aload_n 0, 1) := by decide +kernel
theorem dX8_number_9 : decode cX8_number 9 = .ok (.iload_n 1, 1) := by decide +kernel
theorem dX8_number_10 : decode cX8_number 10 = .ok (.iconst 0, 1) := by decide +kernel
theorem dX8_number_11 : decode cX8_number 11 = .ok (.bipush 9, 2) := by decide +kernel
theorem dX8_number_13 : decode cX8_number 13 = .ok (.invokestatic 33, 3) := by decide +kernel
theorem dX8_number_16 : decode cX8_number 16 = .ok (.invokevirtual 115, 3) := by decide +kernel
theorem dX8_number_19 : decode cX8_number 19 = .ok (.aload_n 0, 1) := by decide +kernel
theorem dX8_number_20 : decode cX8_number 20 = .ok (.invokevirtual 112, 3) := by decide +kernel
theorem dX8_number_23 : decode cX8_number 23 = .ok (.bipush 48, 2) := by decide +kernel
theorem dX8_number_25 : decode cX8_number 25 = .ok (.isub, 1) := by decide +kernel
theorem dX8_number_26 : decode cX8_number 26 = .ok (.istore_n 2, 1) := by decide +kernel
theorem dX8_number_27 : decode cX8_number 27 = .ok (.aload_n 0, 1) := by decide +kernel
theorem dX8_number_28 : decode cX8_number 28 = .ok (.getfield 109, 3) := by decide +kernel
theorem dX8_number_31 : decode cX8_number 31 = .ok (.iconst (-1), 1) := by decide +kernel
theorem dX8_number_32 : decode cX8_number 32 = .ok (.if_icmp .ne 57, 3) := by decide +kernel
theorem dX8_number_35 : decode cX8_number 35 = .ok (.iload_n 1, 1) := by decide +kernel
theorem dX8_number_36 : decode cX8_number 36 = .ok (.ifCond .le 53, 3) := by decide +kernel
theorem dX8_number_39 : decode cX8_number 39 = .ok (.iload_n 2, 1) := by decide +kernel
theorem dX8_number_40 : decode cX8_number 40 = .ok (.iconst 0, 1) := by decide +kernel
theorem dX8_number_41 : decode cX8_number 41 = .ok (.bipush 9, 2) := by decide +kernel
theorem dX8_number_43 : decode cX8_number 43 = .ok (.invokestatic 33, 3) := by decide +kernel
theorem dX8_number_46 : decode cX8_number 46 = .ok (.ifCond .eq 43, 3) := by decide +kernel
theorem dX8_number_49 : decode cX8_number 49 = .ok (.bipush 10, 2) := by decide +kernel
theorem dX8_number_51 : decode cX8_number 51 = .ok (.iload_n 1, 1) := by decide +kernel
theorem dX8_number_52 : decode cX8_number 52 = .ok (.imul, 1) := by decide +kernel
theorem dX8_number_53 : decode cX8_number 53 = .ok (.iload_n 2, 1) := by decide +kernel
theorem dX8_number_54 : decode cX8_number 54 = .ok (.iadd, 1) := by decide +kernel
theorem dX8_number_55 : decode cX8_number 55 = .ok (.sipush 999, 3) := by decide +kernel
theorem dX8_number_58 : decode cX8_number 58 = .ok (.if_icmp .gt 31, 3) := by decide +kernel
theorem dX8_number_61 : decode cX8_number 61 = .ok (.bipush 10, 2) := by decide +kernel
theorem dX8_number_63 : decode cX8_number 63 = .ok (.iload_n 1, 1) := by decide +kernel
theorem dX8_number_64 : decode cX8_number 64 = .ok (.imul, 1) := by decide +kernel
theorem dX8_number_65 : decode cX8_number 65 = .ok (.iload_n 2, 1) := by decide +kernel
theorem dX8_number_66 : decode cX8_number 66 = .ok (.iadd, 1) := by decide +kernel
theorem dX8_number_67 : decode cX8_number 67 = .ok (.istore_n 1, 1) := by decide +kernel
theorem dX8_number_68 : decode cX8_number 68 = .ok (.aload_n 0, 1) := by decide +kernel
theorem dX8_number_69 : decode cX8_number 69 = .ok (.dup, 1) := by decide +kernel
theorem dX8_number_70 : decode cX8_number 70 = .ok (.getfield 106, 3) := by decide +kernel
theorem dX8_number_73 : decode cX8_number 73 = .ok (.iconst 1, 1) := by decide +kernel
theorem dX8_number_74 : decode cX8_number 74 = .ok (.iadd, 1) := by decide +kernel
theorem dX8_number_75 : decode cX8_number 75 = .ok (.putfield 106, 3) := by decide +kernel
theorem dX8_number_78 : decode cX8_number 78 = .ok (.aload_n 0, 1) := by decide +kernel
theorem dX8_number_79 : decode cX8_number 79 = .ok (.invokevirtual 112, 3) := by decide +kernel
theorem dX8_number_82 : decode cX8_number 82 = .ok (.bipush 48, 2) := by decide +kernel
theorem dX8_number_84 : decode cX8_number 84 = .ok (.isub, 1) := by decide +kernel
theorem dX8_number_85 : decode cX8_number 85 = .ok (.istore_n 2, 1) := by decide +kernel
theorem dX8_number_86 : decode cX8_number 86 = .ok (.goto (-59), 3) := by decide +kernel
theorem dX8_number_89 : decode cX8_number 89 = .ok (.iload_n 1, 1) := by decide +kernel
theorem dX8_number_90 : decode cX8_number 90 = .ok (.ireturn, 1) := by decide +kernel
set_option maxRecDepth 20000 in
theorem ggX8_readOrder_X8_digit : GoodIn wsX8_readOrder wsX8_digit := goodIn_r _ [9, 10, 11, 12, 8, 13, 4, 14, 15, 16, 17, 18, 19, 20, 21, 22, 3, 27, 28, 29, 30, 31, 32, 33, 34, 35, 36, 37, 38] (by decide +kernel) (by decide +kernel)
set_option maxRecDepth 20000 in
theorem gX8_readOrder_X8_digit : GoodIn wsX8_readOrder (wsV RX8 122 RX8 yX8_digit wsX8_digit) := goodIn_app (goodIn_of _ (by decide +kernel)) ggX8_readOrder_X8_digit
set_option maxRecDepth 20000 in
theorem ggX8_readOrder_X8_letter : GoodIn wsX8_readOrder wsX8_letter := goodIn_r _ [13, 4, 14, 15, 27, 28, 29, 30, 31, 32, 33, 34, 35, 36, 37, 38] (by decide +kernel) (by decide +kernel)
set_option maxRecDepth 20000 in
theorem gX8_readOrder_X8_letter : GoodIn wsX8_readOrder (wsV RX8 112 RX8 yX8_letter wsX8_letter) := goodIn_app (goodIn_of _ (by decide +kernel)) ggX8_readOrder_X8_letter
set_option maxRecDepth 20000 in
theorem ggX8_readOrder_X8_wants : GoodIn wsX8_readOrder wsX8_wants := goodIn_r _ [22, 3, 4, 27, 28, 29, 30, 31, 32, 33, 34, 35, 36, 37, 38] (by decide +kernel) (by decide +kernel)
set_option maxRecDepth 20000 in
theorem gX8_readOrder_X8_wants : GoodIn wsX8_readOrder (wsV RX8 115 RX8 yX8_wants wsX8_wants) := goodIn_app (goodIn_of _ (by decide +kernel)) ggX8_readOrder_X8_wants
set_option maxRecDepth 20000 in
theorem ggX8_readOrder_X8_number : GoodIn wsX8_readOrder wsX8_number := goodIn_r _ [26, 3, 4, 10, 11, 12, 8, 13, 14, 15, 16, 17, 18, 19, 20, 21, 22, 27, 28, 29, 30, 31, 32, 33, 34, 35, 36, 37, 38] (by decide +kernel) (by decide +kernel)
set_option maxRecDepth 20000 in
theorem gX8_readOrder_X8_number : GoodIn wsX8_readOrder (wsV RX8 125 RX8 yX8_number wsX8_number) := goodIn_app (goodIn_of _ (by decide +kernel)) ggX8_readOrder_X8_number
theorem dX8_readOrder_0 : decode cX8_readOrder 0 = .ok (.iconst 5, 1) := by decide +kernel
theorem dX8_readOrder_1 : decode cX8_readOrder 1 = .ok (.aload_n 0, 1) := by decide +kernel
theorem dX8_readOrder_2 : decode cX8_readOrder 2 = .ok (.getfield 119, 3) := by decide +kernel
theorem dX8_readOrder_5 : decode cX8_readOrder 5 = .ok (.imul, 1) := by decide +kernel
theorem dX8_readOrder_6 : decode cX8_readOrder 6 = .ok (.istore_n 1, 1) := by decide +kernel
theorem dX8_readOrder_7 : decode cX8_readOrder 7 = .ok (.iconst 0, 1) := by decide +kernel
theorem dX8_readOrder_8 : decode cX8_readOrder 8 = .ok (.istore_n 2, 1) := by decide +kernel
theorem dX8_readOrder_9 : decode cX8_readOrder 9 = .ok (.iload_n 2, 1) := by decide +kernel
theorem dX8_readOrder_10 : decode cX8_readOrder 10 = .ok (.iconst 3, 1) := by decide +kernel
theorem dX8_readOrder_11 : decode cX8_readOrder 11 = .ok (.if_icmp .ge 21, 3) := by decide +kernel
theorem dX8_readOrder_14 : decode cX8_readOrder 14 = .ok (.aload_n 0, 1) := by decide +kernel
theorem dX8_readOrder_15 : decode cX8_readOrder 15 = .ok (.getfield 22, 3) := by decide +kernel
theorem dX8_readOrder_18 : decode cX8_readOrder 18 = .ok (.iload_n 1, 1) := by decide +kernel
theorem dX8_readOrder_19 : decode cX8_readOrder 19 = .ok (.iload_n 2, 1) := by decide +kernel
theorem dX8_readOrder_20 : decode cX8_readOrder 20 = .ok (.iadd, 1) := by decide +kernel
theorem dX8_readOrder_21 : decode cX8_readOrder 21 = .ok (.aload_n 0, 1) := by decide +kernel
theorem dX8_readOrder_22 : decode cX8_readOrder 22 = .ok (.invokevirtual 122, 3) := by decide +kernel
theorem dX8_readOrder_25 : decode cX8_readOrder 25 = .ok (.iastore, 1) := by decide +kernel
theorem dX8_readOrder_26 : decode cX8_readOrder 26 = .ok (.iinc 2 1, 3) := by decide +kernel
theorem dX8_readOrder_29 : decode cX8_readOrder 29 = .ok (.goto (-20), 3) := by decide +kernel
theorem dX8_readOrder_32 : decode cX8_readOrder 32 = .ok (.aload_n 0, 1) := by decide +kernel
theorem dX8_readOrder_33 : decode cX8_readOrder 33 = .ok (.getfield 22, 3) := by decide +kernel
theorem dX8_readOrder_36 : decode cX8_readOrder 36 = .ok (.iload_n 1, 1) := by decide +kernel
theorem dX8_readOrder_37 : decode cX8_readOrder 37 = .ok (.iconst 3, 1) := by decide +kernel
theorem dX8_readOrder_38 : decode cX8_readOrder 38 = .ok (.iadd, 1) := by decide +kernel
theorem dX8_readOrder_39 : decode cX8_readOrder 39 = .ok (.aload_n 0, 1) := by decide +kernel
theorem dX8_readOrder_40 : decode cX8_readOrder 40 = .ok (.invokevirtual 112, 3) := by decide +kernel
theorem dX8_readOrder_43 : decode cX8_readOrder 43 = .ok (.bipush 43, 2) := by decide +kernel
theorem dX8_readOrder_45 : decode cX8_readOrder 45 = .ok (.if_icmp .ne 7, 3) := by decide +kernel
theorem dX8_readOrder_48 : decode cX8_readOrder 48 = .ok (.iconst 1, 1) := by decide +kernel
theorem dX8_readOrder_49 : decode cX8_readOrder 49 = .ok (.goto 4, 3) := by decide +kernel
theorem dX8_readOrder_52 : decode cX8_readOrder 52 = .ok (.iconst 0, 1) := by decide +kernel
theorem dX8_readOrder_53 : decode cX8_readOrder 53 = .ok (.iastore, 1) := by decide +kernel
theorem dX8_readOrder_54 : decode cX8_readOrder 54 = .ok (.aload_n 0, 1) := by decide +kernel
theorem dX8_readOrder_55 : decode cX8_readOrder 55 = .ok (.aload_n 0, 1) := by decide +kernel
theorem dX8_readOrder_56 : decode cX8_readOrder 56 = .ok (.invokevirtual 112, 3) := by decide +kernel
theorem dX8_readOrder_59 : decode cX8_readOrder 59 = .ok (.bipush 43, 2) := by decide +kernel
theorem dX8_readOrder_61 : decode cX8_readOrder 61 = .ok (.if_icmp .eq 12, 3) := by decide +kernel
theorem dX8_readOrder_64 : decode cX8_readOrder 64 = .ok (.aload_n 0, 1) := by decide +kernel
theorem dX8_readOrder_65 : decode cX8_readOrder 65 = .ok (.invokevirtual 112, 3) := by decide +kernel
theorem dX8_readOrder_68 : decode cX8_readOrder 68 = .ok (.bipush 61, 2) := by decide +kernel
theorem dX8_readOrder_70 : decode cX8_readOrder 70 = .ok (.if_icmp .ne 7, 3) := by decide +kernel
theorem dX8_readOrder_73 : decode cX8_readOrder 73 = .ok (.iconst 1, 1) := by decide +kernel
theorem dX8_readOrder_74 : decode cX8_readOrder 74 = .ok (.goto 4, 3) := by decide +kernel
theorem dX8_readOrder_77 : decode cX8_readOrder 77 = .ok (.iconst 0, 1) := by decide +kernel
theorem dX8_readOrder_78 : decode cX8_readOrder 78 = .ok (.invokevirtual 115, 3) := by decide +kernel
theorem dX8_readOrder_81 : decode cX8_readOrder 81 = .ok (.aload_n 0, 1) := by decide +kernel
theorem dX8_readOrder_82 : decode cX8_readOrder 82 = .ok (.getfield 109, 3) := by decide +kernel
theorem dX8_readOrder_85 : decode cX8_readOrder 85 = .ok (.iconst (-1), 1) := by decide +kernel
theorem dX8_readOrder_86 : decode cX8_readOrder 86 = .ok (.if_icmp .ne 16, 3) := by decide +kernel
theorem dX8_readOrder_89 : decode cX8_readOrder 89 = .ok (.aload_n 0, 1) := by decide +kernel
theorem dX8_readOrder_90 : decode cX8_readOrder 90 = .ok (.invokevirtual 112, 3) := by decide +kernel
theorem dX8_readOrder_93 : decode cX8_readOrder 93 = .ok (.bipush 45, 2) := by decide +kernel
theorem dX8_readOrder_95 : decode cX8_readOrder 95 = .ok (.if_icmp .ne 7, 3) := by decide +kernel
theorem dX8_readOrder_98 : decode cX8_readOrder 98 = .ok (.iconst 1, 1) := by decide +kernel
theorem dX8_readOrder_99 : decode cX8_readOrder 99 = .ok (.goto 4, 3) := by decide +kernel
theorem dX8_readOrder_102 : decode cX8_readOrder 102 = .ok (.iconst 0, 1) := by decide +kernel
theorem dX8_readOrder_103 : decode cX8_readOrder 103 = .ok (.istore_n 2, 1) := by decide +kernel
theorem dX8_readOrder_104 : decode cX8_readOrder 104 = .ok (.aload_n 0, 1) := by decide +kernel
theorem dX8_readOrder_105 : decode cX8_readOrder 105 = .ok (.dup, 1) := by decide +kernel
theorem dX8_readOrder_106 : decode cX8_readOrder 106 = .ok (.getfield 106, 3) := by decide +kernel
theorem dX8_readOrder_109 : decode cX8_readOrder 109 = .ok (.iload_n 2, 1) := by decide +kernel
theorem dX8_readOrder_110 : decode cX8_readOrder 110 = .ok (.ifCond .eq 7, 3) := by decide +kernel
theorem dX8_readOrder_113 : decode cX8_readOrder 113 = .ok (.iconst 1, 1) := by decide +kernel
theorem dX8_readOrder_114 : decode cX8_readOrder 114 = .ok (.goto 4, 3) := by decide +kernel
theorem dX8_readOrder_117 : decode cX8_readOrder 117 = .ok (.iconst 0, 1) := by decide +kernel
theorem dX8_readOrder_118 : decode cX8_readOrder 118 = .ok (.iadd, 1) := by decide +kernel
theorem dX8_readOrder_119 : decode cX8_readOrder 119 = .ok (.putfield 106, 3) := by decide +kernel
theorem dX8_readOrder_122 : decode cX8_readOrder 122 = .ok (.aload_n 0, 1) := by decide +kernel
theorem dX8_readOrder_123 : decode cX8_readOrder 123 = .ok (.invokevirtual 125, 3) := by decide +kernel
theorem dX8_readOrder_126 : decode cX8_readOrder 126 = .ok (.istore_n 3, 1) := by decide +kernel
theorem dX8_readOrder_127 : decode cX8_readOrder 127 = .ok (.aload_n 0, 1) := by decide +kernel
theorem dX8_readOrder_128 : decode cX8_readOrder 128 = .ok (.getfield 22, 3) := by decide +kernel
theorem dX8_readOrder_131 : decode cX8_readOrder 131 = .ok (.iload_n 1, 1) := by decide +kernel
theorem dX8_readOrder_132 : decode cX8_readOrder 132 = .ok (.iconst 4, 1) := by decide +kernel
theorem dX8_readOrder_133 : decode cX8_readOrder 133 = .ok (.iadd, 1) := by decide +kernel
theorem dX8_readOrder_134 : decode cX8_readOrder 134 = .ok (.iload_n 2, 1) := by decide +kernel
theorem dX8_readOrder_135 : decode cX8_readOrder 135 = .ok (.ifCond .eq 8, 3) := by decide +kernel
theorem dX8_readOrder_138 : decode cX8_readOrder 138 = .ok (.iload_n 3, 1) := by decide +kernel
theorem dX8_readOrder_139 : decode cX8_readOrder 139 = .ok (.ineg, 1) := by decide +kernel
theorem dX8_readOrder_140 : decode cX8_readOrder 140 = .ok (.goto 4, 3) := by decide +kernel
theorem dX8_readOrder_143 : decode cX8_readOrder 143 = .ok (.iload_n 3, 1) := by decide +kernel
theorem dX8_readOrder_144 : decode cX8_readOrder 144 = .ok (.iastore, 1) := by decide +kernel
theorem dX8_readOrder_145 : decode cX8_readOrder 145 = .ok (.aload_n 0, 1) := by decide +kernel
theorem dX8_readOrder_146 : decode cX8_readOrder 146 = .ok (.dup, 1) := by decide +kernel
theorem dX8_readOrder_147 : decode cX8_readOrder 147 = .ok (.getfield 119, 3) := by decide +kernel
theorem dX8_readOrder_150 : decode cX8_readOrder 150 = .ok (.iconst 1, 1) := by decide +kernel
theorem dX8_readOrder_151 : decode cX8_readOrder 151 = .ok (.iadd, 1) := by decide +kernel
theorem dX8_readOrder_152 : decode cX8_readOrder 152 = .ok (.putfield 119, 3) := by decide +kernel
theorem dX8_readOrder_155 : decode cX8_readOrder 155 = .ok (.return_, 1) := by decide +kernel
set_option maxRecDepth 20000 in
theorem ggX8_readBuffer_X8_readOrder : GoodIn wsX8_readBuffer wsX8_readOrder := goodIn_r _ [9, 1, 10, 3, 2, 11, 12, 13, 8, 14, 15, 16, 17, 18, 4, 19, 20, 21, 22, 23, 24, 25, 26, 27, 28, 29, 30, 31, 32, 33, 34, 35, 36, 37, 38, 39, 40, 41, 42] (by decide +kernel) (by decide +kernel)
set_option maxRecDepth 20000 in
theorem gX8_readBuffer_X8_readOrder : GoodIn wsX8_readBuffer (wsV RX8 128 RX8 yX8_readOrder wsX8_readOrder) := goodIn_app (goodIn_of _ (by decide +kernel)) ggX8_readBuffer_X8_readOrder
set_option maxRecDepth 20000 in
theorem ggX8_readBuffer_X8_letter : GoodIn wsX8_readBuffer wsX8_letter := goodIn_r _ [18, 2, 4, 19, 31, 32, 33, 34, 35, 36, 37, 38, 39, 40, 41, 42] (by decide +kernel) (by decide +kernel)
set_option maxRecDepth 20000 in
theorem gX8_readBuffer_X8_letter : GoodIn wsX8_readBuffer (wsV RX8 112 RX8 yX8_letter wsX8_letter) := goodIn_app (goodIn_of _ (by decide +kernel)) ggX8_readBuffer_X8_letter
set_option maxRecDepth 20000 in
theorem ggX8_readBuffer_X8_wants : GoodIn wsX8_readBuffer wsX8_wants := goodIn_r _ [26, 3, 2, 31, 32, 33, 34, 35, 36, 37, 38, 39, 40, 41, 42] (by decide +kernel) (by decide +kernel)
set_option maxRecDepth 20000 in
theorem gX8_readBuffer_X8_wants : GoodIn wsX8_readBuffer (wsV RX8 115 RX8 yX8_wants wsX8_wants) := goodIn_app (goodIn_of _ (by decide +kernel)) ggX8_readBuffer_X8_wants
theorem dX8_readBuffer_0 : decode cX8_readBuffer 0 = .ok (.aload_n 0, 1) := by decide +kernel
theorem dX8_readBuffer_1 : decode cX8_readBuffer 1 = .ok (.iconst 0, 1) := by decide +kernel
theorem dX8_readBuffer_2 : decode cX8_readBuffer 2 = .ok (.putfield 119, 3) := by decide +kernel
theorem dX8_readBuffer_5 : decode cX8_readBuffer 5 = .ok (.aload_n 0, 1) := by decide +kernel
theorem dX8_readBuffer_6 : decode cX8_readBuffer 6 = .ok (.iconst 0, 1) := by decide +kernel
theorem dX8_readBuffer_7 : decode cX8_readBuffer 7 = .ok (.putfield 106, 3) := by decide +kernel
theorem dX8_readBuffer_10 : decode cX8_readBuffer 10 = .ok (.aload_n 0, 1) := by decide +kernel
theorem dX8_readBuffer_11 : decode cX8_readBuffer 11 = .ok (.iconst (-1), 1) := by decide +kernel
theorem dX8_readBuffer_12 : decode cX8_readBuffer 12 = .ok (.putfield 109, 3) := by decide +kernel
theorem dX8_readBuffer_15 : decode cX8_readBuffer 15 = .ok (.iconst 1, 1) := by decide +kernel
theorem dX8_readBuffer_16 : decode cX8_readBuffer 16 = .ok (.istore_n 1, 1) := by decide +kernel
theorem dX8_readBuffer_17 : decode cX8_readBuffer 17 = .ok (.iload_n 1, 1) := by decide +kernel
theorem dX8_readBuffer_18 : decode cX8_readBuffer 18 = .ok (.ifCond .eq 71, 3) := by decide +kernel
theorem dX8_readBuffer_21 : decode cX8_readBuffer 21 = .ok (.aload_n 0, 1) := by decide +kernel
theorem dX8_readBuffer_22 : decode cX8_readBuffer 22 = .ok (.invokevirtual 128, 3) := by decide +kernel
theorem dX8_readBuffer_25 : decode cX8_readBuffer 25 = .ok (.aload_n 0, 1) := by decide +kernel
theorem dX8_readBuffer_26 : decode cX8_readBuffer 26 = .ok (.getfield 109, 3) := by decide +kernel
theorem dX8_readBuffer_29 : decode cX8_readBuffer 29 = .ok (.iconst (-1), 1) := by decide +kernel
theorem dX8_readBuffer_30 : decode cX8_readBuffer 30 = .ok (.if_icmp .ne 18, 3) := by decide +kernel
theorem dX8_readBuffer_33 : decode cX8_readBuffer 33 = .ok (.aload_n 0, 1) := by decide +kernel
theorem dX8_readBuffer_34 : decode cX8_readBuffer 34 = .ok (.getfield 106, 3) := by decide +kernel
theorem dX8_readBuffer_37 : decode cX8_readBuffer 37 = .ok (.aload_n 0, 1) := by decide +kernel
theorem dX8_readBuffer_38 : decode cX8_readBuffer 38 = .ok (.getfield 103, 3) := by decide +kernel
theorem dX8_readBuffer_41 : decode cX8_readBuffer 41 = .ok (.if_icmp .ge 7, 3) := by decide +kernel
theorem dX8_readBuffer_44 : decode cX8_readBuffer 44 = .ok (.iconst 1, 1) := by decide +kernel
theorem dX8_readBuffer_45 : decode cX8_readBuffer 45 = .ok (.goto 4, 3) := by decide +kernel
theorem dX8_readBuffer_48 : decode cX8_readBuffer 48 = .ok (.iconst 0, 1) := by decide +kernel
theorem dX8_readBuffer_49 : decode cX8_readBuffer 49 = .ok (.istore_n 1, 1) := by decide +kernel
theorem dX8_readBuffer_50 : decode cX8_readBuffer 50 = .ok (.iload_n 1, 1) := by decide +kernel
theorem dX8_readBuffer_51 : decode cX8_readBuffer 51 = .ok (.ifCond .eq (-34), 3) := by decide +kernel
theorem dX8_readBuffer_54 : decode cX8_readBuffer 54 = .ok (.aload_n 0, 1) := by decide +kernel
theorem dX8_readBuffer_55 : decode cX8_readBuffer 55 = .ok (.aload_n 0, 1) := by decide +kernel
theorem dX8_readBuffer_56 : decode cX8_readBuffer 56 = .ok (.invokevirtual 112, 3) := by decide +kernel
theorem dX8_readBuffer_59 : decode cX8_readBuffer 59 = .ok (.bipush 59, 2) := by decide +kernel
theorem dX8_readBuffer_61 : decode cX8_readBuffer 61 = .ok (.if_icmp .ne 7, 3) := by decide +kernel
theorem dX8_readBuffer_64 : decode cX8_readBuffer 64 = .ok (.iconst 1, 1) := by decide +kernel
theorem dX8_readBuffer_65 : decode cX8_readBuffer 65 = .ok (.goto 4, 3) := by decide +kernel
theorem dX8_readBuffer_68 : decode cX8_readBuffer 68 = .ok (.iconst 0, 1) := by decide +kernel
theorem dX8_readBuffer_69 : decode cX8_readBuffer 69 = .ok (.invokevirtual 115, 3) := by decide +kernel
theorem dX8_readBuffer_72 : decode cX8_readBuffer 72 = .ok (.aload_n 0, 1) := by decide +kernel
theorem dX8_readBuffer_73 : decode cX8_readBuffer 73 = .ok (.getfield 109, 3) := by decide +kernel
theorem dX8_readBuffer_76 : decode cX8_readBuffer 76 = .ok (.iconst (-1), 1) := by decide +kernel
theorem dX8_readBuffer_77 : decode cX8_readBuffer 77 = .ok (.if_icmp .ne 7, 3) := by decide +kernel
theorem dX8_readBuffer_80 : decode cX8_readBuffer 80 = .ok (.iconst 1, 1) := by decide +kernel
theorem dX8_readBuffer_81 : decode cX8_readBuffer 81 = .ok (.goto 4, 3) := by decide +kernel
theorem dX8_readBuffer_84 : decode cX8_readBuffer 84 = .ok (.iconst 0, 1) := by decide +kernel
theorem dX8_readBuffer_85 : decode cX8_readBuffer 85 = .ok (.istore_n 1, 1) := by decide +kernel
theorem dX8_readBuffer_86 : decode cX8_readBuffer 86 = .ok (.goto (-69), 3) := by decide +kernel
theorem dX8_readBuffer_89 : decode cX8_readBuffer 89 = .ok (.aload_n 0, 1) := by decide +kernel
theorem dX8_readBuffer_90 : decode cX8_readBuffer 90 = .ok (.getfield 109, 3) := by decide +kernel
theorem dX8_readBuffer_93 : decode cX8_readBuffer 93 = .ok (.ireturn, 1) := by decide +kernel
set_option maxRecDepth 20000 in
theorem ggX8_firstError_X8_readBuffer : GoodIn wsX8_firstError wsX8_readBuffer := goodIn_r _ [7, 8, 9, 10, 2, 11, 12, 13, 6, 14, 15, 16, 17, 18, 19, 20, 21, 22, 23, 24, 25, 26, 27, 28, 29, 30, 31, 32, 33, 34, 35, 36, 37, 38, 39, 40, 41, 42, 43, 44, 45, 46, 47] (by decide +kernel) (by decide +kernel)
set_option maxRecDepth 20000 in
theorem gX8_firstError_X8_readBuffer : GoodIn wsX8_firstError (wsV RX8 131 RX8 yX8_readBuffer wsX8_readBuffer) := goodIn_app (goodIn_of _ (by decide +kernel)) ggX8_firstError_X8_readBuffer
theorem dX8_firstError_0 : decode cX8_firstError 0 = .ok (.aload_n 0, 1) := by decide +kernel
theorem dX8_firstError_1 : decode cX8_firstError 1 = .ok (.iconst 0, 1) := by decide +kernel
theorem dX8_firstError_2 : decode cX8_firstError 2 = .ok (.putfield 25, 3) := by decide +kernel
theorem dX8_firstError_5 : decode cX8_firstError 5 = .ok (.aload_n 0, 1) := by decide +kernel
theorem dX8_firstError_6 : decode cX8_firstError 6 = .ok (.invokevirtual 131, 3) := by decide +kernel
theorem dX8_firstError_9 : decode cX8_firstError 9 = .ok (.istore_n 1, 1) := by decide +kernel
theorem dX8_firstError_10 : decode cX8_firstError 10 = .ok (.iload_n 1, 1) := by decide +kernel
theorem dX8_firstError_11 : decode cX8_firstError 11 = .ok (.iconst (-1), 1) := by decide +kernel
theorem dX8_firstError_12 : decode cX8_firstError 12 = .ok (.if_icmp .ne 10, 3) := by decide +kernel
theorem dX8_firstError_15 : decode cX8_firstError 15 = .ok (.aload_n 0, 1) := by decide +kernel
theorem dX8_firstError_16 : decode cX8_firstError 16 = .ok (.getfield 103, 3) := by decide +kernel
theorem dX8_firstError_19 : decode cX8_firstError 19 = .ok (.goto 4, 3) := by decide +kernel
theorem dX8_firstError_22 : decode cX8_firstError 22 = .ok (.iload_n 1, 1) := by decide +kernel
theorem dX8_firstError_23 : decode cX8_firstError 23 = .ok (.ireturn, 1) := by decide +kernel
set_option maxRecDepth 20000 in
theorem ggX8_does_X8_isPoint : GoodIn wsX8_does wsX8_isPoint := goodIn_r _ [7, 8, 9, 10, 6, 11, 2, 21, 22, 23, 24, 25, 26, 27, 28, 29, 30, 31, 32] (by decide +kernel) (by decide +kernel)
set_option maxRecDepth 20000 in
theorem gX8_does_X8_isPoint : GoodIn wsX8_does (wsV RX8 78 RX8 yX8_isPoint wsX8_isPoint) := goodIn_app (goodIn_of _ (by decide +kernel)) ggX8_does_X8_isPoint
set_option maxRecDepth 20000 in
theorem ggX8_does_X8_place : GoodIn wsX8_does wsX8_place := goodIn_r _ [14] (by decide +kernel) (by decide +kernel)
set_option maxRecDepth 20000 in
theorem gX8_does_X8_place : GoodIn wsX8_does (va_wsS RX8 37 yX8_place wsX8_place) := goodIn_app (goodIn_of _ (by decide +kernel)) ggX8_does_X8_place
set_option maxRecDepth 20000 in
theorem ggX8_does_X8_isNumber : GoodIn wsX8_does wsX8_isNumber := goodIn_r _ [17, 18, 19, 6, 20] (by decide +kernel) (by decide +kernel)
set_option maxRecDepth 20000 in
theorem gX8_does_X8_isNumber : GoodIn wsX8_does (va_wsS RX8 81 yX8_isNumber wsX8_isNumber) := goodIn_app (goodIn_of _ (by decide +kernel)) ggX8_does_X8_isNumber
theorem dX8_does_0 : decode cX8_does 0 = .ok (.aload_n 0, 1) := by decide +kernel
theorem dX8_does_1 : decode cX8_does 1 = .ok (.aload_n 0, 1) := by decide +kernel
theorem dX8_does_2 : decode cX8_does 2 = .ok (.getfield 22, 3) := by decide +kernel
theorem dX8_does_5 : decode cX8_does 5 = .ok (.iconst 5, 1) := by decide +kernel
theorem dX8_does_6 : decode cX8_does 6 = .ok (.iload_n 1, 1) := by decide +kernel
theorem dX8_does_7 : decode cX8_does 7 = .ok (.imul, 1) := by decide +kernel
theorem dX8_does_8 : decode cX8_does 8 = .ok (.iaload, 1) := by decide +kernel
theorem dX8_does_9 : decode cX8_does 9 = .ok (.aload_n 0, 1) := by decide +kernel
theorem dX8_does_10 : decode cX8_does 10 = .ok (.getfield 22, 3) := by decide +kernel
theorem dX8_does_13 : decode cX8_does 13 = .ok (.iconst 5, 1) := by decide +kernel
theorem dX8_does_14 : decode cX8_does 14 = .ok (.iload_n 1, 1) := by decide +kernel
theorem dX8_does_15 : decode cX8_does 15 = .ok (.imul, 1) := by decide +kernel
theorem dX8_does_16 : decode cX8_does 16 = .ok (.iconst 1, 1) := by decide +kernel
theorem dX8_does_17 : decode cX8_does 17 = .ok (.iadd, 1) := by decide +kernel
theorem dX8_does_18 : decode cX8_does 18 = .ok (.iaload, 1) := by decide +kernel
theorem dX8_does_19 : decode cX8_does 19 = .ok (.aload_n 0, 1) := by decide +kernel
theorem dX8_does_20 : decode cX8_does 20 = .ok (.getfield 22, 3) := by decide +kernel
theorem dX8_does_23 : decode cX8_does 23 = .ok (.iconst 5, 1) := by decide +kernel
theorem dX8_does_24 : decode cX8_does 24 = .ok (.iload_n 1, 1) := by decide +kernel
theorem dX8_does_25 : decode cX8_does 25 = .ok (.imul, 1) := by decide +kernel
theorem dX8_does_26 : decode cX8_does 26 = .ok (.iconst 2, 1) := by decide +kernel
theorem dX8_does_27 : decode cX8_does 27 = .ok (.iadd, 1) := by decide +kernel
theorem dX8_does_28 : decode cX8_does 28 = .ok (.iaload, 1) := by decide +kernel
theorem dX8_does_29 : decode cX8_does 29 = .ok (.invokevirtual 78, 3) := by decide +kernel
theorem dX8_does_32 : decode cX8_does 32 = .ok (.ifCond .ne 5, 3) := by decide +kernel
theorem dX8_does_35 : decode cX8_does 35 = .ok (.iconst 0, 1) := by decide +kernel
theorem dX8_does_36 : decode cX8_does 36 = .ok (.ireturn, 1) := by decide +kernel
theorem dX8_does_37 : decode cX8_does 37 = .ok (.iconst 3, 1) := by decide +kernel
theorem dX8_does_38 : decode cX8_does 38 = .ok (.aload_n 0, 1) := by decide +kernel
theorem dX8_does_39 : decode cX8_does 39 = .ok (.getfield 22, 3) := by decide +kernel
theorem dX8_does_42 : decode cX8_does 42 = .ok (.iconst 5, 1) := by decide +kernel
theorem dX8_does_43 : decode cX8_does 43 = .ok (.iload_n 1, 1) := by decide +kernel
theorem dX8_does_44 : decode cX8_does 44 = .ok (.imul, 1) := by decide +kernel
theorem dX8_does_45 : decode cX8_does 45 = .ok (.iaload, 1) := by decide +kernel
theorem dX8_does_46 : decode cX8_does 46 = .ok (.aload_n 0, 1) := by decide +kernel
theorem dX8_does_47 : decode cX8_does 47 = .ok (.getfield 22, 3) := by decide +kernel
theorem dX8_does_50 : decode cX8_does 50 = .ok (.iconst 5, 1) := by decide +kernel
theorem dX8_does_51 : decode cX8_does 51 = .ok (.iload_n 1, 1) := by decide +kernel
theorem dX8_does_52 : decode cX8_does 52 = .ok (.imul, 1) := by decide +kernel
theorem dX8_does_53 : decode cX8_does 53 = .ok (.iconst 1, 1) := by decide +kernel
theorem dX8_does_54 : decode cX8_does 54 = .ok (.iadd, 1) := by decide +kernel
theorem dX8_does_55 : decode cX8_does 55 = .ok (.iaload, 1) := by decide +kernel
theorem dX8_does_56 : decode cX8_does 56 = .ok (.aload_n 0, 1) := by decide +kernel
theorem dX8_does_57 : decode cX8_does 57 = .ok (.getfield 22, 3) := by decide +kernel
theorem dX8_does_60 : decode cX8_does 60 = .ok (.iconst 5, 1) := by decide +kernel
theorem dX8_does_61 : decode cX8_does 61 = .ok (.iload_n 1, 1) := by decide +kernel
theorem dX8_does_62 : decode cX8_does 62 = .ok (.imul, 1) := by decide +kernel
theorem dX8_does_63 : decode cX8_does 63 = .ok (.iconst 2, 1) := by decide +kernel
theorem dX8_does_64 : decode cX8_does 64 = .ok (.iadd, 1) := by decide +kernel
theorem dX8_does_65 : decode cX8_does 65 = .ok (.iaload, 1) := by decide +kernel
theorem dX8_does_66 : decode cX8_does 66 = .ok (.invokestatic 37, 3) := by decide +kernel
theorem dX8_does_69 : decode cX8_does 69 = .ok (.iadd, 1) := by decide +kernel
theorem dX8_does_70 : decode cX8_does 70 = .ok (.istore_n 2, 1) := by decide +kernel
theorem dX8_does_71 : decode cX8_does 71 = .ok (.aload_n 0, 1) := by decide +kernel
theorem dX8_does_72 : decode cX8_does 72 = .ok (.getfield 22, 3) := by decide +kernel
theorem dX8_does_75 : decode cX8_does 75 = .ok (.iconst 5, 1) := by decide +kernel
theorem dX8_does_76 : decode cX8_does 76 = .ok (.iload_n 1, 1) := by decide +kernel
theorem dX8_does_77 : decode cX8_does 77 = .ok (.imul, 1) := by decide +kernel
theorem dX8_does_78 : decode cX8_does 78 = .ok (.iconst 4, 1) := by decide +kernel
theorem dX8_does_79 : decode cX8_does 79 = .ok (.iadd, 1) := by decide +kernel
theorem dX8_does_80 : decode cX8_does 80 = .ok (.iaload, 1) := by decide +kernel
theorem dX8_does_81 : decode cX8_does 81 = .ok (.aload_n 0, 1) := by decide +kernel
theorem dX8_does_82 : decode cX8_does 82 = .ok (.getfield 22, 3) := by decide +kernel
theorem dX8_does_85 : decode cX8_does 85 = .ok (.iconst 5, 1) := by decide +kernel
theorem dX8_does_86 : decode cX8_does 86 = .ok (.iload_n 1, 1) := by decide +kernel
theorem dX8_does_87 : decode cX8_does 87 = .ok (.imul, 1) := by decide +kernel
theorem dX8_does_88 : decode cX8_does 88 = .ok (.iconst 3, 1) := by decide +kernel
theorem dX8_does_89 : decode cX8_does 89 = .ok (.iadd, 1) := by decide +kernel
theorem dX8_does_90 : decode cX8_does 90 = .ok (.iaload, 1) := by decide +kernel
theorem dX8_does_91 : decode cX8_does 91 = .ok (.iconst 1, 1) := by decide +kernel
theorem dX8_does_92 : decode cX8_does 92 = .ok (.if_icmp .ne 12, 3) := by decide +kernel
theorem dX8_does_95 : decode cX8_does 95 = .ok (.aload_n 0, 1) := by decide +kernel
theorem dX8_does_96 : decode cX8_does 96 = .ok (.getfield 7, 3) := by decide +kernel
theorem dX8_does_99 : decode cX8_does 99 = .ok (.iload_n 2, 1) := by decide +kernel
theorem dX8_does_100 : decode cX8_does 100 = .ok (.iaload, 1) := by decide +kernel
theorem dX8_does_101 : decode cX8_does 101 = .ok (.goto 4, 3) := by decide +kernel
theorem dX8_does_104 : decode cX8_does 104 = .ok (.iconst 0, 1) := by decide +kernel
theorem dX8_does_105 : decode cX8_does 105 = .ok (.iadd, 1) := by decide +kernel
theorem dX8_does_106 : decode cX8_does 106 = .ok (.istore_n 3, 1) := by decide +kernel
theorem dX8_does_107 : decode cX8_does 107 = .ok (.aload_n 0, 1) := by decide +kernel
theorem dX8_does_108 : decode cX8_does 108 = .ok (.getfield 7, 3) := by decide +kernel
theorem dX8_does_111 : decode cX8_does 111 = .ok (.iload_n 2, 1) := by decide +kernel
theorem dX8_does_112 : decode cX8_does 112 = .ok (.iload_n 3, 1) := by decide +kernel
theorem dX8_does_113 : decode cX8_does 113 = .ok (.invokestatic 81, 3) := by decide +kernel
theorem dX8_does_116 : decode cX8_does 116 = .ok (.ifCond .eq 7, 3) := by decide +kernel
theorem dX8_does_119 : decode cX8_does 119 = .ok (.iload_n 3, 1) := by decide +kernel
theorem dX8_does_120 : decode cX8_does 120 = .ok (.goto 9, 3) := by decide +kernel
theorem dX8_does_123 : decode cX8_does 123 = .ok (.aload_n 0, 1) := by decide +kernel
theorem dX8_does_124 : decode cX8_does 124 = .ok (.getfield 7, 3) := by decide +kernel
theorem dX8_does_127 : decode cX8_does 127 = .ok (.iload_n 2, 1) := by decide +kernel
theorem dX8_does_128 : decode cX8_does 128 = .ok (.iaload, 1) := by decide +kernel
theorem dX8_does_129 : decode cX8_does 129 = .ok (.iastore, 1) := by decide +kernel
theorem dX8_does_130 : decode cX8_does 130 = .ok (.iload_n 3, 1) := by decide +kernel
theorem dX8_does_131 : decode cX8_does 131 = .ok (.invokestatic 81, 3) := by decide +kernel
theorem dX8_does_134 : decode cX8_does 134 = .ok (.ireturn, 1) := by decide +kernel
set_option maxRecDepth 20000 in
theorem ggX8_read_X8_readBuffer : GoodIn wsX8_read wsX8_readBuffer := goodIn_r _ [8, 2, 9, 10, 3, 11, 12, 13, 7, 14, 15, 16, 17, 18, 19, 20, 21, 22, 23, 24, 25, 26, 27, 28, 29, 30, 31, 32, 33, 34, 35, 61, 62, 63, 64, 65, 66, 67, 68, 69, 70, 71, 72] (by decide +kernel) (by decide +kernel)
set_option maxRecDepth 20000 in
theorem gX8_read_X8_readBuffer : GoodIn wsX8_read (wsV RX8 131 RX8 yX8_readBuffer wsX8_readBuffer) := goodIn_app (goodIn_of _ (by decide +kernel)) ggX8_read_X8_readBuffer
set_option maxRecDepth 20000 in
theorem ggX8_read_X8_save : GoodIn wsX8_read wsX8_save := goodIn_r _ [39, 40, 41, 42, 61, 62, 63, 64, 65, 66, 67, 68, 69, 70, 71, 72] (by decide +kernel) (by decide +kernel)
set_option maxRecDepth 20000 in
theorem gX8_read_X8_save : GoodIn wsX8_read (wsV RX8 75 RX8 yX8_save wsX8_save) := goodIn_app (goodIn_of _ (by decide +kernel)) ggX8_read_X8_save
set_option maxRecDepth 20000 in
theorem ggX8_read_X8_does : GoodIn wsX8_read wsX8_does := goodIn_r _ [46, 15, 42, 47, 48, 49, 7, 50, 51, 52, 53, 54, 55, 56, 57, 58, 59, 60, 25, 26, 27, 61, 62, 63, 64, 65, 66, 67, 68, 69, 70, 71, 72] (by decide +kernel) (by decide +kernel)
set_option maxRecDepth 20000 in
theorem gX8_read_X8_does : GoodIn wsX8_read (wsV RX8 134 RX8 yX8_does wsX8_does) := goodIn_app (goodIn_of _ (by decide +kernel)) ggX8_read_X8_does
theorem dX8_read_0 : decode cX8_read 0 = .ok (.aload_n 0, 1) := by decide +kernel
theorem dX8_read_1 : decode cX8_read 1 = .ok (.aload_n 0, 1) := by decide +kernel
theorem dX8_read_2 : decode cX8_read 2 = .ok (.invokevirtual 131, 3) := by decide +kernel
theorem dX8_read_5 : decode cX8_read 5 = .ok (.iconst (-1), 1) := by decide +kernel
theorem dX8_read_6 : decode cX8_read 6 = .ok (.if_icmp .ne 7, 3) := by decide +kernel
theorem dX8_read_9 : decode cX8_read 9 = .ok (.iconst 0, 1) := by decide +kernel
theorem dX8_read_10 : decode cX8_read 10 = .ok (.goto 4, 3) := by decide +kernel
theorem dX8_read_13 : decode cX8_read 13 = .ok (.iconst 1, 1) := by decide +kernel
theorem dX8_read_14 : decode cX8_read 14 = .ok (.putfield 25, 3) := by decide +kernel
theorem dX8_read_17 : decode cX8_read 17 = .ok (.aload_n 0, 1) := by decide +kernel
theorem dX8_read_18 : decode cX8_read 18 = .ok (.getfield 25, 3) := by decide +kernel
theorem dX8_read_21 : decode cX8_read 21 = .ok (.ifCond .le 5, 3) := by decide +kernel
theorem dX8_read_24 : decode cX8_read 24 = .ok (.iconst 0, 1) := by decide +kernel
theorem dX8_read_25 : decode cX8_read 25 = .ok (.ireturn, 1) := by decide +kernel
theorem dX8_read_26 : decode cX8_read 26 = .ok (.aload_n 0, 1) := by decide +kernel
theorem dX8_read_27 : decode cX8_read 27 = .ok (.invokevirtual 75, 3) := by decide +kernel
theorem dX8_read_30 : decode cX8_read 30 = .ok (.iconst 0, 1) := by decide +kernel
theorem dX8_read_31 : decode cX8_read 31 = .ok (.istore_n 1, 1) := by decide +kernel
theorem dX8_read_32 : decode cX8_read 32 = .ok (.iload_n 1, 1) := by decide +kernel
theorem dX8_read_33 : decode cX8_read 33 = .ok (.aload_n 0, 1) := by decide +kernel
theorem dX8_read_34 : decode cX8_read 34 = .ok (.getfield 119, 3) := by decide +kernel
theorem dX8_read_37 : decode cX8_read 37 = .ok (.if_icmp .ge 17, 3) := by decide +kernel
theorem dX8_read_40 : decode cX8_read 40 = .ok (.aload_n 0, 1) := by decide +kernel
theorem dX8_read_41 : decode cX8_read 41 = .ok (.iload_n 1, 1) := by decide +kernel
theorem dX8_read_42 : decode cX8_read 42 = .ok (.invokevirtual 134, 3) := by decide +kernel
theorem dX8_read_45 : decode cX8_read 45 = .ok (.ifCond .eq 9, 3) := by decide +kernel
theorem dX8_read_48 : decode cX8_read 48 = .ok (.iinc 1 1, 3) := by decide +kernel
theorem dX8_read_51 : decode cX8_read 51 = .ok (.goto (-19), 3) := by decide +kernel
theorem dX8_read_54 : decode cX8_read 54 = .ok (.aload_n 0, 1) := by decide +kernel
theorem dX8_read_55 : decode cX8_read 55 = .ok (.iconst 0, 1) := by decide +kernel
theorem dX8_read_56 : decode cX8_read 56 = .ok (.putfield 103, 3) := by decide +kernel
theorem dX8_read_59 : decode cX8_read 59 = .ok (.iload_n 1, 1) := by decide +kernel
theorem dX8_read_60 : decode cX8_read 60 = .ok (.ireturn, 1) := by decide +kernel
set_option maxRecDepth 20000 in
theorem ggX8_at_X8_isPoint : GoodIn wsX8_at wsX8_isPoint := goodIn_r _ [7, 8, 9, 10, 6, 11, 2, 15, 16, 17, 18, 19, 20, 21, 22, 23, 24, 25, 26] (by decide +kernel) (by decide +kernel)
set_option maxRecDepth 20000 in
theorem gX8_at_X8_isPoint : GoodIn wsX8_at (wsV RX8 78 RX8 yX8_isPoint wsX8_isPoint) := goodIn_app (goodIn_of _ (by decide +kernel)) ggX8_at_X8_isPoint
set_option maxRecDepth 20000 in
theorem ggX8_at_X8_place : GoodIn wsX8_at wsX8_place := goodIn_r _ [14] (by decide +kernel) (by decide +kernel)
set_option maxRecDepth 20000 in
theorem gX8_at_X8_place : GoodIn wsX8_at (va_wsS RX8 37 yX8_place wsX8_place) := goodIn_app (goodIn_of _ (by decide +kernel)) ggX8_at_X8_place
theorem dX8_at_0 : decode cX8_at 0 = .ok (.aload_n 0, 1) := by decide +kernel
theorem dX8_at_1 : decode cX8_at 1 = .ok (.aload_n 0, 1) := by decide +kernel
theorem dX8_at_2 : decode cX8_at 2 = .ok (.iload_n 1, 1) := by decide +kernel
theorem dX8_at_3 : decode cX8_at 3 = .ok (.iload_n 2, 1) := by decide +kernel
theorem dX8_at_4 : decode cX8_at 4 = .ok (.iload_n 3, 1) := by decide +kernel
theorem dX8_at_5 : decode cX8_at 5 = .ok (.invokevirtual 78, 3) := by decide +kernel
theorem dX8_at_8 : decode cX8_at 8 = .ok (.ifCond .eq 7, 3) := by decide +kernel
theorem dX8_at_11 : decode cX8_at 11 = .ok (.iconst 0, 1) := by decide +kernel
theorem dX8_at_12 : decode cX8_at 12 = .ok (.goto 4, 3) := by decide +kernel
theorem dX8_at_15 : decode cX8_at 15 = .ok (.iconst 1, 1) := by decide +kernel
theorem dX8_at_16 : decode cX8_at 16 = .ok (.putfield 25, 3) := by decide +kernel
theorem dX8_at_19 : decode cX8_at 19 = .ok (.aload_n 0, 1) := by decide +kernel
theorem dX8_at_20 : decode cX8_at 20 = .ok (.getfield 25, 3) := by decide +kernel
theorem dX8_at_23 : decode cX8_at 23 = .ok (.ifCond .le 7, 3) := by decide +kernel
theorem dX8_at_26 : decode cX8_at 26 = .ok (.iconst 0, 1) := by decide +kernel
theorem dX8_at_27 : decode cX8_at 27 = .ok (.goto 16, 3) := by decide +kernel
theorem dX8_at_30 : decode cX8_at 30 = .ok (.aload_n 0, 1) := by decide +kernel
theorem dX8_at_31 : decode cX8_at 31 = .ok (.getfield 7, 3) := by decide +kernel
theorem dX8_at_34 : decode cX8_at 34 = .ok (.iconst 3, 1) := by decide +kernel
theorem dX8_at_35 : decode cX8_at 35 = .ok (.iload_n 1, 1) := by decide +kernel
theorem dX8_at_36 : decode cX8_at 36 = .ok (.iload_n 2, 1) := by decide +kernel
theorem dX8_at_37 : decode cX8_at 37 = .ok (.iload_n 3, 1) := by decide +kernel
theorem dX8_at_38 : decode cX8_at 38 = .ok (.invokestatic 37, 3) := by decide +kernel
theorem dX8_at_41 : decode cX8_at 41 = .ok (.iadd, 1) := by decide +kernel
theorem dX8_at_42 : decode cX8_at 42 = .ok (.iaload, 1) := by decide +kernel
theorem dX8_at_43 : decode cX8_at 43 = .ok (.ireturn, 1) := by decide +kernel
set_option maxRecDepth 20000 in
theorem ggX8_lineSum_X8_numberBy : GoodIn wsX8_lineSum wsX8_numberBy := goodIn_r _ [6, 1, 7, 8, 5, 9, 10, 11, 12, 13, 14, 15, 16, 17, 18, 19, 20, 21, 22, 23, 24] (by decide +kernel) (by decide +kernel)
set_option maxRecDepth 20000 in
theorem gX8_lineSum_X8_numberBy : GoodIn wsX8_lineSum (wsV RX8 48 RX8 yX8_numberBy wsX8_numberBy) := goodIn_app (goodIn_of _ (by decide +kernel)) ggX8_lineSum_X8_numberBy
theorem dX8_lineSum_0 : decode cX8_lineSum 0 = .ok (.iconst 0, 1) := by decide +kernel
theorem dX8_lineSum_1 : decode cX8_lineSum 1 = .ok (.istore 4, 2) := by decide +kernel
theorem dX8_lineSum_3 : decode cX8_lineSum 3 = .ok (.iconst 0, 1) := by decide +kernel
theorem dX8_lineSum_4 : decode cX8_lineSum 4 = .ok (.istore 5, 2) := by decide +kernel
theorem dX8_lineSum_6 : decode cX8_lineSum 6 = .ok (.iload 5, 2) := by decide +kernel
theorem dX8_lineSum_8 : decode cX8_lineSum 8 = .ok (.aload_n 0, 1) := by decide +kernel
theorem dX8_lineSum_9 : decode cX8_lineSum 9 = .ok (.getfield 7, 3) := by decide +kernel
theorem dX8_lineSum_12 : decode cX8_lineSum 12 = .ok (.iconst 0, 1) := by decide +kernel
theorem dX8_lineSum_13 : decode cX8_lineSum 13 = .ok (.iaload, 1) := by decide +kernel
theorem dX8_lineSum_14 : decode cX8_lineSum 14 = .ok (.if_icmp .ge 23, 3) := by decide +kernel
theorem dX8_lineSum_17 : decode cX8_lineSum 17 = .ok (.iload 4, 2) := by decide +kernel
theorem dX8_lineSum_19 : decode cX8_lineSum 19 = .ok (.aload_n 0, 1) := by decide +kernel
theorem dX8_lineSum_20 : decode cX8_lineSum 20 = .ok (.iload_n 1, 1) := by decide +kernel
theorem dX8_lineSum_21 : decode cX8_lineSum 21 = .ok (.iload 5, 2) := by decide +kernel
theorem dX8_lineSum_23 : decode cX8_lineSum 23 = .ok (.iload_n 2, 1) := by decide +kernel
theorem dX8_lineSum_24 : decode cX8_lineSum 24 = .ok (.iload_n 3, 1) := by decide +kernel
theorem dX8_lineSum_25 : decode cX8_lineSum 25 = .ok (.invokevirtual 48, 3) := by decide +kernel
theorem dX8_lineSum_28 : decode cX8_lineSum 28 = .ok (.iadd, 1) := by decide +kernel
theorem dX8_lineSum_29 : decode cX8_lineSum 29 = .ok (.istore 4, 2) := by decide +kernel
theorem dX8_lineSum_31 : decode cX8_lineSum 31 = .ok (.iinc 5 1, 3) := by decide +kernel
theorem dX8_lineSum_34 : decode cX8_lineSum 34 = .ok (.goto (-28), 3) := by decide +kernel
theorem dX8_lineSum_37 : decode cX8_lineSum 37 = .ok (.iload 4, 2) := by decide +kernel
theorem dX8_lineSum_39 : decode cX8_lineSum 39 = .ok (.ireturn, 1) := by decide +kernel
set_option maxRecDepth 20000 in
theorem ggX8_line_X8_isCoordinate : GoodIn wsX8_line wsX8_isCoordinate := goodIn_r _ [6, 7, 28, 29, 30, 31, 32, 33, 34, 35, 36, 37, 38, 39] (by decide +kernel) (by decide +kernel)
set_option maxRecDepth 20000 in
theorem gX8_line_X8_isCoordinate : GoodIn wsX8_line (wsV RX8 29 RX8 yX8_isCoordinate wsX8_isCoordinate) := goodIn_app (goodIn_of _ (by decide +kernel)) ggX8_line_X8_isCoordinate
set_option maxRecDepth 20000 in
theorem ggX8_line_X8_isAxis : GoodIn wsX8_line wsX8_isAxis := goodIn_r _ [10, 11, 12, 5, 13] (by decide +kernel) (by decide +kernel)
set_option maxRecDepth 20000 in
theorem gX8_line_X8_isAxis : GoodIn wsX8_line (va_wsS RX8 88 yX8_isAxis wsX8_isAxis) := goodIn_app (goodIn_of _ (by decide +kernel)) ggX8_line_X8_isAxis
set_option maxRecDepth 20000 in
theorem ggX8_line_X8_lineSum : GoodIn wsX8_line wsX8_lineSum := goodIn_r _ [17, 7, 18, 19, 20, 5, 21, 22, 23, 24, 25, 26, 27, 28, 29, 30, 31, 32, 33, 34, 35, 36, 37, 38, 39] (by decide +kernel) (by decide +kernel)
set_option maxRecDepth 20000 in
theorem gX8_line_X8_lineSum : GoodIn wsX8_line (wsV RX8 137 RX8 yX8_lineSum wsX8_lineSum) := goodIn_app (goodIn_of _ (by decide +kernel)) ggX8_line_X8_lineSum
theorem dX8_line_0 : decode cX8_line 0 = .ok (.aload_n 0, 1) := by decide +kernel
theorem dX8_line_1 : decode cX8_line 1 = .ok (.aload_n 0, 1) := by decide +kernel
theorem dX8_line_2 : decode cX8_line 2 = .ok (.iload_n 2, 1) := by decide +kernel
theorem dX8_line_3 : decode cX8_line 3 = .ok (.invokevirtual 29, 3) := by decide +kernel
theorem dX8_line_6 : decode cX8_line 6 = .ok (.ifCond .eq 11, 3) := by decide +kernel
theorem dX8_line_9 : decode cX8_line 9 = .ok (.aload_n 0, 1) := by decide +kernel
theorem dX8_line_10 : decode cX8_line 10 = .ok (.iload_n 3, 1) := by decide +kernel
theorem dX8_line_11 : decode cX8_line 11 = .ok (.invokevirtual 29, 3) := by decide +kernel
theorem dX8_line_14 : decode cX8_line 14 = .ok (.ifCond .ne 7, 3) := by decide +kernel
theorem dX8_line_17 : decode cX8_line 17 = .ok (.iconst 1, 1) := by decide +kernel
theorem dX8_line_18 : decode cX8_line 18 = .ok (.goto 15, 3) := by decide +kernel
theorem dX8_line_21 : decode cX8_line 21 = .ok (.iload_n 1, 1) := by decide +kernel
theorem dX8_line_22 : decode cX8_line 22 = .ok (.invokestatic 88, 3) := by decide +kernel
theorem dX8_line_25 : decode cX8_line 25 = .ok (.ifCond .eq 7, 3) := by decide +kernel
theorem dX8_line_28 : decode cX8_line 28 = .ok (.iconst 0, 1) := by decide +kernel
theorem dX8_line_29 : decode cX8_line 29 = .ok (.goto 4, 3) := by decide +kernel
theorem dX8_line_32 : decode cX8_line 32 = .ok (.iconst 2, 1) := by decide +kernel
theorem dX8_line_33 : decode cX8_line 33 = .ok (.putfield 25, 3) := by decide +kernel
theorem dX8_line_36 : decode cX8_line 36 = .ok (.aload_n 0, 1) := by decide +kernel
theorem dX8_line_37 : decode cX8_line 37 = .ok (.getfield 25, 3) := by decide +kernel
theorem dX8_line_40 : decode cX8_line 40 = .ok (.ifCond .le 7, 3) := by decide +kernel
theorem dX8_line_43 : decode cX8_line 43 = .ok (.iconst 0, 1) := by decide +kernel
theorem dX8_line_44 : decode cX8_line 44 = .ok (.goto 10, 3) := by decide +kernel
theorem dX8_line_47 : decode cX8_line 47 = .ok (.aload_n 0, 1) := by decide +kernel
theorem dX8_line_48 : decode cX8_line 48 = .ok (.iload_n 1, 1) := by decide +kernel
theorem dX8_line_49 : decode cX8_line 49 = .ok (.iload_n 2, 1) := by decide +kernel
theorem dX8_line_50 : decode cX8_line 50 = .ok (.iload_n 3, 1) := by decide +kernel
theorem dX8_line_51 : decode cX8_line 51 = .ok (.invokevirtual 137, 3) := by decide +kernel
theorem dX8_line_54 : decode cX8_line 54 = .ok (.ireturn, 1) := by decide +kernel
set_option maxRecDepth 20000 in
theorem ggX8_toldSlice_X8_sumOf : GoodIn wsX8_toldSlice wsX8_sumOf := goodIn_r _ [5, 6, 7, 8, 4, 9, 10, 11, 12, 13, 14, 15, 16, 17, 18, 19, 20, 21, 22, 23, 24, 45, 46, 47, 48, 49, 50, 51, 52, 53, 54, 55, 56] (by decide +kernel) (by decide +kernel)
set_option maxRecDepth 20000 in
theorem gX8_toldSlice_X8_sumOf : GoodIn wsX8_toldSlice (wsV RX8 140 RX8 yX8_sumOf wsX8_sumOf) := goodIn_app (goodIn_of _ (by decide +kernel)) ggX8_toldSlice_X8_sumOf
set_option maxRecDepth 20000 in
theorem ggX8_toldSlice_X8_filled : GoodIn wsX8_toldSlice wsX8_filled := goodIn_r _ [28, 6, 7, 8, 4, 9, 10, 11, 12, 13, 14, 15, 16, 17, 18, 19, 20, 21, 22, 23, 24, 45, 46, 47, 48, 49, 50, 51, 52, 53, 54, 55, 56] (by decide +kernel) (by decide +kernel)
set_option maxRecDepth 20000 in
theorem gX8_toldSlice_X8_filled : GoodIn wsX8_toldSlice (wsV RX8 58 RX8 yX8_filled wsX8_filled) := goodIn_app (goodIn_of _ (by decide +kernel)) ggX8_toldSlice_X8_filled
set_option maxRecDepth 20000 in
theorem ggX8_toldSlice_X8_greatest : GoodIn wsX8_toldSlice wsX8_greatest := goodIn_r _ [32, 6, 7, 8, 4, 9, 10, 11, 12, 13, 14, 15, 16, 17, 18, 19, 20, 21, 22, 23, 24, 45, 46, 47, 48, 49, 50, 51, 52, 53, 54, 55, 56] (by decide +kernel) (by decide +kernel)
set_option maxRecDepth 20000 in
theorem gX8_toldSlice_X8_greatest : GoodIn wsX8_toldSlice (wsV RX8 143 RX8 yX8_greatest wsX8_greatest) := goodIn_app (goodIn_of _ (by decide +kernel)) ggX8_toldSlice_X8_greatest
set_option maxRecDepth 20000 in
theorem ggX8_toldSlice_X8_form : GoodIn wsX8_toldSlice wsX8_form := goodIn_r _ [36, 10, 25, 26, 27, 4, 28, 6, 7, 8, 9, 11, 12, 13, 14, 15, 16, 17, 18, 19, 20, 21, 22, 23, 24, 45, 46, 47, 48, 49, 50, 51, 52, 53, 54, 55, 56] (by decide +kernel) (by decide +kernel)
set_option maxRecDepth 20000 in
theorem gX8_toldSlice_X8_form : GoodIn wsX8_toldSlice (wsV RX8 62 RX8 yX8_form wsX8_form) := goodIn_app (goodIn_of _ (by decide +kernel)) ggX8_toldSlice_X8_form
set_option maxRecDepth 20000 in
theorem ggX8_toldSlice_X8_roomOf : GoodIn wsX8_toldSlice wsX8_roomOf := goodIn_r _ [40, 33, 34, 35, 4, 36, 10, 25, 26, 27, 28, 6, 7, 8, 9, 11, 12, 13, 14, 15, 16, 17, 18, 19, 20, 21, 22, 23, 24, 41, 42, 43, 44, 45, 46, 47, 48, 49, 50, 51, 52, 53, 54, 55, 56] (by decide +kernel) (by decide +kernel)
set_option maxRecDepth 20000 in
theorem gX8_toldSlice_X8_roomOf : GoodIn wsX8_toldSlice (wsV RX8 68 RX8 yX8_roomOf wsX8_roomOf) := goodIn_app (goodIn_of _ (by decide +kernel)) ggX8_toldSlice_X8_roomOf
theorem dX8_toldSlice_0 : decode cX8_toldSlice 0 = .ok (.iload_n 3, 1) := by decide +kernel
theorem dX8_toldSlice_1 : decode cX8_toldSlice 1 = .ok (.tableswitch 59 0 3 #[31, 38, 45, 52], 31) := by decide +kernel
theorem dX8_toldSlice_32 : decode cX8_toldSlice 32 = .ok (.aload_n 0, 1) := by decide +kernel
theorem dX8_toldSlice_33 : decode cX8_toldSlice 33 = .ok (.iload_n 1, 1) := by decide +kernel
theorem dX8_toldSlice_34 : decode cX8_toldSlice 34 = .ok (.iload_n 2, 1) := by decide +kernel
theorem dX8_toldSlice_35 : decode cX8_toldSlice 35 = .ok (.invokevirtual 140, 3) := by decide +kernel
theorem dX8_toldSlice_38 : decode cX8_toldSlice 38 = .ok (.ireturn, 1) := by decide +kernel
theorem dX8_toldSlice_39 : decode cX8_toldSlice 39 = .ok (.aload_n 0, 1) := by decide +kernel
theorem dX8_toldSlice_40 : decode cX8_toldSlice 40 = .ok (.iload_n 1, 1) := by decide +kernel
theorem dX8_toldSlice_41 : decode cX8_toldSlice 41 = .ok (.iload_n 2, 1) := by decide +kernel
theorem dX8_toldSlice_42 : decode cX8_toldSlice 42 = .ok (.invokevirtual 58, 3) := by decide +kernel
theorem dX8_toldSlice_45 : decode cX8_toldSlice 45 = .ok (.ireturn, 1) := by decide +kernel
theorem dX8_toldSlice_46 : decode cX8_toldSlice 46 = .ok (.aload_n 0, 1) := by decide +kernel
theorem dX8_toldSlice_47 : decode cX8_toldSlice 47 = .ok (.iload_n 1, 1) := by decide +kernel
theorem dX8_toldSlice_48 : decode cX8_toldSlice 48 = .ok (.iload_n 2, 1) := by decide +kernel
theorem dX8_toldSlice_49 : decode cX8_toldSlice 49 = .ok (.invokevirtual 143, 3) := by decide +kernel
theorem dX8_toldSlice_52 : decode cX8_toldSlice 52 = .ok (.ireturn, 1) := by decide +kernel
theorem dX8_toldSlice_53 : decode cX8_toldSlice 53 = .ok (.aload_n 0, 1) := by decide +kernel
theorem dX8_toldSlice_54 : decode cX8_toldSlice 54 = .ok (.iload_n 1, 1) := by decide +kernel
theorem dX8_toldSlice_55 : decode cX8_toldSlice 55 = .ok (.iload_n 2, 1) := by decide +kernel
theorem dX8_toldSlice_56 : decode cX8_toldSlice 56 = .ok (.invokevirtual 62, 3) := by decide +kernel
theorem dX8_toldSlice_59 : decode cX8_toldSlice 59 = .ok (.ireturn, 1) := by decide +kernel
theorem dX8_toldSlice_60 : decode cX8_toldSlice 60 = .ok (.aload_n 0, 1) := by decide +kernel
theorem dX8_toldSlice_61 : decode cX8_toldSlice 61 = .ok (.iload_n 1, 1) := by decide +kernel
theorem dX8_toldSlice_62 : decode cX8_toldSlice 62 = .ok (.iload_n 2, 1) := by decide +kernel
theorem dX8_toldSlice_63 : decode cX8_toldSlice 63 = .ok (.invokevirtual 68, 3) := by decide +kernel
theorem dX8_toldSlice_66 : decode cX8_toldSlice 66 = .ok (.ireturn, 1) := by decide +kernel
set_option maxRecDepth 20000 in
theorem ggX8_slice_X8_isCoordinate : GoodIn wsX8_slice wsX8_isCoordinate := goodIn_r _ [6, 7, 60, 61, 62, 63, 64, 65, 66, 67, 68, 69, 70, 71] (by decide +kernel) (by decide +kernel)
set_option maxRecDepth 20000 in
theorem gX8_slice_X8_isCoordinate : GoodIn wsX8_slice (wsV RX8 29 RX8 yX8_isCoordinate wsX8_isCoordinate) := goodIn_app (goodIn_of _ (by decide +kernel)) ggX8_slice_X8_isCoordinate
set_option maxRecDepth 20000 in
theorem ggX8_slice_X8_isAxis : GoodIn wsX8_slice wsX8_isAxis := goodIn_r _ [10, 11, 12, 5, 13] (by decide +kernel) (by decide +kernel)
set_option maxRecDepth 20000 in
theorem gX8_slice_X8_isAxis : GoodIn wsX8_slice (va_wsS RX8 88 yX8_isAxis wsX8_isAxis) := goodIn_app (goodIn_of _ (by decide +kernel)) ggX8_slice_X8_isAxis
set_option maxRecDepth 20000 in
theorem ggX8_slice_X8_in : GoodIn wsX8_slice wsX8_in := goodIn_r _ [13] (by decide +kernel) (by decide +kernel)
set_option maxRecDepth 20000 in
theorem gX8_slice_X8_in : GoodIn wsX8_slice (va_wsS RX8 33 yX8_in wsX8_in) := goodIn_app (goodIn_of _ (by decide +kernel)) ggX8_slice_X8_in
set_option maxRecDepth 20000 in
theorem ggX8_slice_X8_toldSlice : GoodIn wsX8_slice wsX8_toldSlice := goodIn_r _ [17, 18, 19, 20, 5, 21, 22, 23, 24, 25, 7, 26, 27, 28, 29, 30, 31, 32, 33, 34, 35, 36, 37, 38, 39, 40, 41, 42, 43, 44, 45, 46, 47, 48, 49, 50, 51, 52, 53, 54, 55, 56, 57, 58, 59, 60, 61, 62, 63, 64, 65, 66, 67, 68, 69, 70, 71] (by decide +kernel) (by decide +kernel)
set_option maxRecDepth 20000 in
theorem gX8_slice_X8_toldSlice : GoodIn wsX8_slice (wsV RX8 146 RX8 yX8_toldSlice wsX8_toldSlice) := goodIn_app (goodIn_of _ (by decide +kernel)) ggX8_slice_X8_toldSlice
theorem dX8_slice_0 : decode cX8_slice 0 = .ok (.aload_n 0, 1) := by decide +kernel
theorem dX8_slice_1 : decode cX8_slice 1 = .ok (.aload_n 0, 1) := by decide +kernel
theorem dX8_slice_2 : decode cX8_slice 2 = .ok (.iload_n 2, 1) := by decide +kernel
theorem dX8_slice_3 : decode cX8_slice 3 = .ok (.invokevirtual 29, 3) := by decide +kernel
theorem dX8_slice_6 : decode cX8_slice 6 = .ok (.ifCond .ne 7, 3) := by decide +kernel
theorem dX8_slice_9 : decode cX8_slice 9 = .ok (.iconst 1, 1) := by decide +kernel
theorem dX8_slice_10 : decode cX8_slice 10 = .ok (.goto 24, 3) := by decide +kernel
theorem dX8_slice_13 : decode cX8_slice 13 = .ok (.iload_n 1, 1) := by decide +kernel
theorem dX8_slice_14 : decode cX8_slice 14 = .ok (.invokestatic 88, 3) := by decide +kernel
theorem dX8_slice_17 : decode cX8_slice 17 = .ok (.ifCond .eq 16, 3) := by decide +kernel
theorem dX8_slice_20 : decode cX8_slice 20 = .ok (.iload_n 3, 1) := by decide +kernel
theorem dX8_slice_21 : decode cX8_slice 21 = .ok (.iconst 0, 1) := by decide +kernel
theorem dX8_slice_22 : decode cX8_slice 22 = .ok (.iconst 4, 1) := by decide +kernel
theorem dX8_slice_23 : decode cX8_slice 23 = .ok (.invokestatic 33, 3) := by decide +kernel
theorem dX8_slice_26 : decode cX8_slice 26 = .ok (.ifCond .eq 7, 3) := by decide +kernel
theorem dX8_slice_29 : decode cX8_slice 29 = .ok (.iconst 0, 1) := by decide +kernel
theorem dX8_slice_30 : decode cX8_slice 30 = .ok (.goto 4, 3) := by decide +kernel
theorem dX8_slice_33 : decode cX8_slice 33 = .ok (.iconst 2, 1) := by decide +kernel
theorem dX8_slice_34 : decode cX8_slice 34 = .ok (.putfield 25, 3) := by decide +kernel
theorem dX8_slice_37 : decode cX8_slice 37 = .ok (.aload_n 0, 1) := by decide +kernel
theorem dX8_slice_38 : decode cX8_slice 38 = .ok (.getfield 25, 3) := by decide +kernel
theorem dX8_slice_41 : decode cX8_slice 41 = .ok (.ifCond .le 7, 3) := by decide +kernel
theorem dX8_slice_44 : decode cX8_slice 44 = .ok (.iconst 0, 1) := by decide +kernel
theorem dX8_slice_45 : decode cX8_slice 45 = .ok (.goto 10, 3) := by decide +kernel
theorem dX8_slice_48 : decode cX8_slice 48 = .ok (.aload_n 0, 1) := by decide +kernel
theorem dX8_slice_49 : decode cX8_slice 49 = .ok (.iload_n 1, 1) := by decide +kernel
theorem dX8_slice_50 : decode cX8_slice 50 = .ok (.iload_n 2, 1) := by decide +kernel
theorem dX8_slice_51 : decode cX8_slice 51 = .ok (.iload_n 3, 1) := by decide +kernel
theorem dX8_slice_52 : decode cX8_slice 52 = .ok (.invokevirtual 146, 3) := by decide +kernel
theorem dX8_slice_55 : decode cX8_slice 55 = .ok (.ireturn, 1) := by decide +kernel
set_option maxRecDepth 20000 in
theorem ggX8_placeOf_X8_offsets : GoodIn wsX8_placeOf wsX8_offsets := goodIn_r _ [6, 1, 21, 22, 23, 24, 25, 26, 27, 28, 29, 30, 31, 32] (by decide +kernel) (by decide +kernel)
set_option maxRecDepth 20000 in
theorem gX8_placeOf_X8_offsets : GoodIn wsX8_placeOf (wsV RX8 51 RX8 yX8_offsets wsX8_offsets) := goodIn_app (goodIn_of _ (by decide +kernel)) ggX8_placeOf_X8_offsets
set_option maxRecDepth 20000 in
theorem ggX8_placeOf_X8_numberAt : GoodIn wsX8_placeOf wsX8_numberAt := goodIn_r _ [10, 1, 11, 12, 13, 5, 14, 15, 16, 17, 18, 19, 20, 21, 22, 23, 24, 25, 26, 27, 28, 29, 30, 31, 32] (by decide +kernel) (by decide +kernel)
set_option maxRecDepth 20000 in
theorem gX8_placeOf_X8_numberAt : GoodIn wsX8_placeOf (wsV RX8 55 RX8 yX8_numberAt wsX8_numberAt) := goodIn_app (goodIn_of _ (by decide +kernel)) ggX8_placeOf_X8_numberAt
set_option maxRecDepth 20000 in
theorem ggX8_placeOf_X8_placeBy : GoodIn wsX8_placeOf wsX8_placeBy := goodIn_r _ [17, 18, 19, 5, 20] (by decide +kernel) (by decide +kernel)
set_option maxRecDepth 20000 in
theorem gX8_placeOf_X8_placeBy : GoodIn wsX8_placeOf (va_wsS RX8 41 yX8_placeBy wsX8_placeBy) := goodIn_app (goodIn_of _ (by decide +kernel)) ggX8_placeOf_X8_placeBy
theorem dX8_placeOf_0 : decode cX8_placeOf 0 = .ok (.iload_n 1, 1) := by decide +kernel
theorem dX8_placeOf_1 : decode cX8_placeOf 1 = .ok (.istore_n 2, 1) := by decide +kernel
theorem dX8_placeOf_2 : decode cX8_placeOf 2 = .ok (.iconst 0, 1) := by decide +kernel
theorem dX8_placeOf_3 : decode cX8_placeOf 3 = .ok (.istore_n 3, 1) := by decide +kernel
theorem dX8_placeOf_4 : decode cX8_placeOf 4 = .ok (.iload_n 3, 1) := by decide +kernel
theorem dX8_placeOf_5 : decode cX8_placeOf 5 = .ok (.aload_n 0, 1) := by decide +kernel
theorem dX8_placeOf_6 : decode cX8_placeOf 6 = .ok (.getfield 7, 3) := by decide +kernel
theorem dX8_placeOf_9 : decode cX8_placeOf 9 = .ok (.iconst 0, 1) := by decide +kernel
theorem dX8_placeOf_10 : decode cX8_placeOf 10 = .ok (.iaload, 1) := by decide +kernel
theorem dX8_placeOf_11 : decode cX8_placeOf 11 = .ok (.if_icmp .ge 101, 3) := by decide +kernel
theorem dX8_placeOf_14 : decode cX8_placeOf 14 = .ok (.iconst 0, 1) := by decide +kernel
theorem dX8_placeOf_15 : decode cX8_placeOf 15 = .ok (.istore 4, 2) := by decide +kernel
theorem dX8_placeOf_17 : decode cX8_placeOf 17 = .ok (.iload 4, 2) := by decide +kernel
theorem dX8_placeOf_19 : decode cX8_placeOf 19 = .ok (.aload_n 0, 1) := by decide +kernel
theorem dX8_placeOf_20 : decode cX8_placeOf 20 = .ok (.invokevirtual 51, 3) := by decide +kernel
theorem dX8_placeOf_23 : decode cX8_placeOf 23 = .ok (.if_icmp .ge 83, 3) := by decide +kernel
theorem dX8_placeOf_26 : decode cX8_placeOf 26 = .ok (.aload_n 0, 1) := by decide +kernel
theorem dX8_placeOf_27 : decode cX8_placeOf 27 = .ok (.aload_n 0, 1) := by decide +kernel
theorem dX8_placeOf_28 : decode cX8_placeOf 28 = .ok (.getfield 7, 3) := by decide +kernel
theorem dX8_placeOf_31 : decode cX8_placeOf 31 = .ok (.iconst 1, 1) := by decide +kernel
theorem dX8_placeOf_32 : decode cX8_placeOf 32 = .ok (.iaload, 1) := by decide +kernel
theorem dX8_placeOf_33 : decode cX8_placeOf 33 = .ok (.iload_n 3, 1) := by decide +kernel
theorem dX8_placeOf_34 : decode cX8_placeOf 34 = .ok (.iload 4, 2) := by decide +kernel
theorem dX8_placeOf_36 : decode cX8_placeOf 36 = .ok (.invokevirtual 55, 3) := by decide +kernel
theorem dX8_placeOf_39 : decode cX8_placeOf 39 = .ok (.ifCond .eq 7, 3) := by decide +kernel
theorem dX8_placeOf_42 : decode cX8_placeOf 42 = .ok (.iconst 1, 1) := by decide +kernel
theorem dX8_placeOf_43 : decode cX8_placeOf 43 = .ok (.goto 4, 3) := by decide +kernel
theorem dX8_placeOf_46 : decode cX8_placeOf 46 = .ok (.iconst 0, 1) := by decide +kernel
theorem dX8_placeOf_47 : decode cX8_placeOf 47 = .ok (.istore 5, 2) := by decide +kernel
theorem dX8_placeOf_49 : decode cX8_placeOf 49 = .ok (.iload 5, 2) := by decide +kernel
theorem dX8_placeOf_51 : decode cX8_placeOf 51 = .ok (.ifCond .eq 36, 3) := by decide +kernel
theorem dX8_placeOf_54 : decode cX8_placeOf 54 = .ok (.iload_n 2, 1) := by decide +kernel
theorem dX8_placeOf_55 : decode cX8_placeOf 55 = .ok (.ifCond .ne 32, 3) := by decide +kernel
theorem dX8_placeOf_58 : decode cX8_placeOf 58 = .ok (.aload_n 0, 1) := by decide +kernel
theorem dX8_placeOf_59 : decode cX8_placeOf 59 = .ok (.getfield 7, 3) := by decide +kernel
theorem dX8_placeOf_62 : decode cX8_placeOf 62 = .ok (.iconst 1, 1) := by decide +kernel
theorem dX8_placeOf_63 : decode cX8_placeOf 63 = .ok (.iaload, 1) := by decide +kernel
theorem dX8_placeOf_64 : decode cX8_placeOf 64 = .ok (.iload_n 3, 1) := by decide +kernel
theorem dX8_placeOf_65 : decode cX8_placeOf 65 = .ok (.iload 4, 2) := by decide +kernel
theorem dX8_placeOf_67 : decode cX8_placeOf 67 = .ok (.aload_n 0, 1) := by decide +kernel
theorem dX8_placeOf_68 : decode cX8_placeOf 68 = .ok (.getfield 7, 3) := by decide +kernel
theorem dX8_placeOf_71 : decode cX8_placeOf 71 = .ok (.iconst 0, 1) := by decide +kernel
theorem dX8_placeOf_72 : decode cX8_placeOf 72 = .ok (.iaload, 1) := by decide +kernel
theorem dX8_placeOf_73 : decode cX8_placeOf 73 = .ok (.irem, 1) := by decide +kernel
theorem dX8_placeOf_74 : decode cX8_placeOf 74 = .ok (.iload 4, 2) := by decide +kernel
theorem dX8_placeOf_76 : decode cX8_placeOf 76 = .ok (.aload_n 0, 1) := by decide +kernel
theorem dX8_placeOf_77 : decode cX8_placeOf 77 = .ok (.getfield 7, 3) := by decide +kernel
theorem dX8_placeOf_80 : decode cX8_placeOf 80 = .ok (.iconst 0, 1) := by decide +kernel
theorem dX8_placeOf_81 : decode cX8_placeOf 81 = .ok (.iaload, 1) := by decide +kernel
theorem dX8_placeOf_82 : decode cX8_placeOf 82 = .ok (.idiv, 1) := by decide +kernel
theorem dX8_placeOf_83 : decode cX8_placeOf 83 = .ok (.invokestatic 41, 3) := by decide +kernel
theorem dX8_placeOf_86 : decode cX8_placeOf 86 = .ok (.ireturn, 1) := by decide +kernel
theorem dX8_placeOf_87 : decode cX8_placeOf 87 = .ok (.iload_n 2, 1) := by decide +kernel
theorem dX8_placeOf_88 : decode cX8_placeOf 88 = .ok (.iload 5, 2) := by decide +kernel
theorem dX8_placeOf_90 : decode cX8_placeOf 90 = .ok (.ifCond .eq 7, 3) := by decide +kernel
theorem dX8_placeOf_93 : decode cX8_placeOf 93 = .ok (.iconst 1, 1) := by decide +kernel
theorem dX8_placeOf_94 : decode cX8_placeOf 94 = .ok (.goto 4, 3) := by decide +kernel
theorem dX8_placeOf_97 : decode cX8_placeOf 97 = .ok (.iconst 0, 1) := by decide +kernel
theorem dX8_placeOf_98 : decode cX8_placeOf 98 = .ok (.isub, 1) := by decide +kernel
theorem dX8_placeOf_99 : decode cX8_placeOf 99 = .ok (.istore_n 2, 1) := by decide +kernel
theorem dX8_placeOf_100 : decode cX8_placeOf 100 = .ok (.iinc 4 1, 3) := by decide +kernel
theorem dX8_placeOf_103 : decode cX8_placeOf 103 = .ok (.goto (-86), 3) := by decide +kernel
theorem dX8_placeOf_106 : decode cX8_placeOf 106 = .ok (.iinc 3 1, 3) := by decide +kernel
theorem dX8_placeOf_109 : decode cX8_placeOf 109 = .ok (.goto (-105), 3) := by decide +kernel
theorem dX8_placeOf_112 : decode cX8_placeOf 112 = .ok (.iconst (-1), 1) := by decide +kernel
theorem dX8_placeOf_113 : decode cX8_placeOf 113 = .ok (.ireturn, 1) := by decide +kernel
set_option maxRecDepth 20000 in
theorem ggX8_toldRank_X8_placeOf : GoodIn wsX8_toldRank wsX8_placeOf := goodIn_r _ [6, 1, 7, 8, 9, 5, 10, 11, 12, 13, 14, 15, 16, 17, 18, 19, 20, 21, 22, 23, 24, 25, 26, 27, 28, 29, 30, 31, 32, 33, 34, 35, 36] (by decide +kernel) (by decide +kernel)
set_option maxRecDepth 20000 in
theorem gX8_toldRank_X8_placeOf : GoodIn wsX8_toldRank (wsV RX8 149 RX8 yX8_placeOf wsX8_placeOf) := goodIn_app (goodIn_of _ (by decide +kernel)) ggX8_toldRank_X8_placeOf
theorem dX8_toldRank_0 : decode cX8_toldRank 0 = .ok (.aload_n 0, 1) := by decide +kernel
theorem dX8_toldRank_1 : decode cX8_toldRank 1 = .ok (.iload_n 1, 1) := by decide +kernel
theorem dX8_toldRank_2 : decode cX8_toldRank 2 = .ok (.invokevirtual 149, 3) := by decide +kernel
theorem dX8_toldRank_5 : decode cX8_toldRank 5 = .ok (.istore_n 3, 1) := by decide +kernel
theorem dX8_toldRank_6 : decode cX8_toldRank 6 = .ok (.iload_n 3, 1) := by decide +kernel
theorem dX8_toldRank_7 : decode cX8_toldRank 7 = .ok (.iconst (-1), 1) := by decide +kernel
theorem dX8_toldRank_8 : decode cX8_toldRank 8 = .ok (.if_icmp .ne 5, 3) := by decide +kernel
theorem dX8_toldRank_11 : decode cX8_toldRank 11 = .ok (.iconst (-1), 1) := by decide +kernel
theorem dX8_toldRank_12 : decode cX8_toldRank 12 = .ok (.ireturn, 1) := by decide +kernel
theorem dX8_toldRank_13 : decode cX8_toldRank 13 = .ok (.iload_n 2, 1) := by decide +kernel
theorem dX8_toldRank_14 : decode cX8_toldRank 14 = .ok (.ifCond .ne 10, 3) := by decide +kernel
theorem dX8_toldRank_17 : decode cX8_toldRank 17 = .ok (.iload_n 3, 1) := by decide +kernel
theorem dX8_toldRank_18 : decode cX8_toldRank 18 = .ok (.bipush 8, 2) := by decide +kernel
theorem dX8_toldRank_20 : decode cX8_toldRank 20 = .ok (.irem, 1) := by decide +kernel
theorem dX8_toldRank_21 : decode cX8_toldRank 21 = .ok (.goto 42, 3) := by decide +kernel
theorem dX8_toldRank_24 : decode cX8_toldRank 24 = .ok (.iload_n 2, 1) := by decide +kernel
theorem dX8_toldRank_25 : decode cX8_toldRank 25 = .ok (.iconst 1, 1) := by decide +kernel
theorem dX8_toldRank_26 : decode cX8_toldRank 26 = .ok (.if_icmp .ne 13, 3) := by decide +kernel
theorem dX8_toldRank_29 : decode cX8_toldRank 29 = .ok (.iload_n 3, 1) := by decide +kernel
theorem dX8_toldRank_30 : decode cX8_toldRank 30 = .ok (.bipush 8, 2) := by decide +kernel
theorem dX8_toldRank_32 : decode cX8_toldRank 32 = .ok (.idiv, 1) := by decide +kernel
theorem dX8_toldRank_33 : decode cX8_toldRank 33 = .ok (.bipush 8, 2) := by decide +kernel
theorem dX8_toldRank_35 : decode cX8_toldRank 35 = .ok (.irem, 1) := by decide +kernel
theorem dX8_toldRank_36 : decode cX8_toldRank 36 = .ok (.goto 27, 3) := by decide +kernel
theorem dX8_toldRank_39 : decode cX8_toldRank 39 = .ok (.iload_n 2, 1) := by decide +kernel
theorem dX8_toldRank_40 : decode cX8_toldRank 40 = .ok (.iconst 2, 1) := by decide +kernel
theorem dX8_toldRank_41 : decode cX8_toldRank 41 = .ok (.if_icmp .ne 10, 3) := by decide +kernel
theorem dX8_toldRank_44 : decode cX8_toldRank 44 = .ok (.iload_n 3, 1) := by decide +kernel
theorem dX8_toldRank_45 : decode cX8_toldRank 45 = .ok (.bipush 64, 2) := by decide +kernel
theorem dX8_toldRank_47 : decode cX8_toldRank 47 = .ok (.idiv, 1) := by decide +kernel
theorem dX8_toldRank_48 : decode cX8_toldRank 48 = .ok (.goto 15, 3) := by decide +kernel
theorem dX8_toldRank_51 : decode cX8_toldRank 51 = .ok (.aload_n 0, 1) := by decide +kernel
theorem dX8_toldRank_52 : decode cX8_toldRank 52 = .ok (.getfield 7, 3) := by decide +kernel
theorem dX8_toldRank_55 : decode cX8_toldRank 55 = .ok (.iconst 3, 1) := by decide +kernel
theorem dX8_toldRank_56 : decode cX8_toldRank 56 = .ok (.iload_n 3, 1) := by decide +kernel
theorem dX8_toldRank_57 : decode cX8_toldRank 57 = .ok (.iadd, 1) := by decide +kernel
theorem dX8_toldRank_58 : decode cX8_toldRank 58 = .ok (.iaload, 1) := by decide +kernel
theorem dX8_toldRank_59 : decode cX8_toldRank 59 = .ok (.sipush 1000, 3) := by decide +kernel
theorem dX8_toldRank_62 : decode cX8_toldRank 62 = .ok (.iadd, 1) := by decide +kernel
theorem dX8_toldRank_63 : decode cX8_toldRank 63 = .ok (.ireturn, 1) := by decide +kernel
set_option maxRecDepth 20000 in
theorem ggX8_ordered_X8_in : GoodIn wsX8_ordered wsX8_in := goodIn_r _ [5] (by decide +kernel) (by decide +kernel)
set_option maxRecDepth 20000 in
theorem gX8_ordered_X8_in : GoodIn wsX8_ordered (va_wsS RX8 33 yX8_in wsX8_in) := goodIn_app (goodIn_of _ (by decide +kernel)) ggX8_ordered_X8_in
set_option maxRecDepth 20000 in
theorem ggX8_ordered_X8_toldRank : GoodIn wsX8_ordered wsX8_toldRank := goodIn_r _ [9, 10, 11, 12, 13, 4, 14, 15, 16, 17, 18, 19, 20, 21, 22, 23, 24, 25, 26, 27, 28, 29, 30, 31, 32, 33, 34, 35, 36, 37, 38, 39, 40, 41, 42, 43, 44] (by decide +kernel) (by decide +kernel)
set_option maxRecDepth 20000 in
theorem gX8_ordered_X8_toldRank : GoodIn wsX8_ordered (wsV RX8 152 RX8 yX8_toldRank wsX8_toldRank) := goodIn_app (goodIn_of _ (by decide +kernel)) ggX8_ordered_X8_toldRank
theorem dX8_ordered_0 : decode cX8_ordered 0 = .ok (.aload_n 0, 1) := by decide +kernel
theorem dX8_ordered_1 : decode cX8_ordered 1 = .ok (.iload_n 1, 1) := by decide +kernel
theorem dX8_ordered_2 : decode cX8_ordered 2 = .ok (.ifCond .lt 16, 3) := by decide +kernel
theorem dX8_ordered_5 : decode cX8_ordered 5 = .ok (.iload_n 2, 1) := by decide +kernel
theorem dX8_ordered_6 : decode cX8_ordered 6 = .ok (.iconst 0, 1) := by decide +kernel
theorem dX8_ordered_7 : decode cX8_ordered 7 = .ok (.iconst 3, 1) := by decide +kernel
theorem dX8_ordered_8 : decode cX8_ordered 8 = .ok (.invokestatic 33, 3) := by decide +kernel
theorem dX8_ordered_11 : decode cX8_ordered 11 = .ok (.ifCond .eq 7, 3) := by decide +kernel
theorem dX8_ordered_14 : decode cX8_ordered 14 = .ok (.iconst 0, 1) := by decide +kernel
theorem dX8_ordered_15 : decode cX8_ordered 15 = .ok (.goto 4, 3) := by decide +kernel
theorem dX8_ordered_18 : decode cX8_ordered 18 = .ok (.iconst 1, 1) := by decide +kernel
theorem dX8_ordered_19 : decode cX8_ordered 19 = .ok (.putfield 25, 3) := by decide +kernel
theorem dX8_ordered_22 : decode cX8_ordered 22 = .ok (.aload_n 0, 1) := by decide +kernel
theorem dX8_ordered_23 : decode cX8_ordered 23 = .ok (.getfield 25, 3) := by decide +kernel
theorem dX8_ordered_26 : decode cX8_ordered 26 = .ok (.ifCond .le 7, 3) := by decide +kernel
theorem dX8_ordered_29 : decode cX8_ordered 29 = .ok (.iconst 0, 1) := by decide +kernel
theorem dX8_ordered_30 : decode cX8_ordered 30 = .ok (.goto 9, 3) := by decide +kernel
theorem dX8_ordered_33 : decode cX8_ordered 33 = .ok (.aload_n 0, 1) := by decide +kernel
theorem dX8_ordered_34 : decode cX8_ordered 34 = .ok (.iload_n 1, 1) := by decide +kernel
theorem dX8_ordered_35 : decode cX8_ordered 35 = .ok (.iload_n 2, 1) := by decide +kernel
theorem dX8_ordered_36 : decode cX8_ordered 36 = .ok (.invokevirtual 152, 3) := by decide +kernel
theorem dX8_ordered_39 : decode cX8_ordered 39 = .ok (.ireturn, 1) := by decide +kernel
theorem dX8_differenceAt_0 : decode cX8_differenceAt 0 = .ok (.aload_n 0, 1) := by decide +kernel
theorem dX8_differenceAt_1 : decode cX8_differenceAt 1 = .ok (.getfield 7, 3) := by decide +kernel
theorem dX8_differenceAt_4 : decode cX8_differenceAt 4 = .ok (.iconst 3, 1) := by decide +kernel
theorem dX8_differenceAt_5 : decode cX8_differenceAt 5 = .ok (.iload_n 1, 1) := by decide +kernel
theorem dX8_differenceAt_6 : decode cX8_differenceAt 6 = .ok (.iadd, 1) := by decide +kernel
theorem dX8_differenceAt_7 : decode cX8_differenceAt 7 = .ok (.iaload, 1) := by decide +kernel
theorem dX8_differenceAt_8 : decode cX8_differenceAt 8 = .ok (.aload_n 0, 1) := by decide +kernel
theorem dX8_differenceAt_9 : decode cX8_differenceAt 9 = .ok (.getfield 7, 3) := by decide +kernel
theorem dX8_differenceAt_12 : decode cX8_differenceAt 12 = .ok (.sipush 515, 3) := by decide +kernel
theorem dX8_differenceAt_15 : decode cX8_differenceAt 15 = .ok (.iload_n 1, 1) := by decide +kernel
theorem dX8_differenceAt_16 : decode cX8_differenceAt 16 = .ok (.iadd, 1) := by decide +kernel
theorem dX8_differenceAt_17 : decode cX8_differenceAt 17 = .ok (.iaload, 1) := by decide +kernel
theorem dX8_differenceAt_18 : decode cX8_differenceAt 18 = .ok (.isub, 1) := by decide +kernel
theorem dX8_differenceAt_19 : decode cX8_differenceAt 19 = .ok (.ireturn, 1) := by decide +kernel
set_option maxRecDepth 20000 in
theorem ggX8_allDifferences_X8_differenceAt : GoodIn wsX8_allDifferences wsX8_differenceAt := goodIn_r _ [5, 6, 7, 8, 9, 10, 11, 12, 13, 14, 15, 16, 17, 18] (by decide +kernel) (by decide +kernel)
set_option maxRecDepth 20000 in
theorem gX8_allDifferences_X8_differenceAt : GoodIn wsX8_allDifferences (wsV RX8 155 RX8 yX8_differenceAt wsX8_differenceAt) := goodIn_app (goodIn_of _ (by decide +kernel)) ggX8_allDifferences_X8_differenceAt
theorem dX8_allDifferences_0 : decode cX8_allDifferences 0 = .ok (.iconst 0, 1) := by decide +kernel
theorem dX8_allDifferences_1 : decode cX8_allDifferences 1 = .ok (.istore_n 2, 1) := by decide +kernel
theorem dX8_allDifferences_2 : decode cX8_allDifferences 2 = .ok (.iconst 0, 1) := by decide +kernel
theorem dX8_allDifferences_3 : decode cX8_allDifferences 3 = .ok (.istore_n 3, 1) := by decide +kernel
theorem dX8_allDifferences_4 : decode cX8_allDifferences 4 = .ok (.iconst 0, 1) := by decide +kernel
theorem dX8_allDifferences_5 : decode cX8_allDifferences 5 = .ok (.istore 4, 2) := by decide +kernel
theorem dX8_allDifferences_7 : decode cX8_allDifferences 7 = .ok (.iload 4, 2) := by decide +kernel
theorem dX8_allDifferences_9 : decode cX8_allDifferences 9 = .ok (.sipush 512, 3) := by decide +kernel
theorem dX8_allDifferences_12 : decode cX8_allDifferences 12 = .ok (.if_icmp .ge 50, 3) := by decide +kernel
theorem dX8_allDifferences_15 : decode cX8_allDifferences 15 = .ok (.aload_n 0, 1) := by decide +kernel
theorem dX8_allDifferences_16 : decode cX8_allDifferences 16 = .ok (.iload 4, 2) := by decide +kernel
theorem dX8_allDifferences_18 : decode cX8_allDifferences 18 = .ok (.invokevirtual 155, 3) := by decide +kernel
theorem dX8_allDifferences_21 : decode cX8_allDifferences 21 = .ok (.istore 5, 2) := by decide +kernel
theorem dX8_allDifferences_23 : decode cX8_allDifferences 23 = .ok (.iload 5, 2) := by decide +kernel
theorem dX8_allDifferences_25 : decode cX8_allDifferences 25 = .ok (.ifCond .ge 9, 3) := by decide +kernel
theorem dX8_allDifferences_28 : decode cX8_allDifferences 28 = .ok (.iload 5, 2) := by decide +kernel
theorem dX8_allDifferences_30 : decode cX8_allDifferences 30 = .ok (.ineg, 1) := by decide +kernel
theorem dX8_allDifferences_31 : decode cX8_allDifferences 31 = .ok (.goto 5, 3) := by decide +kernel
theorem dX8_allDifferences_34 : decode cX8_allDifferences 34 = .ok (.iload 5, 2) := by decide +kernel
theorem dX8_allDifferences_36 : decode cX8_allDifferences 36 = .ok (.istore 6, 2) := by decide +kernel
theorem dX8_allDifferences_38 : decode cX8_allDifferences 38 = .ok (.iload_n 2, 1) := by decide +kernel
theorem dX8_allDifferences_39 : decode cX8_allDifferences 39 = .ok (.iload 5, 2) := by decide +kernel
theorem dX8_allDifferences_41 : decode cX8_allDifferences 41 = .ok (.iadd, 1) := by decide +kernel
theorem dX8_allDifferences_42 : decode cX8_allDifferences 42 = .ok (.istore_n 2, 1) := by decide +kernel
theorem dX8_allDifferences_43 : decode cX8_allDifferences 43 = .ok (.iload 6, 2) := by decide +kernel
theorem dX8_allDifferences_45 : decode cX8_allDifferences 45 = .ok (.iload_n 3, 1) := by decide +kernel
theorem dX8_allDifferences_46 : decode cX8_allDifferences 46 = .ok (.if_icmp .le 8, 3) := by decide +kernel
theorem dX8_allDifferences_49 : decode cX8_allDifferences 49 = .ok (.iload 6, 2) := by decide +kernel
theorem dX8_allDifferences_51 : decode cX8_allDifferences 51 = .ok (.goto 4, 3) := by decide +kernel
theorem dX8_allDifferences_54 : decode cX8_allDifferences 54 = .ok (.iload_n 3, 1) := by decide +kernel
theorem dX8_allDifferences_55 : decode cX8_allDifferences 55 = .ok (.istore_n 3, 1) := by decide +kernel
theorem dX8_allDifferences_56 : decode cX8_allDifferences 56 = .ok (.iinc 4 1, 3) := by decide +kernel
theorem dX8_allDifferences_59 : decode cX8_allDifferences 59 = .ok (.goto (-52), 3) := by decide +kernel
theorem dX8_allDifferences_62 : decode cX8_allDifferences 62 = .ok (.iload_n 1, 1) := by decide +kernel
theorem dX8_allDifferences_63 : decode cX8_allDifferences 63 = .ok (.ifCond .eq 7, 3) := by decide +kernel
theorem dX8_allDifferences_66 : decode cX8_allDifferences 66 = .ok (.iload_n 3, 1) := by decide +kernel
theorem dX8_allDifferences_67 : decode cX8_allDifferences 67 = .ok (.goto 4, 3) := by decide +kernel
theorem dX8_allDifferences_70 : decode cX8_allDifferences 70 = .ok (.iload_n 2, 1) := by decide +kernel
theorem dX8_allDifferences_71 : decode cX8_allDifferences 71 = .ok (.ireturn, 1) := by decide +kernel
set_option maxRecDepth 20000 in
theorem ggX8_firstDifference_X8_differenceAt : GoodIn wsX8_firstDifference wsX8_differenceAt := goodIn_r _ [6, 1, 11, 12, 13, 14, 15, 16, 17, 18, 19, 20, 21, 22] (by decide +kernel) (by decide +kernel)
set_option maxRecDepth 20000 in
theorem gX8_firstDifference_X8_differenceAt : GoodIn wsX8_firstDifference (wsV RX8 155 RX8 yX8_differenceAt wsX8_differenceAt) := goodIn_app (goodIn_of _ (by decide +kernel)) ggX8_firstDifference_X8_differenceAt
set_option maxRecDepth 20000 in
theorem ggX8_firstDifference_X8_offsets : GoodIn wsX8_firstDifference wsX8_offsets := goodIn_r _ [10, 1, 11, 12, 13, 14, 15, 16, 17, 18, 19, 20, 21, 22] (by decide +kernel) (by decide +kernel)
set_option maxRecDepth 20000 in
theorem gX8_firstDifference_X8_offsets : GoodIn wsX8_firstDifference (wsV RX8 51 RX8 yX8_offsets wsX8_offsets) := goodIn_app (goodIn_of _ (by decide +kernel)) ggX8_firstDifference_X8_offsets
theorem dX8_firstDifference_0 : decode cX8_firstDifference 0 = .ok (.iconst 0, 1) := by decide +kernel
theorem dX8_firstDifference_1 : decode cX8_firstDifference 1 = .ok (.istore_n 1, 1) := by decide +kernel
theorem dX8_firstDifference_2 : decode cX8_firstDifference 2 = .ok (.iload_n 1, 1) := by decide +kernel
theorem dX8_firstDifference_3 : decode cX8_firstDifference 3 = .ok (.sipush 512, 3) := by decide +kernel
theorem dX8_firstDifference_6 : decode cX8_firstDifference 6 = .ok (.if_icmp .ge 47, 3) := by decide +kernel
theorem dX8_firstDifference_9 : decode cX8_firstDifference 9 = .ok (.aload_n 0, 1) := by decide +kernel
theorem dX8_firstDifference_10 : decode cX8_firstDifference 10 = .ok (.iload_n 1, 1) := by decide +kernel
theorem dX8_firstDifference_11 : decode cX8_firstDifference 11 = .ok (.invokevirtual 155, 3) := by decide +kernel
theorem dX8_firstDifference_14 : decode cX8_firstDifference 14 = .ok (.ifCond .eq 33, 3) := by decide +kernel
theorem dX8_firstDifference_17 : decode cX8_firstDifference 17 = .ok (.iload_n 1, 1) := by decide +kernel
theorem dX8_firstDifference_18 : decode cX8_firstDifference 18 = .ok (.bipush 8, 2) := by decide +kernel
theorem dX8_firstDifference_20 : decode cX8_firstDifference 20 = .ok (.irem, 1) := by decide +kernel
theorem dX8_firstDifference_21 : decode cX8_firstDifference 21 = .ok (.aload_n 0, 1) := by decide +kernel
theorem dX8_firstDifference_22 : decode cX8_firstDifference 22 = .ok (.getfield 7, 3) := by decide +kernel
theorem dX8_firstDifference_25 : decode cX8_firstDifference 25 = .ok (.iconst 0, 1) := by decide +kernel
theorem dX8_firstDifference_26 : decode cX8_firstDifference 26 = .ok (.iaload, 1) := by decide +kernel
theorem dX8_firstDifference_27 : decode cX8_firstDifference 27 = .ok (.iload_n 1, 1) := by decide +kernel
theorem dX8_firstDifference_28 : decode cX8_firstDifference 28 = .ok (.bipush 8, 2) := by decide +kernel
theorem dX8_firstDifference_30 : decode cX8_firstDifference 30 = .ok (.idiv, 1) := by decide +kernel
theorem dX8_firstDifference_31 : decode cX8_firstDifference 31 = .ok (.bipush 8, 2) := by decide +kernel
theorem dX8_firstDifference_33 : decode cX8_firstDifference 33 = .ok (.irem, 1) := by decide +kernel
theorem dX8_firstDifference_34 : decode cX8_firstDifference 34 = .ok (.imul, 1) := by decide +kernel
theorem dX8_firstDifference_35 : decode cX8_firstDifference 35 = .ok (.iadd, 1) := by decide +kernel
theorem dX8_firstDifference_36 : decode cX8_firstDifference 36 = .ok (.aload_n 0, 1) := by decide +kernel
theorem dX8_firstDifference_37 : decode cX8_firstDifference 37 = .ok (.invokevirtual 51, 3) := by decide +kernel
theorem dX8_firstDifference_40 : decode cX8_firstDifference 40 = .ok (.iload_n 1, 1) := by decide +kernel
