theorem inJ10 : ∀ w ∈ wsJ100, w ∈ lw_tbl := by decide +kernel
theorem dX0_init_0 : decode cX0_init 0 = .ok (.aload_n 0, 1) := by decide +kernel
theorem dX0_init_1 : decode cX0_init 1 = .ok (.invokespecial 3, 3) := by decide +kernel
theorem dX0_init_4 : decode cX0_init 4 = .ok (.aload_n 0, 1) := by decide +kernel
theorem dX0_init_5 : decode cX0_init 5 = .ok (.iconst 0, 1) := by decide +kernel
theorem dX0_init_6 : decode cX0_init 6 = .ok (.putfield 9, 3) := by decide +kernel
theorem dX0_init_9 : decode cX0_init 9 = .ok (.aload_n 0, 1) := by decide +kernel
theorem dX0_init_10 : decode cX0_init 10 = .ok (.iconst 0, 1) := by decide +kernel
theorem dX0_init_11 : decode cX0_init 11 = .ok (.putfield 15, 3) := by decide +kernel
theorem dX0_init_14 : decode cX0_init 14 = .ok (.aload_n 0, 1) := by decide +kernel
theorem dX0_init_15 : decode cX0_init 15 = .ok (.iconst 0, 1) := by decide +kernel
theorem dX0_init_16 : decode cX0_init 16 = .ok (.putfield 18, 3) := by decide +kernel
theorem dX0_init_19 : decode cX0_init 19 = .ok (.aload_n 0, 1) := by decide +kernel
theorem dX0_init_20 : decode cX0_init 20 = .ok (.iconst (-1), 1) := by decide +kernel
theorem dX0_init_21 : decode cX0_init 21 = .ok (.putfield 21, 3) := by decide +kernel
theorem dX0_init_24 : decode cX0_init 24 = .ok (.return_, 1) := by decide +kernel
set_option maxRecDepth 20000 in
theorem ggX0_look_X5_points : GoodIn wsX0_look wsX5_points := goodIn_r _ [16, 17, 30, 31, 32, 33, 34] (by decide +kernel) (by decide +kernel)
set_option maxRecDepth 20000 in
theorem gX0_look_X5_points : GoodIn wsX0_look (wsV RX0 24 RX5 yX5_points wsX5_points) := goodIn_app (goodIn_of _ (by decide +kernel)) ggX0_look_X5_points
set_option maxRecDepth 20000 in
theorem ggX0_look_X5_number : GoodIn wsX0_look wsX5_number := goodIn_r _ [21, 22, 23, 24, 25, 30, 31, 32, 33, 34] (by decide +kernel) (by decide +kernel)
set_option maxRecDepth 20000 in
theorem gX0_look_X5_number : GoodIn wsX0_look (wsV RX0 29 RX5 yX5_number wsX5_number) := goodIn_app (goodIn_of _ (by decide +kernel)) ggX0_look_X5_number
set_option maxRecDepth 20000 in
theorem ggX0_look_X7_cell : GoodIn wsX0_look wsX7_cell := goodIn_r _ [25] (by decide +kernel) (by decide +kernel)
set_option maxRecDepth 20000 in
theorem gX0_look_X7_cell_n37 : GoodIn wsX0_look (wsX7_cell) := ggX0_look_X7_cell
theorem dX0_look_0 : decode cX0_look 0 = .ok (.aload_n 0, 1) := by decide +kernel
theorem dX0_look_1 : decode cX0_look 1 = .ok (.iconst 0, 1) := by decide +kernel
theorem dX0_look_2 : decode cX0_look 2 = .ok (.putfield 9, 3) := by decide +kernel
theorem dX0_look_5 : decode cX0_look 5 = .ok (.aload_n 0, 1) := by decide +kernel
theorem dX0_look_6 : decode cX0_look 6 = .ok (.iconst 0, 1) := by decide +kernel
theorem dX0_look_7 : decode cX0_look 7 = .ok (.putfield 15, 3) := by decide +kernel
theorem dX0_look_10 : decode cX0_look 10 = .ok (.aload_n 0, 1) := by decide +kernel
theorem dX0_look_11 : decode cX0_look 11 = .ok (.iconst 0, 1) := by decide +kernel
theorem dX0_look_12 : decode cX0_look 12 = .ok (.putfield 18, 3) := by decide +kernel
theorem dX0_look_15 : decode cX0_look 15 = .ok (.aload_n 0, 1) := by decide +kernel
theorem dX0_look_16 : decode cX0_look 16 = .ok (.iconst (-1), 1) := by decide +kernel
theorem dX0_look_17 : decode cX0_look 17 = .ok (.putfield 21, 3) := by decide +kernel
theorem dX0_look_20 : decode cX0_look 20 = .ok (.iconst 0, 1) := by decide +kernel
theorem dX0_look_21 : decode cX0_look 21 = .ok (.istore_n 2, 1) := by decide +kernel
theorem dX0_look_22 : decode cX0_look 22 = .ok (.iload_n 2, 1) := by decide +kernel
theorem dX0_look_23 : decode cX0_look 23 = .ok (.aload_n 1, 1) := by decide +kernel
theorem dX0_look_24 : decode cX0_look 24 = .ok (.invokevirtual 24, 3) := by decide +kernel
theorem dX0_look_27 : decode cX0_look 27 = .ok (.if_icmp .ge 75, 3) := by decide +kernel
theorem dX0_look_30 : decode cX0_look 30 = .ok (.aload_n 1, 1) := by decide +kernel
theorem dX0_look_31 : decode cX0_look 31 = .ok (.iload_n 2, 1) := by decide +kernel
theorem dX0_look_32 : decode cX0_look 32 = .ok (.invokevirtual 29, 3) := by decide +kernel
theorem dX0_look_35 : decode cX0_look 35 = .ok (.aload_n 1, 1) := by decide +kernel
theorem dX0_look_36 : decode cX0_look 36 = .ok (.getfield 33, 3) := by decide +kernel
theorem dX0_look_39 : decode cX0_look 39 = .ok (.iload_n 2, 1) := by decide +kernel
theorem dX0_look_40 : decode cX0_look 40 = .ok (.invokestatic 37, 3) := by decide +kernel
theorem dX0_look_43 : decode cX0_look 43 = .ok (.isub, 1) := by decide +kernel
theorem dX0_look_44 : decode cX0_look 44 = .ok (.istore_n 3, 1) := by decide +kernel
theorem dX0_look_45 : decode cX0_look 45 = .ok (.iload_n 3, 1) := by decide +kernel
theorem dX0_look_46 : decode cX0_look 46 = .ok (.ifCond .eq 50, 3) := by decide +kernel
theorem dX0_look_49 : decode cX0_look 49 = .ok (.aload_n 0, 1) := by decide +kernel
theorem dX0_look_50 : decode cX0_look 50 = .ok (.getfield 9, 3) := by decide +kernel
theorem dX0_look_53 : decode cX0_look 53 = .ok (.ifCond .ne 8, 3) := by decide +kernel
theorem dX0_look_56 : decode cX0_look 56 = .ok (.aload_n 0, 1) := by decide +kernel
theorem dX0_look_57 : decode cX0_look 57 = .ok (.iload_n 2, 1) := by decide +kernel
theorem dX0_look_58 : decode cX0_look 58 = .ok (.putfield 21, 3) := by decide +kernel
theorem dX0_look_61 : decode cX0_look 61 = .ok (.aload_n 0, 1) := by decide +kernel
theorem dX0_look_62 : decode cX0_look 62 = .ok (.dup, 1) := by decide +kernel
theorem dX0_look_63 : decode cX0_look 63 = .ok (.getfield 9, 3) := by decide +kernel
theorem dX0_look_66 : decode cX0_look 66 = .ok (.iconst 1, 1) := by decide +kernel
theorem dX0_look_67 : decode cX0_look 67 = .ok (.iadd, 1) := by decide +kernel
theorem dX0_look_68 : decode cX0_look 68 = .ok (.putfield 9, 3) := by decide +kernel
theorem dX0_look_71 : decode cX0_look 71 = .ok (.aload_n 0, 1) := by decide +kernel
theorem dX0_look_72 : decode cX0_look 72 = .ok (.dup, 1) := by decide +kernel
theorem dX0_look_73 : decode cX0_look 73 = .ok (.getfield 15, 3) := by decide +kernel
theorem dX0_look_76 : decode cX0_look 76 = .ok (.iload_n 3, 1) := by decide +kernel
theorem dX0_look_77 : decode cX0_look 77 = .ok (.iadd, 1) := by decide +kernel
theorem dX0_look_78 : decode cX0_look 78 = .ok (.putfield 15, 3) := by decide +kernel
theorem dX0_look_81 : decode cX0_look 81 = .ok (.aload_n 0, 1) := by decide +kernel
theorem dX0_look_82 : decode cX0_look 82 = .ok (.aload_n 0, 1) := by decide +kernel
theorem dX0_look_83 : decode cX0_look 83 = .ok (.getfield 18, 3) := by decide +kernel
theorem dX0_look_86 : decode cX0_look 86 = .ok (.iload_n 3, 1) := by decide +kernel
theorem dX0_look_87 : decode cX0_look 87 = .ok (.invokestatic 41, 3) := by decide +kernel
theorem dX0_look_90 : decode cX0_look 90 = .ok (.invokestatic 46, 3) := by decide +kernel
theorem dX0_look_93 : decode cX0_look 93 = .ok (.putfield 18, 3) := by decide +kernel
theorem dX0_look_96 : decode cX0_look 96 = .ok (.iinc 2 1, 3) := by decide +kernel
theorem dX0_look_99 : decode cX0_look 99 = .ok (.goto (-77), 3) := by decide +kernel
theorem dX0_look_102 : decode cX0_look 102 = .ok (.return_, 1) := by decide +kernel
theorem dX0_told_0 : decode cX0_told 0 = .ok (.iload_n 1, 1) := by decide +kernel
theorem dX0_told_1 : decode cX0_told 1 = .ok (.tableswitch 42 0 2 #[27, 32, 37], 27) := by decide +kernel
theorem dX0_told_28 : decode cX0_told 28 = .ok (.aload_n 0, 1) := by decide +kernel
theorem dX0_told_29 : decode cX0_told 29 = .ok (.getfield 9, 3) := by decide +kernel
theorem dX0_told_32 : decode cX0_told 32 = .ok (.ireturn, 1) := by decide +kernel
theorem dX0_told_33 : decode cX0_told 33 = .ok (.aload_n 0, 1) := by decide +kernel
theorem dX0_told_34 : decode cX0_told 34 = .ok (.getfield 15, 3) := by decide +kernel
theorem dX0_told_37 : decode cX0_told 37 = .ok (.ireturn, 1) := by decide +kernel
theorem dX0_told_38 : decode cX0_told 38 = .ok (.aload_n 0, 1) := by decide +kernel
theorem dX0_told_39 : decode cX0_told 39 = .ok (.getfield 18, 3) := by decide +kernel
theorem dX0_told_42 : decode cX0_told 42 = .ok (.ireturn, 1) := by decide +kernel
theorem dX0_told_43 : decode cX0_told 43 = .ok (.aload_n 0, 1) := by decide +kernel
theorem dX0_told_44 : decode cX0_told 44 = .ok (.getfield 21, 3) := by decide +kernel
theorem dX0_told_47 : decode cX0_told 47 = .ok (.ireturn, 1) := by decide +kernel
theorem dX1_init_0 : decode cX1_init 0 = .ok (.aload_n 0, 1) := by decide +kernel
theorem dX1_init_1 : decode cX1_init 1 = .ok (.invokespecial 3, 3) := by decide +kernel
theorem dX1_init_4 : decode cX1_init 4 = .ok (.aload_n 0, 1) := by decide +kernel
theorem dX1_init_5 : decode cX1_init 5 = .ok (.iconst 0, 1) := by decide +kernel
theorem dX1_init_6 : decode cX1_init 6 = .ok (.putfield 9, 3) := by decide +kernel
theorem dX1_init_9 : decode cX1_init 9 = .ok (.aload_n 0, 1) := by decide +kernel
theorem dX1_init_10 : decode cX1_init 10 = .ok (.iconst 0, 1) := by decide +kernel
theorem dX1_init_11 : decode cX1_init 11 = .ok (.putfield 15, 3) := by decide +kernel
theorem dX1_init_14 : decode cX1_init 14 = .ok (.aload_n 0, 1) := by decide +kernel
theorem dX1_init_15 : decode cX1_init 15 = .ok (.iconst 0, 1) := by decide +kernel
theorem dX1_init_16 : decode cX1_init 16 = .ok (.putfield 18, 3) := by decide +kernel
theorem dX1_init_19 : decode cX1_init 19 = .ok (.aload_n 0, 1) := by decide +kernel
theorem dX1_init_20 : decode cX1_init 20 = .ok (.iconst 0, 1) := by decide +kernel
theorem dX1_init_21 : decode cX1_init 21 = .ok (.putfield 21, 3) := by decide +kernel
theorem dX1_init_24 : decode cX1_init 24 = .ok (.return_, 1) := by decide +kernel
set_option maxRecDepth 20000 in
theorem ggX1_look_X5_lineSum : GoodIn wsX1_look wsX5_lineSum := goodIn_r _ [10, 11, 12, 13, 14, 9, 15, 16, 17, 18, 19, 20, 21, 22, 23, 24, 25, 26, 27, 28, 29, 30, 31, 36, 37, 38, 39, 40] (by decide +kernel) (by decide +kernel)
set_option maxRecDepth 20000 in
theorem gX1_look_X5_lineSum : GoodIn wsX1_look (wsV RX1 30 RX5 yX5_lineSum wsX5_lineSum) := goodIn_app (goodIn_of _ (by decide +kernel)) ggX1_look_X5_lineSum
theorem dX1_look_0 : decode cX1_look 0 = .ok (.aload_n 0, 1) := by decide +kernel
theorem dX1_look_1 : decode cX1_look 1 = .ok (.ldc 24, 2) := by decide +kernel
theorem dX1_look_3 : decode cX1_look 3 = .ok (.putfield 21, 3) := by decide +kernel
theorem dX1_look_6 : decode cX1_look 6 = .ok (.iconst 0, 1) := by decide +kernel
theorem dX1_look_7 : decode cX1_look 7 = .ok (.istore_n 2, 1) := by decide +kernel
theorem dX1_look_8 : decode cX1_look 8 = .ok (.iload_n 2, 1) := by decide +kernel
theorem dX1_look_9 : decode cX1_look 9 = .ok (.iconst 3, 1) := by decide +kernel
theorem dX1_look_10 : decode cX1_look 10 = .ok (.if_icmp .ge 84, 3) := by decide +kernel
theorem dX1_look_13 : decode cX1_look 13 = .ok (.iconst 0, 1) := by decide +kernel
theorem dX1_look_14 : decode cX1_look 14 = .ok (.istore_n 3, 1) := by decide +kernel
theorem dX1_look_15 : decode cX1_look 15 = .ok (.iload_n 3, 1) := by decide +kernel
theorem dX1_look_16 : decode cX1_look 16 = .ok (.aload_n 1, 1) := by decide +kernel
theorem dX1_look_17 : decode cX1_look 17 = .ok (.getfield 25, 3) := by decide +kernel
theorem dX1_look_20 : decode cX1_look 20 = .ok (.if_icmp .ge 68, 3) := by decide +kernel
theorem dX1_look_23 : decode cX1_look 23 = .ok (.iconst 0, 1) := by decide +kernel
theorem dX1_look_24 : decode cX1_look 24 = .ok (.istore 4, 2) := by decide +kernel
theorem dX1_look_26 : decode cX1_look 26 = .ok (.iload 4, 2) := by decide +kernel
theorem dX1_look_28 : decode cX1_look 28 = .ok (.aload_n 1, 1) := by decide +kernel
theorem dX1_look_29 : decode cX1_look 29 = .ok (.getfield 25, 3) := by decide +kernel
theorem dX1_look_32 : decode cX1_look 32 = .ok (.if_icmp .ge 50, 3) := by decide +kernel
theorem dX1_look_35 : decode cX1_look 35 = .ok (.aload_n 1, 1) := by decide +kernel
theorem dX1_look_36 : decode cX1_look 36 = .ok (.iload_n 2, 1) := by decide +kernel
theorem dX1_look_37 : decode cX1_look 37 = .ok (.iload_n 3, 1) := by decide +kernel
theorem dX1_look_38 : decode cX1_look 38 = .ok (.iload 4, 2) := by decide +kernel
theorem dX1_look_40 : decode cX1_look 40 = .ok (.invokevirtual 30, 3) := by decide +kernel
theorem dX1_look_43 : decode cX1_look 43 = .ok (.istore 5, 2) := by decide +kernel
theorem dX1_look_45 : decode cX1_look 45 = .ok (.iload 5, 2) := by decide +kernel
theorem dX1_look_47 : decode cX1_look 47 = .ok (.aload_n 0, 1) := by decide +kernel
theorem dX1_look_48 : decode cX1_look 48 = .ok (.getfield 21, 3) := by decide +kernel
theorem dX1_look_51 : decode cX1_look 51 = .ok (.if_icmp .le 25, 3) := by decide +kernel
theorem dX1_look_54 : decode cX1_look 54 = .ok (.aload_n 0, 1) := by decide +kernel
theorem dX1_look_55 : decode cX1_look 55 = .ok (.iload_n 2, 1) := by decide +kernel
theorem dX1_look_56 : decode cX1_look 56 = .ok (.putfield 9, 3) := by decide +kernel
theorem dX1_look_59 : decode cX1_look 59 = .ok (.aload_n 0, 1) := by decide +kernel
theorem dX1_look_60 : decode cX1_look 60 = .ok (.iload_n 3, 1) := by decide +kernel
theorem dX1_look_61 : decode cX1_look 61 = .ok (.putfield 15, 3) := by decide +kernel
theorem dX1_look_64 : decode cX1_look 64 = .ok (.aload_n 0, 1) := by decide +kernel
theorem dX1_look_65 : decode cX1_look 65 = .ok (.iload 4, 2) := by decide +kernel
theorem dX1_look_67 : decode cX1_look 67 = .ok (.putfield 18, 3) := by decide +kernel
theorem dX1_look_70 : decode cX1_look 70 = .ok (.aload_n 0, 1) := by decide +kernel
theorem dX1_look_71 : decode cX1_look 71 = .ok (.iload 5, 2) := by decide +kernel
theorem dX1_look_73 : decode cX1_look 73 = .ok (.putfield 21, 3) := by decide +kernel
theorem dX1_look_76 : decode cX1_look 76 = .ok (.iinc 4 1, 3) := by decide +kernel
theorem dX1_look_79 : decode cX1_look 79 = .ok (.goto (-53), 3) := by decide +kernel
theorem dX1_look_82 : decode cX1_look 82 = .ok (.iinc 3 1, 3) := by decide +kernel
theorem dX1_look_85 : decode cX1_look 85 = .ok (.goto (-70), 3) := by decide +kernel
theorem dX1_look_88 : decode cX1_look 88 = .ok (.iinc 2 1, 3) := by decide +kernel
theorem dX1_look_91 : decode cX1_look 91 = .ok (.goto (-83), 3) := by decide +kernel
theorem dX1_look_94 : decode cX1_look 94 = .ok (.return_, 1) := by decide +kernel
theorem dX1_told_0 : decode cX1_told 0 = .ok (.iload_n 1, 1) := by decide +kernel
theorem dX1_told_1 : decode cX1_told 1 = .ok (.tableswitch 42 0 2 #[27, 32, 37], 27) := by decide +kernel
theorem dX1_told_28 : decode cX1_told 28 = .ok (.aload_n 0, 1) := by decide +kernel
theorem dX1_told_29 : decode cX1_told 29 = .ok (.getfield 9, 3) := by decide +kernel
theorem dX1_told_32 : decode cX1_told 32 = .ok (.ireturn, 1) := by decide +kernel
theorem dX1_told_33 : decode cX1_told 33 = .ok (.aload_n 0, 1) := by decide +kernel
theorem dX1_told_34 : decode cX1_told 34 = .ok (.getfield 15, 3) := by decide +kernel
theorem dX1_told_37 : decode cX1_told 37 = .ok (.ireturn, 1) := by decide +kernel
theorem dX1_told_38 : decode cX1_told 38 = .ok (.aload_n 0, 1) := by decide +kernel
theorem dX1_told_39 : decode cX1_told 39 = .ok (.getfield 18, 3) := by decide +kernel
theorem dX1_told_42 : decode cX1_told 42 = .ok (.ireturn, 1) := by decide +kernel
theorem dX1_told_43 : decode cX1_told 43 = .ok (.aload_n 0, 1) := by decide +kernel
theorem dX1_told_44 : decode cX1_told 44 = .ok (.getfield 21, 3) := by decide +kernel
theorem dX1_told_47 : decode cX1_told 47 = .ok (.sipush 10000, 3) := by decide +kernel
theorem dX1_told_50 : decode cX1_told 50 = .ok (.iadd, 1) := by decide +kernel
theorem dX1_told_51 : decode cX1_told 51 = .ok (.ireturn, 1) := by decide +kernel
set_option maxRecDepth 20000 in
theorem ggX2_init_X5_init : GoodIn wsX2_init wsX5_init := goodIn_r _ [11, 12, 2, 3, 13, 14, 15, 16, 17, 18, 22, 23, 24, 25, 26] (by decide +kernel) (by decide +kernel)
set_option maxRecDepth 20000 in
theorem gX2_init_X5_init_n24 : GoodIn wsX2_init (wsX5_init) := ggX2_init_X5_init
theorem dX2_init_0 : decode cX2_init 0 = .ok (.aload_n 0, 1) := by decide +kernel
theorem dX2_init_1 : decode cX2_init 1 = .ok (.invokespecial 3, 3) := by decide +kernel
theorem dX2_init_4 : decode cX2_init 4 = .ok (.aload_n 0, 1) := by decide +kernel
theorem dX2_init_5 : decode cX2_init 5 = .ok (.bipush 6, 2) := by decide +kernel
theorem dX2_init_7 : decode cX2_init 7 = .ok (.anewarray 9, 3) := by decide +kernel
theorem dX2_init_10 : decode cX2_init 10 = .ok (.putfield 11, 3) := by decide +kernel
theorem dX2_init_13 : decode cX2_init 13 = .ok (.aload_n 0, 1) := by decide +kernel
theorem dX2_init_14 : decode cX2_init 14 = .ok (.iconst 0, 1) := by decide +kernel
theorem dX2_init_15 : decode cX2_init 15 = .ok (.putfield 17, 3) := by decide +kernel
theorem dX2_init_18 : decode cX2_init 18 = .ok (.aload_n 0, 1) := by decide +kernel
theorem dX2_init_19 : decode cX2_init 19 = .ok (.iconst 0, 1) := by decide +kernel
theorem dX2_init_20 : decode cX2_init 20 = .ok (.putfield 21, 3) := by decide +kernel
theorem dX2_init_23 : decode cX2_init 23 = .ok (.iconst 0, 1) := by decide +kernel
theorem dX2_init_24 : decode cX2_init 24 = .ok (.istore_n 1, 1) := by decide +kernel
theorem dX2_init_25 : decode cX2_init 25 = .ok (.iload_n 1, 1) := by decide +kernel
theorem dX2_init_26 : decode cX2_init 26 = .ok (.aload_n 0, 1) := by decide +kernel
theorem dX2_init_27 : decode cX2_init 27 = .ok (.getfield 11, 3) := by decide +kernel
theorem dX2_init_30 : decode cX2_init 30 = .ok (.arraylength, 1) := by decide +kernel
theorem dX2_init_31 : decode cX2_init 31 = .ok (.if_icmp .ge 22, 3) := by decide +kernel
theorem dX2_init_34 : decode cX2_init 34 = .ok (.aload_n 0, 1) := by decide +kernel
theorem dX2_init_35 : decode cX2_init 35 = .ok (.getfield 11, 3) := by decide +kernel
theorem dX2_init_38 : decode cX2_init 38 = .ok (.iload_n 1, 1) := by decide +kernel
theorem dX2_init_39 : decode cX2_init 39 = .ok (.new 9, 3) := by decide +kernel
theorem dX2_init_42 : decode cX2_init 42 = .ok (.dup, 1) := by decide +kernel
theorem dX2_init_43 : decode cX2_init 43 = .ok (.invokespecial 24, 3) := by decide +kernel
theorem dX2_init_46 : decode cX2_init 46 = .ok (.aastore, 1) := by decide +kernel
theorem dX2_init_47 : decode cX2_init 47 = .ok (.iinc 1 1, 3) := by decide +kernel
theorem dX2_init_50 : decode cX2_init 50 = .ok (.goto (-25), 3) := by decide +kernel
theorem dX2_init_53 : decode cX2_init 53 = .ok (.return_, 1) := by decide +kernel
set_option maxRecDepth 20000 in
theorem ggX2_save_X2_slot : GoodIn wsX2_save wsX2_slot := goodIn_r _ [7, 2, 8, 26, 27, 28] (by decide +kernel) (by decide +kernel)
set_option maxRecDepth 20000 in
theorem gX2_save_X2_slot : GoodIn wsX2_save (wsV RX2 25 RX2 yX2_slot wsX2_slot) := goodIn_app (goodIn_of _ (by decide +kernel)) ggX2_save_X2_slot
set_option maxRecDepth 20000 in
theorem ggX2_save_X5_copyFrom : GoodIn wsX2_save wsX5_copyFrom := goodIn_r _ [13, 14, 15, 16, 17, 18, 19, 20, 21, 22, 23, 24, 25, 29, 30, 31, 32, 33] (by decide +kernel) (by decide +kernel)
set_option maxRecDepth 20000 in
theorem gX2_save_X5_copyFrom : GoodIn wsX2_save (wsV RX2 29 RX5 yX5_copyFrom wsX5_copyFrom) := goodIn_app (goodIn_of _ (by decide +kernel)) ggX2_save_X5_copyFrom
theorem dX2_save_0 : decode cX2_save 0 = .ok (.aload_n 0, 1) := by decide +kernel
theorem dX2_save_1 : decode cX2_save 1 = .ok (.getfield 21, 3) := by decide +kernel
theorem dX2_save_4 : decode cX2_save 4 = .ok (.bipush 6, 2) := by decide +kernel
theorem dX2_save_6 : decode cX2_save 6 = .ok (.if_icmp .ne 26, 3) := by decide +kernel
theorem dX2_save_9 : decode cX2_save 9 = .ok (.aload_n 0, 1) := by decide +kernel
theorem dX2_save_10 : decode cX2_save 10 = .ok (.aload_n 0, 1) := by decide +kernel
theorem dX2_save_11 : decode cX2_save 11 = .ok (.getfield 17, 3) := by decide +kernel
theorem dX2_save_14 : decode cX2_save 14 = .ok (.iconst 1, 1) := by decide +kernel
theorem dX2_save_15 : decode cX2_save 15 = .ok (.iadd, 1) := by decide +kernel
theorem dX2_save_16 : decode cX2_save 16 = .ok (.bipush 6, 2) := by decide +kernel
theorem dX2_save_18 : decode cX2_save 18 = .ok (.irem, 1) := by decide +kernel
theorem dX2_save_19 : decode cX2_save 19 = .ok (.putfield 17, 3) := by decide +kernel
theorem dX2_save_22 : decode cX2_save 22 = .ok (.aload_n 0, 1) := by decide +kernel
theorem dX2_save_23 : decode cX2_save 23 = .ok (.dup, 1) := by decide +kernel
theorem dX2_save_24 : decode cX2_save 24 = .ok (.getfield 21, 3) := by decide +kernel
theorem dX2_save_27 : decode cX2_save 27 = .ok (.iconst 1, 1) := by decide +kernel
theorem dX2_save_28 : decode cX2_save 28 = .ok (.isub, 1) := by decide +kernel
theorem dX2_save_29 : decode cX2_save 29 = .ok (.putfield 21, 3) := by decide +kernel
theorem dX2_save_32 : decode cX2_save 32 = .ok (.aload_n 0, 1) := by decide +kernel
theorem dX2_save_33 : decode cX2_save 33 = .ok (.aload_n 0, 1) := by decide +kernel
theorem dX2_save_34 : decode cX2_save 34 = .ok (.getfield 21, 3) := by decide +kernel
theorem dX2_save_37 : decode cX2_save 37 = .ok (.invokevirtual 25, 3) := by decide +kernel
theorem dX2_save_40 : decode cX2_save 40 = .ok (.astore_n 2, 1) := by decide +kernel
theorem dX2_save_41 : decode cX2_save 41 = .ok (.aload_n 2, 1) := by decide +kernel
theorem dX2_save_42 : decode cX2_save 42 = .ok (.ifnull 8, 3) := by decide +kernel
theorem dX2_save_45 : decode cX2_save 45 = .ok (.aload_n 2, 1) := by decide +kernel
theorem dX2_save_46 : decode cX2_save 46 = .ok (.aload_n 1, 1) := by decide +kernel
theorem dX2_save_47 : decode cX2_save 47 = .ok (.invokevirtual 29, 3) := by decide +kernel
theorem dX2_save_50 : decode cX2_save 50 = .ok (.aload_n 0, 1) := by decide +kernel
theorem dX2_save_51 : decode cX2_save 51 = .ok (.dup, 1) := by decide +kernel
theorem dX2_save_52 : decode cX2_save 52 = .ok (.getfield 21, 3) := by decide +kernel
theorem dX2_save_55 : decode cX2_save 55 = .ok (.iconst 1, 1) := by decide +kernel
theorem dX2_save_56 : decode cX2_save 56 = .ok (.iadd, 1) := by decide +kernel
theorem dX2_save_57 : decode cX2_save 57 = .ok (.putfield 21, 3) := by decide +kernel
theorem dX2_save_60 : decode cX2_save 60 = .ok (.return_, 1) := by decide +kernel
set_option maxRecDepth 20000 in
theorem ggX2_dropLatest_X2_slot : GoodIn wsX2_dropLatest wsX2_slot := goodIn_r _ [6, 7, 8, 9, 10, 11] (by decide +kernel) (by decide +kernel)
set_option maxRecDepth 20000 in
theorem gX2_dropLatest_X2_slot : GoodIn wsX2_dropLatest (wsV RX2 25 RX2 yX2_slot wsX2_slot) := goodIn_app (goodIn_of _ (by decide +kernel)) ggX2_dropLatest_X2_slot
theorem dX2_dropLatest_0 : decode cX2_dropLatest 0 = .ok (.aload_n 0, 1) := by decide +kernel
theorem dX2_dropLatest_1 : decode cX2_dropLatest 1 = .ok (.getfield 21, 3) := by decide +kernel
theorem dX2_dropLatest_4 : decode cX2_dropLatest 4 = .ok (.ifCond .le 13, 3) := by decide +kernel
theorem dX2_dropLatest_7 : decode cX2_dropLatest 7 = .ok (.aload_n 0, 1) := by decide +kernel
theorem dX2_dropLatest_8 : decode cX2_dropLatest 8 = .ok (.dup, 1) := by decide +kernel
theorem dX2_dropLatest_9 : decode cX2_dropLatest 9 = .ok (.getfield 21, 3) := by decide +kernel
theorem dX2_dropLatest_12 : decode cX2_dropLatest 12 = .ok (.iconst 1, 1) := by decide +kernel
theorem dX2_dropLatest_13 : decode cX2_dropLatest 13 = .ok (.isub, 1) := by decide +kernel
theorem dX2_dropLatest_14 : decode cX2_dropLatest 14 = .ok (.putfield 21, 3) := by decide +kernel
theorem dX2_dropLatest_17 : decode cX2_dropLatest 17 = .ok (.aload_n 0, 1) := by decide +kernel
theorem dX2_dropLatest_18 : decode cX2_dropLatest 18 = .ok (.aload_n 0, 1) := by decide +kernel
theorem dX2_dropLatest_19 : decode cX2_dropLatest 19 = .ok (.getfield 21, 3) := by decide +kernel
theorem dX2_dropLatest_22 : decode cX2_dropLatest 22 = .ok (.invokevirtual 25, 3) := by decide +kernel
theorem dX2_dropLatest_25 : decode cX2_dropLatest 25 = .ok (.areturn, 1) := by decide +kernel
theorem dX2_slot_0 : decode cX2_slot 0 = .ok (.aload_n 0, 1) := by decide +kernel
theorem dX2_slot_1 : decode cX2_slot 1 = .ok (.getfield 17, 3) := by decide +kernel
theorem dX2_slot_4 : decode cX2_slot 4 = .ok (.iload_n 1, 1) := by decide +kernel
theorem dX2_slot_5 : decode cX2_slot 5 = .ok (.iadd, 1) := by decide +kernel
theorem dX2_slot_6 : decode cX2_slot 6 = .ok (.bipush 6, 2) := by decide +kernel
theorem dX2_slot_8 : decode cX2_slot 8 = .ok (.irem, 1) := by decide +kernel
theorem dX2_slot_9 : decode cX2_slot 9 = .ok (.istore_n 2, 1) := by decide +kernel
theorem dX2_slot_10 : decode cX2_slot 10 = .ok (.iload_n 2, 1) := by decide +kernel
theorem dX2_slot_11 : decode cX2_slot 11 = .ok (.ifCond .lt 21, 3) := by decide +kernel
theorem dX2_slot_14 : decode cX2_slot 14 = .ok (.iload_n 2, 1) := by decide +kernel
theorem dX2_slot_15 : decode cX2_slot 15 = .ok (.aload_n 0, 1) := by decide +kernel
theorem dX2_slot_16 : decode cX2_slot 16 = .ok (.getfield 11, 3) := by decide +kernel
theorem dX2_slot_19 : decode cX2_slot 19 = .ok (.arraylength, 1) := by decide +kernel
theorem dX2_slot_20 : decode cX2_slot 20 = .ok (.if_icmp .ge 12, 3) := by decide +kernel
theorem dX2_slot_23 : decode cX2_slot 23 = .ok (.aload_n 0, 1) := by decide +kernel
theorem dX2_slot_24 : decode cX2_slot 24 = .ok (.getfield 11, 3) := by decide +kernel
theorem dX2_slot_27 : decode cX2_slot 27 = .ok (.iload_n 2, 1) := by decide +kernel
theorem dX2_slot_28 : decode cX2_slot 28 = .ok (.aaload, 1) := by decide +kernel
theorem dX2_slot_29 : decode cX2_slot 29 = .ok (.goto 4, 3) := by decide +kernel
theorem dX2_slot_32 : decode cX2_slot 32 = .ok (.aconst_null, 1) := by decide +kernel
theorem dX2_slot_33 : decode cX2_slot 33 = .ok (.areturn, 1) := by decide +kernel
theorem dX3_init_0 : decode cX3_init 0 = .ok (.aload_n 0, 1) := by decide +kernel
theorem dX3_init_1 : decode cX3_init 1 = .ok (.invokespecial 3, 3) := by decide +kernel
theorem dX3_init_4 : decode cX3_init 4 = .ok (.aload_n 0, 1) := by decide +kernel
theorem dX3_init_5 : decode cX3_init 5 = .ok (.iconst 0, 1) := by decide +kernel
theorem dX3_init_6 : decode cX3_init 6 = .ok (.putfield 9, 3) := by decide +kernel
theorem dX3_init_9 : decode cX3_init 9 = .ok (.aload_n 0, 1) := by decide +kernel
theorem dX3_init_10 : decode cX3_init 10 = .ok (.iconst 0, 1) := by decide +kernel
theorem dX3_init_11 : decode cX3_init 11 = .ok (.putfield 15, 3) := by decide +kernel
theorem dX3_init_14 : decode cX3_init 14 = .ok (.aload_n 0, 1) := by decide +kernel
theorem dX3_init_15 : decode cX3_init 15 = .ok (.iconst 0, 1) := by decide +kernel
theorem dX3_init_16 : decode cX3_init 16 = .ok (.putfield 18, 3) := by decide +kernel
theorem dX3_init_19 : decode cX3_init 19 = .ok (.return_, 1) := by decide +kernel
set_option maxRecDepth 20000 in
theorem ggX3_look_X4_look : GoodIn wsX3_look wsX4_look := goodIn_r _ [9, 10, 11, 12, 8, 13, 14, 15, 16, 17, 18, 19, 20, 21, 22, 23, 24, 25, 26, 27, 28, 29, 30, 31, 32, 33, 34, 35, 36, 37, 38, 39, 40, 41, 42, 43, 44, 45, 46, 47, 63, 64, 65, 66, 67, 68, 69, 70, 71, 72] (by decide +kernel) (by decide +kernel)
set_option maxRecDepth 20000 in
theorem gX3_look_X4_look : GoodIn wsX3_look (wsV RX3 22 RX4 yX4_look wsX4_look) := goodIn_app (goodIn_of _ (by decide +kernel)) ggX3_look_X4_look
set_option maxRecDepth 20000 in
theorem ggX3_look_X4_roomOfAll : GoodIn wsX3_look wsX4_roomOfAll := goodIn_r _ [51, 14, 52, 53, 54, 8, 55, 20, 44, 24, 45, 56, 57, 58, 59, 22, 68, 69, 70, 71, 72] (by decide +kernel) (by decide +kernel)
set_option maxRecDepth 20000 in
theorem gX3_look_X4_roomOfAll : GoodIn wsX3_look (wsV RX3 28 RX4 yX4_roomOfAll wsX4_roomOfAll) := goodIn_app (goodIn_of _ (by decide +kernel)) ggX3_look_X4_roomOfAll
theorem dX3_look_0 : decode cX3_look 0 = .ok (.aload_n 0, 1) := by decide +kernel
theorem dX3_look_1 : decode cX3_look 1 = .ok (.ldc 21, 2) := by decide +kernel
theorem dX3_look_3 : decode cX3_look 3 = .ok (.putfield 18, 3) := by decide +kernel
theorem dX3_look_6 : decode cX3_look 6 = .ok (.iconst 0, 1) := by decide +kernel
theorem dX3_look_7 : decode cX3_look 7 = .ok (.istore_n 3, 1) := by decide +kernel
theorem dX3_look_8 : decode cX3_look 8 = .ok (.iload_n 3, 1) := by decide +kernel
theorem dX3_look_9 : decode cX3_look 9 = .ok (.iconst 3, 1) := by decide +kernel
theorem dX3_look_10 : decode cX3_look 10 = .ok (.if_icmp .ge 65, 3) := by decide +kernel
theorem dX3_look_13 : decode cX3_look 13 = .ok (.aload_n 2, 1) := by decide +kernel
theorem dX3_look_14 : decode cX3_look 14 = .ok (.aload_n 1, 1) := by decide +kernel
theorem dX3_look_15 : decode cX3_look 15 = .ok (.iload_n 3, 1) := by decide +kernel
theorem dX3_look_16 : decode cX3_look 16 = .ok (.invokevirtual 22, 3) := by decide +kernel
theorem dX3_look_19 : decode cX3_look 19 = .ok (.iconst 1, 1) := by decide +kernel
theorem dX3_look_20 : decode cX3_look 20 = .ok (.istore 4, 2) := by decide +kernel
theorem dX3_look_22 : decode cX3_look 22 = .ok (.iload 4, 2) := by decide +kernel
theorem dX3_look_24 : decode cX3_look 24 = .ok (.bipush 64, 2) := by decide +kernel
theorem dX3_look_26 : decode cX3_look 26 = .ok (.if_icmp .gt 43, 3) := by decide +kernel
theorem dX3_look_29 : decode cX3_look 29 = .ok (.aload_n 2, 1) := by decide +kernel
theorem dX3_look_30 : decode cX3_look 30 = .ok (.iload 4, 2) := by decide +kernel
theorem dX3_look_32 : decode cX3_look 32 = .ok (.invokevirtual 28, 3) := by decide +kernel
theorem dX3_look_35 : decode cX3_look 35 = .ok (.istore 5, 2) := by decide +kernel
theorem dX3_look_37 : decode cX3_look 37 = .ok (.iload 5, 2) := by decide +kernel
theorem dX3_look_39 : decode cX3_look 39 = .ok (.aload_n 0, 1) := by decide +kernel
theorem dX3_look_40 : decode cX3_look 40 = .ok (.getfield 18, 3) := by decide +kernel
theorem dX3_look_43 : decode cX3_look 43 = .ok (.if_icmp .ge 20, 3) := by decide +kernel
theorem dX3_look_46 : decode cX3_look 46 = .ok (.aload_n 0, 1) := by decide +kernel
theorem dX3_look_47 : decode cX3_look 47 = .ok (.iload_n 3, 1) := by decide +kernel
theorem dX3_look_48 : decode cX3_look 48 = .ok (.putfield 9, 3) := by decide +kernel
theorem dX3_look_51 : decode cX3_look 51 = .ok (.aload_n 0, 1) := by decide +kernel
theorem dX3_look_52 : decode cX3_look 52 = .ok (.iload 4, 2) := by decide +kernel
theorem dX3_look_54 : decode cX3_look 54 = .ok (.putfield 15, 3) := by decide +kernel
theorem dX3_look_57 : decode cX3_look 57 = .ok (.aload_n 0, 1) := by decide +kernel
theorem dX3_look_58 : decode cX3_look 58 = .ok (.iload 5, 2) := by decide +kernel
theorem dX3_look_60 : decode cX3_look 60 = .ok (.putfield 18, 3) := by decide +kernel
theorem dX3_look_63 : decode cX3_look 63 = .ok (.iinc 4 1, 3) := by decide +kernel
theorem dX3_look_66 : decode cX3_look 66 = .ok (.goto (-44), 3) := by decide +kernel
theorem dX3_look_69 : decode cX3_look 69 = .ok (.iinc 3 1, 3) := by decide +kernel
theorem dX3_look_72 : decode cX3_look 72 = .ok (.goto (-64), 3) := by decide +kernel
theorem dX3_look_75 : decode cX3_look 75 = .ok (.return_, 1) := by decide +kernel
theorem dX3_told_0 : decode cX3_told 0 = .ok (.iload_n 1, 1) := by decide +kernel
theorem dX3_told_1 : decode cX3_told 1 = .ok (.lookupswitch 37 #[(0, 27), (1, 32)], 27) := by decide +kernel
theorem dX3_told_28 : decode cX3_told 28 = .ok (.aload_n 0, 1) := by decide +kernel
theorem dX3_told_29 : decode cX3_told 29 = .ok (.getfield 9, 3) := by decide +kernel
theorem dX3_told_32 : decode cX3_told 32 = .ok (.ireturn, 1) := by decide +kernel
theorem dX3_told_33 : decode cX3_told 33 = .ok (.aload_n 0, 1) := by decide +kernel
theorem dX3_told_34 : decode cX3_told 34 = .ok (.getfield 15, 3) := by decide +kernel
theorem dX3_told_37 : decode cX3_told 37 = .ok (.ireturn, 1) := by decide +kernel
theorem dX3_told_38 : decode cX3_told 38 = .ok (.aload_n 0, 1) := by decide +kernel
theorem dX3_told_39 : decode cX3_told 39 = .ok (.getfield 18, 3) := by decide +kernel
theorem dX3_told_42 : decode cX3_told 42 = .ok (.ireturn, 1) := by decide +kernel
theorem dX4_init_0 : decode cX4_init 0 = .ok (.aload_n 0, 1) := by decide +kernel
theorem dX4_init_1 : decode cX4_init 1 = .ok (.invokespecial 3, 3) := by decide +kernel
theorem dX4_init_4 : decode cX4_init 4 = .ok (.aload_n 0, 1) := by decide +kernel
theorem dX4_init_5 : decode cX4_init 5 = .ok (.iconst 0, 1) := by decide +kernel
theorem dX4_init_6 : decode cX4_init 6 = .ok (.putfield 9, 3) := by decide +kernel
theorem dX4_init_9 : decode cX4_init 9 = .ok (.aload_n 0, 1) := by decide +kernel
theorem dX4_init_10 : decode cX4_init 10 = .ok (.bipush 8, 2) := by decide +kernel
theorem dX4_init_12 : decode cX4_init 12 = .ok (.newarray .int, 2) := by decide +kernel
theorem dX4_init_14 : decode cX4_init 14 = .ok (.putfield 15, 3) := by decide +kernel
theorem dX4_init_17 : decode cX4_init 17 = .ok (.aload_n 0, 1) := by decide +kernel
theorem dX4_init_18 : decode cX4_init 18 = .ok (.bipush 8, 2) := by decide +kernel
theorem dX4_init_20 : decode cX4_init 20 = .ok (.newarray .int, 2) := by decide +kernel
theorem dX4_init_22 : decode cX4_init 22 = .ok (.putfield 19, 3) := by decide +kernel
theorem dX4_init_25 : decode cX4_init 25 = .ok (.aload_n 0, 1) := by decide +kernel
theorem dX4_init_26 : decode cX4_init 26 = .ok (.bipush 8, 2) := by decide +kernel
theorem dX4_init_28 : decode cX4_init 28 = .ok (.newarray .int, 2) := by decide +kernel
theorem dX4_init_30 : decode cX4_init 30 = .ok (.putfield 22, 3) := by decide +kernel
theorem dX4_init_33 : decode cX4_init 33 = .ok (.aload_n 0, 1) := by decide +kernel
theorem dX4_init_34 : decode cX4_init 34 = .ok (.bipush 8, 2) := by decide +kernel
theorem dX4_init_36 : decode cX4_init 36 = .ok (.newarray .int, 2) := by decide +kernel
theorem dX4_init_38 : decode cX4_init 38 = .ok (.putfield 25, 3) := by decide +kernel
theorem dX4_init_41 : decode cX4_init 41 = .ok (.return_, 1) := by decide +kernel
set_option maxRecDepth 20000 in
theorem ggX4_look_X4_lookAt : GoodIn wsX4_look wsX4_lookAt := goodIn_r _ [5, 6, 7, 8, 9, 10, 11, 12, 13, 14, 15, 16, 17, 18, 19, 20, 21, 22, 23, 24, 25, 26, 27, 28, 29, 30, 31, 32, 33, 34, 35, 36, 37, 38, 39, 40, 41, 42, 43, 44, 45, 46, 47, 48, 49] (by decide +kernel) (by decide +kernel)
set_option maxRecDepth 20000 in
theorem gX4_look_X4_lookAt : GoodIn wsX4_look (wsV RX4 31 RX4 yX4_lookAt wsX4_lookAt) := goodIn_app (goodIn_of _ (by decide +kernel)) ggX4_look_X4_lookAt
theorem dX4_look_0 : decode cX4_look 0 = .ok (.iconst 0, 1) := by decide +kernel
theorem dX4_look_1 : decode cX4_look 1 = .ok (.istore_n 3, 1) := by decide +kernel
theorem dX4_look_2 : decode cX4_look 2 = .ok (.iload_n 3, 1) := by decide +kernel
theorem dX4_look_3 : decode cX4_look 3 = .ok (.aload_n 1, 1) := by decide +kernel
theorem dX4_look_4 : decode cX4_look 4 = .ok (.getfield 28, 3) := by decide +kernel
theorem dX4_look_7 : decode cX4_look 7 = .ok (.if_icmp .ge 16, 3) := by decide +kernel
theorem dX4_look_10 : decode cX4_look 10 = .ok (.aload_n 0, 1) := by decide +kernel
theorem dX4_look_11 : decode cX4_look 11 = .ok (.aload_n 1, 1) := by decide +kernel
theorem dX4_look_12 : decode cX4_look 12 = .ok (.iload_n 2, 1) := by decide +kernel
theorem dX4_look_13 : decode cX4_look 13 = .ok (.iload_n 3, 1) := by decide +kernel
theorem dX4_look_14 : decode cX4_look 14 = .ok (.invokevirtual 31, 3) := by decide +kernel
theorem dX4_look_17 : decode cX4_look 17 = .ok (.iinc 3 1, 3) := by decide +kernel
theorem dX4_look_20 : decode cX4_look 20 = .ok (.goto (-18), 3) := by decide +kernel
theorem dX4_look_23 : decode cX4_look 23 = .ok (.return_, 1) := by decide +kernel
set_option maxRecDepth 20000 in
theorem ggX4_lookAt_X7_formerOf : GoodIn wsX4_lookAt wsX7_formerOf := goodIn_r _ [12] (by decide +kernel) (by decide +kernel)
set_option maxRecDepth 20000 in
theorem gX4_lookAt_X7_formerOf_n35 : GoodIn wsX4_lookAt (wsX7_formerOf) := ggX4_lookAt_X7_formerOf
set_option maxRecDepth 20000 in
theorem ggX4_lookAt_X5_step : GoodIn wsX4_lookAt wsX5_step := goodIn_r _ [17, 18, 35, 36, 37, 38, 39] (by decide +kernel) (by decide +kernel)
set_option maxRecDepth 20000 in
theorem gX4_lookAt_X5_step : GoodIn wsX4_lookAt (wsV RX4 39 RX5 yX5_step wsX5_step) := goodIn_app (goodIn_of _ (by decide +kernel)) ggX4_lookAt_X5_step
set_option maxRecDepth 20000 in
theorem ggX4_lookAt_X5_rowStart : GoodIn wsX4_lookAt wsX5_rowStart := goodIn_r _ [22, 23, 14, 15, 16, 17, 18, 24, 11, 25, 35, 36, 37, 38, 39] (by decide +kernel) (by decide +kernel)
set_option maxRecDepth 20000 in
theorem gX4_lookAt_X5_rowStart : GoodIn wsX4_lookAt (wsV RX4 42 RX5 yX5_rowStart wsX5_rowStart) := goodIn_app (goodIn_of _ (by decide +kernel)) ggX4_lookAt_X5_rowStart
set_option maxRecDepth 20000 in
theorem ggX4_lookAt_X5_number : GoodIn wsX4_lookAt wsX5_number := goodIn_r _ [29, 30, 31, 11, 32, 35, 36, 37, 38, 39] (by decide +kernel) (by decide +kernel)
set_option maxRecDepth 20000 in
theorem gX4_lookAt_X5_number : GoodIn wsX4_lookAt (wsV RX4 46 RX5 yX5_number wsX5_number) := goodIn_app (goodIn_of _ (by decide +kernel)) ggX4_lookAt_X5_number
set_option maxRecDepth 20000 in
theorem ggX4_lookAt_X7_setCell : GoodIn wsX4_lookAt wsX7_setCell := goodIn_r _ [34] (by decide +kernel) (by decide +kernel)
set_option maxRecDepth 20000 in
theorem gX4_lookAt_X7_setCell_n55 : GoodIn wsX4_lookAt (wsX7_setCell) := ggX4_lookAt_X7_setCell
theorem dX4_lookAt_0 : decode cX4_lookAt 0 = .ok (.aload_n 0, 1) := by decide +kernel
theorem dX4_lookAt_1 : decode cX4_lookAt 1 = .ok (.aload_n 1, 1) := by decide +kernel
theorem dX4_lookAt_2 : decode cX4_lookAt 2 = .ok (.getfield 28, 3) := by decide +kernel
theorem dX4_lookAt_5 : decode cX4_lookAt 5 = .ok (.putfield 9, 3) := by decide +kernel
theorem dX4_lookAt_8 : decode cX4_lookAt 8 = .ok (.iconst 0, 1) := by decide +kernel
theorem dX4_lookAt_9 : decode cX4_lookAt 9 = .ok (.istore 4, 2) := by decide +kernel
theorem dX4_lookAt_11 : decode cX4_lookAt 11 = .ok (.iconst 0, 1) := by decide +kernel
theorem dX4_lookAt_12 : decode cX4_lookAt 12 = .ok (.istore 5, 2) := by decide +kernel
theorem dX4_lookAt_14 : decode cX4_lookAt 14 = .ok (.sipush (-999), 3) := by decide +kernel
theorem dX4_lookAt_17 : decode cX4_lookAt 17 = .ok (.istore 6, 2) := by decide +kernel
theorem dX4_lookAt_19 : decode cX4_lookAt 19 = .ok (.iconst 1, 1) := by decide +kernel
theorem dX4_lookAt_20 : decode cX4_lookAt 20 = .ok (.istore 7, 2) := by decide +kernel
theorem dX4_lookAt_22 : decode cX4_lookAt 22 = .ok (.iconst 0, 1) := by decide +kernel
theorem dX4_lookAt_23 : decode cX4_lookAt 23 = .ok (.istore 8, 2) := by decide +kernel
theorem dX4_lookAt_25 : decode cX4_lookAt 25 = .ok (.aload_n 1, 1) := by decide +kernel
theorem dX4_lookAt_26 : decode cX4_lookAt 26 = .ok (.iload_n 2, 1) := by decide +kernel
theorem dX4_lookAt_27 : decode cX4_lookAt 27 = .ok (.invokestatic 35, 3) := by decide +kernel
theorem dX4_lookAt_30 : decode cX4_lookAt 30 = .ok (.invokevirtual 39, 3) := by decide +kernel
theorem dX4_lookAt_33 : decode cX4_lookAt 33 = .ok (.istore 9, 2) := by decide +kernel
theorem dX4_lookAt_35 : decode cX4_lookAt 35 = .ok (.iconst 0, 1) := by decide +kernel
theorem dX4_lookAt_36 : decode cX4_lookAt 36 = .ok (.istore 10, 2) := by decide +kernel
theorem dX4_lookAt_38 : decode cX4_lookAt 38 = .ok (.iload 10, 2) := by decide +kernel
theorem dX4_lookAt_40 : decode cX4_lookAt 40 = .ok (.aload_n 0, 1) := by decide +kernel
theorem dX4_lookAt_41 : decode cX4_lookAt 41 = .ok (.getfield 9, 3) := by decide +kernel
theorem dX4_lookAt_44 : decode cX4_lookAt 44 = .ok (.if_icmp .ge 103, 3) := by decide +kernel
theorem dX4_lookAt_47 : decode cX4_lookAt 47 = .ok (.aload_n 1, 1) := by decide +kernel
theorem dX4_lookAt_48 : decode cX4_lookAt 48 = .ok (.iload_n 2, 1) := by decide +kernel
theorem dX4_lookAt_49 : decode cX4_lookAt 49 = .ok (.iload_n 3, 1) := by decide +kernel
theorem dX4_lookAt_50 : decode cX4_lookAt 50 = .ok (.iload 10, 2) := by decide +kernel
theorem dX4_lookAt_52 : decode cX4_lookAt 52 = .ok (.invokevirtual 42, 3) := by decide +kernel
theorem dX4_lookAt_55 : decode cX4_lookAt 55 = .ok (.istore 11, 2) := by decide +kernel
theorem dX4_lookAt_57 : decode cX4_lookAt 57 = .ok (.iconst 0, 1) := by decide +kernel
theorem dX4_lookAt_58 : decode cX4_lookAt 58 = .ok (.istore 12, 2) := by decide +kernel
theorem dX4_lookAt_60 : decode cX4_lookAt 60 = .ok (.iload 12, 2) := by decide +kernel
theorem dX4_lookAt_62 : decode cX4_lookAt 62 = .ok (.aload_n 0, 1) := by decide +kernel
theorem dX4_lookAt_63 : decode cX4_lookAt 63 = .ok (.getfield 9, 3) := by decide +kernel
theorem dX4_lookAt_66 : decode cX4_lookAt 66 = .ok (.if_icmp .ge 75, 3) := by decide +kernel
theorem dX4_lookAt_69 : decode cX4_lookAt 69 = .ok (.aload_n 1, 1) := by decide +kernel
theorem dX4_lookAt_70 : decode cX4_lookAt 70 = .ok (.iload 11, 2) := by decide +kernel
theorem dX4_lookAt_72 : decode cX4_lookAt 72 = .ok (.invokevirtual 46, 3) := by decide +kernel
theorem dX4_lookAt_75 : decode cX4_lookAt 75 = .ok (.istore 13, 2) := by decide +kernel
theorem dX4_lookAt_77 : decode cX4_lookAt 77 = .ok (.iload 11, 2) := by decide +kernel
theorem dX4_lookAt_79 : decode cX4_lookAt 79 = .ok (.iload 9, 2) := by decide +kernel
theorem dX4_lookAt_81 : decode cX4_lookAt 81 = .ok (.iadd, 1) := by decide +kernel
theorem dX4_lookAt_82 : decode cX4_lookAt 82 = .ok (.istore 11, 2) := by decide +kernel
theorem dX4_lookAt_84 : decode cX4_lookAt 84 = .ok (.iload 4, 2) := by decide +kernel
theorem dX4_lookAt_86 : decode cX4_lookAt 86 = .ok (.iload 13, 2) := by decide +kernel
theorem dX4_lookAt_88 : decode cX4_lookAt 88 = .ok (.iadd, 1) := by decide +kernel
theorem dX4_lookAt_89 : decode cX4_lookAt 89 = .ok (.istore 4, 2) := by decide +kernel
theorem dX4_lookAt_91 : decode cX4_lookAt 91 = .ok (.iload 6, 2) := by decide +kernel
theorem dX4_lookAt_93 : decode cX4_lookAt 93 = .ok (.iload 13, 2) := by decide +kernel
theorem dX4_lookAt_95 : decode cX4_lookAt 95 = .ok (.invokestatic 49, 3) := by decide +kernel
theorem dX4_lookAt_98 : decode cX4_lookAt 98 = .ok (.istore 6, 2) := by decide +kernel
theorem dX4_lookAt_100 : decode cX4_lookAt 100 = .ok (.iload 13, 2) := by decide +kernel
theorem dX4_lookAt_102 : decode cX4_lookAt 102 = .ok (.ifCond .eq 21, 3) := by decide +kernel
theorem dX4_lookAt_105 : decode cX4_lookAt 105 = .ok (.iinc 5 1, 3) := by decide +kernel
theorem dX4_lookAt_108 : decode cX4_lookAt 108 = .ok (.iload 7, 2) := by decide +kernel
theorem dX4_lookAt_110 : decode cX4_lookAt 110 = .ok (.iload 8, 2) := by decide +kernel
theorem dX4_lookAt_112 : decode cX4_lookAt 112 = .ok (.ifCond .eq 7, 3) := by decide +kernel
theorem dX4_lookAt_115 : decode cX4_lookAt 115 = .ok (.iconst 1, 1) := by decide +kernel
theorem dX4_lookAt_116 : decode cX4_lookAt 116 = .ok (.goto 4, 3) := by decide +kernel
theorem dX4_lookAt_119 : decode cX4_lookAt 119 = .ok (.iconst 2, 1) := by decide +kernel
theorem dX4_lookAt_120 : decode cX4_lookAt 120 = .ok (.iadd, 1) := by decide +kernel
theorem dX4_lookAt_121 : decode cX4_lookAt 121 = .ok (.istore 7, 2) := by decide +kernel
theorem dX4_lookAt_123 : decode cX4_lookAt 123 = .ok (.iload 13, 2) := by decide +kernel
theorem dX4_lookAt_125 : decode cX4_lookAt 125 = .ok (.ifCond .eq 7, 3) := by decide +kernel
theorem dX4_lookAt_128 : decode cX4_lookAt 128 = .ok (.iconst 1, 1) := by decide +kernel
theorem dX4_lookAt_129 : decode cX4_lookAt 129 = .ok (.goto 4, 3) := by decide +kernel
theorem dX4_lookAt_132 : decode cX4_lookAt 132 = .ok (.iconst 0, 1) := by decide +kernel
theorem dX4_lookAt_133 : decode cX4_lookAt 133 = .ok (.istore 8, 2) := by decide +kernel
theorem dX4_lookAt_135 : decode cX4_lookAt 135 = .ok (.iinc 12 1, 3) := by decide +kernel
theorem dX4_lookAt_138 : decode cX4_lookAt 138 = .ok (.goto (-78), 3) := by decide +kernel
theorem dX4_lookAt_141 : decode cX4_lookAt 141 = .ok (.iinc 10 1, 3) := by decide +kernel
theorem dX4_lookAt_144 : decode cX4_lookAt 144 = .ok (.goto (-106), 3) := by decide +kernel
theorem dX4_lookAt_147 : decode cX4_lookAt 147 = .ok (.aload_n 0, 1) := by decide +kernel
theorem dX4_lookAt_148 : decode cX4_lookAt 148 = .ok (.getfield 15, 3) := by decide +kernel
theorem dX4_lookAt_151 : decode cX4_lookAt 151 = .ok (.iload_n 3, 1) := by decide +kernel
theorem dX4_lookAt_152 : decode cX4_lookAt 152 = .ok (.iload 4, 2) := by decide +kernel
theorem dX4_lookAt_154 : decode cX4_lookAt 154 = .ok (.invokestatic 55, 3) := by decide +kernel
theorem dX4_lookAt_157 : decode cX4_lookAt 157 = .ok (.aload_n 0, 1) := by decide +kernel
theorem dX4_lookAt_158 : decode cX4_lookAt 158 = .ok (.getfield 19, 3) := by decide +kernel
theorem dX4_lookAt_161 : decode cX4_lookAt 161 = .ok (.iload_n 3, 1) := by decide +kernel
theorem dX4_lookAt_162 : decode cX4_lookAt 162 = .ok (.iload 5, 2) := by decide +kernel
theorem dX4_lookAt_164 : decode cX4_lookAt 164 = .ok (.invokestatic 55, 3) := by decide +kernel
theorem dX4_lookAt_167 : decode cX4_lookAt 167 = .ok (.aload_n 0, 1) := by decide +kernel
theorem dX4_lookAt_168 : decode cX4_lookAt 168 = .ok (.getfield 22, 3) := by decide +kernel
theorem dX4_lookAt_171 : decode cX4_lookAt 171 = .ok (.iload_n 3, 1) := by decide +kernel
theorem dX4_lookAt_172 : decode cX4_lookAt 172 = .ok (.iload 6, 2) := by decide +kernel
theorem dX4_lookAt_174 : decode cX4_lookAt 174 = .ok (.invokestatic 55, 3) := by decide +kernel
theorem dX4_lookAt_177 : decode cX4_lookAt 177 = .ok (.aload_n 0, 1) := by decide +kernel
theorem dX4_lookAt_178 : decode cX4_lookAt 178 = .ok (.getfield 25, 3) := by decide +kernel
theorem dX4_lookAt_181 : decode cX4_lookAt 181 = .ok (.iload_n 3, 1) := by decide +kernel
theorem dX4_lookAt_182 : decode cX4_lookAt 182 = .ok (.iload 7, 2) := by decide +kernel
theorem dX4_lookAt_184 : decode cX4_lookAt 184 = .ok (.invokestatic 55, 3) := by decide +kernel
theorem dX4_lookAt_187 : decode cX4_lookAt 187 = .ok (.return_, 1) := by decide +kernel
set_option maxRecDepth 20000 in
theorem ggX4_form_X7_cell : GoodIn wsX4_form wsX7_cell := goodIn_r _ [4] (by decide +kernel) (by decide +kernel)
set_option maxRecDepth 20000 in
theorem gX4_form_X7_cell_n59 : GoodIn wsX4_form (wsX7_cell) := ggX4_form_X7_cell
theorem dX4_form_0 : decode cX4_form 0 = .ok (.aload_n 0, 1) := by decide +kernel
theorem dX4_form_1 : decode cX4_form 1 = .ok (.getfield 19, 3) := by decide +kernel
theorem dX4_form_4 : decode cX4_form 4 = .ok (.iload_n 1, 1) := by decide +kernel
theorem dX4_form_5 : decode cX4_form 5 = .ok (.invokestatic 59, 3) := by decide +kernel
theorem dX4_form_8 : decode cX4_form 8 = .ok (.istore_n 3, 1) := by decide +kernel
theorem dX4_form_9 : decode cX4_form 9 = .ok (.iload_n 3, 1) := by decide +kernel
theorem dX4_form_10 : decode cX4_form 10 = .ok (.ifCond .ne 5, 3) := by decide +kernel
theorem dX4_form_13 : decode cX4_form 13 = .ok (.iconst 0, 1) := by decide +kernel
theorem dX4_form_14 : decode cX4_form 14 = .ok (.ireturn, 1) := by decide +kernel
theorem dX4_form_15 : decode cX4_form 15 = .ok (.iload_n 3, 1) := by decide +kernel
theorem dX4_form_16 : decode cX4_form 16 = .ok (.iload_n 2, 1) := by decide +kernel
theorem dX4_form_17 : decode cX4_form 17 = .ok (.if_icmp .gt 7, 3) := by decide +kernel
theorem dX4_form_20 : decode cX4_form 20 = .ok (.iconst 1, 1) := by decide +kernel
theorem dX4_form_21 : decode cX4_form 21 = .ok (.goto 4, 3) := by decide +kernel
theorem dX4_form_24 : decode cX4_form 24 = .ok (.iconst 2, 1) := by decide +kernel
theorem dX4_form_25 : decode cX4_form 25 = .ok (.ireturn, 1) := by decide +kernel
set_option maxRecDepth 20000 in
theorem ggX4_room_X4_form : GoodIn wsX4_room wsX4_form := goodIn_r _ [7, 8, 9, 10, 11, 12, 13, 14, 15, 16] (by decide +kernel) (by decide +kernel)
set_option maxRecDepth 20000 in
theorem gX4_room_X4_form : GoodIn wsX4_room (wsV RX4 63 RX4 yX4_form wsX4_form) := goodIn_app (goodIn_of _ (by decide +kernel)) ggX4_room_X4_form
set_option maxRecDepth 20000 in
theorem ggX4_room_X7_cell : GoodIn wsX4_room wsX7_cell := goodIn_r _ [11] (by decide +kernel) (by decide +kernel)
set_option maxRecDepth 20000 in
theorem gX4_room_X7_cell_n59 : GoodIn wsX4_room (wsX7_cell) := ggX4_room_X7_cell
theorem dX4_room_0 : decode cX4_room 0 = .ok (.aload_n 0, 1) := by decide +kernel
theorem dX4_room_1 : decode cX4_room 1 = .ok (.iload_n 1, 1) := by decide +kernel
theorem dX4_room_2 : decode cX4_room 2 = .ok (.iload_n 2, 1) := by decide +kernel
theorem dX4_room_3 : decode cX4_room 3 = .ok (.invokevirtual 63, 3) := by decide +kernel
theorem dX4_room_6 : decode cX4_room 6 = .ok (.lookupswitch 37 #[(0, 26), (1, 28)], 26) := by decide +kernel
theorem dX4_room_32 : decode cX4_room 32 = .ok (.iconst 1, 1) := by decide +kernel
theorem dX4_room_33 : decode cX4_room 33 = .ok (.ireturn, 1) := by decide +kernel
theorem dX4_room_34 : decode cX4_room 34 = .ok (.aload_n 0, 1) := by decide +kernel
theorem dX4_room_35 : decode cX4_room 35 = .ok (.getfield 25, 3) := by decide +kernel
theorem dX4_room_38 : decode cX4_room 38 = .ok (.iload_n 1, 1) := by decide +kernel
theorem dX4_room_39 : decode cX4_room 39 = .ok (.invokestatic 59, 3) := by decide +kernel
theorem dX4_room_42 : decode cX4_room 42 = .ok (.ireturn, 1) := by decide +kernel
theorem dX4_room_43 : decode cX4_room 43 = .ok (.iconst 1, 1) := by decide +kernel
theorem dX4_room_44 : decode cX4_room 44 = .ok (.aload_n 0, 1) := by decide +kernel
theorem dX4_room_45 : decode cX4_room 45 = .ok (.getfield 9, 3) := by decide +kernel
theorem dX4_room_48 : decode cX4_room 48 = .ok (.aload_n 0, 1) := by decide +kernel
theorem dX4_room_49 : decode cX4_room 49 = .ok (.getfield 9, 3) := by decide +kernel
theorem dX4_room_52 : decode cX4_room 52 = .ok (.imul, 1) := by decide +kernel
theorem dX4_room_53 : decode cX4_room 53 = .ok (.iadd, 1) := by decide +kernel
theorem dX4_room_54 : decode cX4_room 54 = .ok (.ireturn, 1) := by decide +kernel
set_option maxRecDepth 20000 in
theorem ggX4_roomOfAll_X4_form : GoodIn wsX4_roomOfAll wsX4_form := goodIn_r _ [6, 7, 8, 9, 10, 16, 17, 18, 19, 20] (by decide +kernel) (by decide +kernel)
set_option maxRecDepth 20000 in
theorem gX4_roomOfAll_X4_form : GoodIn wsX4_roomOfAll (wsV RX4 63 RX4 yX4_form wsX4_form) := goodIn_app (goodIn_of _ (by decide +kernel)) ggX4_roomOfAll_X4_form
set_option maxRecDepth 20000 in
theorem ggX4_roomOfAll_X4_room : GoodIn wsX4_roomOfAll wsX4_room := goodIn_r _ [14, 15, 1, 2, 3, 4, 5, 6, 7, 8, 9, 10, 16, 17, 18, 19, 20] (by decide +kernel) (by decide +kernel)
set_option maxRecDepth 20000 in
theorem gX4_roomOfAll_X4_room : GoodIn wsX4_roomOfAll (wsV RX4 66 RX4 yX4_room wsX4_room) := goodIn_app (goodIn_of _ (by decide +kernel)) ggX4_roomOfAll_X4_room
theorem dX4_roomOfAll_0 : decode cX4_roomOfAll 0 = .ok (.iconst 0, 1) := by decide +kernel
theorem dX4_roomOfAll_1 : decode cX4_roomOfAll 1 = .ok (.istore_n 2, 1) := by decide +kernel
theorem dX4_roomOfAll_2 : decode cX4_roomOfAll 2 = .ok (.iconst 0, 1) := by decide +kernel
theorem dX4_roomOfAll_3 : decode cX4_roomOfAll 3 = .ok (.istore_n 3, 1) := by decide +kernel
theorem dX4_roomOfAll_4 : decode cX4_roomOfAll 4 = .ok (.iconst 0, 1) := by decide +kernel
theorem dX4_roomOfAll_5 : decode cX4_roomOfAll 5 = .ok (.istore 4, 2) := by decide +kernel
theorem dX4_roomOfAll_7 : decode cX4_roomOfAll 7 = .ok (.iload 4, 2) := by decide +kernel
theorem dX4_roomOfAll_9 : decode cX4_roomOfAll 9 = .ok (.aload_n 0, 1) := by decide +kernel
theorem dX4_roomOfAll_10 : decode cX4_roomOfAll 10 = .ok (.getfield 9, 3) := by decide +kernel
theorem dX4_roomOfAll_13 : decode cX4_roomOfAll 13 = .ok (.if_icmp .ge 48, 3) := by decide +kernel
theorem dX4_roomOfAll_16 : decode cX4_roomOfAll 16 = .ok (.aload_n 0, 1) := by decide +kernel
theorem dX4_roomOfAll_17 : decode cX4_roomOfAll 17 = .ok (.iload 4, 2) := by decide +kernel
theorem dX4_roomOfAll_19 : decode cX4_roomOfAll 19 = .ok (.iload_n 1, 1) := by decide +kernel
theorem dX4_roomOfAll_20 : decode cX4_roomOfAll 20 = .ok (.invokevirtual 63, 3) := by decide +kernel
theorem dX4_roomOfAll_23 : decode cX4_roomOfAll 23 = .ok (.ifCond .ne 7, 3) := by decide +kernel
theorem dX4_roomOfAll_26 : decode cX4_roomOfAll 26 = .ok (.iconst 1, 1) := by decide +kernel
theorem dX4_roomOfAll_27 : decode cX4_roomOfAll 27 = .ok (.goto 4, 3) := by decide +kernel
theorem dX4_roomOfAll_30 : decode cX4_roomOfAll 30 = .ok (.iconst 0, 1) := by decide +kernel
theorem dX4_roomOfAll_31 : decode cX4_roomOfAll 31 = .ok (.istore 5, 2) := by decide +kernel
theorem dX4_roomOfAll_33 : decode cX4_roomOfAll 33 = .ok (.iload 5, 2) := by decide +kernel
theorem dX4_roomOfAll_35 : decode cX4_roomOfAll 35 = .ok (.ifCond .eq 7, 3) := by decide +kernel
theorem dX4_roomOfAll_38 : decode cX4_roomOfAll 38 = .ok (.iload_n 3, 1) := by decide +kernel
theorem dX4_roomOfAll_39 : decode cX4_roomOfAll 39 = .ok (.ifCond .ne 13, 3) := by decide +kernel
theorem dX4_roomOfAll_42 : decode cX4_roomOfAll 42 = .ok (.iload_n 2, 1) := by decide +kernel
theorem dX4_roomOfAll_43 : decode cX4_roomOfAll 43 = .ok (.aload_n 0, 1) := by decide +kernel
theorem dX4_roomOfAll_44 : decode cX4_roomOfAll 44 = .ok (.iload 4, 2) := by decide +kernel
theorem dX4_roomOfAll_46 : decode cX4_roomOfAll 46 = .ok (.iload_n 1, 1) := by decide +kernel
theorem dX4_roomOfAll_47 : decode cX4_roomOfAll 47 = .ok (.invokevirtual 66, 3) := by decide +kernel
theorem dX4_roomOfAll_50 : decode cX4_roomOfAll 50 = .ok (.iadd, 1) := by decide +kernel
theorem dX4_roomOfAll_51 : decode cX4_roomOfAll 51 = .ok (.istore_n 2, 1) := by decide +kernel
theorem dX4_roomOfAll_52 : decode cX4_roomOfAll 52 = .ok (.iload 5, 2) := by decide +kernel
theorem dX4_roomOfAll_54 : decode cX4_roomOfAll 54 = .ok (.istore_n 3, 1) := by decide +kernel
theorem dX4_roomOfAll_55 : decode cX4_roomOfAll 55 = .ok (.iinc 4 1, 3) := by decide +kernel
theorem dX4_roomOfAll_58 : decode cX4_roomOfAll 58 = .ok (.goto (-51), 3) := by decide +kernel
theorem dX4_roomOfAll_61 : decode cX4_roomOfAll 61 = .ok (.iload_n 2, 1) := by decide +kernel
theorem dX4_roomOfAll_62 : decode cX4_roomOfAll 62 = .ok (.ireturn, 1) := by decide +kernel
set_option maxRecDepth 20000 in
theorem ggX4_countOfForm_X4_form : GoodIn wsX4_countOfForm wsX4_form := goodIn_r _ [6, 7, 8, 9, 10, 11, 12, 13, 14, 15] (by decide +kernel) (by decide +kernel)
set_option maxRecDepth 20000 in
theorem gX4_countOfForm_X4_form : GoodIn wsX4_countOfForm (wsV RX4 63 RX4 yX4_form wsX4_form) := goodIn_app (goodIn_of _ (by decide +kernel)) ggX4_countOfForm_X4_form
theorem dX4_countOfForm_0 : decode cX4_countOfForm 0 = .ok (.iconst 0, 1) := by decide +kernel
theorem dX4_countOfForm_1 : decode cX4_countOfForm 1 = .ok (.istore_n 3, 1) := by decide +kernel
theorem dX4_countOfForm_2 : decode cX4_countOfForm 2 = .ok (.iconst 0, 1) := by decide +kernel
theorem dX4_countOfForm_3 : decode cX4_countOfForm 3 = .ok (.istore 4, 2) := by decide +kernel
theorem dX4_countOfForm_5 : decode cX4_countOfForm 5 = .ok (.iload 4, 2) := by decide +kernel
theorem dX4_countOfForm_7 : decode cX4_countOfForm 7 = .ok (.aload_n 0, 1) := by decide +kernel
theorem dX4_countOfForm_8 : decode cX4_countOfForm 8 = .ok (.getfield 9, 3) := by decide +kernel
theorem dX4_countOfForm_11 : decode cX4_countOfForm 11 = .ok (.if_icmp .ge 23, 3) := by decide +kernel
theorem dX4_countOfForm_14 : decode cX4_countOfForm 14 = .ok (.aload_n 0, 1) := by decide +kernel
theorem dX4_countOfForm_15 : decode cX4_countOfForm 15 = .ok (.iload 4, 2) := by decide +kernel
theorem dX4_countOfForm_17 : decode cX4_countOfForm 17 = .ok (.iload_n 2, 1) := by decide +kernel
theorem dX4_countOfForm_18 : decode cX4_countOfForm 18 = .ok (.invokevirtual 63, 3) := by decide +kernel
theorem dX4_countOfForm_21 : decode cX4_countOfForm 21 = .ok (.iload_n 1, 1) := by decide +kernel
theorem dX4_countOfForm_22 : decode cX4_countOfForm 22 = .ok (.if_icmp .ne 6, 3) := by decide +kernel
theorem dX4_countOfForm_25 : decode cX4_countOfForm 25 = .ok (.iinc 3 1, 3) := by decide +kernel
theorem dX4_countOfForm_28 : decode cX4_countOfForm 28 = .ok (.iinc 4 1, 3) := by decide +kernel
theorem dX4_countOfForm_31 : decode cX4_countOfForm 31 = .ok (.goto (-26), 3) := by decide +kernel
theorem dX4_countOfForm_34 : decode cX4_countOfForm 34 = .ok (.iload_n 3, 1) := by decide +kernel
theorem dX4_countOfForm_35 : decode cX4_countOfForm 35 = .ok (.ireturn, 1) := by decide +kernel
set_option maxRecDepth 20000 in
theorem ggX4_told_X7_cell : GoodIn wsX4_told wsX7_cell := goodIn_r _ [6] (by decide +kernel) (by decide +kernel)
set_option maxRecDepth 20000 in
theorem gX4_told_X7_cell_n59 : GoodIn wsX4_told (wsX7_cell) := ggX4_told_X7_cell
set_option maxRecDepth 20000 in
theorem ggX4_told_X4_form : GoodIn wsX4_told wsX4_form := goodIn_r _ [11, 2, 4, 5, 6, 18, 19, 20, 21, 22] (by decide +kernel) (by decide +kernel)
set_option maxRecDepth 20000 in
theorem gX4_told_X4_form : GoodIn wsX4_told (wsV RX4 63 RX4 yX4_form wsX4_form) := goodIn_app (goodIn_of _ (by decide +kernel)) ggX4_told_X4_form
set_option maxRecDepth 20000 in
theorem ggX4_told_X4_room : GoodIn wsX4_told wsX4_room := goodIn_r _ [15, 16, 17, 7, 8, 9, 10, 11, 2, 4, 5, 6, 18, 19, 20, 21, 22] (by decide +kernel) (by decide +kernel)
set_option maxRecDepth 20000 in
theorem gX4_told_X4_room : GoodIn wsX4_told (wsV RX4 66 RX4 yX4_room wsX4_room) := goodIn_app (goodIn_of _ (by decide +kernel)) ggX4_told_X4_room
theorem dX4_told_0 : decode cX4_told 0 = .ok (.iload_n 2, 1) := by decide +kernel
theorem dX4_told_1 : decode cX4_told 1 = .ok (.tableswitch 65 0 3 #[31, 40, 49, 58], 31) := by decide +kernel
theorem dX4_told_32 : decode cX4_told 32 = .ok (.aload_n 0, 1) := by decide +kernel
theorem dX4_told_33 : decode cX4_told 33 = .ok (.getfield 15, 3) := by decide +kernel
theorem dX4_told_36 : decode cX4_told 36 = .ok (.iload_n 1, 1) := by decide +kernel
theorem dX4_told_37 : decode cX4_told 37 = .ok (.invokestatic 59, 3) := by decide +kernel
theorem dX4_told_40 : decode cX4_told 40 = .ok (.ireturn, 1) := by decide +kernel
theorem dX4_told_41 : decode cX4_told 41 = .ok (.aload_n 0, 1) := by decide +kernel
theorem dX4_told_42 : decode cX4_told 42 = .ok (.getfield 19, 3) := by decide +kernel
theorem dX4_told_45 : decode cX4_told 45 = .ok (.iload_n 1, 1) := by decide +kernel
theorem dX4_told_46 : decode cX4_told 46 = .ok (.invokestatic 59, 3) := by decide +kernel
theorem dX4_told_49 : decode cX4_told 49 = .ok (.ireturn, 1) := by decide +kernel
theorem dX4_told_50 : decode cX4_told 50 = .ok (.aload_n 0, 1) := by decide +kernel
theorem dX4_told_51 : decode cX4_told 51 = .ok (.getfield 22, 3) := by decide +kernel
theorem dX4_told_54 : decode cX4_told 54 = .ok (.iload_n 1, 1) := by decide +kernel
theorem dX4_told_55 : decode cX4_told 55 = .ok (.invokestatic 59, 3) := by decide +kernel
theorem dX4_told_58 : decode cX4_told 58 = .ok (.ireturn, 1) := by decide +kernel
theorem dX4_told_59 : decode cX4_told 59 = .ok (.aload_n 0, 1) := by decide +kernel
theorem dX4_told_60 : decode cX4_told 60 = .ok (.iload_n 1, 1) := by decide +kernel
theorem dX4_told_61 : decode cX4_told 61 = .ok (.iload_n 3, 1) := by decide +kernel
theorem dX4_told_62 : decode cX4_told 62 = .ok (.invokevirtual 63, 3) := by decide +kernel
theorem dX4_told_65 : decode cX4_told 65 = .ok (.ireturn, 1) := by decide +kernel
theorem dX4_told_66 : decode cX4_told 66 = .ok (.aload_n 0, 1) := by decide +kernel
theorem dX4_told_67 : decode cX4_told 67 = .ok (.iload_n 1, 1) := by decide +kernel
theorem dX4_told_68 : decode cX4_told 68 = .ok (.iload_n 3, 1) := by decide +kernel
theorem dX4_told_69 : decode cX4_told 69 = .ok (.invokevirtual 66, 3) := by decide +kernel
theorem dX4_told_72 : decode cX4_told 72 = .ok (.ireturn, 1) := by decide +kernel
theorem dX5_init_0 : decode cX5_init 0 = .ok (.aload_n 0, 1) := by decide +kernel
theorem dX5_init_1 : decode cX5_init 1 = .ok (.invokespecial 3, 3) := by decide +kernel
theorem dX5_init_4 : decode cX5_init 4 = .ok (.aload_n 0, 1) := by decide +kernel
theorem dX5_init_5 : decode cX5_init 5 = .ok (.iconst 4, 1) := by decide +kernel
theorem dX5_init_6 : decode cX5_init 6 = .ok (.putfield 9, 3) := by decide +kernel
theorem dX5_init_9 : decode cX5_init 9 = .ok (.aload_n 0, 1) := by decide +kernel
theorem dX5_init_10 : decode cX5_init 10 = .ok (.iconst 2, 1) := by decide +kernel
theorem dX5_init_11 : decode cX5_init 11 = .ok (.putfield 15, 3) := by decide +kernel
theorem dX5_init_14 : decode cX5_init 14 = .ok (.aload_n 0, 1) := by decide +kernel
theorem dX5_init_15 : decode cX5_init 15 = .ok (.iconst 4, 1) := by decide +kernel
theorem dX5_init_16 : decode cX5_init 16 = .ok (.putfield 18, 3) := by decide +kernel
theorem dX5_init_19 : decode cX5_init 19 = .ok (.aload_n 0, 1) := by decide +kernel
theorem dX5_init_20 : decode cX5_init 20 = .ok (.sipush 512, 3) := by decide +kernel
theorem dX5_init_23 : decode cX5_init 23 = .ok (.newarray .int, 2) := by decide +kernel
theorem dX5_init_25 : decode cX5_init 25 = .ok (.putfield 21, 3) := by decide +kernel
theorem dX5_init_28 : decode cX5_init 28 = .ok (.aload_n 0, 1) := by decide +kernel
theorem dX5_init_29 : decode cX5_init 29 = .ok (.sipush 512, 3) := by decide +kernel
theorem dX5_init_32 : decode cX5_init 32 = .ok (.newarray .int, 2) := by decide +kernel
theorem dX5_init_34 : decode cX5_init 34 = .ok (.putfield 25, 3) := by decide +kernel
theorem dX5_init_37 : decode cX5_init 37 = .ok (.return_, 1) := by decide +kernel
set_option maxRecDepth 20000 in
theorem ggX5_copyFrom_X7_copyRow : GoodIn wsX5_copyFrom wsX7_copyRow := goodIn_r _ [8, 9, 10, 11, 12] (by decide +kernel) (by decide +kernel)
set_option maxRecDepth 20000 in
theorem gX5_copyFrom_X7_copyRow_n28 : GoodIn wsX5_copyFrom (wsX7_copyRow) := ggX5_copyFrom_X7_copyRow
theorem dX5_copyFrom_0 : decode cX5_copyFrom 0 = .ok (.aload_n 1, 1) := by decide +kernel
theorem dX5_copyFrom_1 : decode cX5_copyFrom 1 = .ok (.ifnonnull 4, 3) := by decide +kernel
theorem dX5_copyFrom_4 : decode cX5_copyFrom 4 = .ok (.return_, 1) := by decide +kernel
theorem dX5_copyFrom_5 : decode cX5_copyFrom 5 = .ok (.aload_n 0, 1) := by decide +kernel
theorem dX5_copyFrom_6 : decode cX5_copyFrom 6 = .ok (.aload_n 1, 1) := by decide +kernel
theorem dX5_copyFrom_7 : decode cX5_copyFrom 7 = .ok (.getfield 9, 3) := by decide +kernel
theorem dX5_copyFrom_10 : decode cX5_copyFrom 10 = .ok (.putfield 9, 3) := by decide +kernel
theorem dX5_copyFrom_13 : decode cX5_copyFrom 13 = .ok (.aload_n 0, 1) := by decide +kernel
theorem dX5_copyFrom_14 : decode cX5_copyFrom 14 = .ok (.aload_n 1, 1) := by decide +kernel
theorem dX5_copyFrom_15 : decode cX5_copyFrom 15 = .ok (.getfield 15, 3) := by decide +kernel
theorem dX5_copyFrom_18 : decode cX5_copyFrom 18 = .ok (.putfield 15, 3) := by decide +kernel
theorem dX5_copyFrom_21 : decode cX5_copyFrom 21 = .ok (.aload_n 0, 1) := by decide +kernel
theorem dX5_copyFrom_22 : decode cX5_copyFrom 22 = .ok (.aload_n 1, 1) := by decide +kernel
theorem dX5_copyFrom_23 : decode cX5_copyFrom 23 = .ok (.getfield 18, 3) := by decide +kernel
theorem dX5_copyFrom_26 : decode cX5_copyFrom 26 = .ok (.putfield 18, 3) := by decide +kernel
theorem dX5_copyFrom_29 : decode cX5_copyFrom 29 = .ok (.aload_n 1, 1) := by decide +kernel
theorem dX5_copyFrom_30 : decode cX5_copyFrom 30 = .ok (.getfield 21, 3) := by decide +kernel
theorem dX5_copyFrom_33 : decode cX5_copyFrom 33 = .ok (.aload_n 0, 1) := by decide +kernel
theorem dX5_copyFrom_34 : decode cX5_copyFrom 34 = .ok (.getfield 21, 3) := by decide +kernel
theorem dX5_copyFrom_37 : decode cX5_copyFrom 37 = .ok (.invokestatic 28, 3) := by decide +kernel
theorem dX5_copyFrom_40 : decode cX5_copyFrom 40 = .ok (.aload_n 1, 1) := by decide +kernel
theorem dX5_copyFrom_41 : decode cX5_copyFrom 41 = .ok (.getfield 25, 3) := by decide +kernel
theorem dX5_copyFrom_44 : decode cX5_copyFrom 44 = .ok (.aload_n 0, 1) := by decide +kernel
theorem dX5_copyFrom_45 : decode cX5_copyFrom 45 = .ok (.getfield 25, 3) := by decide +kernel
theorem dX5_copyFrom_48 : decode cX5_copyFrom 48 = .ok (.invokestatic 28, 3) := by decide +kernel
theorem dX5_copyFrom_51 : decode cX5_copyFrom 51 = .ok (.return_, 1) := by decide +kernel
set_option maxRecDepth 20000 in
theorem ggX5_clear_X7_setCell : GoodIn wsX5_clear wsX7_setCell := goodIn_r _ [6] (by decide +kernel) (by decide +kernel)
set_option maxRecDepth 20000 in
theorem gX5_clear_X7_setCell_n32 : GoodIn wsX5_clear (wsX7_setCell) := ggX5_clear_X7_setCell
theorem dX5_clear_0 : decode cX5_clear 0 = .ok (.aload_n 0, 1) := by decide +kernel
theorem dX5_clear_1 : decode cX5_clear 1 = .ok (.iload_n 1, 1) := by decide +kernel
theorem dX5_clear_2 : decode cX5_clear 2 = .ok (.putfield 9, 3) := by decide +kernel
theorem dX5_clear_5 : decode cX5_clear 5 = .ok (.iconst 0, 1) := by decide +kernel
theorem dX5_clear_6 : decode cX5_clear 6 = .ok (.istore_n 2, 1) := by decide +kernel
theorem dX5_clear_7 : decode cX5_clear 7 = .ok (.iload_n 2, 1) := by decide +kernel
theorem dX5_clear_8 : decode cX5_clear 8 = .ok (.sipush 512, 3) := by decide +kernel
theorem dX5_clear_11 : decode cX5_clear 11 = .ok (.if_icmp .ge 27, 3) := by decide +kernel
theorem dX5_clear_14 : decode cX5_clear 14 = .ok (.aload_n 0, 1) := by decide +kernel
theorem dX5_clear_15 : decode cX5_clear 15 = .ok (.getfield 21, 3) := by decide +kernel
theorem dX5_clear_18 : decode cX5_clear 18 = .ok (.iload_n 2, 1) := by decide +kernel
theorem dX5_clear_19 : decode cX5_clear 19 = .ok (.iconst 0, 1) := by decide +kernel
theorem dX5_clear_20 : decode cX5_clear 20 = .ok (.invokestatic 32, 3) := by decide +kernel
theorem dX5_clear_23 : decode cX5_clear 23 = .ok (.aload_n 0, 1) := by decide +kernel
theorem dX5_clear_24 : decode cX5_clear 24 = .ok (.getfield 25, 3) := by decide +kernel
theorem dX5_clear_27 : decode cX5_clear 27 = .ok (.iload_n 2, 1) := by decide +kernel
theorem dX5_clear_28 : decode cX5_clear 28 = .ok (.iconst 0, 1) := by decide +kernel
theorem dX5_clear_29 : decode cX5_clear 29 = .ok (.invokestatic 32, 3) := by decide +kernel
theorem dX5_clear_32 : decode cX5_clear 32 = .ok (.iinc 2 1, 3) := by decide +kernel
theorem dX5_clear_35 : decode cX5_clear 35 = .ok (.goto (-28), 3) := by decide +kernel
theorem dX5_clear_38 : decode cX5_clear 38 = .ok (.return_, 1) := by decide +kernel
theorem dX5_points_0 : decode cX5_points 0 = .ok (.aload_n 0, 1) := by decide +kernel
theorem dX5_points_1 : decode cX5_points 1 = .ok (.getfield 9, 3) := by decide +kernel
theorem dX5_points_4 : decode cX5_points 4 = .ok (.aload_n 0, 1) := by decide +kernel
theorem dX5_points_5 : decode cX5_points 5 = .ok (.getfield 9, 3) := by decide +kernel
theorem dX5_points_8 : decode cX5_points 8 = .ok (.imul, 1) := by decide +kernel
theorem dX5_points_9 : decode cX5_points 9 = .ok (.aload_n 0, 1) := by decide +kernel
theorem dX5_points_10 : decode cX5_points 10 = .ok (.getfield 9, 3) := by decide +kernel
theorem dX5_points_13 : decode cX5_points 13 = .ok (.imul, 1) := by decide +kernel
theorem dX5_points_14 : decode cX5_points 14 = .ok (.ireturn, 1) := by decide +kernel
theorem dX5_hasCoordinate_0 : decode cX5_hasCoordinate 0 = .ok (.iload_n 1, 1) := by decide +kernel
theorem dX5_hasCoordinate_1 : decode cX5_hasCoordinate 1 = .ok (.ifCond .lt 15, 3) := by decide +kernel
theorem dX5_hasCoordinate_4 : decode cX5_hasCoordinate 4 = .ok (.iload_n 1, 1) := by decide +kernel
theorem dX5_hasCoordinate_5 : decode cX5_hasCoordinate 5 = .ok (.aload_n 0, 1) := by decide +kernel
theorem dX5_hasCoordinate_6 : decode cX5_hasCoordinate 6 = .ok (.getfield 9, 3) := by decide +kernel
theorem dX5_hasCoordinate_9 : decode cX5_hasCoordinate 9 = .ok (.if_icmp .ge 7, 3) := by decide +kernel
theorem dX5_hasCoordinate_12 : decode cX5_hasCoordinate 12 = .ok (.iconst 1, 1) := by decide +kernel
theorem dX5_hasCoordinate_13 : decode cX5_hasCoordinate 13 = .ok (.goto 4, 3) := by decide +kernel
theorem dX5_hasCoordinate_16 : decode cX5_hasCoordinate 16 = .ok (.iconst 0, 1) := by decide +kernel
theorem dX5_hasCoordinate_17 : decode cX5_hasCoordinate 17 = .ok (.ireturn, 1) := by decide +kernel
set_option maxRecDepth 20000 in
theorem ggX5_hasPoint_X5_hasCoordinate : GoodIn wsX5_hasPoint wsX5_hasCoordinate := goodIn_r _ [5, 6, 7, 8, 9, 10, 11] (by decide +kernel) (by decide +kernel)
set_option maxRecDepth 20000 in
theorem gX5_hasPoint_X5_hasCoordinate : GoodIn wsX5_hasPoint (wsV RX5 36 RX5 yX5_hasCoordinate wsX5_hasCoordinate) := goodIn_app (goodIn_of _ (by decide +kernel)) ggX5_hasPoint_X5_hasCoordinate
theorem dX5_hasPoint_0 : decode cX5_hasPoint 0 = .ok (.aload_n 0, 1) := by decide +kernel
theorem dX5_hasPoint_1 : decode cX5_hasPoint 1 = .ok (.iload_n 1, 1) := by decide +kernel
theorem dX5_hasPoint_2 : decode cX5_hasPoint 2 = .ok (.invokevirtual 36, 3) := by decide +kernel
theorem dX5_hasPoint_5 : decode cX5_hasPoint 5 = .ok (.ifCond .eq 23, 3) := by decide +kernel
theorem dX5_hasPoint_8 : decode cX5_hasPoint 8 = .ok (.aload_n 0, 1) := by decide +kernel
theorem dX5_hasPoint_9 : decode cX5_hasPoint 9 = .ok (.iload_n 2, 1) := by decide +kernel
theorem dX5_hasPoint_10 : decode cX5_hasPoint 10 = .ok (.invokevirtual 36, 3) := by decide +kernel
theorem dX5_hasPoint_13 : decode cX5_hasPoint 13 = .ok (.ifCond .eq 15, 3) := by decide +kernel
theorem dX5_hasPoint_16 : decode cX5_hasPoint 16 = .ok (.aload_n 0, 1) := by decide +kernel
theorem dX5_hasPoint_17 : decode cX5_hasPoint 17 = .ok (.iload_n 3, 1) := by decide +kernel
theorem dX5_hasPoint_18 : decode cX5_hasPoint 18 = .ok (.invokevirtual 36, 3) := by decide +kernel
theorem dX5_hasPoint_21 : decode cX5_hasPoint 21 = .ok (.ifCond .eq 7, 3) := by decide +kernel
theorem dX5_hasPoint_24 : decode cX5_hasPoint 24 = .ok (.iconst 1, 1) := by decide +kernel
theorem dX5_hasPoint_25 : decode cX5_hasPoint 25 = .ok (.goto 4, 3) := by decide +kernel
theorem dX5_hasPoint_28 : decode cX5_hasPoint 28 = .ok (.iconst 0, 1) := by decide +kernel
theorem dX5_hasPoint_29 : decode cX5_hasPoint 29 = .ok (.ireturn, 1) := by decide +kernel
theorem dX5_step_0 : decode cX5_step 0 = .ok (.iload_n 1, 1) := by decide +kernel
theorem dX5_step_1 : decode cX5_step 1 = .ok (.ifCond .ne 5, 3) := by decide +kernel
theorem dX5_step_4 : decode cX5_step 4 = .ok (.iconst 1, 1) := by decide +kernel
theorem dX5_step_5 : decode cX5_step 5 = .ok (.ireturn, 1) := by decide +kernel
theorem dX5_step_6 : decode cX5_step 6 = .ok (.iload_n 1, 1) := by decide +kernel
theorem dX5_step_7 : decode cX5_step 7 = .ok (.iconst 1, 1) := by decide +kernel
theorem dX5_step_8 : decode cX5_step 8 = .ok (.if_icmp .ne 10, 3) := by decide +kernel
theorem dX5_step_11 : decode cX5_step 11 = .ok (.aload_n 0, 1) := by decide +kernel
theorem dX5_step_12 : decode cX5_step 12 = .ok (.getfield 9, 3) := by decide +kernel
theorem dX5_step_15 : decode cX5_step 15 = .ok (.goto 12, 3) := by decide +kernel
theorem dX5_step_18 : decode cX5_step 18 = .ok (.aload_n 0, 1) := by decide +kernel
theorem dX5_step_19 : decode cX5_step 19 = .ok (.getfield 9, 3) := by decide +kernel
theorem dX5_step_22 : decode cX5_step 22 = .ok (.aload_n 0, 1) := by decide +kernel
theorem dX5_step_23 : decode cX5_step 23 = .ok (.getfield 9, 3) := by decide +kernel
theorem dX5_step_26 : decode cX5_step 26 = .ok (.imul, 1) := by decide +kernel
theorem dX5_step_27 : decode cX5_step 27 = .ok (.ireturn, 1) := by decide +kernel
theorem dX5_place_0 : decode cX5_place 0 = .ok (.iload_n 1, 1) := by decide +kernel
theorem dX5_place_1 : decode cX5_place 1 = .ok (.aload_n 0, 1) := by decide +kernel
theorem dX5_place_2 : decode cX5_place 2 = .ok (.getfield 9, 3) := by decide +kernel
theorem dX5_place_5 : decode cX5_place 5 = .ok (.iload_n 2, 1) := by decide +kernel
theorem dX5_place_6 : decode cX5_place 6 = .ok (.aload_n 0, 1) := by decide +kernel
theorem dX5_place_7 : decode cX5_place 7 = .ok (.getfield 9, 3) := by decide +kernel
theorem dX5_place_10 : decode cX5_place 10 = .ok (.iload_n 3, 1) := by decide +kernel
theorem dX5_place_11 : decode cX5_place 11 = .ok (.imul, 1) := by decide +kernel
theorem dX5_place_12 : decode cX5_place 12 = .ok (.iadd, 1) := by decide +kernel
theorem dX5_place_13 : decode cX5_place 13 = .ok (.imul, 1) := by decide +kernel
theorem dX5_place_14 : decode cX5_place 14 = .ok (.iadd, 1) := by decide +kernel
theorem dX5_place_15 : decode cX5_place 15 = .ok (.ireturn, 1) := by decide +kernel
set_option maxRecDepth 20000 in
theorem ggX5_coordinate_X5_step : GoodIn wsX5_coordinate wsX5_step := goodIn_r _ [6, 1, 7, 8, 9, 10, 11] (by decide +kernel) (by decide +kernel)
set_option maxRecDepth 20000 in
theorem gX5_coordinate_X5_step : GoodIn wsX5_coordinate (wsV RX5 40 RX5 yX5_step wsX5_step) := goodIn_app (goodIn_of _ (by decide +kernel)) ggX5_coordinate_X5_step
theorem dX5_coordinate_0 : decode cX5_coordinate 0 = .ok (.aload_n 0, 1) := by decide +kernel
theorem dX5_coordinate_1 : decode cX5_coordinate 1 = .ok (.iload_n 2, 1) := by decide +kernel
theorem dX5_coordinate_2 : decode cX5_coordinate 2 = .ok (.invokevirtual 40, 3) := by decide +kernel
theorem dX5_coordinate_5 : decode cX5_coordinate 5 = .ok (.istore_n 3, 1) := by decide +kernel
theorem dX5_coordinate_6 : decode cX5_coordinate 6 = .ok (.iload_n 3, 1) := by decide +kernel
theorem dX5_coordinate_7 : decode cX5_coordinate 7 = .ok (.ifCond .le 21, 3) := by decide +kernel
theorem dX5_coordinate_10 : decode cX5_coordinate 10 = .ok (.aload_n 0, 1) := by decide +kernel
theorem dX5_coordinate_11 : decode cX5_coordinate 11 = .ok (.getfield 9, 3) := by decide +kernel
theorem dX5_coordinate_14 : decode cX5_coordinate 14 = .ok (.ifCond .le 14, 3) := by decide +kernel
theorem dX5_coordinate_17 : decode cX5_coordinate 17 = .ok (.iload_n 1, 1) := by decide +kernel
theorem dX5_coordinate_18 : decode cX5_coordinate 18 = .ok (.iload_n 3, 1) := by decide +kernel
theorem dX5_coordinate_19 : decode cX5_coordinate 19 = .ok (.idiv, 1) := by decide +kernel
theorem dX5_coordinate_20 : decode cX5_coordinate 20 = .ok (.aload_n 0, 1) := by decide +kernel
theorem dX5_coordinate_21 : decode cX5_coordinate 21 = .ok (.getfield 9, 3) := by decide +kernel
theorem dX5_coordinate_24 : decode cX5_coordinate 24 = .ok (.irem, 1) := by decide +kernel
theorem dX5_coordinate_25 : decode cX5_coordinate 25 = .ok (.goto 4, 3) := by decide +kernel
theorem dX5_coordinate_28 : decode cX5_coordinate 28 = .ok (.iconst 0, 1) := by decide +kernel
theorem dX5_coordinate_29 : decode cX5_coordinate 29 = .ok (.ireturn, 1) := by decide +kernel
set_option maxRecDepth 20000 in
theorem ggX5_lineStart_X7_formerOf : GoodIn wsX5_lineStart wsX7_formerOf := goodIn_r _ [3] (by decide +kernel) (by decide +kernel)
set_option maxRecDepth 20000 in
theorem gX5_lineStart_X7_formerOf_n44 : GoodIn wsX5_lineStart (wsX7_formerOf) := ggX5_lineStart_X7_formerOf
set_option maxRecDepth 20000 in
theorem ggX5_lineStart_X5_step : GoodIn wsX5_lineStart wsX5_step := goodIn_r _ [8, 9, 12, 13, 14, 15, 16] (by decide +kernel) (by decide +kernel)
set_option maxRecDepth 20000 in
theorem gX5_lineStart_X5_step : GoodIn wsX5_lineStart (wsV RX5 40 RX5 yX5_step wsX5_step) := goodIn_app (goodIn_of _ (by decide +kernel)) ggX5_lineStart_X5_step
set_option maxRecDepth 20000 in
theorem ggX5_lineStart_X7_latterOf : GoodIn wsX5_lineStart wsX7_latterOf := goodIn_r _ [11] (by decide +kernel) (by decide +kernel)
set_option maxRecDepth 20000 in
theorem gX5_lineStart_X7_latterOf_n47 : GoodIn wsX5_lineStart (wsX7_latterOf) := ggX5_lineStart_X7_latterOf
theorem dX5_lineStart_0 : decode cX5_lineStart 0 = .ok (.iload_n 2, 1) := by decide +kernel
theorem dX5_lineStart_1 : decode cX5_lineStart 1 = .ok (.aload_n 0, 1) := by decide +kernel
theorem dX5_lineStart_2 : decode cX5_lineStart 2 = .ok (.iload_n 1, 1) := by decide +kernel
theorem dX5_lineStart_3 : decode cX5_lineStart 3 = .ok (.invokestatic 44, 3) := by decide +kernel
theorem dX5_lineStart_6 : decode cX5_lineStart 6 = .ok (.invokevirtual 40, 3) := by decide +kernel
theorem dX5_lineStart_9 : decode cX5_lineStart 9 = .ok (.imul, 1) := by decide +kernel
theorem dX5_lineStart_10 : decode cX5_lineStart 10 = .ok (.iload_n 3, 1) := by decide +kernel
theorem dX5_lineStart_11 : decode cX5_lineStart 11 = .ok (.aload_n 0, 1) := by decide +kernel
theorem dX5_lineStart_12 : decode cX5_lineStart 12 = .ok (.iload_n 1, 1) := by decide +kernel
theorem dX5_lineStart_13 : decode cX5_lineStart 13 = .ok (.invokestatic 47, 3) := by decide +kernel
theorem dX5_lineStart_16 : decode cX5_lineStart 16 = .ok (.invokevirtual 40, 3) := by decide +kernel
theorem dX5_lineStart_19 : decode cX5_lineStart 19 = .ok (.imul, 1) := by decide +kernel
theorem dX5_lineStart_20 : decode cX5_lineStart 20 = .ok (.iadd, 1) := by decide +kernel
theorem dX5_lineStart_21 : decode cX5_lineStart 21 = .ok (.ireturn, 1) := by decide +kernel
set_option maxRecDepth 20000 in
theorem ggX5_rowStart_X5_step : GoodIn wsX5_rowStart wsX5_step := goodIn_r _ [5, 6, 10, 11, 12, 13, 14] (by decide +kernel) (by decide +kernel)
set_option maxRecDepth 20000 in
theorem gX5_rowStart_X5_step : GoodIn wsX5_rowStart (wsV RX5 40 RX5 yX5_step wsX5_step) := goodIn_app (goodIn_of _ (by decide +kernel)) ggX5_rowStart_X5_step
set_option maxRecDepth 20000 in
theorem ggX5_rowStart_X7_latterOf : GoodIn wsX5_rowStart wsX7_latterOf := goodIn_r _ [9] (by decide +kernel) (by decide +kernel)
set_option maxRecDepth 20000 in
theorem gX5_rowStart_X7_latterOf_n47 : GoodIn wsX5_rowStart (wsX7_latterOf) := ggX5_rowStart_X7_latterOf
theorem dX5_rowStart_0 : decode cX5_rowStart 0 = .ok (.iload_n 2, 1) := by decide +kernel
theorem dX5_rowStart_1 : decode cX5_rowStart 1 = .ok (.aload_n 0, 1) := by decide +kernel
theorem dX5_rowStart_2 : decode cX5_rowStart 2 = .ok (.iload_n 1, 1) := by decide +kernel
theorem dX5_rowStart_3 : decode cX5_rowStart 3 = .ok (.invokevirtual 40, 3) := by decide +kernel
theorem dX5_rowStart_6 : decode cX5_rowStart 6 = .ok (.imul, 1) := by decide +kernel
theorem dX5_rowStart_7 : decode cX5_rowStart 7 = .ok (.iload_n 3, 1) := by decide +kernel
theorem dX5_rowStart_8 : decode cX5_rowStart 8 = .ok (.aload_n 0, 1) := by decide +kernel
theorem dX5_rowStart_9 : decode cX5_rowStart 9 = .ok (.iload_n 1, 1) := by decide +kernel
theorem dX5_rowStart_10 : decode cX5_rowStart 10 = .ok (.invokestatic 47, 3) := by decide +kernel
theorem dX5_rowStart_13 : decode cX5_rowStart 13 = .ok (.invokevirtual 40, 3) := by decide +kernel
theorem dX5_rowStart_16 : decode cX5_rowStart 16 = .ok (.imul, 1) := by decide +kernel
theorem dX5_rowStart_17 : decode cX5_rowStart 17 = .ok (.iadd, 1) := by decide +kernel
theorem dX5_rowStart_18 : decode cX5_rowStart 18 = .ok (.ireturn, 1) := by decide +kernel
set_option maxRecDepth 20000 in
theorem ggX5_number_X7_cell : GoodIn wsX5_number wsX7_cell := goodIn_r _ [4] (by decide +kernel) (by decide +kernel)
set_option maxRecDepth 20000 in
theorem gX5_number_X7_cell_n50 : GoodIn wsX5_number (wsX7_cell) := ggX5_number_X7_cell
theorem dX5_number_0 : decode cX5_number 0 = .ok (.aload_n 0, 1) := by decide +kernel
theorem dX5_number_1 : decode cX5_number 1 = .ok (.getfield 21, 3) := by decide +kernel
theorem dX5_number_4 : decode cX5_number 4 = .ok (.iload_n 1, 1) := by decide +kernel
theorem dX5_number_5 : decode cX5_number 5 = .ok (.invokestatic 50, 3) := by decide +kernel
theorem dX5_number_8 : decode cX5_number 8 = .ok (.ireturn, 1) := by decide +kernel
set_option maxRecDepth 20000 in
theorem ggX5_write_X7_setCell : GoodIn wsX5_write wsX7_setCell := goodIn_r _ [4] (by decide +kernel) (by decide +kernel)
set_option maxRecDepth 20000 in
theorem gX5_write_X7_setCell_n32 : GoodIn wsX5_write (wsX7_setCell) := ggX5_write_X7_setCell
theorem dX5_write_0 : decode cX5_write 0 = .ok (.aload_n 0, 1) := by decide +kernel
theorem dX5_write_1 : decode cX5_write 1 = .ok (.getfield 21, 3) := by decide +kernel
theorem dX5_write_4 : decode cX5_write 4 = .ok (.iload_n 1, 1) := by decide +kernel
theorem dX5_write_5 : decode cX5_write 5 = .ok (.iload_n 2, 1) := by decide +kernel
theorem dX5_write_6 : decode cX5_write 6 = .ok (.invokestatic 32, 3) := by decide +kernel
theorem dX5_write_9 : decode cX5_write 9 = .ok (.return_, 1) := by decide +kernel
set_option maxRecDepth 20000 in
theorem ggX5_filled_X5_points : GoodIn wsX5_filled wsX5_points := goodIn_r _ [5, 6, 15, 16, 17, 18, 19] (by decide +kernel) (by decide +kernel)
set_option maxRecDepth 20000 in
theorem gX5_filled_X5_points : GoodIn wsX5_filled (wsV RX5 54 RX5 yX5_points wsX5_points) := goodIn_app (goodIn_of _ (by decide +kernel)) ggX5_filled_X5_points
set_option maxRecDepth 20000 in
theorem ggX5_filled_X5_number : GoodIn wsX5_filled wsX5_number := goodIn_r _ [10, 11, 12, 13, 14, 15, 16, 17, 18, 19] (by decide +kernel) (by decide +kernel)
set_option maxRecDepth 20000 in
theorem gX5_filled_X5_number : GoodIn wsX5_filled (wsV RX5 58 RX5 yX5_number wsX5_number) := goodIn_app (goodIn_of _ (by decide +kernel)) ggX5_filled_X5_number
theorem dX5_filled_0 : decode cX5_filled 0 = .ok (.iconst 0, 1) := by decide +kernel
theorem dX5_filled_1 : decode cX5_filled 1 = .ok (.istore_n 1, 1) := by decide +kernel
theorem dX5_filled_2 : decode cX5_filled 2 = .ok (.iconst 0, 1) := by decide +kernel
theorem dX5_filled_3 : decode cX5_filled 3 = .ok (.istore_n 2, 1) := by decide +kernel
theorem dX5_filled_4 : decode cX5_filled 4 = .ok (.iload_n 2, 1) := by decide +kernel
theorem dX5_filled_5 : decode cX5_filled 5 = .ok (.aload_n 0, 1) := by decide +kernel
theorem dX5_filled_6 : decode cX5_filled 6 = .ok (.invokevirtual 54, 3) := by decide +kernel
theorem dX5_filled_9 : decode cX5_filled 9 = .ok (.if_icmp .ge 20, 3) := by decide +kernel
theorem dX5_filled_12 : decode cX5_filled 12 = .ok (.aload_n 0, 1) := by decide +kernel
theorem dX5_filled_13 : decode cX5_filled 13 = .ok (.iload_n 2, 1) := by decide +kernel
theorem dX5_filled_14 : decode cX5_filled 14 = .ok (.invokevirtual 58, 3) := by decide +kernel
theorem dX5_filled_17 : decode cX5_filled 17 = .ok (.ifCond .eq 6, 3) := by decide +kernel
theorem dX5_filled_20 : decode cX5_filled 20 = .ok (.iinc 1 1, 3) := by decide +kernel
theorem dX5_filled_23 : decode cX5_filled 23 = .ok (.iinc 2 1, 3) := by decide +kernel
theorem dX5_filled_26 : decode cX5_filled 26 = .ok (.goto (-22), 3) := by decide +kernel
theorem dX5_filled_29 : decode cX5_filled 29 = .ok (.iload_n 1, 1) := by decide +kernel
theorem dX5_filled_30 : decode cX5_filled 30 = .ok (.ireturn, 1) := by decide +kernel
set_option maxRecDepth 20000 in
theorem ggX5_sum_X5_points : GoodIn wsX5_sum wsX5_points := goodIn_r _ [5, 6, 15, 16, 17, 18, 19] (by decide +kernel) (by decide +kernel)
set_option maxRecDepth 20000 in
theorem gX5_sum_X5_points : GoodIn wsX5_sum (wsV RX5 54 RX5 yX5_points wsX5_points) := goodIn_app (goodIn_of _ (by decide +kernel)) ggX5_sum_X5_points
set_option maxRecDepth 20000 in
theorem ggX5_sum_X5_number : GoodIn wsX5_sum wsX5_number := goodIn_r _ [10, 11, 12, 13, 14, 15, 16, 17, 18, 19] (by decide +kernel) (by decide +kernel)
set_option maxRecDepth 20000 in
theorem gX5_sum_X5_number : GoodIn wsX5_sum (wsV RX5 58 RX5 yX5_number wsX5_number) := goodIn_app (goodIn_of _ (by decide +kernel)) ggX5_sum_X5_number
theorem dX5_sum_0 : decode cX5_sum 0 = .ok (.iconst 0, 1) := by decide +kernel
theorem dX5_sum_1 : decode cX5_sum 1 = .ok (.istore_n 1, 1) := by decide +kernel
theorem dX5_sum_2 : decode cX5_sum 2 = .ok (.iconst 0, 1) := by decide +kernel
theorem dX5_sum_3 : decode cX5_sum 3 = .ok (.istore_n 2, 1) := by decide +kernel
theorem dX5_sum_4 : decode cX5_sum 4 = .ok (.iload_n 2, 1) := by decide +kernel
theorem dX5_sum_5 : decode cX5_sum 5 = .ok (.aload_n 0, 1) := by decide +kernel
theorem dX5_sum_6 : decode cX5_sum 6 = .ok (.invokevirtual 54, 3) := by decide +kernel
theorem dX5_sum_9 : decode cX5_sum 9 = .ok (.if_icmp .ge 17, 3) := by decide +kernel
theorem dX5_sum_12 : decode cX5_sum 12 = .ok (.iload_n 1, 1) := by decide +kernel
theorem dX5_sum_13 : decode cX5_sum 13 = .ok (.aload_n 0, 1) := by decide +kernel
theorem dX5_sum_14 : decode cX5_sum 14 = .ok (.iload_n 2, 1) := by decide +kernel
theorem dX5_sum_15 : decode cX5_sum 15 = .ok (.invokevirtual 58, 3) := by decide +kernel
theorem dX5_sum_18 : decode cX5_sum 18 = .ok (.iadd, 1) := by decide +kernel
theorem dX5_sum_19 : decode cX5_sum 19 = .ok (.istore_n 1, 1) := by decide +kernel
theorem dX5_sum_20 : decode cX5_sum 20 = .ok (.iinc 2 1, 3) := by decide +kernel
theorem dX5_sum_23 : decode cX5_sum 23 = .ok (.goto (-19), 3) := by decide +kernel
theorem dX5_sum_26 : decode cX5_sum 26 = .ok (.iload_n 1, 1) := by decide +kernel
theorem dX5_sum_27 : decode cX5_sum 27 = .ok (.ireturn, 1) := by decide +kernel
set_option maxRecDepth 20000 in
theorem ggX5_boxCanTake_X5_place : GoodIn wsX5_boxCanTake wsX5_place := goodIn_r _ [5, 6, 17, 18, 19, 20, 21] (by decide +kernel) (by decide +kernel)
set_option maxRecDepth 20000 in
theorem gX5_boxCanTake_X5_place : GoodIn wsX5_boxCanTake (wsV RX5 61 RX5 yX5_place wsX5_place) := goodIn_app (goodIn_of _ (by decide +kernel)) ggX5_boxCanTake_X5_place
set_option maxRecDepth 20000 in
theorem ggX5_boxCanTake_X5_number : GoodIn wsX5_boxCanTake wsX5_number := goodIn_r _ [10, 11, 12, 13, 14, 17, 18, 19, 20, 21] (by decide +kernel) (by decide +kernel)
set_option maxRecDepth 20000 in
theorem gX5_boxCanTake_X5_number : GoodIn wsX5_boxCanTake (wsV RX5 58 RX5 yX5_number wsX5_number) := goodIn_app (goodIn_of _ (by decide +kernel)) ggX5_boxCanTake_X5_number
set_option maxRecDepth 20000 in
theorem ggX5_boxCanTake_X7_isNumber : GoodIn wsX5_boxCanTake wsX7_isNumber := goodIn_r _ [16] (by decide +kernel) (by decide +kernel)
set_option maxRecDepth 20000 in
theorem gX5_boxCanTake_X7_isNumber_n65 : GoodIn wsX5_boxCanTake (wsX7_isNumber) := ggX5_boxCanTake_X7_isNumber
theorem dX5_boxCanTake_0 : decode cX5_boxCanTake 0 = .ok (.iconst 0, 1) := by decide +kernel
theorem dX5_boxCanTake_1 : decode cX5_boxCanTake 1 = .ok (.istore 4, 2) := by decide +kernel
theorem dX5_boxCanTake_3 : decode cX5_boxCanTake 3 = .ok (.iload 4, 2) := by decide +kernel
theorem dX5_boxCanTake_5 : decode cX5_boxCanTake 5 = .ok (.iload_n 2, 1) := by decide +kernel
theorem dX5_boxCanTake_6 : decode cX5_boxCanTake 6 = .ok (.if_icmp .ge 65, 3) := by decide +kernel
theorem dX5_boxCanTake_9 : decode cX5_boxCanTake 9 = .ok (.iconst 0, 1) := by decide +kernel
theorem dX5_boxCanTake_10 : decode cX5_boxCanTake 10 = .ok (.istore 5, 2) := by decide +kernel
theorem dX5_boxCanTake_12 : decode cX5_boxCanTake 12 = .ok (.iload 5, 2) := by decide +kernel
theorem dX5_boxCanTake_14 : decode cX5_boxCanTake 14 = .ok (.iload_n 2, 1) := by decide +kernel
theorem dX5_boxCanTake_15 : decode cX5_boxCanTake 15 = .ok (.if_icmp .ge 50, 3) := by decide +kernel
theorem dX5_boxCanTake_18 : decode cX5_boxCanTake 18 = .ok (.iconst 0, 1) := by decide +kernel
theorem dX5_boxCanTake_19 : decode cX5_boxCanTake 19 = .ok (.istore 6, 2) := by decide +kernel
theorem dX5_boxCanTake_21 : decode cX5_boxCanTake 21 = .ok (.iload 6, 2) := by decide +kernel
theorem dX5_boxCanTake_23 : decode cX5_boxCanTake 23 = .ok (.iload_n 2, 1) := by decide +kernel
theorem dX5_boxCanTake_24 : decode cX5_boxCanTake 24 = .ok (.if_icmp .ge 35, 3) := by decide +kernel
theorem dX5_boxCanTake_27 : decode cX5_boxCanTake 27 = .ok (.aload_n 0, 1) := by decide +kernel
theorem dX5_boxCanTake_28 : decode cX5_boxCanTake 28 = .ok (.iload_n 1, 1) := by decide +kernel
theorem dX5_boxCanTake_29 : decode cX5_boxCanTake 29 = .ok (.aload_n 0, 1) := by decide +kernel
theorem dX5_boxCanTake_30 : decode cX5_boxCanTake 30 = .ok (.iload 6, 2) := by decide +kernel
theorem dX5_boxCanTake_32 : decode cX5_boxCanTake 32 = .ok (.iload 5, 2) := by decide +kernel
theorem dX5_boxCanTake_34 : decode cX5_boxCanTake 34 = .ok (.iload 4, 2) := by decide +kernel
theorem dX5_boxCanTake_36 : decode cX5_boxCanTake 36 = .ok (.invokevirtual 61, 3) := by decide +kernel
theorem dX5_boxCanTake_39 : decode cX5_boxCanTake 39 = .ok (.iadd, 1) := by decide +kernel
theorem dX5_boxCanTake_40 : decode cX5_boxCanTake 40 = .ok (.invokevirtual 58, 3) := by decide +kernel
theorem dX5_boxCanTake_43 : decode cX5_boxCanTake 43 = .ok (.iload_n 3, 1) := by decide +kernel
theorem dX5_boxCanTake_44 : decode cX5_boxCanTake 44 = .ok (.iadd, 1) := by decide +kernel
theorem dX5_boxCanTake_45 : decode cX5_boxCanTake 45 = .ok (.invokestatic 65, 3) := by decide +kernel
theorem dX5_boxCanTake_48 : decode cX5_boxCanTake 48 = .ok (.ifCond .ne 5, 3) := by decide +kernel
theorem dX5_boxCanTake_51 : decode cX5_boxCanTake 51 = .ok (.iconst 0, 1) := by decide +kernel
theorem dX5_boxCanTake_52 : decode cX5_boxCanTake 52 = .ok (.ireturn, 1) := by decide +kernel
theorem dX5_boxCanTake_53 : decode cX5_boxCanTake 53 = .ok (.iinc 6 1, 3) := by decide +kernel
theorem dX5_boxCanTake_56 : decode cX5_boxCanTake 56 = .ok (.goto (-35), 3) := by decide +kernel
theorem dX5_boxCanTake_59 : decode cX5_boxCanTake 59 = .ok (.iinc 5 1, 3) := by decide +kernel
theorem dX5_boxCanTake_62 : decode cX5_boxCanTake 62 = .ok (.goto (-50), 3) := by decide +kernel
theorem dX5_boxCanTake_65 : decode cX5_boxCanTake 65 = .ok (.iinc 4 1, 3) := by decide +kernel
theorem dX5_boxCanTake_68 : decode cX5_boxCanTake 68 = .ok (.goto (-65), 3) := by decide +kernel
theorem dX5_boxCanTake_71 : decode cX5_boxCanTake 71 = .ok (.iconst 1, 1) := by decide +kernel
theorem dX5_boxCanTake_72 : decode cX5_boxCanTake 72 = .ok (.ireturn, 1) := by decide +kernel
set_option maxRecDepth 20000 in
theorem ggX5_addToBox_X5_place : GoodIn wsX5_addToBox wsX5_place := goodIn_r _ [5, 6, 21, 22, 23, 24, 25] (by decide +kernel) (by decide +kernel)
set_option maxRecDepth 20000 in
theorem gX5_addToBox_X5_place : GoodIn wsX5_addToBox (wsV RX5 61 RX5 yX5_place wsX5_place) := goodIn_app (goodIn_of _ (by decide +kernel)) ggX5_addToBox_X5_place
set_option maxRecDepth 20000 in
theorem ggX5_addToBox_X5_number : GoodIn wsX5_addToBox wsX5_number := goodIn_r _ [10, 11, 12, 13, 14, 21, 22, 23, 24, 25] (by decide +kernel) (by decide +kernel)
set_option maxRecDepth 20000 in
theorem gX5_addToBox_X5_number : GoodIn wsX5_addToBox (wsV RX5 58 RX5 yX5_number wsX5_number) := goodIn_app (goodIn_of _ (by decide +kernel)) ggX5_addToBox_X5_number
set_option maxRecDepth 20000 in
theorem ggX5_addToBox_X5_write : GoodIn wsX5_addToBox wsX5_write := goodIn_r _ [18, 11, 19, 13, 20, 21, 22, 23, 24, 25] (by decide +kernel) (by decide +kernel)
set_option maxRecDepth 20000 in
theorem gX5_addToBox_X5_write : GoodIn wsX5_addToBox (wsV RX5 68 RX5 yX5_write wsX5_write) := goodIn_app (goodIn_of _ (by decide +kernel)) ggX5_addToBox_X5_write
theorem dX5_addToBox_0 : decode cX5_addToBox 0 = .ok (.iconst 0, 1) := by decide +kernel
theorem dX5_addToBox_1 : decode cX5_addToBox 1 = .ok (.istore 4, 2) := by decide +kernel
theorem dX5_addToBox_3 : decode cX5_addToBox 3 = .ok (.iconst 0, 1) := by decide +kernel
theorem dX5_addToBox_4 : decode cX5_addToBox 4 = .ok (.istore 5, 2) := by decide +kernel
theorem dX5_addToBox_6 : decode cX5_addToBox 6 = .ok (.iload 5, 2) := by decide +kernel
theorem dX5_addToBox_8 : decode cX5_addToBox 8 = .ok (.iload_n 2, 1) := by decide +kernel
theorem dX5_addToBox_9 : decode cX5_addToBox 9 = .ok (.if_icmp .ge 79, 3) := by decide +kernel
theorem dX5_addToBox_12 : decode cX5_addToBox 12 = .ok (.iconst 0, 1) := by decide +kernel
theorem dX5_addToBox_13 : decode cX5_addToBox 13 = .ok (.istore 6, 2) := by decide +kernel
theorem dX5_addToBox_15 : decode cX5_addToBox 15 = .ok (.iload 6, 2) := by decide +kernel
theorem dX5_addToBox_17 : decode cX5_addToBox 17 = .ok (.iload_n 2, 1) := by decide +kernel
theorem dX5_addToBox_18 : decode cX5_addToBox 18 = .ok (.if_icmp .ge 64, 3) := by decide +kernel
theorem dX5_addToBox_21 : decode cX5_addToBox 21 = .ok (.iconst 0, 1) := by decide +kernel
theorem dX5_addToBox_22 : decode cX5_addToBox 22 = .ok (.istore 7, 2) := by decide +kernel
theorem dX5_addToBox_24 : decode cX5_addToBox 24 = .ok (.iload 7, 2) := by decide +kernel
theorem dX5_addToBox_26 : decode cX5_addToBox 26 = .ok (.iload_n 2, 1) := by decide +kernel
theorem dX5_addToBox_27 : decode cX5_addToBox 27 = .ok (.if_icmp .ge 49, 3) := by decide +kernel
theorem dX5_addToBox_30 : decode cX5_addToBox 30 = .ok (.iload_n 1, 1) := by decide +kernel
theorem dX5_addToBox_31 : decode cX5_addToBox 31 = .ok (.aload_n 0, 1) := by decide +kernel
theorem dX5_addToBox_32 : decode cX5_addToBox 32 = .ok (.iload 7, 2) := by decide +kernel
theorem dX5_addToBox_34 : decode cX5_addToBox 34 = .ok (.iload 6, 2) := by decide +kernel
theorem dX5_addToBox_36 : decode cX5_addToBox 36 = .ok (.iload 5, 2) := by decide +kernel
theorem dX5_addToBox_38 : decode cX5_addToBox 38 = .ok (.invokevirtual 61, 3) := by decide +kernel
theorem dX5_addToBox_41 : decode cX5_addToBox 41 = .ok (.iadd, 1) := by decide +kernel
theorem dX5_addToBox_42 : decode cX5_addToBox 42 = .ok (.istore 8, 2) := by decide +kernel
theorem dX5_addToBox_44 : decode cX5_addToBox 44 = .ok (.aload_n 0, 1) := by decide +kernel
theorem dX5_addToBox_45 : decode cX5_addToBox 45 = .ok (.iload 8, 2) := by decide +kernel
theorem dX5_addToBox_47 : decode cX5_addToBox 47 = .ok (.invokevirtual 58, 3) := by decide +kernel
theorem dX5_addToBox_50 : decode cX5_addToBox 50 = .ok (.iload_n 3, 1) := by decide +kernel
theorem dX5_addToBox_51 : decode cX5_addToBox 51 = .ok (.iadd, 1) := by decide +kernel
theorem dX5_addToBox_52 : decode cX5_addToBox 52 = .ok (.istore 9, 2) := by decide +kernel
theorem dX5_addToBox_54 : decode cX5_addToBox 54 = .ok (.aload_n 0, 1) := by decide +kernel
theorem dX5_addToBox_55 : decode cX5_addToBox 55 = .ok (.iload 8, 2) := by decide +kernel
theorem dX5_addToBox_57 : decode cX5_addToBox 57 = .ok (.iload 9, 2) := by decide +kernel
theorem dX5_addToBox_59 : decode cX5_addToBox 59 = .ok (.invokevirtual 68, 3) := by decide +kernel
theorem dX5_addToBox_62 : decode cX5_addToBox 62 = .ok (.iload 9, 2) := by decide +kernel
theorem dX5_addToBox_64 : decode cX5_addToBox 64 = .ok (.ifCond .eq 6, 3) := by decide +kernel
theorem dX5_addToBox_67 : decode cX5_addToBox 67 = .ok (.iinc 4 1, 3) := by decide +kernel
theorem dX5_addToBox_70 : decode cX5_addToBox 70 = .ok (.iinc 7 1, 3) := by decide +kernel
theorem dX5_addToBox_73 : decode cX5_addToBox 73 = .ok (.goto (-49), 3) := by decide +kernel
theorem dX5_addToBox_76 : decode cX5_addToBox 76 = .ok (.iinc 6 1, 3) := by decide +kernel
theorem dX5_addToBox_79 : decode cX5_addToBox 79 = .ok (.goto (-64), 3) := by decide +kernel
theorem dX5_addToBox_82 : decode cX5_addToBox 82 = .ok (.iinc 5 1, 3) := by decide +kernel
theorem dX5_addToBox_85 : decode cX5_addToBox 85 = .ok (.goto (-79), 3) := by decide +kernel
theorem dX5_addToBox_88 : decode cX5_addToBox 88 = .ok (.iload 4, 2) := by decide +kernel
theorem dX5_addToBox_90 : decode cX5_addToBox 90 = .ok (.ireturn, 1) := by decide +kernel
set_option maxRecDepth 20000 in
theorem ggX5_clearSlice_X7_formerOf : GoodIn wsX5_clearSlice wsX7_formerOf := goodIn_r _ [4] (by decide +kernel) (by decide +kernel)
set_option maxRecDepth 20000 in
theorem gX5_clearSlice_X7_formerOf_n44 : GoodIn wsX5_clearSlice (wsX7_formerOf) := ggX5_clearSlice_X7_formerOf
set_option maxRecDepth 20000 in
theorem ggX5_clearSlice_X5_step : GoodIn wsX5_clearSlice wsX5_step := goodIn_r _ [9, 1, 29, 30, 31, 32, 33] (by decide +kernel) (by decide +kernel)
set_option maxRecDepth 20000 in
theorem gX5_clearSlice_X5_step : GoodIn wsX5_clearSlice (wsV RX5 40 RX5 yX5_step wsX5_step) := goodIn_app (goodIn_of _ (by decide +kernel)) ggX5_clearSlice_X5_step
set_option maxRecDepth 20000 in
theorem ggX5_clearSlice_X5_rowStart : GoodIn wsX5_clearSlice wsX5_rowStart := goodIn_r _ [13, 5, 6, 7, 8, 9, 1, 14, 3, 15, 29, 30, 31, 32, 33] (by decide +kernel) (by decide +kernel)
set_option maxRecDepth 20000 in
theorem gX5_clearSlice_X5_rowStart : GoodIn wsX5_clearSlice (wsV RX5 72 RX5 yX5_rowStart wsX5_rowStart) := goodIn_app (goodIn_of _ (by decide +kernel)) ggX5_clearSlice_X5_rowStart
set_option maxRecDepth 20000 in
theorem ggX5_clearSlice_X5_number : GoodIn wsX5_clearSlice wsX5_number := goodIn_r _ [19, 20, 21, 3, 22, 29, 30, 31, 32, 33] (by decide +kernel) (by decide +kernel)
set_option maxRecDepth 20000 in
theorem gX5_clearSlice_X5_number : GoodIn wsX5_clearSlice (wsV RX5 58 RX5 yX5_number wsX5_number) := goodIn_app (goodIn_of _ (by decide +kernel)) ggX5_clearSlice_X5_number
set_option maxRecDepth 20000 in
theorem ggX5_clearSlice_X5_write : GoodIn wsX5_clearSlice wsX5_write := goodIn_r _ [26, 20, 27, 3, 28, 29, 30, 31, 32, 33] (by decide +kernel) (by decide +kernel)
set_option maxRecDepth 20000 in
theorem gX5_clearSlice_X5_write : GoodIn wsX5_clearSlice (wsV RX5 68 RX5 yX5_write wsX5_write) := goodIn_app (goodIn_of _ (by decide +kernel)) ggX5_clearSlice_X5_write
theorem dX5_clearSlice_0 : decode cX5_clearSlice 0 = .ok (.iconst 0, 1) := by decide +kernel
theorem dX5_clearSlice_1 : decode cX5_clearSlice 1 = .ok (.istore_n 3, 1) := by decide +kernel
theorem dX5_clearSlice_2 : decode cX5_clearSlice 2 = .ok (.aload_n 0, 1) := by decide +kernel
theorem dX5_clearSlice_3 : decode cX5_clearSlice 3 = .ok (.iload_n 1, 1) := by decide +kernel
theorem dX5_clearSlice_4 : decode cX5_clearSlice 4 = .ok (.invokestatic 44, 3) := by decide +kernel
theorem dX5_clearSlice_7 : decode cX5_clearSlice 7 = .ok (.invokevirtual 40, 3) := by decide +kernel
theorem dX5_clearSlice_10 : decode cX5_clearSlice 10 = .ok (.istore 4, 2) := by decide +kernel
theorem dX5_clearSlice_12 : decode cX5_clearSlice 12 = .ok (.iconst 0, 1) := by decide +kernel
theorem dX5_clearSlice_13 : decode cX5_clearSlice 13 = .ok (.istore 5, 2) := by decide +kernel
theorem dX5_clearSlice_15 : decode cX5_clearSlice 15 = .ok (.iload 5, 2) := by decide +kernel
theorem dX5_clearSlice_17 : decode cX5_clearSlice 17 = .ok (.aload_n 0, 1) := by decide +kernel
theorem dX5_clearSlice_18 : decode cX5_clearSlice 18 = .ok (.getfield 9, 3) := by decide +kernel
theorem dX5_clearSlice_21 : decode cX5_clearSlice 21 = .ok (.if_icmp .ge 63, 3) := by decide +kernel
theorem dX5_clearSlice_24 : decode cX5_clearSlice 24 = .ok (.aload_n 0, 1) := by decide +kernel
theorem dX5_clearSlice_25 : decode cX5_clearSlice 25 = .ok (.iload_n 1, 1) := by decide +kernel
theorem dX5_clearSlice_26 : decode cX5_clearSlice 26 = .ok (.iload_n 2, 1) := by decide +kernel
theorem dX5_clearSlice_27 : decode cX5_clearSlice 27 = .ok (.iload 5, 2) := by decide +kernel
theorem dX5_clearSlice_29 : decode cX5_clearSlice 29 = .ok (.invokevirtual 72, 3) := by decide +kernel
theorem dX5_clearSlice_32 : decode cX5_clearSlice 32 = .ok (.istore 6, 2) := by decide +kernel
theorem dX5_clearSlice_34 : decode cX5_clearSlice 34 = .ok (.iconst 0, 1) := by decide +kernel
theorem dX5_clearSlice_35 : decode cX5_clearSlice 35 = .ok (.istore 7, 2) := by decide +kernel
theorem dX5_clearSlice_37 : decode cX5_clearSlice 37 = .ok (.iload 7, 2) := by decide +kernel
theorem dX5_clearSlice_39 : decode cX5_clearSlice 39 = .ok (.aload_n 0, 1) := by decide +kernel
theorem dX5_clearSlice_40 : decode cX5_clearSlice 40 = .ok (.getfield 9, 3) := by decide +kernel
theorem dX5_clearSlice_43 : decode cX5_clearSlice 43 = .ok (.if_icmp .ge 35, 3) := by decide +kernel
theorem dX5_clearSlice_46 : decode cX5_clearSlice 46 = .ok (.aload_n 0, 1) := by decide +kernel
theorem dX5_clearSlice_47 : decode cX5_clearSlice 47 = .ok (.iload 6, 2) := by decide +kernel
theorem dX5_clearSlice_49 : decode cX5_clearSlice 49 = .ok (.invokevirtual 58, 3) := by decide +kernel
theorem dX5_clearSlice_52 : decode cX5_clearSlice 52 = .ok (.ifCond .eq 6, 3) := by decide +kernel
theorem dX5_clearSlice_55 : decode cX5_clearSlice 55 = .ok (.iinc 3 1, 3) := by decide +kernel
theorem dX5_clearSlice_58 : decode cX5_clearSlice 58 = .ok (.aload_n 0, 1) := by decide +kernel
theorem dX5_clearSlice_59 : decode cX5_clearSlice 59 = .ok (.iload 6, 2) := by decide +kernel
theorem dX5_clearSlice_61 : decode cX5_clearSlice 61 = .ok (.iconst 0, 1) := by decide +kernel
theorem dX5_clearSlice_62 : decode cX5_clearSlice 62 = .ok (.invokevirtual 68, 3) := by decide +kernel
theorem dX5_clearSlice_65 : decode cX5_clearSlice 65 = .ok (.iload 6, 2) := by decide +kernel
theorem dX5_clearSlice_67 : decode cX5_clearSlice 67 = .ok (.iload 4, 2) := by decide +kernel
theorem dX5_clearSlice_69 : decode cX5_clearSlice 69 = .ok (.iadd, 1) := by decide +kernel
theorem dX5_clearSlice_70 : decode cX5_clearSlice 70 = .ok (.istore 6, 2) := by decide +kernel
theorem dX5_clearSlice_72 : decode cX5_clearSlice 72 = .ok (.iinc 7 1, 3) := by decide +kernel
theorem dX5_clearSlice_75 : decode cX5_clearSlice 75 = .ok (.goto (-38), 3) := by decide +kernel
theorem dX5_clearSlice_78 : decode cX5_clearSlice 78 = .ok (.iinc 5 1, 3) := by decide +kernel
theorem dX5_clearSlice_81 : decode cX5_clearSlice 81 = .ok (.goto (-66), 3) := by decide +kernel
theorem dX5_clearSlice_84 : decode cX5_clearSlice 84 = .ok (.iload_n 3, 1) := by decide +kernel
theorem dX5_clearSlice_85 : decode cX5_clearSlice 85 = .ok (.ireturn, 1) := by decide +kernel
set_option maxRecDepth 20000 in
theorem ggX5_shiftLine_X5_step : GoodIn wsX5_shiftLine wsX5_step := goodIn_r _ [6, 1, 29, 30, 31, 32, 33] (by decide +kernel) (by decide +kernel)
set_option maxRecDepth 20000 in
theorem gX5_shiftLine_X5_step : GoodIn wsX5_shiftLine (wsV RX5 40 RX5 yX5_step wsX5_step) := goodIn_app (goodIn_of _ (by decide +kernel)) ggX5_shiftLine_X5_step
set_option maxRecDepth 20000 in
theorem ggX5_shiftLine_X5_lineStart : GoodIn wsX5_shiftLine wsX5_lineStart := goodIn_r _ [10, 11, 12, 13, 2, 3, 4, 5, 6, 1, 14, 15, 29, 30, 31, 32, 33] (by decide +kernel) (by decide +kernel)
set_option maxRecDepth 20000 in
theorem gX5_shiftLine_X5_lineStart : GoodIn wsX5_shiftLine (wsV RX5 75 RX5 yX5_lineStart wsX5_lineStart) := goodIn_app (goodIn_of _ (by decide +kernel)) ggX5_shiftLine_X5_lineStart
set_option maxRecDepth 20000 in
theorem ggX5_shiftLine_X5_number : GoodIn wsX5_shiftLine wsX5_number := goodIn_r _ [19, 20, 21, 12, 22, 29, 30, 31, 32, 33] (by decide +kernel) (by decide +kernel)
set_option maxRecDepth 20000 in
theorem gX5_shiftLine_X5_number : GoodIn wsX5_shiftLine (wsV RX5 58 RX5 yX5_number wsX5_number) := goodIn_app (goodIn_of _ (by decide +kernel)) ggX5_shiftLine_X5_number
set_option maxRecDepth 20000 in
theorem ggX5_shiftLine_X5_write : GoodIn wsX5_shiftLine wsX5_write := goodIn_r _ [26, 20, 27, 12, 28, 29, 30, 31, 32, 33] (by decide +kernel) (by decide +kernel)
set_option maxRecDepth 20000 in
theorem gX5_shiftLine_X5_write : GoodIn wsX5_shiftLine (wsV RX5 68 RX5 yX5_write wsX5_write) := goodIn_app (goodIn_of _ (by decide +kernel)) ggX5_shiftLine_X5_write
theorem dX5_shiftLine_0 : decode cX5_shiftLine 0 = .ok (.iconst 0, 1) := by decide +kernel
theorem dX5_shiftLine_1 : decode cX5_shiftLine 1 = .ok (.istore 4, 2) := by decide +kernel
theorem dX5_shiftLine_3 : decode cX5_shiftLine 3 = .ok (.aload_n 0, 1) := by decide +kernel
theorem dX5_shiftLine_4 : decode cX5_shiftLine 4 = .ok (.iload_n 1, 1) := by decide +kernel
theorem dX5_shiftLine_5 : decode cX5_shiftLine 5 = .ok (.invokevirtual 40, 3) := by decide +kernel
theorem dX5_shiftLine_8 : decode cX5_shiftLine 8 = .ok (.istore 5, 2) := by decide +kernel
theorem dX5_shiftLine_10 : decode cX5_shiftLine 10 = .ok (.aload_n 0, 1) := by decide +kernel
theorem dX5_shiftLine_11 : decode cX5_shiftLine 11 = .ok (.iload_n 1, 1) := by decide +kernel
theorem dX5_shiftLine_12 : decode cX5_shiftLine 12 = .ok (.iload_n 2, 1) := by decide +kernel
theorem dX5_shiftLine_13 : decode cX5_shiftLine 13 = .ok (.iload_n 3, 1) := by decide +kernel
theorem dX5_shiftLine_14 : decode cX5_shiftLine 14 = .ok (.invokevirtual 75, 3) := by decide +kernel
theorem dX5_shiftLine_17 : decode cX5_shiftLine 17 = .ok (.istore 6, 2) := by decide +kernel
theorem dX5_shiftLine_19 : decode cX5_shiftLine 19 = .ok (.aload_n 0, 1) := by decide +kernel
theorem dX5_shiftLine_20 : decode cX5_shiftLine 20 = .ok (.iload 6, 2) := by decide +kernel
theorem dX5_shiftLine_22 : decode cX5_shiftLine 22 = .ok (.aload_n 0, 1) := by decide +kernel
theorem dX5_shiftLine_23 : decode cX5_shiftLine 23 = .ok (.getfield 9, 3) := by decide +kernel
theorem dX5_shiftLine_26 : decode cX5_shiftLine 26 = .ok (.iconst 1, 1) := by decide +kernel
theorem dX5_shiftLine_27 : decode cX5_shiftLine 27 = .ok (.isub, 1) := by decide +kernel
theorem dX5_shiftLine_28 : decode cX5_shiftLine 28 = .ok (.iload 5, 2) := by decide +kernel
theorem dX5_shiftLine_30 : decode cX5_shiftLine 30 = .ok (.imul, 1) := by decide +kernel
theorem dX5_shiftLine_31 : decode cX5_shiftLine 31 = .ok (.iadd, 1) := by decide +kernel
theorem dX5_shiftLine_32 : decode cX5_shiftLine 32 = .ok (.invokevirtual 58, 3) := by decide +kernel
theorem dX5_shiftLine_35 : decode cX5_shiftLine 35 = .ok (.istore 7, 2) := by decide +kernel
theorem dX5_shiftLine_37 : decode cX5_shiftLine 37 = .ok (.iconst 0, 1) := by decide +kernel
theorem dX5_shiftLine_38 : decode cX5_shiftLine 38 = .ok (.istore 8, 2) := by decide +kernel
theorem dX5_shiftLine_40 : decode cX5_shiftLine 40 = .ok (.iload 8, 2) := by decide +kernel
theorem dX5_shiftLine_42 : decode cX5_shiftLine 42 = .ok (.aload_n 0, 1) := by decide +kernel
theorem dX5_shiftLine_43 : decode cX5_shiftLine 43 = .ok (.getfield 9, 3) := by decide +kernel
theorem dX5_shiftLine_46 : decode cX5_shiftLine 46 = .ok (.if_icmp .ge 46, 3) := by decide +kernel
theorem dX5_shiftLine_49 : decode cX5_shiftLine 49 = .ok (.aload_n 0, 1) := by decide +kernel
theorem dX5_shiftLine_50 : decode cX5_shiftLine 50 = .ok (.iload 6, 2) := by decide +kernel
theorem dX5_shiftLine_52 : decode cX5_shiftLine 52 = .ok (.invokevirtual 58, 3) := by decide +kernel
theorem dX5_shiftLine_55 : decode cX5_shiftLine 55 = .ok (.istore 9, 2) := by decide +kernel
theorem dX5_shiftLine_57 : decode cX5_shiftLine 57 = .ok (.iload 9, 2) := by decide +kernel
theorem dX5_shiftLine_59 : decode cX5_shiftLine 59 = .ok (.iload 7, 2) := by decide +kernel
theorem dX5_shiftLine_61 : decode cX5_shiftLine 61 = .ok (.if_icmp .eq 6, 3) := by decide +kernel
theorem dX5_shiftLine_64 : decode cX5_shiftLine 64 = .ok (.iinc 4 1, 3) := by decide +kernel
theorem dX5_shiftLine_67 : decode cX5_shiftLine 67 = .ok (.aload_n 0, 1) := by decide +kernel
theorem dX5_shiftLine_68 : decode cX5_shiftLine 68 = .ok (.iload 6, 2) := by decide +kernel
theorem dX5_shiftLine_70 : decode cX5_shiftLine 70 = .ok (.iload 7, 2) := by decide +kernel
theorem dX5_shiftLine_72 : decode cX5_shiftLine 72 = .ok (.invokevirtual 68, 3) := by decide +kernel
theorem dX5_shiftLine_75 : decode cX5_shiftLine 75 = .ok (.iload 9, 2) := by decide +kernel
theorem dX5_shiftLine_77 : decode cX5_shiftLine 77 = .ok (.istore 7, 2) := by decide +kernel
theorem dX5_shiftLine_79 : decode cX5_shiftLine 79 = .ok (.iload 6, 2) := by decide +kernel
theorem dX5_shiftLine_81 : decode cX5_shiftLine 81 = .ok (.iload 5, 2) := by decide +kernel
theorem dX5_shiftLine_83 : decode cX5_shiftLine 83 = .ok (.iadd, 1) := by decide +kernel
theorem dX5_shiftLine_84 : decode cX5_shiftLine 84 = .ok (.istore 6, 2) := by decide +kernel
theorem dX5_shiftLine_86 : decode cX5_shiftLine 86 = .ok (.iinc 8 1, 3) := by decide +kernel
theorem dX5_shiftLine_89 : decode cX5_shiftLine 89 = .ok (.goto (-49), 3) := by decide +kernel
theorem dX5_shiftLine_92 : decode cX5_shiftLine 92 = .ok (.iload 4, 2) := by decide +kernel
theorem dX5_shiftLine_94 : decode cX5_shiftLine 94 = .ok (.ireturn, 1) := by decide +kernel
set_option maxRecDepth 20000 in
theorem ggX5_lineSum_X5_step : GoodIn wsX5_lineSum wsX5_step := goodIn_r _ [6, 1, 23, 24, 25, 26, 27] (by decide +kernel) (by decide +kernel)
set_option maxRecDepth 20000 in
theorem gX5_lineSum_X5_step : GoodIn wsX5_lineSum (wsV RX5 40 RX5 yX5_step wsX5_step) := goodIn_app (goodIn_of _ (by decide +kernel)) ggX5_lineSum_X5_step
set_option maxRecDepth 20000 in
theorem ggX5_lineSum_X5_lineStart : GoodIn wsX5_lineSum wsX5_lineStart := goodIn_r _ [10, 11, 12, 13, 2, 3, 4, 5, 6, 1, 14, 15, 23, 24, 25, 26, 27] (by decide +kernel) (by decide +kernel)
set_option maxRecDepth 20000 in
theorem gX5_lineSum_X5_lineStart : GoodIn wsX5_lineSum (wsV RX5 75 RX5 yX5_lineStart wsX5_lineStart) := goodIn_app (goodIn_of _ (by decide +kernel)) ggX5_lineSum_X5_lineStart
set_option maxRecDepth 20000 in
theorem ggX5_lineSum_X5_number : GoodIn wsX5_lineSum wsX5_number := goodIn_r _ [19, 20, 21, 12, 22, 23, 24, 25, 26, 27] (by decide +kernel) (by decide +kernel)
set_option maxRecDepth 20000 in
theorem gX5_lineSum_X5_number : GoodIn wsX5_lineSum (wsV RX5 58 RX5 yX5_number wsX5_number) := goodIn_app (goodIn_of _ (by decide +kernel)) ggX5_lineSum_X5_number
theorem dX5_lineSum_0 : decode cX5_lineSum 0 = .ok (.iconst 0, 1) := by decide +kernel
theorem dX5_lineSum_1 : decode cX5_lineSum 1 = .ok (.istore 4, 2) := by decide +kernel
theorem dX5_lineSum_3 : decode cX5_lineSum 3 = .ok (.aload_n 0, 1) := by decide +kernel
theorem dX5_lineSum_4 : decode cX5_lineSum 4 = .ok (.iload_n 1, 1) := by decide +kernel
theorem dX5_lineSum_5 : decode cX5_lineSum 5 = .ok (.invokevirtual 40, 3) := by decide +kernel
theorem dX5_lineSum_8 : decode cX5_lineSum 8 = .ok (.istore 5, 2) := by decide +kernel
theorem dX5_lineSum_10 : decode cX5_lineSum 10 = .ok (.aload_n 0, 1) := by decide +kernel
theorem dX5_lineSum_11 : decode cX5_lineSum 11 = .ok (.iload_n 1, 1) := by decide +kernel
theorem dX5_lineSum_12 : decode cX5_lineSum 12 = .ok (.iload_n 2, 1) := by decide +kernel
theorem dX5_lineSum_13 : decode cX5_lineSum 13 = .ok (.iload_n 3, 1) := by decide +kernel
theorem dX5_lineSum_14 : decode cX5_lineSum 14 = .ok (.invokevirtual 75, 3) := by decide +kernel
theorem dX5_lineSum_17 : decode cX5_lineSum 17 = .ok (.istore 6, 2) := by decide +kernel
theorem dX5_lineSum_19 : decode cX5_lineSum 19 = .ok (.iconst 0, 1) := by decide +kernel
theorem dX5_lineSum_20 : decode cX5_lineSum 20 = .ok (.istore 7, 2) := by decide +kernel
theorem dX5_lineSum_22 : decode cX5_lineSum 22 = .ok (.iload 7, 2) := by decide +kernel
theorem dX5_lineSum_24 : decode cX5_lineSum 24 = .ok (.aload_n 0, 1) := by decide +kernel
theorem dX5_lineSum_25 : decode cX5_lineSum 25 = .ok (.getfield 9, 3) := by decide +kernel
theorem dX5_lineSum_28 : decode cX5_lineSum 28 = .ok (.if_icmp .ge 27, 3) := by decide +kernel
theorem dX5_lineSum_31 : decode cX5_lineSum 31 = .ok (.iload 4, 2) := by decide +kernel
theorem dX5_lineSum_33 : decode cX5_lineSum 33 = .ok (.aload_n 0, 1) := by decide +kernel
theorem dX5_lineSum_34 : decode cX5_lineSum 34 = .ok (.iload 6, 2) := by decide +kernel
theorem dX5_lineSum_36 : decode cX5_lineSum 36 = .ok (.invokevirtual 58, 3) := by decide +kernel
theorem dX5_lineSum_39 : decode cX5_lineSum 39 = .ok (.iadd, 1) := by decide +kernel
theorem dX5_lineSum_40 : decode cX5_lineSum 40 = .ok (.istore 4, 2) := by decide +kernel
theorem dX5_lineSum_42 : decode cX5_lineSum 42 = .ok (.iload 6, 2) := by decide +kernel
theorem dX5_lineSum_44 : decode cX5_lineSum 44 = .ok (.iload 5, 2) := by decide +kernel
theorem dX5_lineSum_46 : decode cX5_lineSum 46 = .ok (.iadd, 1) := by decide +kernel
theorem dX5_lineSum_47 : decode cX5_lineSum 47 = .ok (.istore 6, 2) := by decide +kernel
theorem dX5_lineSum_49 : decode cX5_lineSum 49 = .ok (.iinc 7 1, 3) := by decide +kernel
theorem dX5_lineSum_52 : decode cX5_lineSum 52 = .ok (.goto (-30), 3) := by decide +kernel
theorem dX5_lineSum_55 : decode cX5_lineSum 55 = .ok (.iload 4, 2) := by decide +kernel
theorem dX5_lineSum_57 : decode cX5_lineSum 57 = .ok (.ireturn, 1) := by decide +kernel
set_option maxRecDepth 20000 in
theorem ggX5_placeOfRank_X7_formerOf : GoodIn wsX5_placeOfRank wsX7_formerOf := goodIn_r _ [5] (by decide +kernel) (by decide +kernel)
set_option maxRecDepth 20000 in
theorem gX5_placeOfRank_X7_formerOf_n44 : GoodIn wsX5_placeOfRank (wsX7_formerOf) := ggX5_placeOfRank_X7_formerOf
set_option maxRecDepth 20000 in
theorem ggX5_placeOfRank_X5_step : GoodIn wsX5_placeOfRank wsX5_step := goodIn_r _ [10, 2, 24, 25, 26, 27, 28] (by decide +kernel) (by decide +kernel)
set_option maxRecDepth 20000 in
theorem gX5_placeOfRank_X5_step : GoodIn wsX5_placeOfRank (wsV RX5 40 RX5 yX5_step wsX5_step) := goodIn_app (goodIn_of _ (by decide +kernel)) ggX5_placeOfRank_X5_step
set_option maxRecDepth 20000 in
theorem ggX5_placeOfRank_X5_rowStart : GoodIn wsX5_placeOfRank wsX5_rowStart := goodIn_r _ [14, 6, 7, 8, 9, 10, 2, 15, 4, 16, 24, 25, 26, 27, 28] (by decide +kernel) (by decide +kernel)
set_option maxRecDepth 20000 in
theorem gX5_placeOfRank_X5_rowStart : GoodIn wsX5_placeOfRank (wsV RX5 72 RX5 yX5_rowStart wsX5_rowStart) := goodIn_app (goodIn_of _ (by decide +kernel)) ggX5_placeOfRank_X5_rowStart
set_option maxRecDepth 20000 in
theorem ggX5_placeOfRank_X5_number : GoodIn wsX5_placeOfRank wsX5_number := goodIn_r _ [20, 21, 22, 4, 23, 24, 25, 26, 27, 28] (by decide +kernel) (by decide +kernel)
set_option maxRecDepth 20000 in
theorem gX5_placeOfRank_X5_number : GoodIn wsX5_placeOfRank (wsV RX5 58 RX5 yX5_number wsX5_number) := goodIn_app (goodIn_of _ (by decide +kernel)) ggX5_placeOfRank_X5_number
theorem dX5_placeOfRank_0 : decode cX5_placeOfRank 0 = .ok (.iconst 0, 1) := by decide +kernel
theorem dX5_placeOfRank_1 : decode cX5_placeOfRank 1 = .ok (.istore_n 2, 1) := by decide +kernel
theorem dX5_placeOfRank_2 : decode cX5_placeOfRank 2 = .ok (.aload_n 0, 1) := by decide +kernel
theorem dX5_placeOfRank_3 : decode cX5_placeOfRank 3 = .ok (.aload_n 0, 1) := by decide +kernel
theorem dX5_placeOfRank_4 : decode cX5_placeOfRank 4 = .ok (.getfield 15, 3) := by decide +kernel
theorem dX5_placeOfRank_7 : decode cX5_placeOfRank 7 = .ok (.invokestatic 44, 3) := by decide +kernel
theorem dX5_placeOfRank_10 : decode cX5_placeOfRank 10 = .ok (.invokevirtual 40, 3) := by decide +kernel
theorem dX5_placeOfRank_13 : decode cX5_placeOfRank 13 = .ok (.istore_n 3, 1) := by decide +kernel
theorem dX5_placeOfRank_14 : decode cX5_placeOfRank 14 = .ok (.iconst 0, 1) := by decide +kernel
theorem dX5_placeOfRank_15 : decode cX5_placeOfRank 15 = .ok (.istore 4, 2) := by decide +kernel
theorem dX5_placeOfRank_17 : decode cX5_placeOfRank 17 = .ok (.iload 4, 2) := by decide +kernel
theorem dX5_placeOfRank_19 : decode cX5_placeOfRank 19 = .ok (.aload_n 0, 1) := by decide +kernel
theorem dX5_placeOfRank_20 : decode cX5_placeOfRank 20 = .ok (.getfield 9, 3) := by decide +kernel
theorem dX5_placeOfRank_23 : decode cX5_placeOfRank 23 = .ok (.if_icmp .ge 85, 3) := by decide +kernel
theorem dX5_placeOfRank_26 : decode cX5_placeOfRank 26 = .ok (.iconst 0, 1) := by decide +kernel
theorem dX5_placeOfRank_27 : decode cX5_placeOfRank 27 = .ok (.istore 5, 2) := by decide +kernel
theorem dX5_placeOfRank_29 : decode cX5_placeOfRank 29 = .ok (.iload 5, 2) := by decide +kernel
theorem dX5_placeOfRank_31 : decode cX5_placeOfRank 31 = .ok (.aload_n 0, 1) := by decide +kernel
theorem dX5_placeOfRank_32 : decode cX5_placeOfRank 32 = .ok (.getfield 9, 3) := by decide +kernel
theorem dX5_placeOfRank_35 : decode cX5_placeOfRank 35 = .ok (.if_icmp .ge 67, 3) := by decide +kernel
theorem dX5_placeOfRank_38 : decode cX5_placeOfRank 38 = .ok (.aload_n 0, 1) := by decide +kernel
theorem dX5_placeOfRank_39 : decode cX5_placeOfRank 39 = .ok (.aload_n 0, 1) := by decide +kernel
theorem dX5_placeOfRank_40 : decode cX5_placeOfRank 40 = .ok (.getfield 15, 3) := by decide +kernel
theorem dX5_placeOfRank_43 : decode cX5_placeOfRank 43 = .ok (.iload 4, 2) := by decide +kernel
theorem dX5_placeOfRank_45 : decode cX5_placeOfRank 45 = .ok (.iload 5, 2) := by decide +kernel
theorem dX5_placeOfRank_47 : decode cX5_placeOfRank 47 = .ok (.invokevirtual 72, 3) := by decide +kernel
theorem dX5_placeOfRank_50 : decode cX5_placeOfRank 50 = .ok (.istore 6, 2) := by decide +kernel
theorem dX5_placeOfRank_52 : decode cX5_placeOfRank 52 = .ok (.iconst 0, 1) := by decide +kernel
theorem dX5_placeOfRank_53 : decode cX5_placeOfRank 53 = .ok (.istore 7, 2) := by decide +kernel
theorem dX5_placeOfRank_55 : decode cX5_placeOfRank 55 = .ok (.iload 7, 2) := by decide +kernel
theorem dX5_placeOfRank_57 : decode cX5_placeOfRank 57 = .ok (.aload_n 0, 1) := by decide +kernel
theorem dX5_placeOfRank_58 : decode cX5_placeOfRank 58 = .ok (.getfield 9, 3) := by decide +kernel
theorem dX5_placeOfRank_61 : decode cX5_placeOfRank 61 = .ok (.if_icmp .ge 35, 3) := by decide +kernel
theorem dX5_placeOfRank_64 : decode cX5_placeOfRank 64 = .ok (.aload_n 0, 1) := by decide +kernel
theorem dX5_placeOfRank_65 : decode cX5_placeOfRank 65 = .ok (.iload 6, 2) := by decide +kernel
theorem dX5_placeOfRank_67 : decode cX5_placeOfRank 67 = .ok (.invokevirtual 58, 3) := by decide +kernel
theorem dX5_placeOfRank_70 : decode cX5_placeOfRank 70 = .ok (.ifCond .eq 14, 3) := by decide +kernel
theorem dX5_placeOfRank_73 : decode cX5_placeOfRank 73 = .ok (.iload_n 2, 1) := by decide +kernel
theorem dX5_placeOfRank_74 : decode cX5_placeOfRank 74 = .ok (.iload_n 1, 1) := by decide +kernel
theorem dX5_placeOfRank_75 : decode cX5_placeOfRank 75 = .ok (.if_icmp .ne 6, 3) := by decide +kernel
theorem dX5_placeOfRank_78 : decode cX5_placeOfRank 78 = .ok (.iload 6, 2) := by decide +kernel
theorem dX5_placeOfRank_80 : decode cX5_placeOfRank 80 = .ok (.ireturn, 1) := by decide +kernel
theorem dX5_placeOfRank_81 : decode cX5_placeOfRank 81 = .ok (.iinc 2 1, 3) := by decide +kernel
theorem dX5_placeOfRank_84 : decode cX5_placeOfRank 84 = .ok (.iload 6, 2) := by decide +kernel
theorem dX5_placeOfRank_86 : decode cX5_placeOfRank 86 = .ok (.iload_n 3, 1) := by decide +kernel
theorem dX5_placeOfRank_87 : decode cX5_placeOfRank 87 = .ok (.iadd, 1) := by decide +kernel
theorem dX5_placeOfRank_88 : decode cX5_placeOfRank 88 = .ok (.istore 6, 2) := by decide +kernel
theorem dX5_placeOfRank_90 : decode cX5_placeOfRank 90 = .ok (.iinc 7 1, 3) := by decide +kernel
theorem dX5_placeOfRank_93 : decode cX5_placeOfRank 93 = .ok (.goto (-38), 3) := by decide +kernel
theorem dX5_placeOfRank_96 : decode cX5_placeOfRank 96 = .ok (.iinc 5 1, 3) := by decide +kernel
theorem dX5_placeOfRank_99 : decode cX5_placeOfRank 99 = .ok (.goto (-70), 3) := by decide +kernel
theorem dX5_placeOfRank_102 : decode cX5_placeOfRank 102 = .ok (.iinc 4 1, 3) := by decide +kernel
theorem dX5_placeOfRank_105 : decode cX5_placeOfRank 105 = .ok (.goto (-88), 3) := by decide +kernel
theorem dX5_placeOfRank_108 : decode cX5_placeOfRank 108 = .ok (.iconst (-1), 1) := by decide +kernel
theorem dX5_placeOfRank_109 : decode cX5_placeOfRank 109 = .ok (.ireturn, 1) := by decide +kernel
theorem dX6_init_0 : decode cX6_init 0 = .ok (.aload_n 0, 1) := by decide +kernel
theorem dX6_init_1 : decode cX6_init 1 = .ok (.invokespecial 3, 3) := by decide +kernel
theorem dX6_init_4 : decode cX6_init 4 = .ok (.aload_n 0, 1) := by decide +kernel
theorem dX6_init_5 : decode cX6_init 5 = .ok (.bipush 60, 2) := by decide +kernel
theorem dX6_init_7 : decode cX6_init 7 = .ok (.newarray .int, 2) := by decide +kernel
theorem dX6_init_9 : decode cX6_init 9 = .ok (.putfield 9, 3) := by decide +kernel
theorem dX6_init_12 : decode cX6_init 12 = .ok (.aload_n 0, 1) := by decide +kernel
theorem dX6_init_13 : decode cX6_init 13 = .ok (.iconst 0, 1) := by decide +kernel
theorem dX6_init_14 : decode cX6_init 14 = .ok (.putfield 15, 3) := by decide +kernel
theorem dX6_init_17 : decode cX6_init 17 = .ok (.return_, 1) := by decide +kernel
set_option maxRecDepth 20000 in
theorem ggX6_attach_X7_setCell : GoodIn wsX6_attach wsX7_setCell := goodIn_r _ [5] (by decide +kernel) (by decide +kernel)
set_option maxRecDepth 20000 in
theorem gX6_attach_X7_setCell_n19 : GoodIn wsX6_attach (wsX7_setCell) := ggX6_attach_X7_setCell
theorem dX6_attach_0 : decode cX6_attach 0 = .ok (.aload_n 0, 1) := by decide +kernel
theorem dX6_attach_1 : decode cX6_attach 1 = .ok (.getfield 9, 3) := by decide +kernel
theorem dX6_attach_4 : decode cX6_attach 4 = .ok (.aload_n 0, 1) := by decide +kernel
theorem dX6_attach_5 : decode cX6_attach 5 = .ok (.getfield 15, 3) := by decide +kernel
theorem dX6_attach_8 : decode cX6_attach 8 = .ok (.iload_n 1, 1) := by decide +kernel
theorem dX6_attach_9 : decode cX6_attach 9 = .ok (.invokestatic 19, 3) := by decide +kernel
theorem dX6_attach_12 : decode cX6_attach 12 = .ok (.aload_n 0, 1) := by decide +kernel
theorem dX6_attach_13 : decode cX6_attach 13 = .ok (.dup, 1) := by decide +kernel
theorem dX6_attach_14 : decode cX6_attach 14 = .ok (.getfield 15, 3) := by decide +kernel
theorem dX6_attach_17 : decode cX6_attach 17 = .ok (.iconst 1, 1) := by decide +kernel
theorem dX6_attach_18 : decode cX6_attach 18 = .ok (.iadd, 1) := by decide +kernel
theorem dX6_attach_19 : decode cX6_attach 19 = .ok (.putfield 15, 3) := by decide +kernel
theorem dX6_attach_22 : decode cX6_attach 22 = .ok (.return_, 1) := by decide +kernel
set_option maxRecDepth 20000 in
theorem ggX6_sign_X7_cell : GoodIn wsX6_sign wsX7_cell := goodIn_r _ [5] (by decide +kernel) (by decide +kernel)
set_option maxRecDepth 20000 in
theorem gX6_sign_X7_cell_n23 : GoodIn wsX6_sign (wsX7_cell) := ggX6_sign_X7_cell
theorem dX6_sign_0 : decode cX6_sign 0 = .ok (.iload_n 1, 1) := by decide +kernel
theorem dX6_sign_1 : decode cX6_sign 1 = .ok (.aload_n 0, 1) := by decide +kernel
theorem dX6_sign_2 : decode cX6_sign 2 = .ok (.getfield 15, 3) := by decide +kernel
theorem dX6_sign_5 : decode cX6_sign 5 = .ok (.if_icmp .ge 14, 3) := by decide +kernel
theorem dX6_sign_8 : decode cX6_sign 8 = .ok (.aload_n 0, 1) := by decide +kernel
theorem dX6_sign_9 : decode cX6_sign 9 = .ok (.getfield 9, 3) := by decide +kernel
theorem dX6_sign_12 : decode cX6_sign 12 = .ok (.iload_n 1, 1) := by decide +kernel
theorem dX6_sign_13 : decode cX6_sign 13 = .ok (.invokestatic 23, 3) := by decide +kernel
theorem dX6_sign_16 : decode cX6_sign 16 = .ok (.goto 4, 3) := by decide +kernel
theorem dX6_sign_19 : decode cX6_sign 19 = .ok (.iconst 0, 1) := by decide +kernel
theorem dX6_sign_20 : decode cX6_sign 20 = .ok (.ireturn, 1) := by decide +kernel
set_option maxRecDepth 20000 in
theorem ggX6_findError_X6_sign : GoodIn wsX6_findError wsX6_sign := goodIn_r _ [6, 1, 7, 8, 9, 10, 17, 18] (by decide +kernel) (by decide +kernel)
set_option maxRecDepth 20000 in
theorem gX6_findError_X6_sign : GoodIn wsX6_findError (wsV RX6 27 RX6 yX6_sign wsX6_sign) := goodIn_app (goodIn_of _ (by decide +kernel)) ggX6_findError_X6_sign
set_option maxRecDepth 20000 in
theorem ggX6_findError_X6_next : GoodIn wsX6_findError wsX6_next := goodIn_r _ [13, 14, 15, 5, 16] (by decide +kernel) (by decide +kernel)
set_option maxRecDepth 20000 in
theorem gX6_findError_X6_next : GoodIn wsX6_findError (va_wsS RX6 31 yX6_next wsX6_next) := goodIn_app (goodIn_of _ (by decide +kernel)) ggX6_findError_X6_next
theorem dX6_findError_0 : decode cX6_findError 0 = .ok (.iconst 0, 1) := by decide +kernel
theorem dX6_findError_1 : decode cX6_findError 1 = .ok (.istore_n 1, 1) := by decide +kernel
theorem dX6_findError_2 : decode cX6_findError 2 = .ok (.iconst 0, 1) := by decide +kernel
theorem dX6_findError_3 : decode cX6_findError 3 = .ok (.istore_n 2, 1) := by decide +kernel
theorem dX6_findError_4 : decode cX6_findError 4 = .ok (.iload_n 2, 1) := by decide +kernel
theorem dX6_findError_5 : decode cX6_findError 5 = .ok (.aload_n 0, 1) := by decide +kernel
theorem dX6_findError_6 : decode cX6_findError 6 = .ok (.getfield 15, 3) := by decide +kernel
theorem dX6_findError_9 : decode cX6_findError 9 = .ok (.if_icmp .ge 27, 3) := by decide +kernel
theorem dX6_findError_12 : decode cX6_findError 12 = .ok (.iload_n 1, 1) := by decide +kernel
theorem dX6_findError_13 : decode cX6_findError 13 = .ok (.aload_n 0, 1) := by decide +kernel
theorem dX6_findError_14 : decode cX6_findError 14 = .ok (.iload_n 2, 1) := by decide +kernel
theorem dX6_findError_15 : decode cX6_findError 15 = .ok (.invokevirtual 27, 3) := by decide +kernel
theorem dX6_findError_18 : decode cX6_findError 18 = .ok (.invokestatic 31, 3) := by decide +kernel
theorem dX6_findError_21 : decode cX6_findError 21 = .ok (.istore_n 1, 1) := by decide +kernel
theorem dX6_findError_22 : decode cX6_findError 22 = .ok (.iload_n 1, 1) := by decide +kernel
theorem dX6_findError_23 : decode cX6_findError 23 = .ok (.bipush 9, 2) := by decide +kernel
theorem dX6_findError_25 : decode cX6_findError 25 = .ok (.if_icmp .ne 5, 3) := by decide +kernel
theorem dX6_findError_28 : decode cX6_findError 28 = .ok (.iload_n 2, 1) := by decide +kernel
theorem dX6_findError_29 : decode cX6_findError 29 = .ok (.ireturn, 1) := by decide +kernel
theorem dX6_findError_30 : decode cX6_findError 30 = .ok (.iinc 2 1, 3) := by decide +kernel
theorem dX6_findError_33 : decode cX6_findError 33 = .ok (.goto (-29), 3) := by decide +kernel
theorem dX6_findError_36 : decode cX6_findError 36 = .ok (.aload_n 0, 1) := by decide +kernel
theorem dX6_findError_37 : decode cX6_findError 37 = .ok (.getfield 15, 3) := by decide +kernel
theorem dX6_findError_40 : decode cX6_findError 40 = .ok (.ireturn, 1) := by decide +kernel
set_option maxRecDepth 20000 in
theorem ggX6_tellsPoints_X6_sign : GoodIn wsX6_tellsPoints wsX6_sign := goodIn_r _ [6, 1, 7, 8, 9, 10, 17, 18] (by decide +kernel) (by decide +kernel)
set_option maxRecDepth 20000 in
theorem gX6_tellsPoints_X6_sign : GoodIn wsX6_tellsPoints (wsV RX6 27 RX6 yX6_sign wsX6_sign) := goodIn_app (goodIn_of _ (by decide +kernel)) ggX6_tellsPoints_X6_sign
set_option maxRecDepth 20000 in
theorem ggX6_tellsPoints_X6_next : GoodIn wsX6_tellsPoints wsX6_next := goodIn_r _ [13, 14, 15, 5, 16] (by decide +kernel) (by decide +kernel)
set_option maxRecDepth 20000 in
theorem gX6_tellsPoints_X6_next : GoodIn wsX6_tellsPoints (va_wsS RX6 31 yX6_next wsX6_next) := goodIn_app (goodIn_of _ (by decide +kernel)) ggX6_tellsPoints_X6_next
theorem dX6_tellsPoints_0 : decode cX6_tellsPoints 0 = .ok (.iconst 0, 1) := by decide +kernel
theorem dX6_tellsPoints_1 : decode cX6_tellsPoints 1 = .ok (.istore_n 1, 1) := by decide +kernel
theorem dX6_tellsPoints_2 : decode cX6_tellsPoints 2 = .ok (.iconst 0, 1) := by decide +kernel
theorem dX6_tellsPoints_3 : decode cX6_tellsPoints 3 = .ok (.istore_n 2, 1) := by decide +kernel
theorem dX6_tellsPoints_4 : decode cX6_tellsPoints 4 = .ok (.iload_n 2, 1) := by decide +kernel
theorem dX6_tellsPoints_5 : decode cX6_tellsPoints 5 = .ok (.aload_n 0, 1) := by decide +kernel
theorem dX6_tellsPoints_6 : decode cX6_tellsPoints 6 = .ok (.getfield 15, 3) := by decide +kernel
theorem dX6_tellsPoints_9 : decode cX6_tellsPoints 9 = .ok (.if_icmp .ge 19, 3) := by decide +kernel
theorem dX6_tellsPoints_12 : decode cX6_tellsPoints 12 = .ok (.iload_n 1, 1) := by decide +kernel
theorem dX6_tellsPoints_13 : decode cX6_tellsPoints 13 = .ok (.aload_n 0, 1) := by decide +kernel
theorem dX6_tellsPoints_14 : decode cX6_tellsPoints 14 = .ok (.iload_n 2, 1) := by decide +kernel
theorem dX6_tellsPoints_15 : decode cX6_tellsPoints 15 = .ok (.invokevirtual 27, 3) := by decide +kernel
theorem dX6_tellsPoints_18 : decode cX6_tellsPoints 18 = .ok (.invokestatic 31, 3) := by decide +kernel
theorem dX6_tellsPoints_21 : decode cX6_tellsPoints 21 = .ok (.istore_n 1, 1) := by decide +kernel
theorem dX6_tellsPoints_22 : decode cX6_tellsPoints 22 = .ok (.iinc 2 1, 3) := by decide +kernel
theorem dX6_tellsPoints_25 : decode cX6_tellsPoints 25 = .ok (.goto (-21), 3) := by decide +kernel
theorem dX6_tellsPoints_28 : decode cX6_tellsPoints 28 = .ok (.iload_n 1, 1) := by decide +kernel
theorem dX6_tellsPoints_29 : decode cX6_tellsPoints 29 = .ok (.bipush 6, 2) := by decide +kernel
theorem dX6_tellsPoints_31 : decode cX6_tellsPoints 31 = .ok (.if_icmp .eq 15, 3) := by decide +kernel
theorem dX6_tellsPoints_34 : decode cX6_tellsPoints 34 = .ok (.iload_n 1, 1) := by decide +kernel
theorem dX6_tellsPoints_35 : decode cX6_tellsPoints 35 = .ok (.bipush 7, 2) := by decide +kernel
theorem dX6_tellsPoints_37 : decode cX6_tellsPoints 37 = .ok (.if_icmp .eq 9, 3) := by decide +kernel
theorem dX6_tellsPoints_40 : decode cX6_tellsPoints 40 = .ok (.iload_n 1, 1) := by decide +kernel
theorem dX6_tellsPoints_41 : decode cX6_tellsPoints 41 = .ok (.bipush 8, 2) := by decide +kernel
theorem dX6_tellsPoints_43 : decode cX6_tellsPoints 43 = .ok (.if_icmp .ne 7, 3) := by decide +kernel
theorem dX6_tellsPoints_46 : decode cX6_tellsPoints 46 = .ok (.iconst 1, 1) := by decide +kernel
theorem dX6_tellsPoints_47 : decode cX6_tellsPoints 47 = .ok (.goto 4, 3) := by decide +kernel
theorem dX6_tellsPoints_50 : decode cX6_tellsPoints 50 = .ok (.iconst 0, 1) := by decide +kernel
theorem dX6_tellsPoints_51 : decode cX6_tellsPoints 51 = .ok (.ireturn, 1) := by decide +kernel
set_option maxRecDepth 20000 in
theorem ggX6_numberIn_X6_sign : GoodIn wsX6_numberIn wsX6_sign := goodIn_r _ [5, 6, 7, 8, 9, 10, 11, 12] (by decide +kernel) (by decide +kernel)
set_option maxRecDepth 20000 in
theorem gX6_numberIn_X6_sign : GoodIn wsX6_numberIn (wsV RX6 27 RX6 yX6_sign wsX6_sign) := goodIn_app (goodIn_of _ (by decide +kernel)) ggX6_numberIn_X6_sign
theorem dX6_numberIn_0 : decode cX6_numberIn 0 = .ok (.aload_n 0, 1) := by decide +kernel
theorem dX6_numberIn_1 : decode cX6_numberIn 1 = .ok (.iload_n 1, 1) := by decide +kernel
theorem dX6_numberIn_2 : decode cX6_numberIn 2 = .ok (.invokevirtual 27, 3) := by decide +kernel
theorem dX6_numberIn_5 : decode cX6_numberIn 5 = .ok (.bipush 45, 2) := by decide +kernel
theorem dX6_numberIn_7 : decode cX6_numberIn 7 = .ok (.if_icmp .ne 7, 3) := by decide +kernel
theorem dX6_numberIn_10 : decode cX6_numberIn 10 = .ok (.iconst 1, 1) := by decide +kernel
theorem dX6_numberIn_11 : decode cX6_numberIn 11 = .ok (.goto 4, 3) := by decide +kernel
theorem dX6_numberIn_14 : decode cX6_numberIn 14 = .ok (.iconst 0, 1) := by decide +kernel
theorem dX6_numberIn_15 : decode cX6_numberIn 15 = .ok (.istore_n 3, 1) := by decide +kernel
theorem dX6_numberIn_16 : decode cX6_numberIn 16 = .ok (.iconst 0, 1) := by decide +kernel
theorem dX6_numberIn_17 : decode cX6_numberIn 17 = .ok (.istore 4, 2) := by decide +kernel
