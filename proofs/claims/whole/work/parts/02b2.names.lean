theorem dX6_numberIn_19 : decode cX6_numberIn 19 = .ok (.iload_n 3, 1) := by decide +kernel
theorem dX6_numberIn_20 : decode cX6_numberIn 20 = .ok (.ifCond .eq 9, 3) := by decide +kernel
theorem dX6_numberIn_23 : decode cX6_numberIn 23 = .ok (.iload_n 1, 1) := by decide +kernel
theorem dX6_numberIn_24 : decode cX6_numberIn 24 = .ok (.iconst 1, 1) := by decide +kernel
theorem dX6_numberIn_25 : decode cX6_numberIn 25 = .ok (.iadd, 1) := by decide +kernel
theorem dX6_numberIn_26 : decode cX6_numberIn 26 = .ok (.goto 4, 3) := by decide +kernel
theorem dX6_numberIn_29 : decode cX6_numberIn 29 = .ok (.iload_n 1, 1) := by decide +kernel
theorem dX6_numberIn_30 : decode cX6_numberIn 30 = .ok (.istore 5, 2) := by decide +kernel
theorem dX6_numberIn_32 : decode cX6_numberIn 32 = .ok (.iload 5, 2) := by decide +kernel
theorem dX6_numberIn_34 : decode cX6_numberIn 34 = .ok (.iload_n 2, 1) := by decide +kernel
theorem dX6_numberIn_35 : decode cX6_numberIn 35 = .ok (.if_icmp .ge 26, 3) := by decide +kernel
theorem dX6_numberIn_38 : decode cX6_numberIn 38 = .ok (.bipush 10, 2) := by decide +kernel
theorem dX6_numberIn_40 : decode cX6_numberIn 40 = .ok (.iload 4, 2) := by decide +kernel
theorem dX6_numberIn_42 : decode cX6_numberIn 42 = .ok (.imul, 1) := by decide +kernel
theorem dX6_numberIn_43 : decode cX6_numberIn 43 = .ok (.aload_n 0, 1) := by decide +kernel
theorem dX6_numberIn_44 : decode cX6_numberIn 44 = .ok (.iload 5, 2) := by decide +kernel
theorem dX6_numberIn_46 : decode cX6_numberIn 46 = .ok (.invokevirtual 27, 3) := by decide +kernel
theorem dX6_numberIn_49 : decode cX6_numberIn 49 = .ok (.iadd, 1) := by decide +kernel
theorem dX6_numberIn_50 : decode cX6_numberIn 50 = .ok (.bipush 48, 2) := by decide +kernel
theorem dX6_numberIn_52 : decode cX6_numberIn 52 = .ok (.isub, 1) := by decide +kernel
theorem dX6_numberIn_53 : decode cX6_numberIn 53 = .ok (.istore 4, 2) := by decide +kernel
theorem dX6_numberIn_55 : decode cX6_numberIn 55 = .ok (.iinc 5 1, 3) := by decide +kernel
theorem dX6_numberIn_58 : decode cX6_numberIn 58 = .ok (.goto (-26), 3) := by decide +kernel
theorem dX6_numberIn_61 : decode cX6_numberIn 61 = .ok (.iload_n 3, 1) := by decide +kernel
theorem dX6_numberIn_62 : decode cX6_numberIn 62 = .ok (.ifCond .eq 9, 3) := by decide +kernel
theorem dX6_numberIn_65 : decode cX6_numberIn 65 = .ok (.iload 4, 2) := by decide +kernel
theorem dX6_numberIn_67 : decode cX6_numberIn 67 = .ok (.ineg, 1) := by decide +kernel
theorem dX6_numberIn_68 : decode cX6_numberIn 68 = .ok (.goto 5, 3) := by decide +kernel
theorem dX6_numberIn_71 : decode cX6_numberIn 71 = .ok (.iload 4, 2) := by decide +kernel
theorem dX6_numberIn_73 : decode cX6_numberIn 73 = .ok (.ireturn, 1) := by decide +kernel
set_option maxRecDepth 20000 in
theorem ggX6_next_X6_afterFirstDigit : GoodIn wsX6_next wsX6_afterFirstDigit := goodIn_r _ [4] (by decide +kernel) (by decide +kernel)
set_option maxRecDepth 20000 in
theorem gX6_next_X6_afterFirstDigit : GoodIn wsX6_next (va_wsS RX6 35 yX6_afterFirstDigit wsX6_afterFirstDigit) := goodIn_app (goodIn_of _ (by decide +kernel)) ggX6_next_X6_afterFirstDigit
theorem dX6_next_0 : decode cX6_next 0 = .ok (.iload_n 0, 1) := by decide +kernel
theorem dX6_next_1 : decode cX6_next 1 = .ok (.tableswitch 120 3 8 #[39, 58, 73, 78, 78, 107], 39) := by decide +kernel
theorem dX6_next_40 : decode cX6_next 40 = .ok (.iload_n 1, 1) := by decide +kernel
theorem dX6_next_41 : decode cX6_next 41 = .ok (.bipush 61, 2) := by decide +kernel
theorem dX6_next_43 : decode cX6_next 43 = .ok (.if_icmp .eq 9, 3) := by decide +kernel
theorem dX6_next_46 : decode cX6_next 46 = .ok (.iload_n 1, 1) := by decide +kernel
theorem dX6_next_47 : decode cX6_next 47 = .ok (.bipush 43, 2) := by decide +kernel
theorem dX6_next_49 : decode cX6_next 49 = .ok (.if_icmp .ne 7, 3) := by decide +kernel
theorem dX6_next_52 : decode cX6_next 52 = .ok (.iconst 4, 1) := by decide +kernel
theorem dX6_next_53 : decode cX6_next 53 = .ok (.goto 5, 3) := by decide +kernel
theorem dX6_next_56 : decode cX6_next 56 = .ok (.bipush 9, 2) := by decide +kernel
theorem dX6_next_58 : decode cX6_next 58 = .ok (.ireturn, 1) := by decide +kernel
theorem dX6_next_59 : decode cX6_next 59 = .ok (.iload_n 1, 1) := by decide +kernel
theorem dX6_next_60 : decode cX6_next 60 = .ok (.bipush 45, 2) := by decide +kernel
theorem dX6_next_62 : decode cX6_next 62 = .ok (.if_icmp .ne 7, 3) := by decide +kernel
theorem dX6_next_65 : decode cX6_next 65 = .ok (.iconst 5, 1) := by decide +kernel
theorem dX6_next_66 : decode cX6_next 66 = .ok (.goto 7, 3) := by decide +kernel
theorem dX6_next_69 : decode cX6_next 69 = .ok (.iload_n 1, 1) := by decide +kernel
theorem dX6_next_70 : decode cX6_next 70 = .ok (.invokestatic 35, 3) := by decide +kernel
theorem dX6_next_73 : decode cX6_next 73 = .ok (.ireturn, 1) := by decide +kernel
theorem dX6_next_74 : decode cX6_next 74 = .ok (.iload_n 1, 1) := by decide +kernel
theorem dX6_next_75 : decode cX6_next 75 = .ok (.invokestatic 35, 3) := by decide +kernel
theorem dX6_next_78 : decode cX6_next 78 = .ok (.ireturn, 1) := by decide +kernel
theorem dX6_next_79 : decode cX6_next 79 = .ok (.iload_n 1, 1) := by decide +kernel
theorem dX6_next_80 : decode cX6_next 80 = .ok (.bipush 48, 2) := by decide +kernel
theorem dX6_next_82 : decode cX6_next 82 = .ok (.if_icmp .lt 13, 3) := by decide +kernel
theorem dX6_next_85 : decode cX6_next 85 = .ok (.iload_n 1, 1) := by decide +kernel
theorem dX6_next_86 : decode cX6_next 86 = .ok (.bipush 57, 2) := by decide +kernel
theorem dX6_next_88 : decode cX6_next 88 = .ok (.if_icmp .gt 7, 3) := by decide +kernel
theorem dX6_next_91 : decode cX6_next 91 = .ok (.iload_n 0, 1) := by decide +kernel
theorem dX6_next_92 : decode cX6_next 92 = .ok (.iconst 1, 1) := by decide +kernel
theorem dX6_next_93 : decode cX6_next 93 = .ok (.iadd, 1) := by decide +kernel
theorem dX6_next_94 : decode cX6_next 94 = .ok (.ireturn, 1) := by decide +kernel
theorem dX6_next_95 : decode cX6_next 95 = .ok (.iload_n 1, 1) := by decide +kernel
theorem dX6_next_96 : decode cX6_next 96 = .ok (.bipush 59, 2) := by decide +kernel
theorem dX6_next_98 : decode cX6_next 98 = .ok (.if_icmp .ne 7, 3) := by decide +kernel
theorem dX6_next_101 : decode cX6_next 101 = .ok (.iconst 0, 1) := by decide +kernel
theorem dX6_next_102 : decode cX6_next 102 = .ok (.goto 5, 3) := by decide +kernel
theorem dX6_next_105 : decode cX6_next 105 = .ok (.bipush 9, 2) := by decide +kernel
theorem dX6_next_107 : decode cX6_next 107 = .ok (.ireturn, 1) := by decide +kernel
theorem dX6_next_108 : decode cX6_next 108 = .ok (.iload_n 1, 1) := by decide +kernel
theorem dX6_next_109 : decode cX6_next 109 = .ok (.bipush 59, 2) := by decide +kernel
theorem dX6_next_111 : decode cX6_next 111 = .ok (.if_icmp .ne 7, 3) := by decide +kernel
theorem dX6_next_114 : decode cX6_next 114 = .ok (.iconst 0, 1) := by decide +kernel
theorem dX6_next_115 : decode cX6_next 115 = .ok (.goto 5, 3) := by decide +kernel
theorem dX6_next_118 : decode cX6_next 118 = .ok (.bipush 9, 2) := by decide +kernel
theorem dX6_next_120 : decode cX6_next 120 = .ok (.ireturn, 1) := by decide +kernel
theorem dX6_next_121 : decode cX6_next 121 = .ok (.iload_n 0, 1) := by decide +kernel
theorem dX6_next_122 : decode cX6_next 122 = .ok (.iconst 2, 1) := by decide +kernel
theorem dX6_next_123 : decode cX6_next 123 = .ok (.if_icmp .gt 21, 3) := by decide +kernel
theorem dX6_next_126 : decode cX6_next 126 = .ok (.iload_n 1, 1) := by decide +kernel
theorem dX6_next_127 : decode cX6_next 127 = .ok (.bipush 48, 2) := by decide +kernel
theorem dX6_next_129 : decode cX6_next 129 = .ok (.if_icmp .lt 15, 3) := by decide +kernel
theorem dX6_next_132 : decode cX6_next 132 = .ok (.iload_n 1, 1) := by decide +kernel
theorem dX6_next_133 : decode cX6_next 133 = .ok (.bipush 55, 2) := by decide +kernel
theorem dX6_next_135 : decode cX6_next 135 = .ok (.if_icmp .gt 9, 3) := by decide +kernel
theorem dX6_next_138 : decode cX6_next 138 = .ok (.iload_n 0, 1) := by decide +kernel
theorem dX6_next_139 : decode cX6_next 139 = .ok (.iconst 1, 1) := by decide +kernel
theorem dX6_next_140 : decode cX6_next 140 = .ok (.iadd, 1) := by decide +kernel
theorem dX6_next_141 : decode cX6_next 141 = .ok (.goto 5, 3) := by decide +kernel
theorem dX6_next_144 : decode cX6_next 144 = .ok (.bipush 9, 2) := by decide +kernel
theorem dX6_next_146 : decode cX6_next 146 = .ok (.ireturn, 1) := by decide +kernel
theorem dX6_afterFirstDigit_0 : decode cX6_afterFirstDigit 0 = .ok (.iload_n 0, 1) := by decide +kernel
theorem dX6_afterFirstDigit_1 : decode cX6_afterFirstDigit 1 = .ok (.bipush 48, 2) := by decide +kernel
theorem dX6_afterFirstDigit_3 : decode cX6_afterFirstDigit 3 = .ok (.if_icmp .ne 6, 3) := by decide +kernel
theorem dX6_afterFirstDigit_6 : decode cX6_afterFirstDigit 6 = .ok (.bipush 8, 2) := by decide +kernel
theorem dX6_afterFirstDigit_8 : decode cX6_afterFirstDigit 8 = .ok (.ireturn, 1) := by decide +kernel
theorem dX6_afterFirstDigit_9 : decode cX6_afterFirstDigit 9 = .ok (.iload_n 0, 1) := by decide +kernel
theorem dX6_afterFirstDigit_10 : decode cX6_afterFirstDigit 10 = .ok (.bipush 49, 2) := by decide +kernel
theorem dX6_afterFirstDigit_12 : decode cX6_afterFirstDigit 12 = .ok (.if_icmp .lt 14, 3) := by decide +kernel
theorem dX6_afterFirstDigit_15 : decode cX6_afterFirstDigit 15 = .ok (.iload_n 0, 1) := by decide +kernel
theorem dX6_afterFirstDigit_16 : decode cX6_afterFirstDigit 16 = .ok (.bipush 57, 2) := by decide +kernel
theorem dX6_afterFirstDigit_18 : decode cX6_afterFirstDigit 18 = .ok (.if_icmp .gt 8, 3) := by decide +kernel
theorem dX6_afterFirstDigit_21 : decode cX6_afterFirstDigit 21 = .ok (.bipush 6, 2) := by decide +kernel
theorem dX6_afterFirstDigit_23 : decode cX6_afterFirstDigit 23 = .ok (.goto 5, 3) := by decide +kernel
theorem dX6_afterFirstDigit_26 : decode cX6_afterFirstDigit 26 = .ok (.bipush 9, 2) := by decide +kernel
theorem dX6_afterFirstDigit_28 : decode cX6_afterFirstDigit 28 = .ok (.ireturn, 1) := by decide +kernel
set_option maxRecDepth 20000 in
theorem ggX7_init_X5_init : GoodIn wsX7_init wsX5_init := goodIn_r _ [35, 36, 2, 3, 37, 38, 39, 32, 40, 41, 83, 84, 85, 86, 87] (by decide +kernel) (by decide +kernel)
set_option maxRecDepth 20000 in
theorem gX7_init_X5_init_n9 : GoodIn wsX7_init (wsX5_init) := ggX7_init_X5_init
set_option maxRecDepth 20000 in
theorem ggX7_init_X2_init : GoodIn wsX7_init wsX2_init := goodIn_r _ [44, 45, 2, 3, 46, 47, 48, 49, 5, 6, 34, 35, 36, 37, 38, 39, 32, 40, 41, 96, 97, 98, 83, 84, 85, 86, 87] (by decide +kernel) (by decide +kernel)
set_option maxRecDepth 20000 in
theorem gX7_init_X2_init : GoodIn wsX7_init (wsX2_init) := ggX7_init_X2_init
set_option maxRecDepth 20000 in
theorem ggX7_init_X6_init : GoodIn wsX7_init wsX6_init := goodIn_r _ [51, 52, 2, 3, 32, 53, 54, 99, 100] (by decide +kernel) (by decide +kernel)
set_option maxRecDepth 20000 in
theorem gX7_init_X6_init_n25 : GoodIn wsX7_init (wsX6_init) := ggX7_init_X6_init
set_option maxRecDepth 20000 in
theorem ggX7_init_X4_init : GoodIn wsX7_init wsX4_init := goodIn_r _ [56, 57, 2, 3, 58, 32, 59, 60, 61, 62, 101, 102, 103, 104, 105] (by decide +kernel) (by decide +kernel)
set_option maxRecDepth 20000 in
theorem gX7_init_X4_init_n32 : GoodIn wsX7_init (wsX4_init) := ggX7_init_X4_init
set_option maxRecDepth 20000 in
theorem ggX7_init_X0_init : GoodIn wsX7_init wsX0_init := goodIn_r _ [64, 65, 2, 3, 66, 67, 68, 69, 106, 107, 108, 109] (by decide +kernel) (by decide +kernel)
set_option maxRecDepth 20000 in
theorem gX7_init_X0_init_n39 : GoodIn wsX7_init (wsX0_init) := ggX7_init_X0_init
set_option maxRecDepth 20000 in
theorem ggX7_init_X3_init : GoodIn wsX7_init wsX3_init := goodIn_r _ [71, 72, 2, 3, 73, 74, 75, 110, 111, 112] (by decide +kernel) (by decide +kernel)
set_option maxRecDepth 20000 in
theorem gX7_init_X3_init_n46 : GoodIn wsX7_init (wsX3_init) := ggX7_init_X3_init
set_option maxRecDepth 20000 in
theorem ggX7_init_X1_init : GoodIn wsX7_init wsX1_init := goodIn_r _ [77, 78, 2, 3, 79, 80, 81, 82, 113, 114, 115, 116] (by decide +kernel) (by decide +kernel)
set_option maxRecDepth 20000 in
theorem gX7_init_X1_init_n53 : GoodIn wsX7_init (wsX1_init) := ggX7_init_X1_init
theorem dX7_init_0 : decode cX7_init 0 = .ok (.aload_n 0, 1) := by decide +kernel
theorem dX7_init_1 : decode cX7_init 1 = .ok (.invokespecial 1, 3) := by decide +kernel
theorem dX7_init_4 : decode cX7_init 4 = .ok (.aload_n 0, 1) := by decide +kernel
theorem dX7_init_5 : decode cX7_init 5 = .ok (.new 7, 3) := by decide +kernel
theorem dX7_init_8 : decode cX7_init 8 = .ok (.dup, 1) := by decide +kernel
theorem dX7_init_9 : decode cX7_init 9 = .ok (.invokespecial 9, 3) := by decide +kernel
theorem dX7_init_12 : decode cX7_init 12 = .ok (.putfield 10, 3) := by decide +kernel
theorem dX7_init_15 : decode cX7_init 15 = .ok (.aload_n 0, 1) := by decide +kernel
theorem dX7_init_16 : decode cX7_init 16 = .ok (.new 16, 3) := by decide +kernel
theorem dX7_init_19 : decode cX7_init 19 = .ok (.dup, 1) := by decide +kernel
theorem dX7_init_20 : decode cX7_init 20 = .ok (.invokespecial 18, 3) := by decide +kernel
theorem dX7_init_23 : decode cX7_init 23 = .ok (.putfield 19, 3) := by decide +kernel
theorem dX7_init_26 : decode cX7_init 26 = .ok (.aload_n 0, 1) := by decide +kernel
theorem dX7_init_27 : decode cX7_init 27 = .ok (.new 23, 3) := by decide +kernel
theorem dX7_init_30 : decode cX7_init 30 = .ok (.dup, 1) := by decide +kernel
theorem dX7_init_31 : decode cX7_init 31 = .ok (.invokespecial 25, 3) := by decide +kernel
theorem dX7_init_34 : decode cX7_init 34 = .ok (.putfield 26, 3) := by decide +kernel
theorem dX7_init_37 : decode cX7_init 37 = .ok (.aload_n 0, 1) := by decide +kernel
theorem dX7_init_38 : decode cX7_init 38 = .ok (.new 30, 3) := by decide +kernel
theorem dX7_init_41 : decode cX7_init 41 = .ok (.dup, 1) := by decide +kernel
theorem dX7_init_42 : decode cX7_init 42 = .ok (.invokespecial 32, 3) := by decide +kernel
theorem dX7_init_45 : decode cX7_init 45 = .ok (.putfield 33, 3) := by decide +kernel
theorem dX7_init_48 : decode cX7_init 48 = .ok (.aload_n 0, 1) := by decide +kernel
theorem dX7_init_49 : decode cX7_init 49 = .ok (.new 37, 3) := by decide +kernel
theorem dX7_init_52 : decode cX7_init 52 = .ok (.dup, 1) := by decide +kernel
theorem dX7_init_53 : decode cX7_init 53 = .ok (.invokespecial 39, 3) := by decide +kernel
theorem dX7_init_56 : decode cX7_init 56 = .ok (.putfield 40, 3) := by decide +kernel
theorem dX7_init_59 : decode cX7_init 59 = .ok (.aload_n 0, 1) := by decide +kernel
theorem dX7_init_60 : decode cX7_init 60 = .ok (.new 44, 3) := by decide +kernel
theorem dX7_init_63 : decode cX7_init 63 = .ok (.dup, 1) := by decide +kernel
theorem dX7_init_64 : decode cX7_init 64 = .ok (.invokespecial 46, 3) := by decide +kernel
theorem dX7_init_67 : decode cX7_init 67 = .ok (.putfield 47, 3) := by decide +kernel
theorem dX7_init_70 : decode cX7_init 70 = .ok (.aload_n 0, 1) := by decide +kernel
theorem dX7_init_71 : decode cX7_init 71 = .ok (.new 51, 3) := by decide +kernel
theorem dX7_init_74 : decode cX7_init 74 = .ok (.dup, 1) := by decide +kernel
theorem dX7_init_75 : decode cX7_init 75 = .ok (.invokespecial 53, 3) := by decide +kernel
theorem dX7_init_78 : decode cX7_init 78 = .ok (.putfield 54, 3) := by decide +kernel
theorem dX7_init_81 : decode cX7_init 81 = .ok (.aload_n 0, 1) := by decide +kernel
theorem dX7_init_82 : decode cX7_init 82 = .ok (.sipush 512, 3) := by decide +kernel
theorem dX7_init_85 : decode cX7_init 85 = .ok (.newarray .int, 2) := by decide +kernel
theorem dX7_init_87 : decode cX7_init 87 = .ok (.putfield 58, 3) := by decide +kernel
theorem dX7_init_90 : decode cX7_init 90 = .ok (.return_, 1) := by decide +kernel
set_option maxRecDepth 20000 in
theorem ggX7_begin_X2_save : GoodIn wsX7_begin wsX2_save := goodIn_r _ [9, 10, 11, 12, 13, 14, 8, 15, 16, 17, 18, 19, 20, 21, 22, 23, 24, 25, 26, 27, 28, 29, 30, 31, 32, 33, 52, 53, 54, 55, 56, 57, 58, 59] (by decide +kernel) (by decide +kernel)
set_option maxRecDepth 20000 in
theorem gX7_begin_X2_save : GoodIn wsX7_begin (wsV RX7 69 RX2 yX2_save wsX2_save) := goodIn_app (goodIn_of _ (by decide +kernel)) ggX7_begin_X2_save
set_option maxRecDepth 20000 in
theorem ggX7_begin_X5_clear : GoodIn wsX7_begin wsX5_clear := goodIn_r _ [37, 22, 25, 26, 38, 28, 39, 55, 56, 57, 58, 59] (by decide +kernel) (by decide +kernel)
set_option maxRecDepth 20000 in
theorem gX7_begin_X5_clear : GoodIn wsX7_begin (wsV RX7 73 RX5 yX5_clear wsX5_clear) := goodIn_app (goodIn_of _ (by decide +kernel)) ggX7_begin_X5_clear
set_option maxRecDepth 20000 in
theorem ggX7_begin_X5_points : GoodIn wsX7_begin wsX5_points := goodIn_r _ [43, 22, 55, 56, 57, 58, 59] (by decide +kernel) (by decide +kernel)
set_option maxRecDepth 20000 in
theorem gX7_begin_X5_points : GoodIn wsX7_begin (wsV RX7 77 RX5 yX5_points wsX5_points) := goodIn_app (goodIn_of _ (by decide +kernel)) ggX7_begin_X5_points
theorem dX7_begin_0 : decode cX7_begin 0 = .ok (.iload_n 1, 1) := by decide +kernel
theorem dX7_begin_1 : decode cX7_begin 1 = .ok (.iconst 2, 1) := by decide +kernel
theorem dX7_begin_2 : decode cX7_begin 2 = .ok (.if_icmp .lt 9, 3) := by decide +kernel
theorem dX7_begin_5 : decode cX7_begin 5 = .ok (.iload_n 1, 1) := by decide +kernel
theorem dX7_begin_6 : decode cX7_begin 6 = .ok (.bipush 8, 2) := by decide +kernel
theorem dX7_begin_8 : decode cX7_begin 8 = .ok (.if_icmp .le 13, 3) := by decide +kernel
theorem dX7_begin_11 : decode cX7_begin 11 = .ok (.new 62, 3) := by decide +kernel
theorem dX7_begin_14 : decode cX7_begin 14 = .ok (.dup, 1) := by decide +kernel
theorem dX7_begin_15 : decode cX7_begin 15 = .ok (.ldc 64, 2) := by decide +kernel
theorem dX7_begin_17 : decode cX7_begin 17 = .ok (.invokespecial 66, 3) := by decide +kernel
theorem dX7_begin_20 : decode cX7_begin 20 = .ok (.athrow, 1) := by decide +kernel
theorem dX7_begin_21 : decode cX7_begin 21 = .ok (.aload_n 0, 1) := by decide +kernel
theorem dX7_begin_22 : decode cX7_begin 22 = .ok (.getfield 19, 3) := by decide +kernel
theorem dX7_begin_25 : decode cX7_begin 25 = .ok (.aload_n 0, 1) := by decide +kernel
theorem dX7_begin_26 : decode cX7_begin 26 = .ok (.getfield 10, 3) := by decide +kernel
theorem dX7_begin_29 : decode cX7_begin 29 = .ok (.invokevirtual 69, 3) := by decide +kernel
theorem dX7_begin_32 : decode cX7_begin 32 = .ok (.aload_n 0, 1) := by decide +kernel
theorem dX7_begin_33 : decode cX7_begin 33 = .ok (.getfield 10, 3) := by decide +kernel
theorem dX7_begin_36 : decode cX7_begin 36 = .ok (.iload_n 1, 1) := by decide +kernel
theorem dX7_begin_37 : decode cX7_begin 37 = .ok (.invokevirtual 73, 3) := by decide +kernel
theorem dX7_begin_40 : decode cX7_begin 40 = .ok (.aload_n 0, 1) := by decide +kernel
theorem dX7_begin_41 : decode cX7_begin 41 = .ok (.getfield 10, 3) := by decide +kernel
theorem dX7_begin_44 : decode cX7_begin 44 = .ok (.invokevirtual 77, 3) := by decide +kernel
theorem dX7_begin_47 : decode cX7_begin 47 = .ok (.ireturn, 1) := by decide +kernel
set_option maxRecDepth 20000 in
theorem ggX7_put_X5_hasPoint : GoodIn wsX7_put wsX5_hasPoint := goodIn_r _ [11, 12, 13, 14, 10, 15, 16, 71, 72, 73, 74, 75] (by decide +kernel) (by decide +kernel)
set_option maxRecDepth 20000 in
theorem gX7_put_X5_hasPoint : GoodIn wsX7_put (wsV RX7 81 RX5 yX5_hasPoint wsX5_hasPoint) := goodIn_app (goodIn_of _ (by decide +kernel)) ggX7_put_X5_hasPoint
set_option maxRecDepth 20000 in
theorem ggX7_put_X7_isNumber : GoodIn wsX7_put wsX7_isNumber := goodIn_r _ [20] (by decide +kernel) (by decide +kernel)
set_option maxRecDepth 20000 in
theorem gX7_put_X7_isNumber : GoodIn wsX7_put (va_wsS RX7 90 yX7_isNumber wsX7_isNumber) := goodIn_app (goodIn_of _ (by decide +kernel)) ggX7_put_X7_isNumber
set_option maxRecDepth 20000 in
theorem ggX7_put_X2_save : GoodIn wsX7_put wsX2_save := goodIn_r _ [25, 26, 27, 28, 29, 30, 24, 31, 32, 33, 34, 35, 10, 36, 16, 37, 38, 39, 40, 41, 19, 42, 43, 44, 45, 46, 76, 77, 78, 71, 72, 73, 74, 75] (by decide +kernel) (by decide +kernel)
set_option maxRecDepth 20000 in
theorem gX7_put_X2_save : GoodIn wsX7_put (wsV RX7 69 RX2 yX2_save wsX2_save) := goodIn_app (goodIn_of _ (by decide +kernel)) ggX7_put_X2_save
set_option maxRecDepth 20000 in
theorem ggX7_put_X5_place : GoodIn wsX7_put wsX5_place := goodIn_r _ [50, 16, 71, 72, 73, 74, 75] (by decide +kernel) (by decide +kernel)
set_option maxRecDepth 20000 in
theorem gX7_put_X5_place : GoodIn wsX7_put (wsV RX7 96 RX5 yX5_place wsX5_place) := goodIn_app (goodIn_of _ (by decide +kernel)) ggX7_put_X5_place
set_option maxRecDepth 20000 in
theorem ggX7_put_X5_number : GoodIn wsX7_put wsX5_number := goodIn_r _ [54, 39, 55, 19, 56, 71, 72, 73, 74, 75] (by decide +kernel) (by decide +kernel)
set_option maxRecDepth 20000 in
theorem gX7_put_X5_number : GoodIn wsX7_put (wsV RX7 100 RX5 yX5_number wsX5_number) := goodIn_app (goodIn_of _ (by decide +kernel)) ggX7_put_X5_number
set_option maxRecDepth 20000 in
theorem ggX7_put_X5_write : GoodIn wsX7_put wsX5_write := goodIn_r _ [60, 39, 61, 19, 62, 71, 72, 73, 74, 75] (by decide +kernel) (by decide +kernel)
set_option maxRecDepth 20000 in
theorem gX7_put_X5_write : GoodIn wsX7_put (wsV RX7 104 RX5 yX5_write wsX5_write) := goodIn_app (goodIn_of _ (by decide +kernel)) ggX7_put_X5_write
theorem dX7_put_0 : decode cX7_put 0 = .ok (.aload_n 0, 1) := by decide +kernel
theorem dX7_put_1 : decode cX7_put 1 = .ok (.getfield 10, 3) := by decide +kernel
theorem dX7_put_4 : decode cX7_put 4 = .ok (.iload_n 1, 1) := by decide +kernel
theorem dX7_put_5 : decode cX7_put 5 = .ok (.iload_n 2, 1) := by decide +kernel
theorem dX7_put_6 : decode cX7_put 6 = .ok (.iload_n 3, 1) := by decide +kernel
theorem dX7_put_7 : decode cX7_put 7 = .ok (.invokevirtual 81, 3) := by decide +kernel
theorem dX7_put_10 : decode cX7_put 10 = .ok (.ifCond .ne 13, 3) := by decide +kernel
theorem dX7_put_13 : decode cX7_put 13 = .ok (.new 85, 3) := by decide +kernel
theorem dX7_put_16 : decode cX7_put 16 = .ok (.dup, 1) := by decide +kernel
theorem dX7_put_17 : decode cX7_put 17 = .ok (.ldc 87, 2) := by decide +kernel
theorem dX7_put_19 : decode cX7_put 19 = .ok (.invokespecial 89, 3) := by decide +kernel
theorem dX7_put_22 : decode cX7_put 22 = .ok (.athrow, 1) := by decide +kernel
theorem dX7_put_23 : decode cX7_put 23 = .ok (.iload 4, 2) := by decide +kernel
theorem dX7_put_25 : decode cX7_put 25 = .ok (.invokestatic 90, 3) := by decide +kernel
theorem dX7_put_28 : decode cX7_put 28 = .ok (.ifCond .ne 13, 3) := by decide +kernel
theorem dX7_put_31 : decode cX7_put 31 = .ok (.new 62, 3) := by decide +kernel
theorem dX7_put_34 : decode cX7_put 34 = .ok (.dup, 1) := by decide +kernel
theorem dX7_put_35 : decode cX7_put 35 = .ok (.ldc 94, 2) := by decide +kernel
theorem dX7_put_37 : decode cX7_put 37 = .ok (.invokespecial 66, 3) := by decide +kernel
theorem dX7_put_40 : decode cX7_put 40 = .ok (.athrow, 1) := by decide +kernel
theorem dX7_put_41 : decode cX7_put 41 = .ok (.aload_n 0, 1) := by decide +kernel
theorem dX7_put_42 : decode cX7_put 42 = .ok (.getfield 19, 3) := by decide +kernel
theorem dX7_put_45 : decode cX7_put 45 = .ok (.aload_n 0, 1) := by decide +kernel
theorem dX7_put_46 : decode cX7_put 46 = .ok (.getfield 10, 3) := by decide +kernel
theorem dX7_put_49 : decode cX7_put 49 = .ok (.invokevirtual 69, 3) := by decide +kernel
theorem dX7_put_52 : decode cX7_put 52 = .ok (.aload_n 0, 1) := by decide +kernel
theorem dX7_put_53 : decode cX7_put 53 = .ok (.getfield 10, 3) := by decide +kernel
theorem dX7_put_56 : decode cX7_put 56 = .ok (.iload_n 1, 1) := by decide +kernel
theorem dX7_put_57 : decode cX7_put 57 = .ok (.iload_n 2, 1) := by decide +kernel
theorem dX7_put_58 : decode cX7_put 58 = .ok (.iload_n 3, 1) := by decide +kernel
theorem dX7_put_59 : decode cX7_put 59 = .ok (.invokevirtual 96, 3) := by decide +kernel
theorem dX7_put_62 : decode cX7_put 62 = .ok (.istore 5, 2) := by decide +kernel
theorem dX7_put_64 : decode cX7_put 64 = .ok (.aload_n 0, 1) := by decide +kernel
theorem dX7_put_65 : decode cX7_put 65 = .ok (.getfield 10, 3) := by decide +kernel
theorem dX7_put_68 : decode cX7_put 68 = .ok (.iload 5, 2) := by decide +kernel
theorem dX7_put_70 : decode cX7_put 70 = .ok (.invokevirtual 100, 3) := by decide +kernel
theorem dX7_put_73 : decode cX7_put 73 = .ok (.istore 6, 2) := by decide +kernel
theorem dX7_put_75 : decode cX7_put 75 = .ok (.aload_n 0, 1) := by decide +kernel
theorem dX7_put_76 : decode cX7_put 76 = .ok (.getfield 10, 3) := by decide +kernel
theorem dX7_put_79 : decode cX7_put 79 = .ok (.iload 5, 2) := by decide +kernel
theorem dX7_put_81 : decode cX7_put 81 = .ok (.iload 4, 2) := by decide +kernel
theorem dX7_put_83 : decode cX7_put 83 = .ok (.invokevirtual 104, 3) := by decide +kernel
theorem dX7_put_86 : decode cX7_put 86 = .ok (.iload 6, 2) := by decide +kernel
theorem dX7_put_88 : decode cX7_put 88 = .ok (.ireturn, 1) := by decide +kernel
set_option maxRecDepth 20000 in
theorem ggX7_add_X5_hasPoint : GoodIn wsX7_add wsX5_hasPoint := goodIn_r _ [13, 14, 15, 16, 12, 17, 18, 82, 83, 84, 85, 86] (by decide +kernel) (by decide +kernel)
set_option maxRecDepth 20000 in
theorem gX7_add_X5_hasPoint : GoodIn wsX7_add (wsV RX7 81 RX5 yX5_hasPoint wsX5_hasPoint) := goodIn_app (goodIn_of _ (by decide +kernel)) ggX7_add_X5_hasPoint
set_option maxRecDepth 20000 in
theorem ggX7_add_X7_isNumber : GoodIn wsX7_add wsX7_isNumber := goodIn_r _ [22] (by decide +kernel) (by decide +kernel)
set_option maxRecDepth 20000 in
theorem gX7_add_X7_isNumber : GoodIn wsX7_add (va_wsS RX7 90 yX7_isNumber wsX7_isNumber) := goodIn_app (goodIn_of _ (by decide +kernel)) ggX7_add_X7_isNumber
set_option maxRecDepth 20000 in
theorem ggX7_add_X5_place : GoodIn wsX7_add wsX5_place := goodIn_r _ [26, 18, 82, 83, 84, 85, 86] (by decide +kernel) (by decide +kernel)
set_option maxRecDepth 20000 in
theorem gX7_add_X5_place : GoodIn wsX7_add (wsV RX7 96 RX5 yX5_place wsX5_place) := goodIn_app (goodIn_of _ (by decide +kernel)) ggX7_add_X5_place
set_option maxRecDepth 20000 in
theorem ggX7_add_X5_boxCanTake : GoodIn wsX7_add wsX5_boxCanTake := goodIn_r _ [30, 31, 24, 25, 12, 26, 18, 32, 33, 34, 35, 36, 37, 21, 38, 20, 22, 82, 83, 84, 85, 86] (by decide +kernel) (by decide +kernel)
set_option maxRecDepth 20000 in
theorem gX7_add_X5_boxCanTake : GoodIn wsX7_add (wsV RX7 112 RX5 yX5_boxCanTake wsX5_boxCanTake) := goodIn_app (goodIn_of _ (by decide +kernel)) ggX7_add_X5_boxCanTake
set_option maxRecDepth 20000 in
theorem ggX7_add_X2_save : GoodIn wsX7_add wsX2_save := goodIn_r _ [43, 44, 45, 46, 47, 48, 42, 49, 50, 51, 52, 53, 12, 54, 18, 55, 56, 36, 57, 58, 21, 59, 60, 61, 62, 63, 87, 88, 89, 82, 83, 84, 85, 86] (by decide +kernel) (by decide +kernel)
set_option maxRecDepth 20000 in
theorem gX7_add_X2_save : GoodIn wsX7_add (wsV RX7 69 RX2 yX2_save wsX2_save) := goodIn_app (goodIn_of _ (by decide +kernel)) ggX7_add_X2_save
set_option maxRecDepth 20000 in
theorem ggX7_add_X5_addToBox : GoodIn wsX7_add wsX5_addToBox := goodIn_r _ [67, 31, 24, 25, 12, 26, 18, 32, 33, 34, 35, 36, 37, 21, 38, 68, 69, 70, 71, 72, 73, 82, 83, 84, 85, 86] (by decide +kernel) (by decide +kernel)
set_option maxRecDepth 20000 in
theorem gX7_add_X5_addToBox : GoodIn wsX7_add (wsV RX7 120 RX5 yX5_addToBox wsX5_addToBox) := goodIn_app (goodIn_of _ (by decide +kernel)) ggX7_add_X5_addToBox
theorem dX7_add_0 : decode cX7_add 0 = .ok (.iload 4, 2) := by decide +kernel
theorem dX7_add_2 : decode cX7_add 2 = .ok (.iconst 1, 1) := by decide +kernel
theorem dX7_add_3 : decode cX7_add 3 = .ok (.if_icmp .lt 14, 3) := by decide +kernel
theorem dX7_add_6 : decode cX7_add 6 = .ok (.iload 4, 2) := by decide +kernel
theorem dX7_add_8 : decode cX7_add 8 = .ok (.bipush 8, 2) := by decide +kernel
theorem dX7_add_10 : decode cX7_add 10 = .ok (.if_icmp .gt 7, 3) := by decide +kernel
theorem dX7_add_13 : decode cX7_add 13 = .ok (.iconst 1, 1) := by decide +kernel
theorem dX7_add_14 : decode cX7_add 14 = .ok (.goto 4, 3) := by decide +kernel
theorem dX7_add_17 : decode cX7_add 17 = .ok (.iconst 0, 1) := by decide +kernel
theorem dX7_add_18 : decode cX7_add 18 = .ok (.istore 6, 2) := by decide +kernel
theorem dX7_add_20 : decode cX7_add 20 = .ok (.aload_n 0, 1) := by decide +kernel
theorem dX7_add_21 : decode cX7_add 21 = .ok (.getfield 10, 3) := by decide +kernel
theorem dX7_add_24 : decode cX7_add 24 = .ok (.iload_n 1, 1) := by decide +kernel
theorem dX7_add_25 : decode cX7_add 25 = .ok (.iload_n 2, 1) := by decide +kernel
theorem dX7_add_26 : decode cX7_add 26 = .ok (.iload_n 3, 1) := by decide +kernel
theorem dX7_add_27 : decode cX7_add 27 = .ok (.invokevirtual 81, 3) := by decide +kernel
theorem dX7_add_30 : decode cX7_add 30 = .ok (.ifCond .eq 36, 3) := by decide +kernel
theorem dX7_add_33 : decode cX7_add 33 = .ok (.iload 6, 2) := by decide +kernel
theorem dX7_add_35 : decode cX7_add 35 = .ok (.ifCond .eq 41, 3) := by decide +kernel
theorem dX7_add_38 : decode cX7_add 38 = .ok (.aload_n 0, 1) := by decide +kernel
theorem dX7_add_39 : decode cX7_add 39 = .ok (.getfield 10, 3) := by decide +kernel
theorem dX7_add_42 : decode cX7_add 42 = .ok (.iload_n 1, 1) := by decide +kernel
theorem dX7_add_43 : decode cX7_add 43 = .ok (.iload 4, 2) := by decide +kernel
theorem dX7_add_45 : decode cX7_add 45 = .ok (.iadd, 1) := by decide +kernel
theorem dX7_add_46 : decode cX7_add 46 = .ok (.iconst 1, 1) := by decide +kernel
theorem dX7_add_47 : decode cX7_add 47 = .ok (.isub, 1) := by decide +kernel
theorem dX7_add_48 : decode cX7_add 48 = .ok (.iload_n 2, 1) := by decide +kernel
theorem dX7_add_49 : decode cX7_add 49 = .ok (.iload 4, 2) := by decide +kernel
theorem dX7_add_51 : decode cX7_add 51 = .ok (.iadd, 1) := by decide +kernel
theorem dX7_add_52 : decode cX7_add 52 = .ok (.iconst 1, 1) := by decide +kernel
theorem dX7_add_53 : decode cX7_add 53 = .ok (.isub, 1) := by decide +kernel
theorem dX7_add_54 : decode cX7_add 54 = .ok (.iload_n 3, 1) := by decide +kernel
theorem dX7_add_55 : decode cX7_add 55 = .ok (.iload 4, 2) := by decide +kernel
theorem dX7_add_57 : decode cX7_add 57 = .ok (.iadd, 1) := by decide +kernel
theorem dX7_add_58 : decode cX7_add 58 = .ok (.iconst 1, 1) := by decide +kernel
theorem dX7_add_59 : decode cX7_add 59 = .ok (.isub, 1) := by decide +kernel
theorem dX7_add_60 : decode cX7_add 60 = .ok (.invokevirtual 81, 3) := by decide +kernel
theorem dX7_add_63 : decode cX7_add 63 = .ok (.ifCond .ne 13, 3) := by decide +kernel
theorem dX7_add_66 : decode cX7_add 66 = .ok (.new 85, 3) := by decide +kernel
theorem dX7_add_69 : decode cX7_add 69 = .ok (.dup, 1) := by decide +kernel
theorem dX7_add_70 : decode cX7_add 70 = .ok (.ldc 108, 2) := by decide +kernel
theorem dX7_add_72 : decode cX7_add 72 = .ok (.invokespecial 89, 3) := by decide +kernel
theorem dX7_add_75 : decode cX7_add 75 = .ok (.athrow, 1) := by decide +kernel
theorem dX7_add_76 : decode cX7_add 76 = .ok (.iload 6, 2) := by decide +kernel
theorem dX7_add_78 : decode cX7_add 78 = .ok (.ifCond .eq 11, 3) := by decide +kernel
theorem dX7_add_81 : decode cX7_add 81 = .ok (.iload 5, 2) := by decide +kernel
theorem dX7_add_83 : decode cX7_add 83 = .ok (.invokestatic 90, 3) := by decide +kernel
theorem dX7_add_86 : decode cX7_add 86 = .ok (.ifCond .ne 13, 3) := by decide +kernel
theorem dX7_add_89 : decode cX7_add 89 = .ok (.new 62, 3) := by decide +kernel
theorem dX7_add_92 : decode cX7_add 92 = .ok (.dup, 1) := by decide +kernel
theorem dX7_add_93 : decode cX7_add 93 = .ok (.ldc 110, 2) := by decide +kernel
theorem dX7_add_95 : decode cX7_add 95 = .ok (.invokespecial 66, 3) := by decide +kernel
theorem dX7_add_98 : decode cX7_add 98 = .ok (.athrow, 1) := by decide +kernel
theorem dX7_add_99 : decode cX7_add 99 = .ok (.aload_n 0, 1) := by decide +kernel
theorem dX7_add_100 : decode cX7_add 100 = .ok (.getfield 10, 3) := by decide +kernel
theorem dX7_add_103 : decode cX7_add 103 = .ok (.iload_n 1, 1) := by decide +kernel
theorem dX7_add_104 : decode cX7_add 104 = .ok (.iload_n 2, 1) := by decide +kernel
theorem dX7_add_105 : decode cX7_add 105 = .ok (.iload_n 3, 1) := by decide +kernel
theorem dX7_add_106 : decode cX7_add 106 = .ok (.invokevirtual 96, 3) := by decide +kernel
theorem dX7_add_109 : decode cX7_add 109 = .ok (.istore 7, 2) := by decide +kernel
theorem dX7_add_111 : decode cX7_add 111 = .ok (.aload_n 0, 1) := by decide +kernel
theorem dX7_add_112 : decode cX7_add 112 = .ok (.getfield 10, 3) := by decide +kernel
theorem dX7_add_115 : decode cX7_add 115 = .ok (.iload 7, 2) := by decide +kernel
theorem dX7_add_117 : decode cX7_add 117 = .ok (.iload 4, 2) := by decide +kernel
theorem dX7_add_119 : decode cX7_add 119 = .ok (.iload 5, 2) := by decide +kernel
theorem dX7_add_121 : decode cX7_add 121 = .ok (.invokevirtual 112, 3) := by decide +kernel
theorem dX7_add_124 : decode cX7_add 124 = .ok (.ifCond .ne 13, 3) := by decide +kernel
theorem dX7_add_127 : decode cX7_add 127 = .ok (.new 115, 3) := by decide +kernel
theorem dX7_add_130 : decode cX7_add 130 = .ok (.dup, 1) := by decide +kernel
theorem dX7_add_131 : decode cX7_add 131 = .ok (.ldc 117, 2) := by decide +kernel
theorem dX7_add_133 : decode cX7_add 133 = .ok (.invokespecial 119, 3) := by decide +kernel
theorem dX7_add_136 : decode cX7_add 136 = .ok (.athrow, 1) := by decide +kernel
theorem dX7_add_137 : decode cX7_add 137 = .ok (.aload_n 0, 1) := by decide +kernel
theorem dX7_add_138 : decode cX7_add 138 = .ok (.getfield 19, 3) := by decide +kernel
theorem dX7_add_141 : decode cX7_add 141 = .ok (.aload_n 0, 1) := by decide +kernel
theorem dX7_add_142 : decode cX7_add 142 = .ok (.getfield 10, 3) := by decide +kernel
theorem dX7_add_145 : decode cX7_add 145 = .ok (.invokevirtual 69, 3) := by decide +kernel
theorem dX7_add_148 : decode cX7_add 148 = .ok (.aload_n 0, 1) := by decide +kernel
theorem dX7_add_149 : decode cX7_add 149 = .ok (.getfield 10, 3) := by decide +kernel
theorem dX7_add_152 : decode cX7_add 152 = .ok (.iload 7, 2) := by decide +kernel
theorem dX7_add_154 : decode cX7_add 154 = .ok (.iload 4, 2) := by decide +kernel
theorem dX7_add_156 : decode cX7_add 156 = .ok (.iload 5, 2) := by decide +kernel
theorem dX7_add_158 : decode cX7_add 158 = .ok (.invokevirtual 120, 3) := by decide +kernel
theorem dX7_add_161 : decode cX7_add 161 = .ok (.ireturn, 1) := by decide +kernel
set_option maxRecDepth 20000 in
theorem ggX7_wipe_X5_hasCoordinate : GoodIn wsX7_wipe wsX5_hasCoordinate := goodIn_r _ [11, 12, 79, 80, 81, 82, 83] (by decide +kernel) (by decide +kernel)
set_option maxRecDepth 20000 in
theorem gX7_wipe_X5_hasCoordinate : GoodIn wsX7_wipe (wsV RX7 123 RX5 yX5_hasCoordinate wsX5_hasCoordinate) := goodIn_app (goodIn_of _ (by decide +kernel)) ggX7_wipe_X5_hasCoordinate
set_option maxRecDepth 20000 in
theorem ggX7_wipe_X7_isAxis : GoodIn wsX7_wipe wsX7_isAxis := goodIn_r _ [16] (by decide +kernel) (by decide +kernel)
set_option maxRecDepth 20000 in
theorem gX7_wipe_X7_isAxis : GoodIn wsX7_wipe (va_wsS RX7 128 yX7_isAxis wsX7_isAxis) := goodIn_app (goodIn_of _ (by decide +kernel)) ggX7_wipe_X7_isAxis
set_option maxRecDepth 20000 in
theorem ggX7_wipe_X2_save : GoodIn wsX7_wipe wsX2_save := goodIn_r _ [21, 22, 23, 24, 25, 26, 20, 27, 28, 29, 30, 31, 10, 32, 12, 33, 34, 35, 36, 37, 15, 38, 39, 40, 41, 42, 84, 85, 86, 79, 80, 81, 82, 83] (by decide +kernel) (by decide +kernel)
set_option maxRecDepth 20000 in
theorem gX7_wipe_X2_save : GoodIn wsX7_wipe (wsV RX7 69 RX2 yX2_save wsX2_save) := goodIn_app (goodIn_of _ (by decide +kernel)) ggX7_wipe_X2_save
set_option maxRecDepth 20000 in
theorem ggX7_wipe_X5_clearSlice : GoodIn wsX7_wipe wsX5_clearSlice := goodIn_r _ [46, 12, 47, 15, 48, 49, 50, 51, 10, 52, 53, 54, 55, 56, 57, 58, 59, 60, 61, 62, 35, 63, 64, 65, 66, 67, 68, 69, 70, 79, 80, 81, 82, 83] (by decide +kernel) (by decide +kernel)
set_option maxRecDepth 20000 in
theorem gX7_wipe_X5_clearSlice : GoodIn wsX7_wipe (wsV RX7 133 RX5 yX5_clearSlice wsX5_clearSlice) := goodIn_app (goodIn_of _ (by decide +kernel)) ggX7_wipe_X5_clearSlice
theorem dX7_wipe_0 : decode cX7_wipe 0 = .ok (.aload_n 0, 1) := by decide +kernel
theorem dX7_wipe_1 : decode cX7_wipe 1 = .ok (.getfield 10, 3) := by decide +kernel
theorem dX7_wipe_4 : decode cX7_wipe 4 = .ok (.iload_n 2, 1) := by decide +kernel
theorem dX7_wipe_5 : decode cX7_wipe 5 = .ok (.invokevirtual 123, 3) := by decide +kernel
theorem dX7_wipe_8 : decode cX7_wipe 8 = .ok (.ifCond .ne 13, 3) := by decide +kernel
theorem dX7_wipe_11 : decode cX7_wipe 11 = .ok (.new 85, 3) := by decide +kernel
theorem dX7_wipe_14 : decode cX7_wipe 14 = .ok (.dup, 1) := by decide +kernel
theorem dX7_wipe_15 : decode cX7_wipe 15 = .ok (.ldc 126, 2) := by decide +kernel
theorem dX7_wipe_17 : decode cX7_wipe 17 = .ok (.invokespecial 89, 3) := by decide +kernel
theorem dX7_wipe_20 : decode cX7_wipe 20 = .ok (.athrow, 1) := by decide +kernel
theorem dX7_wipe_21 : decode cX7_wipe 21 = .ok (.iload_n 1, 1) := by decide +kernel
theorem dX7_wipe_22 : decode cX7_wipe 22 = .ok (.invokestatic 128, 3) := by decide +kernel
theorem dX7_wipe_25 : decode cX7_wipe 25 = .ok (.ifCond .ne 13, 3) := by decide +kernel
theorem dX7_wipe_28 : decode cX7_wipe 28 = .ok (.new 62, 3) := by decide +kernel
theorem dX7_wipe_31 : decode cX7_wipe 31 = .ok (.dup, 1) := by decide +kernel
theorem dX7_wipe_32 : decode cX7_wipe 32 = .ok (.ldc 131, 2) := by decide +kernel
theorem dX7_wipe_34 : decode cX7_wipe 34 = .ok (.invokespecial 66, 3) := by decide +kernel
theorem dX7_wipe_37 : decode cX7_wipe 37 = .ok (.athrow, 1) := by decide +kernel
theorem dX7_wipe_38 : decode cX7_wipe 38 = .ok (.aload_n 0, 1) := by decide +kernel
theorem dX7_wipe_39 : decode cX7_wipe 39 = .ok (.getfield 19, 3) := by decide +kernel
theorem dX7_wipe_42 : decode cX7_wipe 42 = .ok (.aload_n 0, 1) := by decide +kernel
theorem dX7_wipe_43 : decode cX7_wipe 43 = .ok (.getfield 10, 3) := by decide +kernel
theorem dX7_wipe_46 : decode cX7_wipe 46 = .ok (.invokevirtual 69, 3) := by decide +kernel
theorem dX7_wipe_49 : decode cX7_wipe 49 = .ok (.aload_n 0, 1) := by decide +kernel
theorem dX7_wipe_50 : decode cX7_wipe 50 = .ok (.getfield 10, 3) := by decide +kernel
theorem dX7_wipe_53 : decode cX7_wipe 53 = .ok (.iload_n 1, 1) := by decide +kernel
theorem dX7_wipe_54 : decode cX7_wipe 54 = .ok (.iload_n 2, 1) := by decide +kernel
theorem dX7_wipe_55 : decode cX7_wipe 55 = .ok (.invokevirtual 133, 3) := by decide +kernel
theorem dX7_wipe_58 : decode cX7_wipe 58 = .ok (.ireturn, 1) := by decide +kernel
set_option maxRecDepth 20000 in
theorem ggX7_shift_X7_isAxis : GoodIn wsX7_shift wsX7_isAxis := goodIn_r _ [8] (by decide +kernel) (by decide +kernel)
set_option maxRecDepth 20000 in
theorem gX7_shift_X7_isAxis : GoodIn wsX7_shift (va_wsS RX7 128 yX7_isAxis wsX7_isAxis) := goodIn_app (goodIn_of _ (by decide +kernel)) ggX7_shift_X7_isAxis
set_option maxRecDepth 20000 in
theorem ggX7_shift_X2_save : GoodIn wsX7_shift wsX2_save := goodIn_r _ [13, 14, 15, 16, 17, 18, 12, 19, 20, 21, 22, 23, 24, 25, 26, 27, 28, 29, 30, 31, 7, 32, 33, 34, 35, 36, 78, 79, 80, 73, 74, 75, 76, 77] (by decide +kernel) (by decide +kernel)
set_option maxRecDepth 20000 in
theorem gX7_shift_X2_save : GoodIn wsX7_shift (wsV RX7 69 RX2 yX2_save wsX2_save) := goodIn_app (goodIn_of _ (by decide +kernel)) ggX7_shift_X2_save
set_option maxRecDepth 20000 in
theorem ggX7_shift_X5_shiftLine : GoodIn wsX7_shift wsX5_shiftLine := goodIn_r _ [40, 26, 41, 42, 43, 24, 44, 45, 46, 47, 48, 49, 7, 50, 51, 52, 53, 54, 55, 56, 29, 57, 58, 59, 60, 61, 62, 63, 64, 73, 74, 75, 76, 77] (by decide +kernel) (by decide +kernel)
set_option maxRecDepth 20000 in
theorem gX7_shift_X5_shiftLine : GoodIn wsX7_shift (wsV RX7 141 RX5 yX5_shiftLine wsX5_shiftLine) := goodIn_app (goodIn_of _ (by decide +kernel)) ggX7_shift_X5_shiftLine
theorem dX7_shift_0 : decode cX7_shift 0 = .ok (.iload_n 1, 1) := by decide +kernel
theorem dX7_shift_1 : decode cX7_shift 1 = .ok (.invokestatic 128, 3) := by decide +kernel
theorem dX7_shift_4 : decode cX7_shift 4 = .ok (.ifCond .ne 13, 3) := by decide +kernel
theorem dX7_shift_7 : decode cX7_shift 7 = .ok (.new 62, 3) := by decide +kernel
theorem dX7_shift_10 : decode cX7_shift 10 = .ok (.dup, 1) := by decide +kernel
theorem dX7_shift_11 : decode cX7_shift 11 = .ok (.ldc 131, 2) := by decide +kernel
theorem dX7_shift_13 : decode cX7_shift 13 = .ok (.invokespecial 66, 3) := by decide +kernel
theorem dX7_shift_16 : decode cX7_shift 16 = .ok (.athrow, 1) := by decide +kernel
theorem dX7_shift_17 : decode cX7_shift 17 = .ok (.aload_n 0, 1) := by decide +kernel
theorem dX7_shift_18 : decode cX7_shift 18 = .ok (.getfield 19, 3) := by decide +kernel
theorem dX7_shift_21 : decode cX7_shift 21 = .ok (.aload_n 0, 1) := by decide +kernel
theorem dX7_shift_22 : decode cX7_shift 22 = .ok (.getfield 10, 3) := by decide +kernel
theorem dX7_shift_25 : decode cX7_shift 25 = .ok (.invokevirtual 69, 3) := by decide +kernel
theorem dX7_shift_28 : decode cX7_shift 28 = .ok (.iconst 0, 1) := by decide +kernel
theorem dX7_shift_29 : decode cX7_shift 29 = .ok (.istore_n 2, 1) := by decide +kernel
theorem dX7_shift_30 : decode cX7_shift 30 = .ok (.iconst 0, 1) := by decide +kernel
theorem dX7_shift_31 : decode cX7_shift 31 = .ok (.istore_n 3, 1) := by decide +kernel
theorem dX7_shift_32 : decode cX7_shift 32 = .ok (.iload_n 3, 1) := by decide +kernel
theorem dX7_shift_33 : decode cX7_shift 33 = .ok (.aload_n 0, 1) := by decide +kernel
theorem dX7_shift_34 : decode cX7_shift 34 = .ok (.getfield 10, 3) := by decide +kernel
theorem dX7_shift_37 : decode cX7_shift 37 = .ok (.getfield 137, 3) := by decide +kernel
theorem dX7_shift_40 : decode cX7_shift 40 = .ok (.if_icmp .ge 44, 3) := by decide +kernel
theorem dX7_shift_43 : decode cX7_shift 43 = .ok (.iconst 0, 1) := by decide +kernel
theorem dX7_shift_44 : decode cX7_shift 44 = .ok (.istore 4, 2) := by decide +kernel
theorem dX7_shift_46 : decode cX7_shift 46 = .ok (.iload 4, 2) := by decide +kernel
theorem dX7_shift_48 : decode cX7_shift 48 = .ok (.aload_n 0, 1) := by decide +kernel
theorem dX7_shift_49 : decode cX7_shift 49 = .ok (.getfield 10, 3) := by decide +kernel
theorem dX7_shift_52 : decode cX7_shift 52 = .ok (.getfield 137, 3) := by decide +kernel
theorem dX7_shift_55 : decode cX7_shift 55 = .ok (.if_icmp .ge 23, 3) := by decide +kernel
theorem dX7_shift_58 : decode cX7_shift 58 = .ok (.iload_n 2, 1) := by decide +kernel
theorem dX7_shift_59 : decode cX7_shift 59 = .ok (.aload_n 0, 1) := by decide +kernel
theorem dX7_shift_60 : decode cX7_shift 60 = .ok (.getfield 10, 3) := by decide +kernel
theorem dX7_shift_63 : decode cX7_shift 63 = .ok (.iload_n 1, 1) := by decide +kernel
theorem dX7_shift_64 : decode cX7_shift 64 = .ok (.iload 4, 2) := by decide +kernel
theorem dX7_shift_66 : decode cX7_shift 66 = .ok (.iload_n 3, 1) := by decide +kernel
theorem dX7_shift_67 : decode cX7_shift 67 = .ok (.invokevirtual 141, 3) := by decide +kernel
theorem dX7_shift_70 : decode cX7_shift 70 = .ok (.iadd, 1) := by decide +kernel
theorem dX7_shift_71 : decode cX7_shift 71 = .ok (.istore_n 2, 1) := by decide +kernel
theorem dX7_shift_72 : decode cX7_shift 72 = .ok (.iinc 4 1, 3) := by decide +kernel
theorem dX7_shift_75 : decode cX7_shift 75 = .ok (.goto (-29), 3) := by decide +kernel
theorem dX7_shift_78 : decode cX7_shift 78 = .ok (.iinc 3 1, 3) := by decide +kernel
theorem dX7_shift_81 : decode cX7_shift 81 = .ok (.goto (-49), 3) := by decide +kernel
theorem dX7_shift_84 : decode cX7_shift 84 = .ok (.iload_n 2, 1) := by decide +kernel
theorem dX7_shift_85 : decode cX7_shift 85 = .ok (.ireturn, 1) := by decide +kernel
set_option maxRecDepth 20000 in
theorem ggX7_turn_X2_save : GoodIn wsX7_turn wsX2_save := goodIn_r _ [8, 9, 10, 11, 12, 13, 7, 14, 15, 16, 17, 18, 19, 20, 21, 22, 23, 24, 25, 26, 27, 28, 29, 30, 31, 32, 112, 113, 114, 107, 108, 109, 110, 111] (by decide +kernel) (by decide +kernel)
set_option maxRecDepth 20000 in
theorem gX7_turn_X2_save : GoodIn wsX7_turn (wsV RX7 69 RX2 yX2_save wsX2_save) := goodIn_app (goodIn_of _ (by decide +kernel)) ggX7_turn_X2_save
set_option maxRecDepth 20000 in
theorem ggX7_turn_X7_copyRow : GoodIn wsX7_turn wsX7_copyRow := goodIn_r _ [28, 29, 30, 31, 32] (by decide +kernel) (by decide +kernel)
set_option maxRecDepth 20000 in
theorem gX7_turn_X7_copyRow : GoodIn wsX7_turn (va_wsS RX7 147 yX7_copyRow wsX7_copyRow) := goodIn_app (goodIn_of _ (by decide +kernel)) ggX7_turn_X7_copyRow
set_option maxRecDepth 20000 in
theorem ggX7_turn_X5_place : GoodIn wsX7_turn wsX5_place := goodIn_r _ [37, 21, 107, 108, 109, 110, 111] (by decide +kernel) (by decide +kernel)
set_option maxRecDepth 20000 in
theorem gX7_turn_X5_place : GoodIn wsX7_turn (wsV RX7 96 RX5 yX5_place wsX5_place) := goodIn_app (goodIn_of _ (by decide +kernel)) ggX7_turn_X5_place
set_option maxRecDepth 20000 in
theorem ggX7_turn_X7_cell : GoodIn wsX7_turn wsX7_cell := goodIn_r _ [40] (by decide +kernel) (by decide +kernel)
set_option maxRecDepth 20000 in
theorem gX7_turn_X7_cell : GoodIn wsX7_turn (va_wsS RX7 151 yX7_cell wsX7_cell) := goodIn_app (goodIn_of _ (by decide +kernel)) ggX7_turn_X7_cell
set_option maxRecDepth 20000 in
theorem ggX7_turn_X5_write : GoodIn wsX7_turn wsX5_write := goodIn_r _ [44, 24, 45, 27, 46, 107, 108, 109, 110, 111] (by decide +kernel) (by decide +kernel)
set_option maxRecDepth 20000 in
theorem gX7_turn_X5_write : GoodIn wsX7_turn (wsV RX7 104 RX5 yX5_write wsX5_write) := goodIn_app (goodIn_of _ (by decide +kernel)) ggX7_turn_X5_write
set_option maxRecDepth 20000 in
theorem ggX7_turn_X7_roomBy : GoodIn wsX7_turn wsX7_roomBy := goodIn_r _ [50, 51, 2, 52, 53, 54, 55, 56, 57, 58, 59, 60, 61, 62, 63, 64, 65, 66, 67, 68, 69, 70, 27, 71, 72, 73, 74, 19, 75, 21, 76, 77, 78, 79, 80, 81, 82, 83, 84, 85, 86, 24, 39, 40, 45, 46, 87, 88, 89, 90, 91, 92, 93, 94, 95, 96, 97, 98, 99, 100, 101, 102, 103, 104, 105, 106, 107, 108, 109, 110, 111, 115, 116, 117, 118, 119] (by decide +kernel) (by decide +kernel)
set_option maxRecDepth 20000 in
theorem gX7_turn_X7_roomBy : GoodIn wsX7_turn (wsV RX7 158 RX7 yX7_roomBy wsX7_roomBy) := goodIn_app (goodIn_of _ (by decide +kernel)) ggX7_turn_X7_roomBy
theorem dX7_turn_0 : decode cX7_turn 0 = .ok (.aload_n 0, 1) := by decide +kernel
theorem dX7_turn_1 : decode cX7_turn 1 = .ok (.getfield 19, 3) := by decide +kernel
theorem dX7_turn_4 : decode cX7_turn 4 = .ok (.aload_n 0, 1) := by decide +kernel
theorem dX7_turn_5 : decode cX7_turn 5 = .ok (.getfield 10, 3) := by decide +kernel
theorem dX7_turn_8 : decode cX7_turn 8 = .ok (.invokevirtual 69, 3) := by decide +kernel
theorem dX7_turn_11 : decode cX7_turn 11 = .ok (.aload_n 0, 1) := by decide +kernel
theorem dX7_turn_12 : decode cX7_turn 12 = .ok (.getfield 10, 3) := by decide +kernel
theorem dX7_turn_15 : decode cX7_turn 15 = .ok (.getfield 144, 3) := by decide +kernel
theorem dX7_turn_18 : decode cX7_turn 18 = .ok (.aload_n 0, 1) := by decide +kernel
theorem dX7_turn_19 : decode cX7_turn 19 = .ok (.getfield 58, 3) := by decide +kernel
theorem dX7_turn_22 : decode cX7_turn 22 = .ok (.invokestatic 147, 3) := by decide +kernel
theorem dX7_turn_25 : decode cX7_turn 25 = .ok (.iconst 0, 1) := by decide +kernel
theorem dX7_turn_26 : decode cX7_turn 26 = .ok (.istore_n 1, 1) := by decide +kernel
theorem dX7_turn_27 : decode cX7_turn 27 = .ok (.iload_n 1, 1) := by decide +kernel
theorem dX7_turn_28 : decode cX7_turn 28 = .ok (.aload_n 0, 1) := by decide +kernel
theorem dX7_turn_29 : decode cX7_turn 29 = .ok (.getfield 10, 3) := by decide +kernel
theorem dX7_turn_32 : decode cX7_turn 32 = .ok (.getfield 137, 3) := by decide +kernel
theorem dX7_turn_35 : decode cX7_turn 35 = .ok (.if_icmp .ge 81, 3) := by decide +kernel
theorem dX7_turn_38 : decode cX7_turn 38 = .ok (.iconst 0, 1) := by decide +kernel
theorem dX7_turn_39 : decode cX7_turn 39 = .ok (.istore_n 2, 1) := by decide +kernel
theorem dX7_turn_40 : decode cX7_turn 40 = .ok (.iload_n 2, 1) := by decide +kernel
theorem dX7_turn_41 : decode cX7_turn 41 = .ok (.aload_n 0, 1) := by decide +kernel
theorem dX7_turn_42 : decode cX7_turn 42 = .ok (.getfield 10, 3) := by decide +kernel
theorem dX7_turn_45 : decode cX7_turn 45 = .ok (.getfield 137, 3) := by decide +kernel
theorem dX7_turn_48 : decode cX7_turn 48 = .ok (.if_icmp .ge 62, 3) := by decide +kernel
theorem dX7_turn_51 : decode cX7_turn 51 = .ok (.iconst 0, 1) := by decide +kernel
theorem dX7_turn_52 : decode cX7_turn 52 = .ok (.istore_n 3, 1) := by decide +kernel
theorem dX7_turn_53 : decode cX7_turn 53 = .ok (.iload_n 3, 1) := by decide +kernel
theorem dX7_turn_54 : decode cX7_turn 54 = .ok (.aload_n 0, 1) := by decide +kernel
theorem dX7_turn_55 : decode cX7_turn 55 = .ok (.getfield 10, 3) := by decide +kernel
theorem dX7_turn_58 : decode cX7_turn 58 = .ok (.getfield 137, 3) := by decide +kernel
theorem dX7_turn_61 : decode cX7_turn 61 = .ok (.if_icmp .ge 43, 3) := by decide +kernel
theorem dX7_turn_64 : decode cX7_turn 64 = .ok (.aload_n 0, 1) := by decide +kernel
theorem dX7_turn_65 : decode cX7_turn 65 = .ok (.getfield 10, 3) := by decide +kernel
theorem dX7_turn_68 : decode cX7_turn 68 = .ok (.aload_n 0, 1) := by decide +kernel
theorem dX7_turn_69 : decode cX7_turn 69 = .ok (.getfield 10, 3) := by decide +kernel
theorem dX7_turn_72 : decode cX7_turn 72 = .ok (.iload_n 1, 1) := by decide +kernel
theorem dX7_turn_73 : decode cX7_turn 73 = .ok (.iload_n 3, 1) := by decide +kernel
theorem dX7_turn_74 : decode cX7_turn 74 = .ok (.iload_n 2, 1) := by decide +kernel
theorem dX7_turn_75 : decode cX7_turn 75 = .ok (.invokevirtual 96, 3) := by decide +kernel
theorem dX7_turn_78 : decode cX7_turn 78 = .ok (.aload_n 0, 1) := by decide +kernel
theorem dX7_turn_79 : decode cX7_turn 79 = .ok (.getfield 58, 3) := by decide +kernel
theorem dX7_turn_82 : decode cX7_turn 82 = .ok (.aload_n 0, 1) := by decide +kernel
theorem dX7_turn_83 : decode cX7_turn 83 = .ok (.getfield 10, 3) := by decide +kernel
theorem dX7_turn_86 : decode cX7_turn 86 = .ok (.iload_n 3, 1) := by decide +kernel
theorem dX7_turn_87 : decode cX7_turn 87 = .ok (.iload_n 2, 1) := by decide +kernel
theorem dX7_turn_88 : decode cX7_turn 88 = .ok (.iload_n 1, 1) := by decide +kernel
theorem dX7_turn_89 : decode cX7_turn 89 = .ok (.invokevirtual 96, 3) := by decide +kernel
theorem dX7_turn_92 : decode cX7_turn 92 = .ok (.invokestatic 151, 3) := by decide +kernel
theorem dX7_turn_95 : decode cX7_turn 95 = .ok (.invokevirtual 104, 3) := by decide +kernel
theorem dX7_turn_98 : decode cX7_turn 98 = .ok (.iinc 3 1, 3) := by decide +kernel
theorem dX7_turn_101 : decode cX7_turn 101 = .ok (.goto (-48), 3) := by decide +kernel
theorem dX7_turn_104 : decode cX7_turn 104 = .ok (.iinc 2 1, 3) := by decide +kernel
theorem dX7_turn_107 : decode cX7_turn 107 = .ok (.goto (-67), 3) := by decide +kernel
theorem dX7_turn_110 : decode cX7_turn 110 = .ok (.iinc 1 1, 3) := by decide +kernel
theorem dX7_turn_113 : decode cX7_turn 113 = .ok (.goto (-86), 3) := by decide +kernel
theorem dX7_turn_116 : decode cX7_turn 116 = .ok (.aload_n 0, 1) := by decide +kernel
theorem dX7_turn_117 : decode cX7_turn 117 = .ok (.aload_n 0, 1) := by decide +kernel
theorem dX7_turn_118 : decode cX7_turn 118 = .ok (.getfield 10, 3) := by decide +kernel
theorem dX7_turn_121 : decode cX7_turn 121 = .ok (.getfield 155, 3) := by decide +kernel
theorem dX7_turn_124 : decode cX7_turn 124 = .ok (.invokevirtual 158, 3) := by decide +kernel
theorem dX7_turn_127 : decode cX7_turn 127 = .ok (.ireturn, 1) := by decide +kernel
set_option maxRecDepth 20000 in
theorem ggX7_keep_X7_isAxis : GoodIn wsX7_keep wsX7_isAxis := goodIn_r _ [8] (by decide +kernel) (by decide +kernel)
set_option maxRecDepth 20000 in
theorem gX7_keep_X7_isAxis : GoodIn wsX7_keep (va_wsS RX7 128 yX7_isAxis wsX7_isAxis) := goodIn_app (goodIn_of _ (by decide +kernel)) ggX7_keep_X7_isAxis
set_option maxRecDepth 20000 in
theorem ggX7_keep_X2_save : GoodIn wsX7_keep wsX2_save := goodIn_r _ [13, 14, 15, 16, 17, 18, 12, 19, 20, 21, 22, 23, 24, 25, 26, 27, 28, 29, 30, 31, 7, 32, 33, 34, 35, 36, 106, 107, 108, 101, 102, 103, 104, 105] (by decide +kernel) (by decide +kernel)
set_option maxRecDepth 20000 in
theorem gX7_keep_X2_save : GoodIn wsX7_keep (wsV RX7 69 RX2 yX2_save wsX2_save) := goodIn_app (goodIn_of _ (by decide +kernel)) ggX7_keep_X2_save
set_option maxRecDepth 20000 in
theorem ggX7_keep_X7_roomBy : GoodIn wsX7_keep wsX7_roomBy := goodIn_r _ [40, 41, 4, 42, 43, 44, 45, 46, 47, 48, 49, 50, 51, 52, 53, 54, 55, 56, 57, 58, 59, 60, 7, 61, 62, 63, 64, 24, 65, 26, 66, 67, 68, 69, 70, 71, 72, 73, 74, 75, 76, 29, 77, 78, 79, 80, 81, 82, 83, 84, 85, 86, 87, 88, 89, 90, 91, 92, 93, 94, 95, 96, 97, 98, 99, 100, 101, 102, 103, 104, 105, 109, 110, 111, 112, 113] (by decide +kernel) (by decide +kernel)
set_option maxRecDepth 20000 in
theorem gX7_keep_X7_roomBy : GoodIn wsX7_keep (wsV RX7 158 RX7 yX7_roomBy wsX7_roomBy) := goodIn_app (goodIn_of _ (by decide +kernel)) ggX7_keep_X7_roomBy
theorem dX7_keep_0 : decode cX7_keep 0 = .ok (.iload_n 1, 1) := by decide +kernel
theorem dX7_keep_1 : decode cX7_keep 1 = .ok (.invokestatic 128, 3) := by decide +kernel
theorem dX7_keep_4 : decode cX7_keep 4 = .ok (.ifCond .ne 13, 3) := by decide +kernel
theorem dX7_keep_7 : decode cX7_keep 7 = .ok (.new 62, 3) := by decide +kernel
theorem dX7_keep_10 : decode cX7_keep 10 = .ok (.dup, 1) := by decide +kernel
theorem dX7_keep_11 : decode cX7_keep 11 = .ok (.ldc 131, 2) := by decide +kernel
theorem dX7_keep_13 : decode cX7_keep 13 = .ok (.invokespecial 66, 3) := by decide +kernel
theorem dX7_keep_16 : decode cX7_keep 16 = .ok (.athrow, 1) := by decide +kernel
theorem dX7_keep_17 : decode cX7_keep 17 = .ok (.aload_n 0, 1) := by decide +kernel
theorem dX7_keep_18 : decode cX7_keep 18 = .ok (.getfield 19, 3) := by decide +kernel
theorem dX7_keep_21 : decode cX7_keep 21 = .ok (.aload_n 0, 1) := by decide +kernel
theorem dX7_keep_22 : decode cX7_keep 22 = .ok (.getfield 10, 3) := by decide +kernel
theorem dX7_keep_25 : decode cX7_keep 25 = .ok (.invokevirtual 69, 3) := by decide +kernel
theorem dX7_keep_28 : decode cX7_keep 28 = .ok (.aload_n 0, 1) := by decide +kernel
theorem dX7_keep_29 : decode cX7_keep 29 = .ok (.getfield 10, 3) := by decide +kernel
theorem dX7_keep_32 : decode cX7_keep 32 = .ok (.iload_n 1, 1) := by decide +kernel
theorem dX7_keep_33 : decode cX7_keep 33 = .ok (.putfield 155, 3) := by decide +kernel
theorem dX7_keep_36 : decode cX7_keep 36 = .ok (.aload_n 0, 1) := by decide +kernel
theorem dX7_keep_37 : decode cX7_keep 37 = .ok (.iload_n 1, 1) := by decide +kernel
theorem dX7_keep_38 : decode cX7_keep 38 = .ok (.invokevirtual 158, 3) := by decide +kernel
theorem dX7_keep_41 : decode cX7_keep 41 = .ok (.ireturn, 1) := by decide +kernel
set_option maxRecDepth 20000 in
theorem ggX7_mark_X0_look : GoodIn wsX7_mark wsX0_look := goodIn_r _ [8, 9, 10, 11, 12, 13, 14, 15, 16, 17, 18, 19, 20, 21, 22, 23, 24, 25, 26, 27, 28, 29, 30, 31, 32, 33, 73, 74, 75, 76, 68, 69, 70, 71, 72] (by decide +kernel) (by decide +kernel)
set_option maxRecDepth 20000 in
theorem gX7_mark_X0_look : GoodIn wsX7_mark (wsV RX7 161 RX0 yX0_look wsX0_look) := goodIn_app (goodIn_of _ (by decide +kernel)) ggX7_mark_X0_look
set_option maxRecDepth 20000 in
theorem ggX7_mark_X2_save : GoodIn wsX7_mark wsX2_save := goodIn_r _ [38, 39, 40, 41, 42, 43, 37, 44, 45, 46, 47, 48, 23, 49, 25, 50, 51, 30, 52, 53, 32, 54, 55, 56, 57, 58, 77, 78, 79, 68, 69, 70, 71, 72] (by decide +kernel) (by decide +kernel)
set_option maxRecDepth 20000 in
theorem gX7_mark_X2_save : GoodIn wsX7_mark (wsV RX7 69 RX2 yX2_save wsX2_save) := goodIn_app (goodIn_of _ (by decide +kernel)) ggX7_mark_X2_save
set_option maxRecDepth 20000 in
theorem ggX7_mark_X7_copyRow : GoodIn wsX7_mark wsX7_copyRow := goodIn_r _ [54, 55, 56, 57, 58] (by decide +kernel) (by decide +kernel)
set_option maxRecDepth 20000 in
theorem gX7_mark_X7_copyRow : GoodIn wsX7_mark (va_wsS RX7 147 yX7_copyRow wsX7_copyRow) := goodIn_app (goodIn_of _ (by decide +kernel)) ggX7_mark_X7_copyRow
theorem dX7_mark_0 : decode cX7_mark 0 = .ok (.aload_n 0, 1) := by decide +kernel
theorem dX7_mark_1 : decode cX7_mark 1 = .ok (.getfield 40, 3) := by decide +kernel
theorem dX7_mark_4 : decode cX7_mark 4 = .ok (.aload_n 0, 1) := by decide +kernel
theorem dX7_mark_5 : decode cX7_mark 5 = .ok (.getfield 10, 3) := by decide +kernel
theorem dX7_mark_8 : decode cX7_mark 8 = .ok (.invokevirtual 161, 3) := by decide +kernel
theorem dX7_mark_11 : decode cX7_mark 11 = .ok (.aload_n 0, 1) := by decide +kernel
theorem dX7_mark_12 : decode cX7_mark 12 = .ok (.getfield 19, 3) := by decide +kernel
theorem dX7_mark_15 : decode cX7_mark 15 = .ok (.aload_n 0, 1) := by decide +kernel
theorem dX7_mark_16 : decode cX7_mark 16 = .ok (.getfield 10, 3) := by decide +kernel
theorem dX7_mark_19 : decode cX7_mark 19 = .ok (.invokevirtual 69, 3) := by decide +kernel
theorem dX7_mark_22 : decode cX7_mark 22 = .ok (.aload_n 0, 1) := by decide +kernel
theorem dX7_mark_23 : decode cX7_mark 23 = .ok (.getfield 10, 3) := by decide +kernel
theorem dX7_mark_26 : decode cX7_mark 26 = .ok (.getfield 144, 3) := by decide +kernel
theorem dX7_mark_29 : decode cX7_mark 29 = .ok (.aload_n 0, 1) := by decide +kernel
theorem dX7_mark_30 : decode cX7_mark 30 = .ok (.getfield 10, 3) := by decide +kernel
theorem dX7_mark_33 : decode cX7_mark 33 = .ok (.getfield 164, 3) := by decide +kernel
theorem dX7_mark_36 : decode cX7_mark 36 = .ok (.invokestatic 147, 3) := by decide +kernel
theorem dX7_mark_39 : decode cX7_mark 39 = .ok (.aload_n 0, 1) := by decide +kernel
theorem dX7_mark_40 : decode cX7_mark 40 = .ok (.getfield 40, 3) := by decide +kernel
theorem dX7_mark_43 : decode cX7_mark 43 = .ok (.getfield 167, 3) := by decide +kernel
theorem dX7_mark_46 : decode cX7_mark 46 = .ok (.ireturn, 1) := by decide +kernel
set_option maxRecDepth 20000 in
theorem ggX7_goBack_X0_look : GoodIn wsX7_goBack wsX0_look := goodIn_r _ [8, 9, 10, 11, 12, 13, 14, 15, 16, 17, 18, 19, 20, 21, 22, 23, 24, 25, 26, 27, 28, 29, 30, 31, 32, 33, 73, 74, 75, 76, 68, 69, 70, 71, 72] (by decide +kernel) (by decide +kernel)
set_option maxRecDepth 20000 in
theorem gX7_goBack_X0_look : GoodIn wsX7_goBack (wsV RX7 161 RX0 yX0_look wsX0_look) := goodIn_app (goodIn_of _ (by decide +kernel)) ggX7_goBack_X0_look
set_option maxRecDepth 20000 in
theorem ggX7_goBack_X2_save : GoodIn wsX7_goBack wsX2_save := goodIn_r _ [38, 39, 40, 41, 42, 43, 37, 44, 45, 46, 47, 48, 23, 49, 25, 50, 51, 30, 52, 53, 32, 54, 55, 56, 57, 58, 77, 78, 79, 68, 69, 70, 71, 72] (by decide +kernel) (by decide +kernel)
set_option maxRecDepth 20000 in
theorem gX7_goBack_X2_save : GoodIn wsX7_goBack (wsV RX7 69 RX2 yX2_save wsX2_save) := goodIn_app (goodIn_of _ (by decide +kernel)) ggX7_goBack_X2_save
set_option maxRecDepth 20000 in
theorem ggX7_goBack_X7_copyRow : GoodIn wsX7_goBack wsX7_copyRow := goodIn_r _ [54, 55, 56, 57, 58] (by decide +kernel) (by decide +kernel)
set_option maxRecDepth 20000 in
theorem gX7_goBack_X7_copyRow : GoodIn wsX7_goBack (va_wsS RX7 147 yX7_copyRow wsX7_copyRow) := goodIn_app (goodIn_of _ (by decide +kernel)) ggX7_goBack_X7_copyRow
theorem dX7_goBack_0 : decode cX7_goBack 0 = .ok (.aload_n 0, 1) := by decide +kernel
theorem dX7_goBack_1 : decode cX7_goBack 1 = .ok (.getfield 40, 3) := by decide +kernel
theorem dX7_goBack_4 : decode cX7_goBack 4 = .ok (.aload_n 0, 1) := by decide +kernel
theorem dX7_goBack_5 : decode cX7_goBack 5 = .ok (.getfield 10, 3) := by decide +kernel
theorem dX7_goBack_8 : decode cX7_goBack 8 = .ok (.invokevirtual 161, 3) := by decide +kernel
theorem dX7_goBack_11 : decode cX7_goBack 11 = .ok (.aload_n 0, 1) := by decide +kernel
theorem dX7_goBack_12 : decode cX7_goBack 12 = .ok (.getfield 19, 3) := by decide +kernel
theorem dX7_goBack_15 : decode cX7_goBack 15 = .ok (.aload_n 0, 1) := by decide +kernel
theorem dX7_goBack_16 : decode cX7_goBack 16 = .ok (.getfield 10, 3) := by decide +kernel
theorem dX7_goBack_19 : decode cX7_goBack 19 = .ok (.invokevirtual 69, 3) := by decide +kernel
theorem dX7_goBack_22 : decode cX7_goBack 22 = .ok (.aload_n 0, 1) := by decide +kernel
theorem dX7_goBack_23 : decode cX7_goBack 23 = .ok (.getfield 10, 3) := by decide +kernel
theorem dX7_goBack_26 : decode cX7_goBack 26 = .ok (.getfield 164, 3) := by decide +kernel
theorem dX7_goBack_29 : decode cX7_goBack 29 = .ok (.aload_n 0, 1) := by decide +kernel
theorem dX7_goBack_30 : decode cX7_goBack 30 = .ok (.getfield 10, 3) := by decide +kernel
theorem dX7_goBack_33 : decode cX7_goBack 33 = .ok (.getfield 144, 3) := by decide +kernel
theorem dX7_goBack_36 : decode cX7_goBack 36 = .ok (.invokestatic 147, 3) := by decide +kernel
theorem dX7_goBack_39 : decode cX7_goBack 39 = .ok (.aload_n 0, 1) := by decide +kernel
theorem dX7_goBack_40 : decode cX7_goBack 40 = .ok (.getfield 40, 3) := by decide +kernel
theorem dX7_goBack_43 : decode cX7_goBack 43 = .ok (.getfield 167, 3) := by decide +kernel
theorem dX7_goBack_46 : decode cX7_goBack 46 = .ok (.ireturn, 1) := by decide +kernel
set_option maxRecDepth 20000 in
theorem ggX7_set_X2_save : GoodIn wsX7_set wsX2_save := goodIn_r _ [9, 10, 11, 12, 13, 14, 8, 15, 16, 17, 18, 19, 20, 21, 22, 23, 24, 25, 26, 27, 28, 29, 30, 31, 32, 33, 47, 48, 49, 42, 43, 44, 45, 46] (by decide +kernel) (by decide +kernel)
set_option maxRecDepth 20000 in
theorem gX7_set_X2_save : GoodIn wsX7_set (wsV RX7 69 RX2 yX2_save wsX2_save) := goodIn_app (goodIn_of _ (by decide +kernel)) ggX7_set_X2_save
theorem dX7_set_0 : decode cX7_set 0 = .ok (.iload_n 1, 1) := by decide +kernel
theorem dX7_set_1 : decode cX7_set 1 = .ok (.iconst 1, 1) := by decide +kernel
theorem dX7_set_2 : decode cX7_set 2 = .ok (.if_icmp .lt 9, 3) := by decide +kernel
theorem dX7_set_5 : decode cX7_set 5 = .ok (.iload_n 1, 1) := by decide +kernel
theorem dX7_set_6 : decode cX7_set 6 = .ok (.bipush 64, 2) := by decide +kernel
theorem dX7_set_8 : decode cX7_set 8 = .ok (.if_icmp .le 13, 3) := by decide +kernel
theorem dX7_set_11 : decode cX7_set 11 = .ok (.new 62, 3) := by decide +kernel
theorem dX7_set_14 : decode cX7_set 14 = .ok (.dup, 1) := by decide +kernel
theorem dX7_set_15 : decode cX7_set 15 = .ok (.ldc 169, 2) := by decide +kernel
theorem dX7_set_17 : decode cX7_set 17 = .ok (.invokespecial 66, 3) := by decide +kernel
theorem dX7_set_20 : decode cX7_set 20 = .ok (.athrow, 1) := by decide +kernel
theorem dX7_set_21 : decode cX7_set 21 = .ok (.aload_n 0, 1) := by decide +kernel
theorem dX7_set_22 : decode cX7_set 22 = .ok (.getfield 19, 3) := by decide +kernel
theorem dX7_set_25 : decode cX7_set 25 = .ok (.aload_n 0, 1) := by decide +kernel
theorem dX7_set_26 : decode cX7_set 26 = .ok (.getfield 10, 3) := by decide +kernel
theorem dX7_set_29 : decode cX7_set 29 = .ok (.invokevirtual 69, 3) := by decide +kernel
theorem dX7_set_32 : decode cX7_set 32 = .ok (.aload_n 0, 1) := by decide +kernel
theorem dX7_set_33 : decode cX7_set 33 = .ok (.getfield 10, 3) := by decide +kernel
theorem dX7_set_36 : decode cX7_set 36 = .ok (.getfield 171, 3) := by decide +kernel
theorem dX7_set_39 : decode cX7_set 39 = .ok (.istore_n 2, 1) := by decide +kernel
theorem dX7_set_40 : decode cX7_set 40 = .ok (.aload_n 0, 1) := by decide +kernel
theorem dX7_set_41 : decode cX7_set 41 = .ok (.getfield 10, 3) := by decide +kernel
theorem dX7_set_44 : decode cX7_set 44 = .ok (.iload_n 1, 1) := by decide +kernel
theorem dX7_set_45 : decode cX7_set 45 = .ok (.putfield 171, 3) := by decide +kernel
theorem dX7_set_48 : decode cX7_set 48 = .ok (.iload_n 2, 1) := by decide +kernel
theorem dX7_set_49 : decode cX7_set 49 = .ok (.ireturn, 1) := by decide +kernel
set_option maxRecDepth 20000 in
theorem ggX7_append_X6_attach : GoodIn wsX7_append wsX6_attach := goodIn_r _ [10, 11, 12, 13, 14, 15, 24, 25] (by decide +kernel) (by decide +kernel)
set_option maxRecDepth 20000 in
theorem gX7_append_X6_attach : GoodIn wsX7_append (wsV RX7 181 RX6 yX6_attach wsX6_attach) := goodIn_app (goodIn_of _ (by decide +kernel)) ggX7_append_X6_attach
theorem dX7_append_0 : decode cX7_append 0 = .ok (.iload_n 1, 1) := by decide +kernel
theorem dX7_append_1 : decode cX7_append 1 = .ok (.bipush 33, 2) := by decide +kernel
theorem dX7_append_3 : decode cX7_append 3 = .ok (.if_icmp .lt 9, 3) := by decide +kernel
theorem dX7_append_6 : decode cX7_append 6 = .ok (.iload_n 1, 1) := by decide +kernel
theorem dX7_append_7 : decode cX7_append 7 = .ok (.bipush 126, 2) := by decide +kernel
theorem dX7_append_9 : decode cX7_append 9 = .ok (.if_icmp .le 13, 3) := by decide +kernel
theorem dX7_append_12 : decode cX7_append 12 = .ok (.new 62, 3) := by decide +kernel
theorem dX7_append_15 : decode cX7_append 15 = .ok (.dup, 1) := by decide +kernel
theorem dX7_append_16 : decode cX7_append 16 = .ok (.ldc 174, 2) := by decide +kernel
theorem dX7_append_18 : decode cX7_append 18 = .ok (.invokespecial 66, 3) := by decide +kernel
theorem dX7_append_21 : decode cX7_append 21 = .ok (.athrow, 1) := by decide +kernel
theorem dX7_append_22 : decode cX7_append 22 = .ok (.aload_n 0, 1) := by decide +kernel
theorem dX7_append_23 : decode cX7_append 23 = .ok (.getfield 26, 3) := by decide +kernel
theorem dX7_append_26 : decode cX7_append 26 = .ok (.getfield 176, 3) := by decide +kernel
theorem dX7_append_29 : decode cX7_append 29 = .ok (.bipush 60, 2) := by decide +kernel
theorem dX7_append_31 : decode cX7_append 31 = .ok (.if_icmp .lt 13, 3) := by decide +kernel
theorem dX7_append_34 : decode cX7_append 34 = .ok (.new 115, 3) := by decide +kernel
theorem dX7_append_37 : decode cX7_append 37 = .ok (.dup, 1) := by decide +kernel
theorem dX7_append_38 : decode cX7_append 38 = .ok (.ldc 179, 2) := by decide +kernel
theorem dX7_append_40 : decode cX7_append 40 = .ok (.invokespecial 119, 3) := by decide +kernel
theorem dX7_append_43 : decode cX7_append 43 = .ok (.athrow, 1) := by decide +kernel
theorem dX7_append_44 : decode cX7_append 44 = .ok (.aload_n 0, 1) := by decide +kernel
theorem dX7_append_45 : decode cX7_append 45 = .ok (.getfield 26, 3) := by decide +kernel
theorem dX7_append_48 : decode cX7_append 48 = .ok (.iload_n 1, 1) := by decide +kernel
theorem dX7_append_49 : decode cX7_append 49 = .ok (.invokevirtual 181, 3) := by decide +kernel
theorem dX7_append_52 : decode cX7_append 52 = .ok (.aload_n 0, 1) := by decide +kernel
theorem dX7_append_53 : decode cX7_append 53 = .ok (.getfield 26, 3) := by decide +kernel
theorem dX7_append_56 : decode cX7_append 56 = .ok (.getfield 176, 3) := by decide +kernel
theorem dX7_append_59 : decode cX7_append 59 = .ok (.ireturn, 1) := by decide +kernel
theorem dX7_clearBuffer_0 : decode cX7_clearBuffer 0 = .ok (.aload_n 0, 1) := by decide +kernel
theorem dX7_clearBuffer_1 : decode cX7_clearBuffer 1 = .ok (.getfield 26, 3) := by decide +kernel
theorem dX7_clearBuffer_4 : decode cX7_clearBuffer 4 = .ok (.getfield 176, 3) := by decide +kernel
theorem dX7_clearBuffer_7 : decode cX7_clearBuffer 7 = .ok (.istore_n 1, 1) := by decide +kernel
theorem dX7_clearBuffer_8 : decode cX7_clearBuffer 8 = .ok (.aload_n 0, 1) := by decide +kernel
theorem dX7_clearBuffer_9 : decode cX7_clearBuffer 9 = .ok (.getfield 26, 3) := by decide +kernel
theorem dX7_clearBuffer_12 : decode cX7_clearBuffer 12 = .ok (.iconst 0, 1) := by decide +kernel
theorem dX7_clearBuffer_13 : decode cX7_clearBuffer 13 = .ok (.putfield 176, 3) := by decide +kernel
theorem dX7_clearBuffer_16 : decode cX7_clearBuffer 16 = .ok (.iload_n 1, 1) := by decide +kernel
theorem dX7_clearBuffer_17 : decode cX7_clearBuffer 17 = .ok (.ireturn, 1) := by decide +kernel
set_option maxRecDepth 20000 in
theorem ggX7_firstError_X6_findError : GoodIn wsX7_firstError wsX6_findError := goodIn_r _ [6, 7, 8, 9, 10, 5, 11, 12, 13, 14, 15, 16, 17, 18, 19, 20, 21, 30, 31] (by decide +kernel) (by decide +kernel)
set_option maxRecDepth 20000 in
theorem gX7_firstError_X6_findError : GoodIn wsX7_firstError (wsV RX7 184 RX6 yX6_findError wsX6_findError) := goodIn_app (goodIn_of _ (by decide +kernel)) ggX7_firstError_X6_findError
theorem dX7_firstError_0 : decode cX7_firstError 0 = .ok (.aload_n 0, 1) := by decide +kernel
theorem dX7_firstError_1 : decode cX7_firstError 1 = .ok (.getfield 26, 3) := by decide +kernel
theorem dX7_firstError_4 : decode cX7_firstError 4 = .ok (.invokevirtual 184, 3) := by decide +kernel
theorem dX7_firstError_7 : decode cX7_firstError 7 = .ok (.ireturn, 1) := by decide +kernel
set_option maxRecDepth 20000 in
theorem ggX7_read_X6_tellsPoints : GoodIn wsX7_read wsX6_tellsPoints := goodIn_r _ [10, 11, 12, 13, 14, 9, 15, 16, 17, 18, 19, 20, 21, 22, 23, 24, 25, 96, 97] (by decide +kernel) (by decide +kernel)
set_option maxRecDepth 20000 in
theorem gX7_read_X6_tellsPoints : GoodIn wsX7_read (wsV RX7 187 RX6 yX6_tellsPoints wsX6_tellsPoints) := goodIn_app (goodIn_of _ (by decide +kernel)) ggX7_read_X6_tellsPoints
set_option maxRecDepth 20000 in
theorem ggX7_read_X2_save : GoodIn wsX7_read wsX2_save := goodIn_r _ [30, 31, 32, 33, 34, 35, 29, 36, 37, 38, 39, 40, 41, 42, 43, 44, 45, 46, 47, 48, 18, 49, 50, 51, 52, 53, 98, 99, 100, 101, 102, 103, 104, 105] (by decide +kernel) (by decide +kernel)
set_option maxRecDepth 20000 in
theorem gX7_read_X2_save : GoodIn wsX7_read (wsV RX7 69 RX2 yX2_save wsX2_save) := goodIn_app (goodIn_of _ (by decide +kernel)) ggX7_read_X2_save
set_option maxRecDepth 20000 in
theorem ggX7_read_X6_sign : GoodIn wsX7_read wsX6_sign := goodIn_r _ [15, 11, 16, 17, 18, 19, 96, 97] (by decide +kernel) (by decide +kernel)
set_option maxRecDepth 20000 in
theorem gX7_read_X6_sign : GoodIn wsX7_read (wsV RX7 193 RX6 yX6_sign wsX6_sign) := goodIn_app (goodIn_of _ (by decide +kernel)) ggX7_read_X6_sign
set_option maxRecDepth 20000 in
theorem ggX7_read_X7_doPoint : GoodIn wsX7_read wsX7_doPoint := goodIn_r _ [58, 3, 5, 54, 13, 14, 9, 15, 11, 16, 17, 18, 19, 59, 60, 61, 41, 62, 63, 64, 65, 66, 43, 67, 68, 69, 70, 71, 72, 73, 74, 12, 75, 76, 77, 78, 46, 79, 80, 81, 82, 83, 84, 85, 86, 87, 88, 89, 90, 91, 92, 93, 94, 95, 96, 97, 101, 102, 103, 104, 105] (by decide +kernel) (by decide +kernel)
set_option maxRecDepth 20000 in
theorem gX7_read_X7_doPoint : GoodIn wsX7_read (wsV RX7 196 RX7 yX7_doPoint wsX7_doPoint) := goodIn_app (goodIn_of _ (by decide +kernel)) ggX7_read_X7_doPoint
theorem dX7_read_0 : decode cX7_read 0 = .ok (.aload_n 0, 1) := by decide +kernel
theorem dX7_read_1 : decode cX7_read 1 = .ok (.getfield 26, 3) := by decide +kernel
theorem dX7_read_4 : decode cX7_read 4 = .ok (.invokevirtual 187, 3) := by decide +kernel
theorem dX7_read_7 : decode cX7_read 7 = .ok (.ifCond .ne 13, 3) := by decide +kernel
theorem dX7_read_10 : decode cX7_read 10 = .ok (.new 62, 3) := by decide +kernel
theorem dX7_read_13 : decode cX7_read 13 = .ok (.dup, 1) := by decide +kernel
theorem dX7_read_14 : decode cX7_read 14 = .ok (.ldc 191, 2) := by decide +kernel
theorem dX7_read_16 : decode cX7_read 16 = .ok (.invokespecial 66, 3) := by decide +kernel
theorem dX7_read_19 : decode cX7_read 19 = .ok (.athrow, 1) := by decide +kernel
theorem dX7_read_20 : decode cX7_read 20 = .ok (.aload_n 0, 1) := by decide +kernel
theorem dX7_read_21 : decode cX7_read 21 = .ok (.getfield 19, 3) := by decide +kernel
theorem dX7_read_24 : decode cX7_read 24 = .ok (.aload_n 0, 1) := by decide +kernel
theorem dX7_read_25 : decode cX7_read 25 = .ok (.getfield 10, 3) := by decide +kernel
theorem dX7_read_28 : decode cX7_read 28 = .ok (.invokevirtual 69, 3) := by decide +kernel
theorem dX7_read_31 : decode cX7_read 31 = .ok (.iconst 0, 1) := by decide +kernel
theorem dX7_read_32 : decode cX7_read 32 = .ok (.istore_n 1, 1) := by decide +kernel
theorem dX7_read_33 : decode cX7_read 33 = .ok (.iconst 0, 1) := by decide +kernel
theorem dX7_read_34 : decode cX7_read 34 = .ok (.istore_n 2, 1) := by decide +kernel
theorem dX7_read_35 : decode cX7_read 35 = .ok (.iconst 0, 1) := by decide +kernel
theorem dX7_read_36 : decode cX7_read 36 = .ok (.istore_n 3, 1) := by decide +kernel
theorem dX7_read_37 : decode cX7_read 37 = .ok (.iload_n 3, 1) := by decide +kernel
theorem dX7_read_38 : decode cX7_read 38 = .ok (.aload_n 0, 1) := by decide +kernel
theorem dX7_read_39 : decode cX7_read 39 = .ok (.getfield 26, 3) := by decide +kernel
theorem dX7_read_42 : decode cX7_read 42 = .ok (.getfield 176, 3) := by decide +kernel
theorem dX7_read_45 : decode cX7_read 45 = .ok (.if_icmp .gt 52, 3) := by decide +kernel
theorem dX7_read_48 : decode cX7_read 48 = .ok (.iload_n 3, 1) := by decide +kernel
theorem dX7_read_49 : decode cX7_read 49 = .ok (.aload_n 0, 1) := by decide +kernel
theorem dX7_read_50 : decode cX7_read 50 = .ok (.getfield 26, 3) := by decide +kernel
theorem dX7_read_53 : decode cX7_read 53 = .ok (.getfield 176, 3) := by decide +kernel
theorem dX7_read_56 : decode cX7_read 56 = .ok (.if_icmp .eq 16, 3) := by decide +kernel
theorem dX7_read_59 : decode cX7_read 59 = .ok (.aload_n 0, 1) := by decide +kernel
theorem dX7_read_60 : decode cX7_read 60 = .ok (.getfield 26, 3) := by decide +kernel
theorem dX7_read_63 : decode cX7_read 63 = .ok (.iload_n 3, 1) := by decide +kernel
theorem dX7_read_64 : decode cX7_read 64 = .ok (.invokevirtual 193, 3) := by decide +kernel
theorem dX7_read_67 : decode cX7_read 67 = .ok (.bipush 59, 2) := by decide +kernel
theorem dX7_read_69 : decode cX7_read 69 = .ok (.if_icmp .ne 22, 3) := by decide +kernel
theorem dX7_read_72 : decode cX7_read 72 = .ok (.aload_n 0, 1) := by decide +kernel
theorem dX7_read_73 : decode cX7_read 73 = .ok (.iload_n 2, 1) := by decide +kernel
theorem dX7_read_74 : decode cX7_read 74 = .ok (.iload_n 3, 1) := by decide +kernel
theorem dX7_read_75 : decode cX7_read 75 = .ok (.invokevirtual 196, 3) := by decide +kernel
theorem dX7_read_78 : decode cX7_read 78 = .ok (.ifCond .ne 6, 3) := by decide +kernel
theorem dX7_read_81 : decode cX7_read 81 = .ok (.goto 16, 3) := by decide +kernel
theorem dX7_read_84 : decode cX7_read 84 = .ok (.iinc 1 1, 3) := by decide +kernel
theorem dX7_read_87 : decode cX7_read 87 = .ok (.iload_n 3, 1) := by decide +kernel
theorem dX7_read_88 : decode cX7_read 88 = .ok (.iconst 1, 1) := by decide +kernel
theorem dX7_read_89 : decode cX7_read 89 = .ok (.iadd, 1) := by decide +kernel
theorem dX7_read_90 : decode cX7_read 90 = .ok (.istore_n 2, 1) := by decide +kernel
theorem dX7_read_91 : decode cX7_read 91 = .ok (.iinc 3 1, 3) := by decide +kernel
theorem dX7_read_94 : decode cX7_read 94 = .ok (.goto (-57), 3) := by decide +kernel
theorem dX7_read_97 : decode cX7_read 97 = .ok (.aload_n 0, 1) := by decide +kernel
theorem dX7_read_98 : decode cX7_read 98 = .ok (.getfield 26, 3) := by decide +kernel
theorem dX7_read_101 : decode cX7_read 101 = .ok (.iconst 0, 1) := by decide +kernel
theorem dX7_read_102 : decode cX7_read 102 = .ok (.putfield 176, 3) := by decide +kernel
theorem dX7_read_105 : decode cX7_read 105 = .ok (.iload_n 1, 1) := by decide +kernel
theorem dX7_read_106 : decode cX7_read 106 = .ok (.ireturn, 1) := by decide +kernel
set_option maxRecDepth 20000 in
theorem ggX7_undo_X2_dropLatest : GoodIn wsX7_undo wsX2_dropLatest := goodIn_r _ [9, 10, 11, 12, 13, 8, 14, 15, 16, 42, 43, 44] (by decide +kernel) (by decide +kernel)
set_option maxRecDepth 20000 in
theorem gX7_undo_X2_dropLatest : GoodIn wsX7_undo (wsV RX7 205 RX2 yX2_dropLatest wsX2_dropLatest) := goodIn_app (goodIn_of _ (by decide +kernel)) ggX7_undo_X2_dropLatest
set_option maxRecDepth 20000 in
theorem ggX7_undo_X5_copyFrom : GoodIn wsX7_undo wsX5_copyFrom := goodIn_r _ [21, 22, 23, 24, 25, 26, 27, 28, 29, 30, 31, 32, 33, 45, 46, 47, 48, 49] (by decide +kernel) (by decide +kernel)
set_option maxRecDepth 20000 in
theorem gX7_undo_X5_copyFrom : GoodIn wsX7_undo (wsV RX7 209 RX5 yX5_copyFrom wsX5_copyFrom) := goodIn_app (goodIn_of _ (by decide +kernel)) ggX7_undo_X5_copyFrom
theorem dX7_undo_0 : decode cX7_undo 0 = .ok (.aload_n 0, 1) := by decide +kernel
theorem dX7_undo_1 : decode cX7_undo 1 = .ok (.getfield 19, 3) := by decide +kernel
theorem dX7_undo_4 : decode cX7_undo 4 = .ok (.getfield 200, 3) := by decide +kernel
theorem dX7_undo_7 : decode cX7_undo 7 = .ok (.ifCond .ne 13, 3) := by decide +kernel
theorem dX7_undo_10 : decode cX7_undo 10 = .ok (.new 115, 3) := by decide +kernel
theorem dX7_undo_13 : decode cX7_undo 13 = .ok (.dup, 1) := by decide +kernel
theorem dX7_undo_14 : decode cX7_undo 14 = .ok (.ldc 203, 2) := by decide +kernel
theorem dX7_undo_16 : decode cX7_undo 16 = .ok (.invokespecial 119, 3) := by decide +kernel
theorem dX7_undo_19 : decode cX7_undo 19 = .ok (.athrow, 1) := by decide +kernel
theorem dX7_undo_20 : decode cX7_undo 20 = .ok (.aload_n 0, 1) := by decide +kernel
theorem dX7_undo_21 : decode cX7_undo 21 = .ok (.getfield 10, 3) := by decide +kernel
theorem dX7_undo_24 : decode cX7_undo 24 = .ok (.aload_n 0, 1) := by decide +kernel
theorem dX7_undo_25 : decode cX7_undo 25 = .ok (.getfield 19, 3) := by decide +kernel
theorem dX7_undo_28 : decode cX7_undo 28 = .ok (.invokevirtual 205, 3) := by decide +kernel
theorem dX7_undo_31 : decode cX7_undo 31 = .ok (.invokevirtual 209, 3) := by decide +kernel
theorem dX7_undo_34 : decode cX7_undo 34 = .ok (.aload_n 0, 1) := by decide +kernel
theorem dX7_undo_35 : decode cX7_undo 35 = .ok (.getfield 19, 3) := by decide +kernel
theorem dX7_undo_38 : decode cX7_undo 38 = .ok (.getfield 200, 3) := by decide +kernel
theorem dX7_undo_41 : decode cX7_undo 41 = .ok (.ireturn, 1) := by decide +kernel
set_option maxRecDepth 20000 in
theorem ggX7_at_X5_hasPoint : GoodIn wsX7_at wsX5_hasPoint := goodIn_r _ [8, 9, 10, 11, 7, 12, 13, 34, 35, 36, 37, 38] (by decide +kernel) (by decide +kernel)
set_option maxRecDepth 20000 in
theorem gX7_at_X5_hasPoint : GoodIn wsX7_at (wsV RX7 81 RX5 yX5_hasPoint wsX5_hasPoint) := goodIn_app (goodIn_of _ (by decide +kernel)) ggX7_at_X5_hasPoint
set_option maxRecDepth 20000 in
theorem ggX7_at_X5_place : GoodIn wsX7_at wsX5_place := goodIn_r _ [17, 13, 34, 35, 36, 37, 38] (by decide +kernel) (by decide +kernel)
set_option maxRecDepth 20000 in
theorem gX7_at_X5_place : GoodIn wsX7_at (wsV RX7 96 RX5 yX5_place wsX5_place) := goodIn_app (goodIn_of _ (by decide +kernel)) ggX7_at_X5_place
set_option maxRecDepth 20000 in
theorem ggX7_at_X5_number : GoodIn wsX7_at wsX5_number := goodIn_r _ [21, 22, 23, 24, 25, 34, 35, 36, 37, 38] (by decide +kernel) (by decide +kernel)
set_option maxRecDepth 20000 in
theorem gX7_at_X5_number : GoodIn wsX7_at (wsV RX7 100 RX5 yX5_number wsX5_number) := goodIn_app (goodIn_of _ (by decide +kernel)) ggX7_at_X5_number
theorem dX7_at_0 : decode cX7_at 0 = .ok (.aload_n 0, 1) := by decide +kernel
theorem dX7_at_1 : decode cX7_at 1 = .ok (.getfield 10, 3) := by decide +kernel
theorem dX7_at_4 : decode cX7_at 4 = .ok (.iload_n 1, 1) := by decide +kernel
theorem dX7_at_5 : decode cX7_at 5 = .ok (.iload_n 2, 1) := by decide +kernel
theorem dX7_at_6 : decode cX7_at 6 = .ok (.iload_n 3, 1) := by decide +kernel
theorem dX7_at_7 : decode cX7_at 7 = .ok (.invokevirtual 81, 3) := by decide +kernel
theorem dX7_at_10 : decode cX7_at 10 = .ok (.ifCond .ne 13, 3) := by decide +kernel
theorem dX7_at_13 : decode cX7_at 13 = .ok (.new 85, 3) := by decide +kernel
theorem dX7_at_16 : decode cX7_at 16 = .ok (.dup, 1) := by decide +kernel
theorem dX7_at_17 : decode cX7_at 17 = .ok (.ldc 87, 2) := by decide +kernel
theorem dX7_at_19 : decode cX7_at 19 = .ok (.invokespecial 89, 3) := by decide +kernel
theorem dX7_at_22 : decode cX7_at 22 = .ok (.athrow, 1) := by decide +kernel
theorem dX7_at_23 : decode cX7_at 23 = .ok (.aload_n 0, 1) := by decide +kernel
theorem dX7_at_24 : decode cX7_at 24 = .ok (.getfield 10, 3) := by decide +kernel
theorem dX7_at_27 : decode cX7_at 27 = .ok (.aload_n 0, 1) := by decide +kernel
theorem dX7_at_28 : decode cX7_at 28 = .ok (.getfield 10, 3) := by decide +kernel
theorem dX7_at_31 : decode cX7_at 31 = .ok (.iload_n 1, 1) := by decide +kernel
theorem dX7_at_32 : decode cX7_at 32 = .ok (.iload_n 2, 1) := by decide +kernel
theorem dX7_at_33 : decode cX7_at 33 = .ok (.iload_n 3, 1) := by decide +kernel
theorem dX7_at_34 : decode cX7_at 34 = .ok (.invokevirtual 96, 3) := by decide +kernel
theorem dX7_at_37 : decode cX7_at 37 = .ok (.invokevirtual 100, 3) := by decide +kernel
theorem dX7_at_40 : decode cX7_at 40 = .ok (.ireturn, 1) := by decide +kernel
set_option maxRecDepth 20000 in
theorem ggX7_line_X5_hasCoordinate : GoodIn wsX7_line wsX5_hasCoordinate := goodIn_r _ [10, 11, 47, 48, 49, 50, 51] (by decide +kernel) (by decide +kernel)
set_option maxRecDepth 20000 in
theorem gX7_line_X5_hasCoordinate : GoodIn wsX7_line (wsV RX7 123 RX5 yX5_hasCoordinate wsX5_hasCoordinate) := goodIn_app (goodIn_of _ (by decide +kernel)) ggX7_line_X5_hasCoordinate
set_option maxRecDepth 20000 in
theorem ggX7_line_X7_isAxis : GoodIn wsX7_line wsX7_isAxis := goodIn_r _ [15] (by decide +kernel) (by decide +kernel)
set_option maxRecDepth 20000 in
theorem gX7_line_X7_isAxis : GoodIn wsX7_line (va_wsS RX7 128 yX7_isAxis wsX7_isAxis) := goodIn_app (goodIn_of _ (by decide +kernel)) ggX7_line_X7_isAxis
set_option maxRecDepth 20000 in
theorem ggX7_line_X5_lineSum : GoodIn wsX7_line wsX5_lineSum := goodIn_r _ [19, 11, 20, 21, 22, 9, 23, 24, 25, 26, 27, 28, 14, 29, 30, 31, 32, 33, 34, 35, 36, 37, 38, 47, 48, 49, 50, 51] (by decide +kernel) (by decide +kernel)
set_option maxRecDepth 20000 in
theorem gX7_line_X5_lineSum : GoodIn wsX7_line (wsV RX7 212 RX5 yX5_lineSum wsX5_lineSum) := goodIn_app (goodIn_of _ (by decide +kernel)) ggX7_line_X5_lineSum
theorem dX7_line_0 : decode cX7_line 0 = .ok (.aload_n 0, 1) := by decide +kernel
theorem dX7_line_1 : decode cX7_line 1 = .ok (.getfield 10, 3) := by decide +kernel
theorem dX7_line_4 : decode cX7_line 4 = .ok (.iload_n 2, 1) := by decide +kernel
theorem dX7_line_5 : decode cX7_line 5 = .ok (.invokevirtual 123, 3) := by decide +kernel
theorem dX7_line_8 : decode cX7_line 8 = .ok (.ifCond .eq 14, 3) := by decide +kernel
theorem dX7_line_11 : decode cX7_line 11 = .ok (.aload_n 0, 1) := by decide +kernel
theorem dX7_line_12 : decode cX7_line 12 = .ok (.getfield 10, 3) := by decide +kernel
theorem dX7_line_15 : decode cX7_line 15 = .ok (.iload_n 3, 1) := by decide +kernel
theorem dX7_line_16 : decode cX7_line 16 = .ok (.invokevirtual 123, 3) := by decide +kernel
theorem dX7_line_19 : decode cX7_line 19 = .ok (.ifCond .ne 13, 3) := by decide +kernel
theorem dX7_line_22 : decode cX7_line 22 = .ok (.new 85, 3) := by decide +kernel
theorem dX7_line_25 : decode cX7_line 25 = .ok (.dup, 1) := by decide +kernel
theorem dX7_line_26 : decode cX7_line 26 = .ok (.ldc 126, 2) := by decide +kernel
theorem dX7_line_28 : decode cX7_line 28 = .ok (.invokespecial 89, 3) := by decide +kernel
theorem dX7_line_31 : decode cX7_line 31 = .ok (.athrow, 1) := by decide +kernel
theorem dX7_line_32 : decode cX7_line 32 = .ok (.iload_n 1, 1) := by decide +kernel
theorem dX7_line_33 : decode cX7_line 33 = .ok (.invokestatic 128, 3) := by decide +kernel
theorem dX7_line_36 : decode cX7_line 36 = .ok (.ifCond .ne 13, 3) := by decide +kernel
theorem dX7_line_39 : decode cX7_line 39 = .ok (.new 62, 3) := by decide +kernel
theorem dX7_line_42 : decode cX7_line 42 = .ok (.dup, 1) := by decide +kernel
theorem dX7_line_43 : decode cX7_line 43 = .ok (.ldc 131, 2) := by decide +kernel
theorem dX7_line_45 : decode cX7_line 45 = .ok (.invokespecial 66, 3) := by decide +kernel
theorem dX7_line_48 : decode cX7_line 48 = .ok (.athrow, 1) := by decide +kernel
theorem dX7_line_49 : decode cX7_line 49 = .ok (.aload_n 0, 1) := by decide +kernel
theorem dX7_line_50 : decode cX7_line 50 = .ok (.getfield 10, 3) := by decide +kernel
theorem dX7_line_53 : decode cX7_line 53 = .ok (.iload_n 1, 1) := by decide +kernel
theorem dX7_line_54 : decode cX7_line 54 = .ok (.iload_n 2, 1) := by decide +kernel
theorem dX7_line_55 : decode cX7_line 55 = .ok (.iload_n 3, 1) := by decide +kernel
theorem dX7_line_56 : decode cX7_line 56 = .ok (.invokevirtual 212, 3) := by decide +kernel
theorem dX7_line_59 : decode cX7_line 59 = .ok (.ireturn, 1) := by decide +kernel
set_option maxRecDepth 20000 in
theorem ggX7_slice_X5_hasCoordinate : GoodIn wsX7_slice wsX5_hasCoordinate := goodIn_r _ [11, 12, 73, 74, 75, 76, 77] (by decide +kernel) (by decide +kernel)
set_option maxRecDepth 20000 in
theorem gX7_slice_X5_hasCoordinate : GoodIn wsX7_slice (wsV RX7 123 RX5 yX5_hasCoordinate wsX5_hasCoordinate) := goodIn_app (goodIn_of _ (by decide +kernel)) ggX7_slice_X5_hasCoordinate
set_option maxRecDepth 20000 in
theorem ggX7_slice_X7_isAxis : GoodIn wsX7_slice wsX7_isAxis := goodIn_r _ [16] (by decide +kernel) (by decide +kernel)
set_option maxRecDepth 20000 in
theorem gX7_slice_X7_isAxis : GoodIn wsX7_slice (va_wsS RX7 128 yX7_isAxis wsX7_isAxis) := goodIn_app (goodIn_of _ (by decide +kernel)) ggX7_slice_X7_isAxis
set_option maxRecDepth 20000 in
theorem ggX7_slice_X4_lookAt : GoodIn wsX7_slice wsX4_lookAt := goodIn_r _ [21, 22, 23, 24, 25, 26, 27, 28, 29, 30, 31, 15, 32, 33, 34, 35, 10, 36, 12, 37, 38, 39, 40, 41, 42, 43, 44, 45, 46, 47, 48, 49, 50, 51, 52, 73, 74, 75, 76, 77, 78, 79, 80, 81, 82] (by decide +kernel) (by decide +kernel)
set_option maxRecDepth 20000 in
theorem gX7_slice_X4_lookAt : GoodIn wsX7_slice (wsV RX7 217 RX4 yX4_lookAt wsX4_lookAt) := goodIn_app (goodIn_of _ (by decide +kernel)) ggX7_slice_X4_lookAt
set_option maxRecDepth 20000 in
theorem ggX7_slice_X4_told : GoodIn wsX7_slice wsX4_told := goodIn_r _ [56, 27, 28, 29, 49, 15, 50, 57, 58, 59, 20, 60, 61, 62, 63, 64, 30, 22, 78, 79, 80, 81, 82] (by decide +kernel) (by decide +kernel)
set_option maxRecDepth 20000 in
theorem gX7_slice_X4_told : GoodIn wsX7_slice (wsV RX7 221 RX4 yX4_told wsX4_told) := goodIn_app (goodIn_of _ (by decide +kernel)) ggX7_slice_X4_told
theorem dX7_slice_0 : decode cX7_slice 0 = .ok (.aload_n 0, 1) := by decide +kernel
theorem dX7_slice_1 : decode cX7_slice 1 = .ok (.getfield 10, 3) := by decide +kernel
theorem dX7_slice_4 : decode cX7_slice 4 = .ok (.iload_n 2, 1) := by decide +kernel
theorem dX7_slice_5 : decode cX7_slice 5 = .ok (.invokevirtual 123, 3) := by decide +kernel
theorem dX7_slice_8 : decode cX7_slice 8 = .ok (.ifCond .ne 13, 3) := by decide +kernel
theorem dX7_slice_11 : decode cX7_slice 11 = .ok (.new 85, 3) := by decide +kernel
theorem dX7_slice_14 : decode cX7_slice 14 = .ok (.dup, 1) := by decide +kernel
theorem dX7_slice_15 : decode cX7_slice 15 = .ok (.ldc 126, 2) := by decide +kernel
theorem dX7_slice_17 : decode cX7_slice 17 = .ok (.invokespecial 89, 3) := by decide +kernel
theorem dX7_slice_20 : decode cX7_slice 20 = .ok (.athrow, 1) := by decide +kernel
theorem dX7_slice_21 : decode cX7_slice 21 = .ok (.iload_n 1, 1) := by decide +kernel
theorem dX7_slice_22 : decode cX7_slice 22 = .ok (.invokestatic 128, 3) := by decide +kernel
theorem dX7_slice_25 : decode cX7_slice 25 = .ok (.ifCond .eq 12, 3) := by decide +kernel
theorem dX7_slice_28 : decode cX7_slice 28 = .ok (.iload_n 3, 1) := by decide +kernel
theorem dX7_slice_29 : decode cX7_slice 29 = .ok (.ifCond .lt 8, 3) := by decide +kernel
theorem dX7_slice_32 : decode cX7_slice 32 = .ok (.iload_n 3, 1) := by decide +kernel
theorem dX7_slice_33 : decode cX7_slice 33 = .ok (.iconst 4, 1) := by decide +kernel
theorem dX7_slice_34 : decode cX7_slice 34 = .ok (.if_icmp .le 13, 3) := by decide +kernel
theorem dX7_slice_37 : decode cX7_slice 37 = .ok (.new 62, 3) := by decide +kernel
theorem dX7_slice_40 : decode cX7_slice 40 = .ok (.dup, 1) := by decide +kernel
theorem dX7_slice_41 : decode cX7_slice 41 = .ok (.ldc 215, 2) := by decide +kernel
theorem dX7_slice_43 : decode cX7_slice 43 = .ok (.invokespecial 66, 3) := by decide +kernel
theorem dX7_slice_46 : decode cX7_slice 46 = .ok (.athrow, 1) := by decide +kernel
theorem dX7_slice_47 : decode cX7_slice 47 = .ok (.aload_n 0, 1) := by decide +kernel
theorem dX7_slice_48 : decode cX7_slice 48 = .ok (.getfield 33, 3) := by decide +kernel
theorem dX7_slice_51 : decode cX7_slice 51 = .ok (.aload_n 0, 1) := by decide +kernel
theorem dX7_slice_52 : decode cX7_slice 52 = .ok (.getfield 10, 3) := by decide +kernel
theorem dX7_slice_55 : decode cX7_slice 55 = .ok (.iload_n 1, 1) := by decide +kernel
theorem dX7_slice_56 : decode cX7_slice 56 = .ok (.iload_n 2, 1) := by decide +kernel
theorem dX7_slice_57 : decode cX7_slice 57 = .ok (.invokevirtual 217, 3) := by decide +kernel
theorem dX7_slice_60 : decode cX7_slice 60 = .ok (.aload_n 0, 1) := by decide +kernel
theorem dX7_slice_61 : decode cX7_slice 61 = .ok (.getfield 33, 3) := by decide +kernel
theorem dX7_slice_64 : decode cX7_slice 64 = .ok (.iload_n 2, 1) := by decide +kernel
theorem dX7_slice_65 : decode cX7_slice 65 = .ok (.iload_n 3, 1) := by decide +kernel
theorem dX7_slice_66 : decode cX7_slice 66 = .ok (.aload_n 0, 1) := by decide +kernel
theorem dX7_slice_67 : decode cX7_slice 67 = .ok (.getfield 10, 3) := by decide +kernel
theorem dX7_slice_70 : decode cX7_slice 70 = .ok (.getfield 171, 3) := by decide +kernel
theorem dX7_slice_73 : decode cX7_slice 73 = .ok (.invokevirtual 221, 3) := by decide +kernel
theorem dX7_slice_76 : decode cX7_slice 76 = .ok (.ireturn, 1) := by decide +kernel
set_option maxRecDepth 20000 in
theorem ggX7_ordered_X5_placeOfRank : GoodIn wsX7_ordered wsX5_placeOfRank := goodIn_r _ [8, 9, 10, 11, 12, 13, 14, 15, 16, 7, 17, 18, 19, 20, 21, 22, 23, 24, 25, 26, 27, 28, 29, 30, 48, 49, 50, 51, 52] (by decide +kernel) (by decide +kernel)
set_option maxRecDepth 20000 in
theorem gX7_ordered_X5_placeOfRank : GoodIn wsX7_ordered (wsV RX7 226 RX5 yX5_placeOfRank wsX5_placeOfRank) := goodIn_app (goodIn_of _ (by decide +kernel)) ggX7_ordered_X5_placeOfRank
set_option maxRecDepth 20000 in
theorem ggX7_ordered_X7_orderedPoint : GoodIn wsX7_ordered wsX7_orderedPoint := goodIn_r _ [34, 3, 35, 25, 26, 7, 27, 28, 29, 12, 30, 36, 37, 38, 39, 10, 14, 15, 16, 17, 40, 41, 42, 43, 44, 45, 46, 47, 48, 49, 50, 51, 52] (by decide +kernel) (by decide +kernel)
set_option maxRecDepth 20000 in
theorem gX7_ordered_X7_orderedPoint : GoodIn wsX7_ordered (wsV RX7 229 RX7 yX7_orderedPoint wsX7_orderedPoint) := goodIn_app (goodIn_of _ (by decide +kernel)) ggX7_ordered_X7_orderedPoint
theorem dX7_ordered_0 : decode cX7_ordered 0 = .ok (.iload_n 1, 1) := by decide +kernel
theorem dX7_ordered_1 : decode cX7_ordered 1 = .ok (.ifCond .lt 12, 3) := by decide +kernel
theorem dX7_ordered_4 : decode cX7_ordered 4 = .ok (.iload_n 2, 1) := by decide +kernel
theorem dX7_ordered_5 : decode cX7_ordered 5 = .ok (.ifCond .lt 8, 3) := by decide +kernel
theorem dX7_ordered_8 : decode cX7_ordered 8 = .ok (.iload_n 2, 1) := by decide +kernel
theorem dX7_ordered_9 : decode cX7_ordered 9 = .ok (.iconst 3, 1) := by decide +kernel
theorem dX7_ordered_10 : decode cX7_ordered 10 = .ok (.if_icmp .le 13, 3) := by decide +kernel
theorem dX7_ordered_13 : decode cX7_ordered 13 = .ok (.new 62, 3) := by decide +kernel
theorem dX7_ordered_16 : decode cX7_ordered 16 = .ok (.dup, 1) := by decide +kernel
theorem dX7_ordered_17 : decode cX7_ordered 17 = .ok (.ldc 224, 2) := by decide +kernel
theorem dX7_ordered_19 : decode cX7_ordered 19 = .ok (.invokespecial 66, 3) := by decide +kernel
theorem dX7_ordered_22 : decode cX7_ordered 22 = .ok (.athrow, 1) := by decide +kernel
theorem dX7_ordered_23 : decode cX7_ordered 23 = .ok (.aload_n 0, 1) := by decide +kernel
theorem dX7_ordered_24 : decode cX7_ordered 24 = .ok (.aload_n 0, 1) := by decide +kernel
theorem dX7_ordered_25 : decode cX7_ordered 25 = .ok (.getfield 10, 3) := by decide +kernel
theorem dX7_ordered_28 : decode cX7_ordered 28 = .ok (.iload_n 1, 1) := by decide +kernel
theorem dX7_ordered_29 : decode cX7_ordered 29 = .ok (.invokevirtual 226, 3) := by decide +kernel
theorem dX7_ordered_32 : decode cX7_ordered 32 = .ok (.iload_n 2, 1) := by decide +kernel
theorem dX7_ordered_33 : decode cX7_ordered 33 = .ok (.invokevirtual 229, 3) := by decide +kernel
theorem dX7_ordered_36 : decode cX7_ordered 36 = .ok (.ireturn, 1) := by decide +kernel
set_option maxRecDepth 20000 in
theorem ggX7_difference_X0_look : GoodIn wsX7_difference wsX0_look := goodIn_r _ [9, 10, 11, 12, 13, 14, 15, 16, 17, 18, 19, 20, 21, 22, 23, 24, 25, 26, 27, 28, 29, 30, 31, 32, 33, 34, 47, 48, 49, 50, 51, 52, 53, 54, 55] (by decide +kernel) (by decide +kernel)
set_option maxRecDepth 20000 in
theorem gX7_difference_X0_look : GoodIn wsX7_difference (wsV RX7 161 RX0 yX0_look wsX0_look) := goodIn_app (goodIn_of _ (by decide +kernel)) ggX7_difference_X0_look
set_option maxRecDepth 20000 in
theorem ggX7_difference_X0_told : GoodIn wsX7_difference wsX0_told := goodIn_r _ [38, 10, 11, 12, 13, 47, 48, 49, 50] (by decide +kernel) (by decide +kernel)
set_option maxRecDepth 20000 in
theorem gX7_difference_X0_told : GoodIn wsX7_difference (wsV RX7 234 RX0 yX0_told wsX0_told) := goodIn_app (goodIn_of _ (by decide +kernel)) ggX7_difference_X0_told
theorem dX7_difference_0 : decode cX7_difference 0 = .ok (.iload_n 1, 1) := by decide +kernel
theorem dX7_difference_1 : decode cX7_difference 1 = .ok (.ifCond .lt 8, 3) := by decide +kernel
theorem dX7_difference_4 : decode cX7_difference 4 = .ok (.iload_n 1, 1) := by decide +kernel
theorem dX7_difference_5 : decode cX7_difference 5 = .ok (.iconst 3, 1) := by decide +kernel
theorem dX7_difference_6 : decode cX7_difference 6 = .ok (.if_icmp .le 13, 3) := by decide +kernel
theorem dX7_difference_9 : decode cX7_difference 9 = .ok (.new 62, 3) := by decide +kernel
theorem dX7_difference_12 : decode cX7_difference 12 = .ok (.dup, 1) := by decide +kernel
theorem dX7_difference_13 : decode cX7_difference 13 = .ok (.ldc 232, 2) := by decide +kernel
theorem dX7_difference_15 : decode cX7_difference 15 = .ok (.invokespecial 66, 3) := by decide +kernel
theorem dX7_difference_18 : decode cX7_difference 18 = .ok (.athrow, 1) := by decide +kernel
theorem dX7_difference_19 : decode cX7_difference 19 = .ok (.aload_n 0, 1) := by decide +kernel
theorem dX7_difference_20 : decode cX7_difference 20 = .ok (.getfield 40, 3) := by decide +kernel
theorem dX7_difference_23 : decode cX7_difference 23 = .ok (.aload_n 0, 1) := by decide +kernel
theorem dX7_difference_24 : decode cX7_difference 24 = .ok (.getfield 10, 3) := by decide +kernel
theorem dX7_difference_27 : decode cX7_difference 27 = .ok (.invokevirtual 161, 3) := by decide +kernel
theorem dX7_difference_30 : decode cX7_difference 30 = .ok (.aload_n 0, 1) := by decide +kernel
theorem dX7_difference_31 : decode cX7_difference 31 = .ok (.getfield 40, 3) := by decide +kernel
theorem dX7_difference_34 : decode cX7_difference 34 = .ok (.iload_n 1, 1) := by decide +kernel
theorem dX7_difference_35 : decode cX7_difference 35 = .ok (.invokevirtual 234, 3) := by decide +kernel
theorem dX7_difference_38 : decode cX7_difference 38 = .ok (.ireturn, 1) := by decide +kernel
set_option maxRecDepth 20000 in
theorem ggX7_count_X5_filled : GoodIn wsX7_count wsX5_filled := goodIn_r _ [10, 11, 12, 13, 9, 14, 15, 16, 17, 18, 19, 20, 21, 22, 23, 90, 91, 92, 93, 94] (by decide +kernel) (by decide +kernel)
set_option maxRecDepth 20000 in
theorem gX7_count_X5_filled : GoodIn wsX7_count (wsV RX7 236 RX5 yX5_filled wsX5_filled) := goodIn_app (goodIn_of _ (by decide +kernel)) ggX7_count_X5_filled
set_option maxRecDepth 20000 in
theorem ggX7_count_X5_sum : GoodIn wsX7_count wsX5_sum := goodIn_r _ [27, 11, 12, 13, 9, 14, 15, 16, 17, 18, 19, 20, 21, 22, 23, 90, 91, 92, 93, 94] (by decide +kernel) (by decide +kernel)
set_option maxRecDepth 20000 in
theorem gX7_count_X5_sum : GoodIn wsX7_count (wsV RX7 239 RX5 yX5_sum wsX5_sum) := goodIn_app (goodIn_of _ (by decide +kernel)) ggX7_count_X5_sum
set_option maxRecDepth 20000 in
theorem ggX7_count_X7_roomBy : GoodIn wsX7_count wsX7_roomBy := goodIn_r _ [31, 5, 3, 32, 33, 34, 35, 36, 37, 38, 39, 40, 41, 42, 43, 44, 45, 46, 47, 48, 49, 50, 22, 51, 52, 53, 54, 9, 55, 15, 56, 57, 58, 59, 60, 61, 62, 63, 17, 18, 19, 20, 21, 23, 64, 65, 66, 67, 68, 69, 70, 71, 72, 73, 74, 75, 76, 77, 82, 83, 84, 85, 86, 87, 88, 89, 90, 91, 92, 93, 94, 98, 99, 100, 101, 102] (by decide +kernel) (by decide +kernel)
set_option maxRecDepth 20000 in
theorem gX7_count_X7_roomBy : GoodIn wsX7_count (wsV RX7 158 RX7 yX7_roomBy wsX7_roomBy) := goodIn_app (goodIn_of _ (by decide +kernel)) ggX7_count_X7_roomBy
set_option maxRecDepth 20000 in
theorem ggX7_count_X4_look : GoodIn wsX7_count wsX4_look := goodIn_r _ [36, 37, 38, 39, 35, 40, 41, 42, 43, 44, 45, 46, 47, 48, 49, 50, 22, 51, 52, 53, 54, 9, 55, 15, 56, 57, 58, 59, 60, 61, 62, 63, 17, 18, 19, 20, 21, 23, 64, 65, 90, 91, 92, 93, 94, 98, 99, 100, 101, 102] (by decide +kernel) (by decide +kernel)
set_option maxRecDepth 20000 in
theorem gX7_count_X4_look : GoodIn wsX7_count (wsV RX7 242 RX4 yX4_look wsX4_look) := goodIn_app (goodIn_of _ (by decide +kernel)) ggX7_count_X4_look
set_option maxRecDepth 20000 in
theorem ggX7_count_X4_countOfForm : GoodIn wsX7_count wsX4_countOfForm := goodIn_r _ [81, 41, 70, 71, 72, 35, 73, 47, 21, 22, 23, 98, 99, 100, 101, 102] (by decide +kernel) (by decide +kernel)
set_option maxRecDepth 20000 in
theorem gX7_count_X4_countOfForm : GoodIn wsX7_count (wsV RX7 245 RX4 yX4_countOfForm wsX4_countOfForm) := goodIn_app (goodIn_of _ (by decide +kernel)) ggX7_count_X4_countOfForm
theorem dX7_count_0 : decode cX7_count 0 = .ok (.iload_n 1, 1) := by decide +kernel
theorem dX7_count_1 : decode cX7_count 1 = .ok (.ifCond .lt 9, 3) := by decide +kernel
theorem dX7_count_4 : decode cX7_count 4 = .ok (.iload_n 1, 1) := by decide +kernel
theorem dX7_count_5 : decode cX7_count 5 = .ok (.bipush 8, 2) := by decide +kernel
theorem dX7_count_7 : decode cX7_count 7 = .ok (.if_icmp .le 13, 3) := by decide +kernel
theorem dX7_count_10 : decode cX7_count 10 = .ok (.new 62, 3) := by decide +kernel
theorem dX7_count_13 : decode cX7_count 13 = .ok (.dup, 1) := by decide +kernel
theorem dX7_count_14 : decode cX7_count 14 = .ok (.ldc 232, 2) := by decide +kernel
theorem dX7_count_16 : decode cX7_count 16 = .ok (.invokespecial 66, 3) := by decide +kernel
theorem dX7_count_19 : decode cX7_count 19 = .ok (.athrow, 1) := by decide +kernel
theorem dX7_count_20 : decode cX7_count 20 = .ok (.iload_n 1, 1) := by decide +kernel
theorem dX7_count_21 : decode cX7_count 21 = .ok (.tableswitch 103 0 8 #[51, 59, 67, 75, 83, 103, 103, 103, 95], 51) := by decide +kernel
theorem dX7_count_72 : decode cX7_count 72 = .ok (.aload_n 0, 1) := by decide +kernel
theorem dX7_count_73 : decode cX7_count 73 = .ok (.getfield 10, 3) := by decide +kernel
theorem dX7_count_76 : decode cX7_count 76 = .ok (.getfield 137, 3) := by decide +kernel
theorem dX7_count_79 : decode cX7_count 79 = .ok (.ireturn, 1) := by decide +kernel
theorem dX7_count_80 : decode cX7_count 80 = .ok (.aload_n 0, 1) := by decide +kernel
theorem dX7_count_81 : decode cX7_count 81 = .ok (.getfield 10, 3) := by decide +kernel
theorem dX7_count_84 : decode cX7_count 84 = .ok (.getfield 155, 3) := by decide +kernel
theorem dX7_count_87 : decode cX7_count 87 = .ok (.ireturn, 1) := by decide +kernel
theorem dX7_count_88 : decode cX7_count 88 = .ok (.aload_n 0, 1) := by decide +kernel
theorem dX7_count_89 : decode cX7_count 89 = .ok (.getfield 10, 3) := by decide +kernel
theorem dX7_count_92 : decode cX7_count 92 = .ok (.invokevirtual 236, 3) := by decide +kernel
theorem dX7_count_95 : decode cX7_count 95 = .ok (.ireturn, 1) := by decide +kernel
theorem dX7_count_96 : decode cX7_count 96 = .ok (.aload_n 0, 1) := by decide +kernel
theorem dX7_count_97 : decode cX7_count 97 = .ok (.getfield 10, 3) := by decide +kernel
theorem dX7_count_100 : decode cX7_count 100 = .ok (.invokevirtual 239, 3) := by decide +kernel
theorem dX7_count_103 : decode cX7_count 103 = .ok (.ireturn, 1) := by decide +kernel
theorem dX7_count_104 : decode cX7_count 104 = .ok (.aload_n 0, 1) := by decide +kernel
theorem dX7_count_105 : decode cX7_count 105 = .ok (.aload_n 0, 1) := by decide +kernel
theorem dX7_count_106 : decode cX7_count 106 = .ok (.getfield 10, 3) := by decide +kernel
theorem dX7_count_109 : decode cX7_count 109 = .ok (.getfield 155, 3) := by decide +kernel
theorem dX7_count_112 : decode cX7_count 112 = .ok (.invokevirtual 158, 3) := by decide +kernel
theorem dX7_count_115 : decode cX7_count 115 = .ok (.ireturn, 1) := by decide +kernel
theorem dX7_count_116 : decode cX7_count 116 = .ok (.aload_n 0, 1) := by decide +kernel
theorem dX7_count_117 : decode cX7_count 117 = .ok (.getfield 19, 3) := by decide +kernel
theorem dX7_count_120 : decode cX7_count 120 = .ok (.getfield 200, 3) := by decide +kernel
theorem dX7_count_123 : decode cX7_count 123 = .ok (.ireturn, 1) := by decide +kernel
theorem dX7_count_124 : decode cX7_count 124 = .ok (.aload_n 0, 1) := by decide +kernel
theorem dX7_count_125 : decode cX7_count 125 = .ok (.getfield 33, 3) := by decide +kernel
theorem dX7_count_128 : decode cX7_count 128 = .ok (.aload_n 0, 1) := by decide +kernel
theorem dX7_count_129 : decode cX7_count 129 = .ok (.getfield 10, 3) := by decide +kernel
theorem dX7_count_132 : decode cX7_count 132 = .ok (.aload_n 0, 1) := by decide +kernel
theorem dX7_count_133 : decode cX7_count 133 = .ok (.getfield 10, 3) := by decide +kernel
theorem dX7_count_136 : decode cX7_count 136 = .ok (.getfield 155, 3) := by decide +kernel
theorem dX7_count_139 : decode cX7_count 139 = .ok (.invokevirtual 242, 3) := by decide +kernel
theorem dX7_count_142 : decode cX7_count 142 = .ok (.aload_n 0, 1) := by decide +kernel
theorem dX7_count_143 : decode cX7_count 143 = .ok (.getfield 33, 3) := by decide +kernel
theorem dX7_count_146 : decode cX7_count 146 = .ok (.iload_n 1, 1) := by decide +kernel
theorem dX7_count_147 : decode cX7_count 147 = .ok (.iconst 5, 1) := by decide +kernel
theorem dX7_count_148 : decode cX7_count 148 = .ok (.isub, 1) := by decide +kernel
theorem dX7_count_149 : decode cX7_count 149 = .ok (.aload_n 0, 1) := by decide +kernel
theorem dX7_count_150 : decode cX7_count 150 = .ok (.getfield 10, 3) := by decide +kernel
theorem dX7_count_153 : decode cX7_count 153 = .ok (.getfield 171, 3) := by decide +kernel
theorem dX7_count_156 : decode cX7_count 156 = .ok (.invokevirtual 245, 3) := by decide +kernel
theorem dX7_count_159 : decode cX7_count 159 = .ok (.ireturn, 1) := by decide +kernel
set_option maxRecDepth 20000 in
theorem ggX7_ifKept_X7_isAxis : GoodIn wsX7_ifKept wsX7_isAxis := goodIn_r _ [6] (by decide +kernel) (by decide +kernel)
set_option maxRecDepth 20000 in
theorem gX7_ifKept_X7_isAxis : GoodIn wsX7_ifKept (va_wsS RX7 128 yX7_isAxis wsX7_isAxis) := goodIn_app (goodIn_of _ (by decide +kernel)) ggX7_ifKept_X7_isAxis
set_option maxRecDepth 20000 in
theorem ggX7_ifKept_X7_roomBy : GoodIn wsX7_ifKept wsX7_roomBy := goodIn_r _ [10, 11, 12, 13, 14, 15, 16, 17, 18, 19, 20, 21, 22, 23, 24, 25, 26, 27, 28, 29, 30, 31, 5, 32, 33, 34, 35, 36, 37, 38, 39, 40, 41, 42, 43, 44, 45, 46, 47, 48, 49, 50, 51, 52, 53, 54, 55, 56, 57, 58, 59, 60, 61, 62, 63, 64, 65, 66, 67, 68, 69, 70, 71, 72, 73, 74, 75, 76, 77, 78, 79, 80, 81, 82, 83, 84] (by decide +kernel) (by decide +kernel)
set_option maxRecDepth 20000 in
theorem gX7_ifKept_X7_roomBy : GoodIn wsX7_ifKept (wsV RX7 158 RX7 yX7_roomBy wsX7_roomBy) := goodIn_app (goodIn_of _ (by decide +kernel)) ggX7_ifKept_X7_roomBy
theorem dX7_ifKept_0 : decode cX7_ifKept 0 = .ok (.iload_n 1, 1) := by decide +kernel
theorem dX7_ifKept_1 : decode cX7_ifKept 1 = .ok (.invokestatic 128, 3) := by decide +kernel
theorem dX7_ifKept_4 : decode cX7_ifKept 4 = .ok (.ifCond .ne 13, 3) := by decide +kernel
theorem dX7_ifKept_7 : decode cX7_ifKept 7 = .ok (.new 62, 3) := by decide +kernel
theorem dX7_ifKept_10 : decode cX7_ifKept 10 = .ok (.dup, 1) := by decide +kernel
theorem dX7_ifKept_11 : decode cX7_ifKept 11 = .ok (.ldc 131, 2) := by decide +kernel
theorem dX7_ifKept_13 : decode cX7_ifKept 13 = .ok (.invokespecial 66, 3) := by decide +kernel
theorem dX7_ifKept_16 : decode cX7_ifKept 16 = .ok (.athrow, 1) := by decide +kernel
theorem dX7_ifKept_17 : decode cX7_ifKept 17 = .ok (.aload_n 0, 1) := by decide +kernel
theorem dX7_ifKept_18 : decode cX7_ifKept 18 = .ok (.iload_n 1, 1) := by decide +kernel
theorem dX7_ifKept_19 : decode cX7_ifKept 19 = .ok (.invokevirtual 158, 3) := by decide +kernel
theorem dX7_ifKept_22 : decode cX7_ifKept 22 = .ok (.ireturn, 1) := by decide +kernel
set_option maxRecDepth 20000 in
theorem ggX7_ifPut_X5_hasPoint : GoodIn wsX7_ifPut wsX5_hasPoint := goodIn_r _ [11, 12, 13, 14, 10, 15, 16, 95, 96, 97, 98, 99] (by decide +kernel) (by decide +kernel)
set_option maxRecDepth 20000 in
theorem gX7_ifPut_X5_hasPoint : GoodIn wsX7_ifPut (wsV RX7 81 RX5 yX5_hasPoint wsX5_hasPoint) := goodIn_app (goodIn_of _ (by decide +kernel)) ggX7_ifPut_X5_hasPoint
set_option maxRecDepth 20000 in
theorem ggX7_ifPut_X7_isNumber : GoodIn wsX7_ifPut wsX7_isNumber := goodIn_r _ [20] (by decide +kernel) (by decide +kernel)
set_option maxRecDepth 20000 in
theorem gX7_ifPut_X7_isNumber : GoodIn wsX7_ifPut (va_wsS RX7 90 yX7_isNumber wsX7_isNumber) := goodIn_app (goodIn_of _ (by decide +kernel)) ggX7_ifPut_X7_isNumber
set_option maxRecDepth 20000 in
theorem ggX7_ifPut_X5_place : GoodIn wsX7_ifPut wsX5_place := goodIn_r _ [24, 16, 95, 96, 97, 98, 99] (by decide +kernel) (by decide +kernel)
set_option maxRecDepth 20000 in
theorem gX7_ifPut_X5_place : GoodIn wsX7_ifPut (wsV RX7 96 RX5 yX5_place wsX5_place) := goodIn_app (goodIn_of _ (by decide +kernel)) ggX7_ifPut_X5_place
set_option maxRecDepth 20000 in
theorem ggX7_ifPut_X5_number : GoodIn wsX7_ifPut wsX5_number := goodIn_r _ [28, 29, 30, 19, 31, 95, 96, 97, 98, 99] (by decide +kernel) (by decide +kernel)
set_option maxRecDepth 20000 in
theorem gX7_ifPut_X5_number : GoodIn wsX7_ifPut (wsV RX7 100 RX5 yX5_number wsX5_number) := goodIn_app (goodIn_of _ (by decide +kernel)) ggX7_ifPut_X5_number
set_option maxRecDepth 20000 in
theorem ggX7_ifPut_X5_write : GoodIn wsX7_ifPut wsX5_write := goodIn_r _ [35, 29, 36, 19, 37, 95, 96, 97, 98, 99] (by decide +kernel) (by decide +kernel)
set_option maxRecDepth 20000 in
theorem gX7_ifPut_X5_write : GoodIn wsX7_ifPut (wsV RX7 104 RX5 yX5_write wsX5_write) := goodIn_app (goodIn_of _ (by decide +kernel)) ggX7_ifPut_X5_write
set_option maxRecDepth 20000 in
theorem ggX7_ifPut_X4_look : GoodIn wsX7_ifPut wsX4_look := goodIn_r _ [42, 43, 44, 45, 41, 46, 47, 48, 49, 50, 51, 52, 53, 54, 55, 56, 19, 57, 58, 59, 60, 10, 61, 16, 62, 63, 64, 65, 66, 67, 68, 69, 26, 27, 28, 29, 30, 31, 36, 37, 95, 96, 97, 98, 99, 100, 101, 102, 103, 104] (by decide +kernel) (by decide +kernel)
set_option maxRecDepth 20000 in
theorem gX7_ifPut_X4_look : GoodIn wsX7_ifPut (wsV RX7 242 RX4 yX4_look wsX4_look) := goodIn_app (goodIn_of _ (by decide +kernel)) ggX7_ifPut_X4_look
set_option maxRecDepth 20000 in
theorem ggX7_ifPut_X4_roomOfAll : GoodIn wsX7_ifPut wsX4_roomOfAll := goodIn_r _ [73, 47, 74, 75, 76, 41, 77, 53, 30, 19, 31, 78, 79, 80, 81, 55, 100, 101, 102, 103, 104] (by decide +kernel) (by decide +kernel)
set_option maxRecDepth 20000 in
theorem gX7_ifPut_X4_roomOfAll : GoodIn wsX7_ifPut (wsV RX7 250 RX4 yX4_roomOfAll wsX4_roomOfAll) := goodIn_app (goodIn_of _ (by decide +kernel)) ggX7_ifPut_X4_roomOfAll
set_option maxRecDepth 20000 in
theorem ggX7_ifPut_X5_coordinate : GoodIn wsX7_ifPut wsX5_coordinate := goodIn_r _ [85, 16, 66, 59, 60, 10, 61, 95, 96, 97, 98, 99] (by decide +kernel) (by decide +kernel)
set_option maxRecDepth 20000 in
theorem gX7_ifPut_X5_coordinate : GoodIn wsX7_ifPut (wsV RX7 253 RX5 yX5_coordinate wsX5_coordinate) := goodIn_app (goodIn_of _ (by decide +kernel)) ggX7_ifPut_X5_coordinate
set_option maxRecDepth 20000 in
theorem ggX7_ifPut_X4_form : GoodIn wsX7_ifPut wsX4_form := goodIn_r _ [77, 53, 30, 19, 31, 100, 101, 102, 103, 104] (by decide +kernel) (by decide +kernel)
set_option maxRecDepth 20000 in
theorem gX7_ifPut_X4_form : GoodIn wsX7_ifPut (wsV RX7 256 RX4 yX4_form wsX4_form) := goodIn_app (goodIn_of _ (by decide +kernel)) ggX7_ifPut_X4_form
theorem dX7_ifPut_0 : decode cX7_ifPut 0 = .ok (.aload_n 0, 1) := by decide +kernel
theorem dX7_ifPut_1 : decode cX7_ifPut 1 = .ok (.getfield 10, 3) := by decide +kernel
theorem dX7_ifPut_4 : decode cX7_ifPut 4 = .ok (.iload_n 1, 1) := by decide +kernel
theorem dX7_ifPut_5 : decode cX7_ifPut 5 = .ok (.iload_n 2, 1) := by decide +kernel
theorem dX7_ifPut_6 : decode cX7_ifPut 6 = .ok (.iload_n 3, 1) := by decide +kernel
theorem dX7_ifPut_7 : decode cX7_ifPut 7 = .ok (.invokevirtual 81, 3) := by decide +kernel
theorem dX7_ifPut_10 : decode cX7_ifPut 10 = .ok (.ifCond .ne 13, 3) := by decide +kernel
theorem dX7_ifPut_13 : decode cX7_ifPut 13 = .ok (.new 85, 3) := by decide +kernel
theorem dX7_ifPut_16 : decode cX7_ifPut 16 = .ok (.dup, 1) := by decide +kernel
theorem dX7_ifPut_17 : decode cX7_ifPut 17 = .ok (.ldc 87, 2) := by decide +kernel
theorem dX7_ifPut_19 : decode cX7_ifPut 19 = .ok (.invokespecial 89, 3) := by decide +kernel
theorem dX7_ifPut_22 : decode cX7_ifPut 22 = .ok (.athrow, 1) := by decide +kernel
theorem dX7_ifPut_23 : decode cX7_ifPut 23 = .ok (.iload 4, 2) := by decide +kernel
theorem dX7_ifPut_25 : decode cX7_ifPut 25 = .ok (.invokestatic 90, 3) := by decide +kernel
theorem dX7_ifPut_28 : decode cX7_ifPut 28 = .ok (.ifCond .eq 14, 3) := by decide +kernel
theorem dX7_ifPut_31 : decode cX7_ifPut 31 = .ok (.iload 5, 2) := by decide +kernel
theorem dX7_ifPut_33 : decode cX7_ifPut 33 = .ok (.ifCond .lt 9, 3) := by decide +kernel
theorem dX7_ifPut_36 : decode cX7_ifPut 36 = .ok (.iload 5, 2) := by decide +kernel
theorem dX7_ifPut_38 : decode cX7_ifPut 38 = .ok (.iconst 1, 1) := by decide +kernel
theorem dX7_ifPut_39 : decode cX7_ifPut 39 = .ok (.if_icmp .le 13, 3) := by decide +kernel
theorem dX7_ifPut_42 : decode cX7_ifPut 42 = .ok (.new 62, 3) := by decide +kernel
theorem dX7_ifPut_45 : decode cX7_ifPut 45 = .ok (.dup, 1) := by decide +kernel
theorem dX7_ifPut_46 : decode cX7_ifPut 46 = .ok (.ldc 248, 2) := by decide +kernel
theorem dX7_ifPut_48 : decode cX7_ifPut 48 = .ok (.invokespecial 66, 3) := by decide +kernel
theorem dX7_ifPut_51 : decode cX7_ifPut 51 = .ok (.athrow, 1) := by decide +kernel
theorem dX7_ifPut_52 : decode cX7_ifPut 52 = .ok (.aload_n 0, 1) := by decide +kernel
theorem dX7_ifPut_53 : decode cX7_ifPut 53 = .ok (.getfield 10, 3) := by decide +kernel
theorem dX7_ifPut_56 : decode cX7_ifPut 56 = .ok (.iload_n 1, 1) := by decide +kernel
theorem dX7_ifPut_57 : decode cX7_ifPut 57 = .ok (.iload_n 2, 1) := by decide +kernel
theorem dX7_ifPut_58 : decode cX7_ifPut 58 = .ok (.iload_n 3, 1) := by decide +kernel
theorem dX7_ifPut_59 : decode cX7_ifPut 59 = .ok (.invokevirtual 96, 3) := by decide +kernel
theorem dX7_ifPut_62 : decode cX7_ifPut 62 = .ok (.istore 6, 2) := by decide +kernel
theorem dX7_ifPut_64 : decode cX7_ifPut 64 = .ok (.aload_n 0, 1) := by decide +kernel
theorem dX7_ifPut_65 : decode cX7_ifPut 65 = .ok (.getfield 10, 3) := by decide +kernel
theorem dX7_ifPut_68 : decode cX7_ifPut 68 = .ok (.iload 6, 2) := by decide +kernel
theorem dX7_ifPut_70 : decode cX7_ifPut 70 = .ok (.invokevirtual 100, 3) := by decide +kernel
theorem dX7_ifPut_73 : decode cX7_ifPut 73 = .ok (.istore 7, 2) := by decide +kernel
theorem dX7_ifPut_75 : decode cX7_ifPut 75 = .ok (.aload_n 0, 1) := by decide +kernel
theorem dX7_ifPut_76 : decode cX7_ifPut 76 = .ok (.getfield 10, 3) := by decide +kernel
theorem dX7_ifPut_79 : decode cX7_ifPut 79 = .ok (.iload 6, 2) := by decide +kernel
theorem dX7_ifPut_81 : decode cX7_ifPut 81 = .ok (.iload 4, 2) := by decide +kernel
theorem dX7_ifPut_83 : decode cX7_ifPut 83 = .ok (.invokevirtual 104, 3) := by decide +kernel
theorem dX7_ifPut_86 : decode cX7_ifPut 86 = .ok (.aload_n 0, 1) := by decide +kernel
theorem dX7_ifPut_87 : decode cX7_ifPut 87 = .ok (.getfield 33, 3) := by decide +kernel
theorem dX7_ifPut_90 : decode cX7_ifPut 90 = .ok (.aload_n 0, 1) := by decide +kernel
theorem dX7_ifPut_91 : decode cX7_ifPut 91 = .ok (.getfield 10, 3) := by decide +kernel
theorem dX7_ifPut_94 : decode cX7_ifPut 94 = .ok (.aload_n 0, 1) := by decide +kernel
theorem dX7_ifPut_95 : decode cX7_ifPut 95 = .ok (.getfield 10, 3) := by decide +kernel
theorem dX7_ifPut_98 : decode cX7_ifPut 98 = .ok (.getfield 155, 3) := by decide +kernel
theorem dX7_ifPut_101 : decode cX7_ifPut 101 = .ok (.invokevirtual 242, 3) := by decide +kernel
theorem dX7_ifPut_104 : decode cX7_ifPut 104 = .ok (.aload_n 0, 1) := by decide +kernel
theorem dX7_ifPut_105 : decode cX7_ifPut 105 = .ok (.getfield 10, 3) := by decide +kernel
theorem dX7_ifPut_108 : decode cX7_ifPut 108 = .ok (.iload 6, 2) := by decide +kernel
theorem dX7_ifPut_110 : decode cX7_ifPut 110 = .ok (.iload 7, 2) := by decide +kernel
theorem dX7_ifPut_112 : decode cX7_ifPut 112 = .ok (.invokevirtual 104, 3) := by decide +kernel
theorem dX7_ifPut_115 : decode cX7_ifPut 115 = .ok (.iload 5, 2) := by decide +kernel
theorem dX7_ifPut_117 : decode cX7_ifPut 117 = .ok (.ifCond .ne 18, 3) := by decide +kernel
theorem dX7_ifPut_120 : decode cX7_ifPut 120 = .ok (.aload_n 0, 1) := by decide +kernel
theorem dX7_ifPut_121 : decode cX7_ifPut 121 = .ok (.getfield 33, 3) := by decide +kernel
theorem dX7_ifPut_124 : decode cX7_ifPut 124 = .ok (.aload_n 0, 1) := by decide +kernel
theorem dX7_ifPut_125 : decode cX7_ifPut 125 = .ok (.getfield 10, 3) := by decide +kernel
theorem dX7_ifPut_128 : decode cX7_ifPut 128 = .ok (.getfield 171, 3) := by decide +kernel
theorem dX7_ifPut_131 : decode cX7_ifPut 131 = .ok (.invokevirtual 250, 3) := by decide +kernel
theorem dX7_ifPut_134 : decode cX7_ifPut 134 = .ok (.ireturn, 1) := by decide +kernel
theorem dX7_ifPut_135 : decode cX7_ifPut 135 = .ok (.aload_n 0, 1) := by decide +kernel
theorem dX7_ifPut_136 : decode cX7_ifPut 136 = .ok (.getfield 33, 3) := by decide +kernel
theorem dX7_ifPut_139 : decode cX7_ifPut 139 = .ok (.aload_n 0, 1) := by decide +kernel
theorem dX7_ifPut_140 : decode cX7_ifPut 140 = .ok (.getfield 10, 3) := by decide +kernel
theorem dX7_ifPut_143 : decode cX7_ifPut 143 = .ok (.iload 6, 2) := by decide +kernel
theorem dX7_ifPut_145 : decode cX7_ifPut 145 = .ok (.aload_n 0, 1) := by decide +kernel
theorem dX7_ifPut_146 : decode cX7_ifPut 146 = .ok (.getfield 10, 3) := by decide +kernel
theorem dX7_ifPut_149 : decode cX7_ifPut 149 = .ok (.getfield 155, 3) := by decide +kernel
theorem dX7_ifPut_152 : decode cX7_ifPut 152 = .ok (.invokevirtual 253, 3) := by decide +kernel
theorem dX7_ifPut_155 : decode cX7_ifPut 155 = .ok (.aload_n 0, 1) := by decide +kernel
theorem dX7_ifPut_156 : decode cX7_ifPut 156 = .ok (.getfield 10, 3) := by decide +kernel
theorem dX7_ifPut_159 : decode cX7_ifPut 159 = .ok (.getfield 171, 3) := by decide +kernel
theorem dX7_ifPut_162 : decode cX7_ifPut 162 = .ok (.invokevirtual 256, 3) := by decide +kernel
theorem dX7_ifPut_165 : decode cX7_ifPut 165 = .ok (.ireturn, 1) := by decide +kernel
set_option maxRecDepth 20000 in
theorem ggX7_best_X3_look : GoodIn wsX7_best wsX3_look := goodIn_r _ [10, 11, 12, 13, 14, 15, 16, 17, 18, 19, 20, 21, 22, 23, 24, 25, 26, 27, 28, 29, 30, 31, 32, 33, 34, 35, 36, 37, 38, 39, 40, 41, 42, 43, 44, 45, 46, 47, 48, 49, 50, 51, 52, 53, 54, 55, 56, 57, 58, 59, 60, 61, 62, 63, 64, 65, 66, 67, 68, 69, 82, 83, 84, 85, 86, 87, 88, 89, 90, 91, 92, 93, 94] (by decide +kernel) (by decide +kernel)
set_option maxRecDepth 20000 in
theorem gX7_best_X3_look : GoodIn wsX7_best (wsV RX7 259 RX3 yX3_look wsX3_look) := goodIn_app (goodIn_of _ (by decide +kernel)) ggX7_best_X3_look
set_option maxRecDepth 20000 in
theorem ggX7_best_X3_told : GoodIn wsX7_best wsX3_told := goodIn_r _ [73, 13, 14, 12, 82, 83, 84] (by decide +kernel) (by decide +kernel)
set_option maxRecDepth 20000 in
theorem gX7_best_X3_told : GoodIn wsX7_best (wsV RX7 262 RX3 yX3_told wsX3_told) := goodIn_app (goodIn_of _ (by decide +kernel)) ggX7_best_X3_told
theorem dX7_best_0 : decode cX7_best 0 = .ok (.iload_n 1, 1) := by decide +kernel
theorem dX7_best_1 : decode cX7_best 1 = .ok (.ifCond .lt 8, 3) := by decide +kernel
theorem dX7_best_4 : decode cX7_best 4 = .ok (.iload_n 1, 1) := by decide +kernel
theorem dX7_best_5 : decode cX7_best 5 = .ok (.iconst 2, 1) := by decide +kernel
theorem dX7_best_6 : decode cX7_best 6 = .ok (.if_icmp .le 13, 3) := by decide +kernel
theorem dX7_best_9 : decode cX7_best 9 = .ok (.new 62, 3) := by decide +kernel
theorem dX7_best_12 : decode cX7_best 12 = .ok (.dup, 1) := by decide +kernel
theorem dX7_best_13 : decode cX7_best 13 = .ok (.ldc 232, 2) := by decide +kernel
theorem dX7_best_15 : decode cX7_best 15 = .ok (.invokespecial 66, 3) := by decide +kernel
theorem dX7_best_18 : decode cX7_best 18 = .ok (.athrow, 1) := by decide +kernel
theorem dX7_best_19 : decode cX7_best 19 = .ok (.aload_n 0, 1) := by decide +kernel
theorem dX7_best_20 : decode cX7_best 20 = .ok (.getfield 47, 3) := by decide +kernel
theorem dX7_best_23 : decode cX7_best 23 = .ok (.aload_n 0, 1) := by decide +kernel
theorem dX7_best_24 : decode cX7_best 24 = .ok (.getfield 10, 3) := by decide +kernel
theorem dX7_best_27 : decode cX7_best 27 = .ok (.aload_n 0, 1) := by decide +kernel
theorem dX7_best_28 : decode cX7_best 28 = .ok (.getfield 33, 3) := by decide +kernel
theorem dX7_best_31 : decode cX7_best 31 = .ok (.invokevirtual 259, 3) := by decide +kernel
theorem dX7_best_34 : decode cX7_best 34 = .ok (.aload_n 0, 1) := by decide +kernel
theorem dX7_best_35 : decode cX7_best 35 = .ok (.getfield 47, 3) := by decide +kernel
theorem dX7_best_38 : decode cX7_best 38 = .ok (.iload_n 1, 1) := by decide +kernel
theorem dX7_best_39 : decode cX7_best 39 = .ok (.invokevirtual 262, 3) := by decide +kernel
theorem dX7_best_42 : decode cX7_best 42 = .ok (.ireturn, 1) := by decide +kernel
set_option maxRecDepth 20000 in
theorem ggX7_heaviest_X1_look : GoodIn wsX7_heaviest wsX1_look := goodIn_r _ [9, 10, 11, 12, 13, 14, 15, 16, 17, 18, 19, 20, 21, 22, 23, 24, 25, 26, 27, 28, 29, 30, 31, 32, 33, 34, 35, 36, 37, 38, 39, 40, 53, 54, 55, 56, 57, 58, 59, 60, 61] (by decide +kernel) (by decide +kernel)
set_option maxRecDepth 20000 in
theorem gX7_heaviest_X1_look : GoodIn wsX7_heaviest (wsV RX7 263 RX1 yX1_look wsX1_look) := goodIn_app (goodIn_of _ (by decide +kernel)) ggX7_heaviest_X1_look
set_option maxRecDepth 20000 in
theorem ggX7_heaviest_X1_told : GoodIn wsX7_heaviest wsX1_told := goodIn_r _ [44, 12, 13, 14, 11, 53, 54, 55, 56] (by decide +kernel) (by decide +kernel)
set_option maxRecDepth 20000 in
theorem gX7_heaviest_X1_told : GoodIn wsX7_heaviest (wsV RX7 264 RX1 yX1_told wsX1_told) := goodIn_app (goodIn_of _ (by decide +kernel)) ggX7_heaviest_X1_told
theorem dX7_heaviest_0 : decode cX7_heaviest 0 = .ok (.iload_n 1, 1) := by decide +kernel
theorem dX7_heaviest_1 : decode cX7_heaviest 1 = .ok (.ifCond .lt 8, 3) := by decide +kernel
theorem dX7_heaviest_4 : decode cX7_heaviest 4 = .ok (.iload_n 1, 1) := by decide +kernel
theorem dX7_heaviest_5 : decode cX7_heaviest 5 = .ok (.iconst 3, 1) := by decide +kernel
theorem dX7_heaviest_6 : decode cX7_heaviest 6 = .ok (.if_icmp .le 13, 3) := by decide +kernel
theorem dX7_heaviest_9 : decode cX7_heaviest 9 = .ok (.new 62, 3) := by decide +kernel
theorem dX7_heaviest_12 : decode cX7_heaviest 12 = .ok (.dup, 1) := by decide +kernel
theorem dX7_heaviest_13 : decode cX7_heaviest 13 = .ok (.ldc 232, 2) := by decide +kernel
theorem dX7_heaviest_15 : decode cX7_heaviest 15 = .ok (.invokespecial 66, 3) := by decide +kernel
theorem dX7_heaviest_18 : decode cX7_heaviest 18 = .ok (.athrow, 1) := by decide +kernel
theorem dX7_heaviest_19 : decode cX7_heaviest 19 = .ok (.aload_n 0, 1) := by decide +kernel
theorem dX7_heaviest_20 : decode cX7_heaviest 20 = .ok (.getfield 54, 3) := by decide +kernel
theorem dX7_heaviest_23 : decode cX7_heaviest 23 = .ok (.aload_n 0, 1) := by decide +kernel
theorem dX7_heaviest_24 : decode cX7_heaviest 24 = .ok (.getfield 10, 3) := by decide +kernel
theorem dX7_heaviest_27 : decode cX7_heaviest 27 = .ok (.invokevirtual 263, 3) := by decide +kernel
theorem dX7_heaviest_30 : decode cX7_heaviest 30 = .ok (.aload_n 0, 1) := by decide +kernel
theorem dX7_heaviest_31 : decode cX7_heaviest 31 = .ok (.getfield 54, 3) := by decide +kernel
theorem dX7_heaviest_34 : decode cX7_heaviest 34 = .ok (.iload_n 1, 1) := by decide +kernel
theorem dX7_heaviest_35 : decode cX7_heaviest 35 = .ok (.invokevirtual 264, 3) := by decide +kernel
theorem dX7_heaviest_38 : decode cX7_heaviest 38 = .ok (.ireturn, 1) := by decide +kernel
set_option maxRecDepth 20000 in
theorem ggX7_roomShare_X7_roomBy : GoodIn wsX7_roomShare wsX7_roomBy := goodIn_r _ [6, 7, 1, 8, 9, 10, 11, 12, 13, 14, 15, 16, 17, 18, 19, 20, 21, 22, 23, 24, 25, 26, 5, 27, 28, 29, 30, 31, 32, 33, 34, 35, 36, 37, 38, 39, 40, 41, 42, 43, 44, 45, 46, 47, 48, 49, 50, 51, 52, 53, 54, 55, 56, 57, 58, 59, 60, 61, 62, 63, 64, 65, 66, 67, 68, 69, 70, 71, 72, 73, 74, 75, 76, 77, 78, 79] (by decide +kernel) (by decide +kernel)
set_option maxRecDepth 20000 in
theorem gX7_roomShare_X7_roomBy : GoodIn wsX7_roomShare (wsV RX7 158 RX7 yX7_roomBy wsX7_roomBy) := goodIn_app (goodIn_of _ (by decide +kernel)) ggX7_roomShare_X7_roomBy
theorem dX7_roomShare_0 : decode cX7_roomShare 0 = .ok (.aload_n 0, 1) := by decide +kernel
theorem dX7_roomShare_1 : decode cX7_roomShare 1 = .ok (.getfield 10, 3) := by decide +kernel
theorem dX7_roomShare_4 : decode cX7_roomShare 4 = .ok (.getfield 137, 3) := by decide +kernel
theorem dX7_roomShare_7 : decode cX7_roomShare 7 = .ok (.iconst 1, 1) := by decide +kernel
theorem dX7_roomShare_8 : decode cX7_roomShare 8 = .ok (.aload_n 0, 1) := by decide +kernel
theorem dX7_roomShare_9 : decode cX7_roomShare 9 = .ok (.getfield 10, 3) := by decide +kernel
theorem dX7_roomShare_12 : decode cX7_roomShare 12 = .ok (.getfield 137, 3) := by decide +kernel
theorem dX7_roomShare_15 : decode cX7_roomShare 15 = .ok (.aload_n 0, 1) := by decide +kernel
theorem dX7_roomShare_16 : decode cX7_roomShare 16 = .ok (.getfield 10, 3) := by decide +kernel
theorem dX7_roomShare_19 : decode cX7_roomShare 19 = .ok (.getfield 137, 3) := by decide +kernel
theorem dX7_roomShare_22 : decode cX7_roomShare 22 = .ok (.imul, 1) := by decide +kernel
theorem dX7_roomShare_23 : decode cX7_roomShare 23 = .ok (.iadd, 1) := by decide +kernel
theorem dX7_roomShare_24 : decode cX7_roomShare 24 = .ok (.imul, 1) := by decide +kernel
theorem dX7_roomShare_25 : decode cX7_roomShare 25 = .ok (.istore_n 1, 1) := by decide +kernel
theorem dX7_roomShare_26 : decode cX7_roomShare 26 = .ok (.iload_n 1, 1) := by decide +kernel
theorem dX7_roomShare_27 : decode cX7_roomShare 27 = .ok (.ifCond .le 21, 3) := by decide +kernel
theorem dX7_roomShare_30 : decode cX7_roomShare 30 = .ok (.aload_n 0, 1) := by decide +kernel
theorem dX7_roomShare_31 : decode cX7_roomShare 31 = .ok (.aload_n 0, 1) := by decide +kernel
theorem dX7_roomShare_32 : decode cX7_roomShare 32 = .ok (.getfield 10, 3) := by decide +kernel
theorem dX7_roomShare_35 : decode cX7_roomShare 35 = .ok (.getfield 155, 3) := by decide +kernel
theorem dX7_roomShare_38 : decode cX7_roomShare 38 = .ok (.invokevirtual 158, 3) := by decide +kernel
theorem dX7_roomShare_41 : decode cX7_roomShare 41 = .ok (.i2d, 1) := by decide +kernel
theorem dX7_roomShare_42 : decode cX7_roomShare 42 = .ok (.iload_n 1, 1) := by decide +kernel
theorem dX7_roomShare_43 : decode cX7_roomShare 43 = .ok (.i2d, 1) := by decide +kernel
theorem dX7_roomShare_44 : decode cX7_roomShare 44 = .ok (.ddiv, 1) := by decide +kernel
theorem dX7_roomShare_45 : decode cX7_roomShare 45 = .ok (.goto 4, 3) := by decide +kernel
theorem dX7_roomShare_48 : decode cX7_roomShare 48 = .ok (.dconst 0, 1) := by decide +kernel
theorem dX7_roomShare_49 : decode cX7_roomShare 49 = .ok (.dreturn, 1) := by decide +kernel
set_option maxRecDepth 20000 in
theorem ggX7_digest_X7_count : GoodIn wsX7_digest wsX7_count := goodIn_ca (goodIn_r _ [7, 8, 9, 2, 10, 11, 12, 13, 14, 15, 16, 17, 18, 19, 20, 21, 22, 23, 24, 25, 26, 27, 6, 28, 29, 30, 31, 32, 33, 34, 35, 36, 37, 38, 39, 40, 41, 42, 43, 44, 45, 46, 47, 48, 49, 50, 51, 52, 53, 54, 55, 56, 57, 58, 59, 60, 61, 62, 63, 64, 65, 66, 67, 68, 69, 70, 71, 72, 73, 74, 75, 76, 77, 78, 79, 80, 81, 82, 83, 84, 85, 86, 250, 251, 252, 253, 254, 255, 256, 257, 258, 259, 260, 261, 262, 263, 264, 265, 266, 267, 268, 269, 270] (by decide +kernel) (by decide +kernel)) (goodIn_sub (fun _ h => List.mem_cons_of_mem _ (List.mem_append_left _ (List.mem_append_right _ h))) (by decide +kernel))
set_option maxRecDepth 20000 in
theorem gX7_digest_X7_count : GoodIn wsX7_digest (wsV RX7 267 RX7 yX7_count wsX7_count) := goodIn_app (goodIn_of _ (by decide +kernel)) ggX7_digest_X7_count
set_option maxRecDepth 20000 in
theorem ggX7_digest_X7_mixed : GoodIn wsX7_digest wsX7_mixed := goodIn_r _ [89, 90] (by decide +kernel) (by decide +kernel)
set_option maxRecDepth 20000 in
theorem gX7_digest_X7_mixed : GoodIn wsX7_digest (va_wsS RX7 270 yX7_mixed wsX7_mixed) := goodIn_app (goodIn_of _ (by decide +kernel)) ggX7_digest_X7_mixed
set_option maxRecDepth 20000 in
theorem ggX7_digest_X5_points : GoodIn wsX7_digest wsX5_points := goodIn_r _ [20, 21, 258, 259, 260, 261, 262] (by decide +kernel) (by decide +kernel)
set_option maxRecDepth 20000 in
theorem gX7_digest_X5_points : GoodIn wsX7_digest (wsV RX7 77 RX5 yX5_points wsX5_points) := goodIn_app (goodIn_of _ (by decide +kernel)) ggX7_digest_X5_points
set_option maxRecDepth 20000 in
theorem ggX7_digest_X5_number : GoodIn wsX7_digest wsX5_number := goodIn_r _ [25, 26, 27, 6, 28, 258, 259, 260, 261, 262] (by decide +kernel) (by decide +kernel)
set_option maxRecDepth 20000 in
theorem gX7_digest_X5_number : GoodIn wsX7_digest (wsV RX7 100 RX5 yX5_number wsX5_number) := goodIn_app (goodIn_of _ (by decide +kernel)) ggX7_digest_X5_number
set_option maxRecDepth 20000 in
theorem ggX7_digest_X7_withSlices : GoodIn wsX7_digest wsX7_withSlices := goodIn_r _ [96, 11, 2, 37, 38, 39, 40, 41, 42, 43, 44, 45, 46, 47, 48, 49, 50, 51, 52, 53, 54, 55, 6, 56, 57, 58, 59, 15, 60, 21, 61, 62, 63, 64, 65, 66, 67, 68, 23, 24, 25, 26, 27, 28, 69, 70, 97, 98, 99, 100, 75, 76, 77, 78, 79, 80, 81, 82, 87, 88, 89, 90, 250, 251, 252, 253, 254, 255, 256, 257, 258, 259, 260, 261, 262, 266, 267, 268, 269, 270] (by decide +kernel) (by decide +kernel)
set_option maxRecDepth 20000 in
theorem gX7_digest_X7_withSlices : GoodIn wsX7_digest (wsV RX7 274 RX7 yX7_withSlices wsX7_withSlices) := goodIn_app (goodIn_of _ (by decide +kernel)) ggX7_digest_X7_withSlices
set_option maxRecDepth 20000 in
theorem ggX7_digest_X7_withLines : GoodIn wsX7_digest wsX7_withLines := goodIn_r _ [104, 2, 105, 106, 107, 15, 108, 21, 65, 58, 59, 60, 109, 110, 111, 112, 55, 6, 56, 66, 67, 22, 23, 24, 25, 26, 27, 28, 87, 88, 89, 90, 250, 251, 252, 253, 254, 255, 256, 257, 258, 259, 260, 261, 262] (by decide +kernel) (by decide +kernel)
set_option maxRecDepth 20000 in
theorem gX7_digest_X7_withLines : GoodIn wsX7_digest (wsV RX7 278 RX7 yX7_withLines wsX7_withLines) := goodIn_app (goodIn_of _ (by decide +kernel)) ggX7_digest_X7_withLines
set_option maxRecDepth 20000 in
theorem ggX7_digest_X7_withOrder : GoodIn wsX7_digest wsX7_withOrder := goodIn_r _ [116, 117, 118, 119, 6, 120, 2, 121, 122, 123, 15, 124, 125, 21, 55, 56, 65, 58, 59, 60, 126, 62, 63, 64, 66, 67, 22, 23, 24, 25, 26, 27, 28, 127, 128, 129, 130, 92, 131, 132, 133, 134, 87, 88, 89, 90, 250, 251, 252, 253, 254, 255, 256, 257, 258, 259, 260, 261, 262] (by decide +kernel) (by decide +kernel)
set_option maxRecDepth 20000 in
theorem gX7_digest_X7_withOrder : GoodIn wsX7_digest (wsV RX7 281 RX7 yX7_withOrder wsX7_withOrder) := goodIn_app (goodIn_of _ (by decide +kernel)) ggX7_digest_X7_withOrder
set_option maxRecDepth 20000 in
theorem ggX7_digest_X7_withDifferences : GoodIn wsX7_digest wsX7_withDifferences := goodIn_r _ [138, 139, 2, 140, 141, 142, 143, 144, 145, 146, 147, 148, 149, 150, 49, 151, 152, 48, 50, 153, 18, 19, 15, 20, 21, 154, 23, 24, 25, 26, 27, 6, 28, 155, 156, 157, 158, 87, 88, 89, 90, 250, 251, 252, 253, 254, 255, 256, 257, 271, 272, 273, 274, 258, 259, 260, 261, 262] (by decide +kernel) (by decide +kernel)
set_option maxRecDepth 20000 in
theorem gX7_digest_X7_withDifferences : GoodIn wsX7_digest (wsV RX7 284 RX7 yX7_withDifferences wsX7_withDifferences) := goodIn_app (goodIn_of _ (by decide +kernel)) ggX7_digest_X7_withDifferences
set_option maxRecDepth 20000 in
theorem ggX7_digest_X7_withWhatWouldBe : GoodIn wsX7_digest wsX7_withWhatWouldBe := goodIn_ca (goodIn_ca (goodIn_r _ [162, 163, 2, 11, 164, 165, 166, 167, 6, 168, 8, 9, 169, 170, 171, 33, 34, 35, 36, 37, 38, 39, 40, 41, 42, 43, 44, 45, 46, 47, 48, 49, 50, 51, 52, 53, 54, 55, 56, 57, 58, 59, 15, 60, 21, 61, 62, 63, 64, 65, 66, 67, 68, 23, 24, 25, 26, 27, 28, 69, 70, 71, 72, 73, 74, 75, 76, 77, 78, 79, 80, 81, 82, 87, 88, 89, 90, 172, 173, 174, 175, 176, 177, 178, 179, 180, 181, 182, 183, 184, 185, 186, 187, 188, 189, 190, 191, 192, 92, 193, 194, 195, 196, 131, 132, 133, 134, 197, 198, 199, 200, 201, 202, 203, 204, 205, 206, 207, 208, 209, 210, 211, 212, 213, 214, 215, 216, 217, 218, 219, 220, 221, 222, 223, 106, 107, 108, 109, 110, 111, 112, 22, 224, 225, 226, 227, 228, 229, 230, 231, 232, 233, 234, 235, 236, 237, 250, 251, 252, 253, 254, 255, 256, 257, 258, 259, 260, 261, 262, 266, 267, 268, 269, 270, 275, 276, 277, 278, 279, 280, 281] (by decide +kernel) (by decide +kernel)) (goodIn_sub (fun _ h => List.mem_cons_of_mem _ (List.mem_append_left _ (List.mem_append_right _ h))) (by decide +kernel))) (goodIn_sub (fun _ h => List.mem_cons_of_mem _ (List.mem_append_right _ h)) (by decide +kernel))
set_option maxRecDepth 20000 in
theorem gX7_digest_X7_withWhatWouldBe : GoodIn wsX7_digest (wsV RX7 287 RX7 yX7_withWhatWouldBe wsX7_withWhatWouldBe) := goodIn_app (goodIn_of _ (by decide +kernel)) ggX7_digest_X7_withWhatWouldBe
set_option maxRecDepth 20000 in
theorem ggX7_digest_X7_withText : GoodIn wsX7_digest wsX7_withText := goodIn_r _ [241, 242, 87, 88, 6, 89, 90, 243, 244, 245, 246, 247, 248, 249, 27, 28, 250, 251, 252, 253, 254, 255, 256, 257, 282, 283] (by decide +kernel) (by decide +kernel)
set_option maxRecDepth 20000 in
theorem gX7_digest_X7_withText : GoodIn wsX7_digest (wsV RX7 290 RX7 yX7_withText wsX7_withText) := goodIn_app (goodIn_of _ (by decide +kernel)) ggX7_digest_X7_withText
theorem dX7_digest_0 : decode cX7_digest 0 = .ok (.ldc2_w 265, 3) := by decide +kernel
theorem dX7_digest_3 : decode cX7_digest 3 = .ok (.lstore_n 1, 1) := by decide +kernel
theorem dX7_digest_4 : decode cX7_digest 4 = .ok (.iconst 0, 1) := by decide +kernel
theorem dX7_digest_5 : decode cX7_digest 5 = .ok (.istore_n 3, 1) := by decide +kernel
theorem dX7_digest_6 : decode cX7_digest 6 = .ok (.iload_n 3, 1) := by decide +kernel
theorem dX7_digest_7 : decode cX7_digest 7 = .ok (.bipush 8, 2) := by decide +kernel
theorem dX7_digest_9 : decode cX7_digest 9 = .ok (.if_icmp .gt 20, 3) := by decide +kernel
theorem dX7_digest_12 : decode cX7_digest 12 = .ok (.lload_n 1, 1) := by decide +kernel
theorem dX7_digest_13 : decode cX7_digest 13 = .ok (.aload_n 0, 1) := by decide +kernel
theorem dX7_digest_14 : decode cX7_digest 14 = .ok (.iload_n 3, 1) := by decide +kernel
theorem dX7_digest_15 : decode cX7_digest 15 = .ok (.invokevirtual 267, 3) := by decide +kernel
theorem dX7_digest_18 : decode cX7_digest 18 = .ok (.i2l, 1) := by decide +kernel
theorem dX7_digest_19 : decode cX7_digest 19 = .ok (.invokestatic 270, 3) := by decide +kernel
theorem dX7_digest_22 : decode cX7_digest 22 = .ok (.lstore_n 1, 1) := by decide +kernel
theorem dX7_digest_23 : decode cX7_digest 23 = .ok (.iinc 3 1, 3) := by decide +kernel
theorem dX7_digest_26 : decode cX7_digest 26 = .ok (.goto (-20), 3) := by decide +kernel
theorem dX7_digest_29 : decode cX7_digest 29 = .ok (.lload_n 1, 1) := by decide +kernel
theorem dX7_digest_30 : decode cX7_digest 30 = .ok (.aload_n 0, 1) := by decide +kernel
theorem dX7_digest_31 : decode cX7_digest 31 = .ok (.getfield 10, 3) := by decide +kernel
theorem dX7_digest_34 : decode cX7_digest 34 = .ok (.getfield 171, 3) := by decide +kernel
theorem dX7_digest_37 : decode cX7_digest 37 = .ok (.i2l, 1) := by decide +kernel
theorem dX7_digest_38 : decode cX7_digest 38 = .ok (.invokestatic 270, 3) := by decide +kernel
theorem dX7_digest_41 : decode cX7_digest 41 = .ok (.lstore_n 1, 1) := by decide +kernel
theorem dX7_digest_42 : decode cX7_digest 42 = .ok (.iconst 0, 1) := by decide +kernel
theorem dX7_digest_43 : decode cX7_digest 43 = .ok (.istore_n 3, 1) := by decide +kernel
theorem dX7_digest_44 : decode cX7_digest 44 = .ok (.iload_n 3, 1) := by decide +kernel
theorem dX7_digest_45 : decode cX7_digest 45 = .ok (.aload_n 0, 1) := by decide +kernel
theorem dX7_digest_46 : decode cX7_digest 46 = .ok (.getfield 10, 3) := by decide +kernel
theorem dX7_digest_49 : decode cX7_digest 49 = .ok (.invokevirtual 77, 3) := by decide +kernel
theorem dX7_digest_52 : decode cX7_digest 52 = .ok (.if_icmp .ge 23, 3) := by decide +kernel
theorem dX7_digest_55 : decode cX7_digest 55 = .ok (.lload_n 1, 1) := by decide +kernel
theorem dX7_digest_56 : decode cX7_digest 56 = .ok (.aload_n 0, 1) := by decide +kernel
theorem dX7_digest_57 : decode cX7_digest 57 = .ok (.getfield 10, 3) := by decide +kernel
theorem dX7_digest_60 : decode cX7_digest 60 = .ok (.iload_n 3, 1) := by decide +kernel
theorem dX7_digest_61 : decode cX7_digest 61 = .ok (.invokevirtual 100, 3) := by decide +kernel
theorem dX7_digest_64 : decode cX7_digest 64 = .ok (.i2l, 1) := by decide +kernel
theorem dX7_digest_65 : decode cX7_digest 65 = .ok (.invokestatic 270, 3) := by decide +kernel
theorem dX7_digest_68 : decode cX7_digest 68 = .ok (.lstore_n 1, 1) := by decide +kernel
theorem dX7_digest_69 : decode cX7_digest 69 = .ok (.iinc 3 1, 3) := by decide +kernel
theorem dX7_digest_72 : decode cX7_digest 72 = .ok (.goto (-28), 3) := by decide +kernel
theorem dX7_digest_75 : decode cX7_digest 75 = .ok (.aload_n 0, 1) := by decide +kernel
theorem dX7_digest_76 : decode cX7_digest 76 = .ok (.lload_n 1, 1) := by decide +kernel
theorem dX7_digest_77 : decode cX7_digest 77 = .ok (.invokevirtual 274, 3) := by decide +kernel
theorem dX7_digest_80 : decode cX7_digest 80 = .ok (.lstore_n 1, 1) := by decide +kernel
theorem dX7_digest_81 : decode cX7_digest 81 = .ok (.aload_n 0, 1) := by decide +kernel
theorem dX7_digest_82 : decode cX7_digest 82 = .ok (.lload_n 1, 1) := by decide +kernel
theorem dX7_digest_83 : decode cX7_digest 83 = .ok (.invokevirtual 278, 3) := by decide +kernel
theorem dX7_digest_86 : decode cX7_digest 86 = .ok (.lstore_n 1, 1) := by decide +kernel
theorem dX7_digest_87 : decode cX7_digest 87 = .ok (.aload_n 0, 1) := by decide +kernel
theorem dX7_digest_88 : decode cX7_digest 88 = .ok (.lload_n 1, 1) := by decide +kernel
theorem dX7_digest_89 : decode cX7_digest 89 = .ok (.invokevirtual 281, 3) := by decide +kernel
theorem dX7_digest_92 : decode cX7_digest 92 = .ok (.lstore_n 1, 1) := by decide +kernel
theorem dX7_digest_93 : decode cX7_digest 93 = .ok (.aload_n 0, 1) := by decide +kernel
theorem dX7_digest_94 : decode cX7_digest 94 = .ok (.lload_n 1, 1) := by decide +kernel
theorem dX7_digest_95 : decode cX7_digest 95 = .ok (.invokevirtual 284, 3) := by decide +kernel
theorem dX7_digest_98 : decode cX7_digest 98 = .ok (.lstore_n 1, 1) := by decide +kernel
theorem dX7_digest_99 : decode cX7_digest 99 = .ok (.aload_n 0, 1) := by decide +kernel
theorem dX7_digest_100 : decode cX7_digest 100 = .ok (.lload_n 1, 1) := by decide +kernel
theorem dX7_digest_101 : decode cX7_digest 101 = .ok (.invokevirtual 287, 3) := by decide +kernel
theorem dX7_digest_104 : decode cX7_digest 104 = .ok (.lstore_n 1, 1) := by decide +kernel
theorem dX7_digest_105 : decode cX7_digest 105 = .ok (.aload_n 0, 1) := by decide +kernel
theorem dX7_digest_106 : decode cX7_digest 106 = .ok (.lload_n 1, 1) := by decide +kernel
theorem dX7_digest_107 : decode cX7_digest 107 = .ok (.invokevirtual 290, 3) := by decide +kernel
theorem dX7_digest_110 : decode cX7_digest 110 = .ok (.lreturn, 1) := by decide +kernel
set_option maxRecDepth 20000 in
theorem ggX7_roomBy_X4_look : GoodIn wsX7_roomBy wsX4_look := goodIn_r _ [7, 8, 9, 10, 6, 11, 12, 13, 14, 15, 16, 17, 18, 19, 20, 21, 22, 23, 24, 25, 26, 27, 28, 29, 30, 31, 32, 33, 34, 35, 36, 37, 38, 39, 40, 41, 42, 43, 44, 45, 66, 67, 68, 69, 70, 71, 72, 73, 74, 75] (by decide +kernel) (by decide +kernel)
set_option maxRecDepth 20000 in
theorem gX7_roomBy_X4_look : GoodIn wsX7_roomBy (wsV RX7 242 RX4 yX4_look wsX4_look) := goodIn_app (goodIn_of _ (by decide +kernel)) ggX7_roomBy_X4_look
set_option maxRecDepth 20000 in
theorem ggX7_roomBy_X4_roomOfAll : GoodIn wsX7_roomBy wsX4_roomOfAll := goodIn_r _ [49, 12, 50, 51, 52, 6, 53, 18, 42, 22, 43, 54, 55, 56, 57, 20, 71, 72, 73, 74, 75] (by decide +kernel) (by decide +kernel)
set_option maxRecDepth 20000 in
theorem gX7_roomBy_X4_roomOfAll : GoodIn wsX7_roomBy (wsV RX7 250 RX4 yX4_roomOfAll wsX4_roomOfAll) := goodIn_app (goodIn_of _ (by decide +kernel)) ggX7_roomBy_X4_roomOfAll
theorem dX7_roomBy_0 : decode cX7_roomBy 0 = .ok (.aload_n 0, 1) := by decide +kernel
theorem dX7_roomBy_1 : decode cX7_roomBy 1 = .ok (.getfield 33, 3) := by decide +kernel
theorem dX7_roomBy_4 : decode cX7_roomBy 4 = .ok (.aload_n 0, 1) := by decide +kernel
theorem dX7_roomBy_5 : decode cX7_roomBy 5 = .ok (.getfield 10, 3) := by decide +kernel
theorem dX7_roomBy_8 : decode cX7_roomBy 8 = .ok (.iload_n 1, 1) := by decide +kernel
theorem dX7_roomBy_9 : decode cX7_roomBy 9 = .ok (.invokevirtual 242, 3) := by decide +kernel
theorem dX7_roomBy_12 : decode cX7_roomBy 12 = .ok (.aload_n 0, 1) := by decide +kernel
theorem dX7_roomBy_13 : decode cX7_roomBy 13 = .ok (.getfield 33, 3) := by decide +kernel
theorem dX7_roomBy_16 : decode cX7_roomBy 16 = .ok (.aload_n 0, 1) := by decide +kernel
theorem dX7_roomBy_17 : decode cX7_roomBy 17 = .ok (.getfield 10, 3) := by decide +kernel
theorem dX7_roomBy_20 : decode cX7_roomBy 20 = .ok (.getfield 171, 3) := by decide +kernel
theorem dX7_roomBy_23 : decode cX7_roomBy 23 = .ok (.invokevirtual 250, 3) := by decide +kernel
theorem dX7_roomBy_26 : decode cX7_roomBy 26 = .ok (.ireturn, 1) := by decide +kernel
set_option maxRecDepth 20000 in
theorem ggX7_orderedPoint_X5_number : GoodIn wsX7_orderedPoint wsX5_number := goodIn_r _ [6, 7, 8, 9, 10, 28, 29, 30, 31, 32] (by decide +kernel) (by decide +kernel)
set_option maxRecDepth 20000 in
theorem gX7_orderedPoint_X5_number : GoodIn wsX7_orderedPoint (wsV RX7 100 RX5 yX5_number wsX5_number) := goodIn_app (goodIn_of _ (by decide +kernel)) ggX7_orderedPoint_X5_number
set_option maxRecDepth 20000 in
theorem ggX7_orderedPoint_X5_coordinate : GoodIn wsX7_orderedPoint wsX5_coordinate := goodIn_r _ [14, 15, 16, 17, 18, 5, 19, 28, 29, 30, 31, 32] (by decide +kernel) (by decide +kernel)
set_option maxRecDepth 20000 in
theorem gX7_orderedPoint_X5_coordinate : GoodIn wsX7_orderedPoint (wsV RX7 253 RX5 yX5_coordinate wsX5_coordinate) := goodIn_app (goodIn_of _ (by decide +kernel)) ggX7_orderedPoint_X5_coordinate
theorem dX7_orderedPoint_0 : decode cX7_orderedPoint 0 = .ok (.iload_n 1, 1) := by decide +kernel
theorem dX7_orderedPoint_1 : decode cX7_orderedPoint 1 = .ok (.iconst (-1), 1) := by decide +kernel
theorem dX7_orderedPoint_2 : decode cX7_orderedPoint 2 = .ok (.if_icmp .ne 5, 3) := by decide +kernel
theorem dX7_orderedPoint_5 : decode cX7_orderedPoint 5 = .ok (.iconst (-1), 1) := by decide +kernel
theorem dX7_orderedPoint_6 : decode cX7_orderedPoint 6 = .ok (.ireturn, 1) := by decide +kernel
theorem dX7_orderedPoint_7 : decode cX7_orderedPoint 7 = .ok (.iload_n 2, 1) := by decide +kernel
theorem dX7_orderedPoint_8 : decode cX7_orderedPoint 8 = .ok (.iconst 3, 1) := by decide +kernel
theorem dX7_orderedPoint_9 : decode cX7_orderedPoint 9 = .ok (.if_icmp .ne 18, 3) := by decide +kernel
theorem dX7_orderedPoint_12 : decode cX7_orderedPoint 12 = .ok (.aload_n 0, 1) := by decide +kernel
theorem dX7_orderedPoint_13 : decode cX7_orderedPoint 13 = .ok (.getfield 10, 3) := by decide +kernel
theorem dX7_orderedPoint_16 : decode cX7_orderedPoint 16 = .ok (.iload_n 1, 1) := by decide +kernel
theorem dX7_orderedPoint_17 : decode cX7_orderedPoint 17 = .ok (.invokevirtual 100, 3) := by decide +kernel
theorem dX7_orderedPoint_20 : decode cX7_orderedPoint 20 = .ok (.sipush 1000, 3) := by decide +kernel
theorem dX7_orderedPoint_23 : decode cX7_orderedPoint 23 = .ok (.iadd, 1) := by decide +kernel
theorem dX7_orderedPoint_24 : decode cX7_orderedPoint 24 = .ok (.goto 12, 3) := by decide +kernel
theorem dX7_orderedPoint_27 : decode cX7_orderedPoint 27 = .ok (.aload_n 0, 1) := by decide +kernel
theorem dX7_orderedPoint_28 : decode cX7_orderedPoint 28 = .ok (.getfield 10, 3) := by decide +kernel
theorem dX7_orderedPoint_31 : decode cX7_orderedPoint 31 = .ok (.iload_n 1, 1) := by decide +kernel
theorem dX7_orderedPoint_32 : decode cX7_orderedPoint 32 = .ok (.iload_n 2, 1) := by decide +kernel
theorem dX7_orderedPoint_33 : decode cX7_orderedPoint 33 = .ok (.invokevirtual 253, 3) := by decide +kernel
theorem dX7_orderedPoint_36 : decode cX7_orderedPoint 36 = .ok (.ireturn, 1) := by decide +kernel
set_option maxRecDepth 20000 in
theorem ggX7_doPoint_X6_sign : GoodIn wsX7_doPoint wsX6_sign := goodIn_r _ [7, 8, 9, 10, 11, 12, 54, 55] (by decide +kernel) (by decide +kernel)
set_option maxRecDepth 20000 in
theorem gX7_doPoint_X6_sign : GoodIn wsX7_doPoint (wsV RX7 193 RX6 yX6_sign wsX6_sign) := goodIn_app (goodIn_of _ (by decide +kernel)) ggX7_doPoint_X6_sign
set_option maxRecDepth 20000 in
theorem ggX7_doPoint_X5_hasPoint : GoodIn wsX7_doPoint wsX5_hasPoint := goodIn_r _ [17, 18, 19, 20, 16, 21, 22, 56, 57, 58, 59, 60] (by decide +kernel) (by decide +kernel)
set_option maxRecDepth 20000 in
theorem gX7_doPoint_X5_hasPoint : GoodIn wsX7_doPoint (wsV RX7 81 RX5 yX5_hasPoint wsX5_hasPoint) := goodIn_app (goodIn_of _ (by decide +kernel)) ggX7_doPoint_X5_hasPoint
set_option maxRecDepth 20000 in
theorem ggX7_doPoint_X5_place : GoodIn wsX7_doPoint wsX5_place := goodIn_r _ [26, 22, 56, 57, 58, 59, 60] (by decide +kernel) (by decide +kernel)
set_option maxRecDepth 20000 in
theorem gX7_doPoint_X5_place : GoodIn wsX7_doPoint (wsV RX7 96 RX5 yX5_place wsX5_place) := goodIn_app (goodIn_of _ (by decide +kernel)) ggX7_doPoint_X5_place
set_option maxRecDepth 20000 in
theorem ggX7_doPoint_X6_numberIn : GoodIn wsX7_doPoint wsX6_numberIn := goodIn_r _ [30, 31, 4, 5, 6, 7, 8, 9, 10, 11, 12, 54, 55] (by decide +kernel) (by decide +kernel)
