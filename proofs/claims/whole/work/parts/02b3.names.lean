set_option maxRecDepth 20000 in
theorem gX7_doPoint_X6_numberIn : GoodIn wsX7_doPoint (wsV RX7 293 RX6 yX6_numberIn wsX6_numberIn) := goodIn_app (goodIn_of _ (by decide +kernel)) ggX7_doPoint_X6_numberIn
set_option maxRecDepth 20000 in
theorem ggX7_doPoint_X5_number : GoodIn wsX7_doPoint wsX5_number := goodIn_r _ [35, 36, 10, 11, 12, 56, 57, 58, 59, 60] (by decide +kernel) (by decide +kernel)
set_option maxRecDepth 20000 in
theorem gX7_doPoint_X5_number : GoodIn wsX7_doPoint (wsV RX7 100 RX5 yX5_number wsX5_number) := goodIn_app (goodIn_of _ (by decide +kernel)) ggX7_doPoint_X5_number
set_option maxRecDepth 20000 in
theorem ggX7_doPoint_X7_isNumber : GoodIn wsX7_doPoint wsX7_isNumber := goodIn_r _ [39] (by decide +kernel) (by decide +kernel)
set_option maxRecDepth 20000 in
theorem gX7_doPoint_X7_isNumber : GoodIn wsX7_doPoint (va_wsS RX7 90 yX7_isNumber wsX7_isNumber) := goodIn_app (goodIn_of _ (by decide +kernel)) ggX7_doPoint_X7_isNumber
set_option maxRecDepth 20000 in
theorem ggX7_doPoint_X5_write : GoodIn wsX7_doPoint wsX5_write := goodIn_r _ [43, 36, 44, 11, 45, 56, 57, 58, 59, 60] (by decide +kernel) (by decide +kernel)
set_option maxRecDepth 20000 in
theorem gX7_doPoint_X5_write : GoodIn wsX7_doPoint (wsV RX7 104 RX5 yX5_write wsX5_write) := goodIn_app (goodIn_of _ (by decide +kernel)) ggX7_doPoint_X5_write
theorem dX7_doPoint_0 : decode cX7_doPoint 0 = .ok (.aload_n 0, 1) := by decide +kernel
theorem dX7_doPoint_1 : decode cX7_doPoint 1 = .ok (.getfield 26, 3) := by decide +kernel
theorem dX7_doPoint_4 : decode cX7_doPoint 4 = .ok (.iload_n 1, 1) := by decide +kernel
theorem dX7_doPoint_5 : decode cX7_doPoint 5 = .ok (.invokevirtual 193, 3) := by decide +kernel
theorem dX7_doPoint_8 : decode cX7_doPoint 8 = .ok (.bipush 48, 2) := by decide +kernel
theorem dX7_doPoint_10 : decode cX7_doPoint 10 = .ok (.isub, 1) := by decide +kernel
theorem dX7_doPoint_11 : decode cX7_doPoint 11 = .ok (.istore_n 3, 1) := by decide +kernel
theorem dX7_doPoint_12 : decode cX7_doPoint 12 = .ok (.aload_n 0, 1) := by decide +kernel
theorem dX7_doPoint_13 : decode cX7_doPoint 13 = .ok (.getfield 26, 3) := by decide +kernel
theorem dX7_doPoint_16 : decode cX7_doPoint 16 = .ok (.iload_n 1, 1) := by decide +kernel
theorem dX7_doPoint_17 : decode cX7_doPoint 17 = .ok (.iconst 1, 1) := by decide +kernel
theorem dX7_doPoint_18 : decode cX7_doPoint 18 = .ok (.iadd, 1) := by decide +kernel
theorem dX7_doPoint_19 : decode cX7_doPoint 19 = .ok (.invokevirtual 193, 3) := by decide +kernel
theorem dX7_doPoint_22 : decode cX7_doPoint 22 = .ok (.bipush 48, 2) := by decide +kernel
theorem dX7_doPoint_24 : decode cX7_doPoint 24 = .ok (.isub, 1) := by decide +kernel
theorem dX7_doPoint_25 : decode cX7_doPoint 25 = .ok (.istore 4, 2) := by decide +kernel
theorem dX7_doPoint_27 : decode cX7_doPoint 27 = .ok (.aload_n 0, 1) := by decide +kernel
theorem dX7_doPoint_28 : decode cX7_doPoint 28 = .ok (.getfield 26, 3) := by decide +kernel
theorem dX7_doPoint_31 : decode cX7_doPoint 31 = .ok (.iload_n 1, 1) := by decide +kernel
theorem dX7_doPoint_32 : decode cX7_doPoint 32 = .ok (.iconst 2, 1) := by decide +kernel
theorem dX7_doPoint_33 : decode cX7_doPoint 33 = .ok (.iadd, 1) := by decide +kernel
theorem dX7_doPoint_34 : decode cX7_doPoint 34 = .ok (.invokevirtual 193, 3) := by decide +kernel
theorem dX7_doPoint_37 : decode cX7_doPoint 37 = .ok (.bipush 48, 2) := by decide +kernel
theorem dX7_doPoint_39 : decode cX7_doPoint 39 = .ok (.isub, 1) := by decide +kernel
theorem dX7_doPoint_40 : decode cX7_doPoint 40 = .ok (.istore 5, 2) := by decide +kernel
theorem dX7_doPoint_42 : decode cX7_doPoint 42 = .ok (.aload_n 0, 1) := by decide +kernel
theorem dX7_doPoint_43 : decode cX7_doPoint 43 = .ok (.getfield 10, 3) := by decide +kernel
theorem dX7_doPoint_46 : decode cX7_doPoint 46 = .ok (.iload_n 3, 1) := by decide +kernel
theorem dX7_doPoint_47 : decode cX7_doPoint 47 = .ok (.iload 4, 2) := by decide +kernel
theorem dX7_doPoint_49 : decode cX7_doPoint 49 = .ok (.iload 5, 2) := by decide +kernel
theorem dX7_doPoint_51 : decode cX7_doPoint 51 = .ok (.invokevirtual 81, 3) := by decide +kernel
theorem dX7_doPoint_54 : decode cX7_doPoint 54 = .ok (.ifCond .ne 5, 3) := by decide +kernel
theorem dX7_doPoint_57 : decode cX7_doPoint 57 = .ok (.iconst 0, 1) := by decide +kernel
theorem dX7_doPoint_58 : decode cX7_doPoint 58 = .ok (.ireturn, 1) := by decide +kernel
theorem dX7_doPoint_59 : decode cX7_doPoint 59 = .ok (.aload_n 0, 1) := by decide +kernel
theorem dX7_doPoint_60 : decode cX7_doPoint 60 = .ok (.getfield 10, 3) := by decide +kernel
theorem dX7_doPoint_63 : decode cX7_doPoint 63 = .ok (.iload_n 3, 1) := by decide +kernel
theorem dX7_doPoint_64 : decode cX7_doPoint 64 = .ok (.iload 4, 2) := by decide +kernel
theorem dX7_doPoint_66 : decode cX7_doPoint 66 = .ok (.iload 5, 2) := by decide +kernel
theorem dX7_doPoint_68 : decode cX7_doPoint 68 = .ok (.invokevirtual 96, 3) := by decide +kernel
theorem dX7_doPoint_71 : decode cX7_doPoint 71 = .ok (.istore 6, 2) := by decide +kernel
theorem dX7_doPoint_73 : decode cX7_doPoint 73 = .ok (.aload_n 0, 1) := by decide +kernel
theorem dX7_doPoint_74 : decode cX7_doPoint 74 = .ok (.getfield 26, 3) := by decide +kernel
theorem dX7_doPoint_77 : decode cX7_doPoint 77 = .ok (.iload_n 1, 1) := by decide +kernel
theorem dX7_doPoint_78 : decode cX7_doPoint 78 = .ok (.iconst 4, 1) := by decide +kernel
theorem dX7_doPoint_79 : decode cX7_doPoint 79 = .ok (.iadd, 1) := by decide +kernel
theorem dX7_doPoint_80 : decode cX7_doPoint 80 = .ok (.iload_n 2, 1) := by decide +kernel
theorem dX7_doPoint_81 : decode cX7_doPoint 81 = .ok (.invokevirtual 293, 3) := by decide +kernel
theorem dX7_doPoint_84 : decode cX7_doPoint 84 = .ok (.istore 7, 2) := by decide +kernel
theorem dX7_doPoint_86 : decode cX7_doPoint 86 = .ok (.aload_n 0, 1) := by decide +kernel
theorem dX7_doPoint_87 : decode cX7_doPoint 87 = .ok (.getfield 26, 3) := by decide +kernel
theorem dX7_doPoint_90 : decode cX7_doPoint 90 = .ok (.iload_n 1, 1) := by decide +kernel
theorem dX7_doPoint_91 : decode cX7_doPoint 91 = .ok (.iconst 3, 1) := by decide +kernel
theorem dX7_doPoint_92 : decode cX7_doPoint 92 = .ok (.iadd, 1) := by decide +kernel
theorem dX7_doPoint_93 : decode cX7_doPoint 93 = .ok (.invokevirtual 193, 3) := by decide +kernel
theorem dX7_doPoint_96 : decode cX7_doPoint 96 = .ok (.bipush 43, 2) := by decide +kernel
theorem dX7_doPoint_98 : decode cX7_doPoint 98 = .ok (.if_icmp .ne 17, 3) := by decide +kernel
theorem dX7_doPoint_101 : decode cX7_doPoint 101 = .ok (.iload 7, 2) := by decide +kernel
theorem dX7_doPoint_103 : decode cX7_doPoint 103 = .ok (.aload_n 0, 1) := by decide +kernel
theorem dX7_doPoint_104 : decode cX7_doPoint 104 = .ok (.getfield 10, 3) := by decide +kernel
theorem dX7_doPoint_107 : decode cX7_doPoint 107 = .ok (.iload 6, 2) := by decide +kernel
theorem dX7_doPoint_109 : decode cX7_doPoint 109 = .ok (.invokevirtual 100, 3) := by decide +kernel
theorem dX7_doPoint_112 : decode cX7_doPoint 112 = .ok (.iadd, 1) := by decide +kernel
theorem dX7_doPoint_113 : decode cX7_doPoint 113 = .ok (.istore 7, 2) := by decide +kernel
theorem dX7_doPoint_115 : decode cX7_doPoint 115 = .ok (.iload 7, 2) := by decide +kernel
theorem dX7_doPoint_117 : decode cX7_doPoint 117 = .ok (.invokestatic 90, 3) := by decide +kernel
theorem dX7_doPoint_120 : decode cX7_doPoint 120 = .ok (.ifCond .ne 5, 3) := by decide +kernel
theorem dX7_doPoint_123 : decode cX7_doPoint 123 = .ok (.iconst 0, 1) := by decide +kernel
theorem dX7_doPoint_124 : decode cX7_doPoint 124 = .ok (.ireturn, 1) := by decide +kernel
theorem dX7_doPoint_125 : decode cX7_doPoint 125 = .ok (.aload_n 0, 1) := by decide +kernel
theorem dX7_doPoint_126 : decode cX7_doPoint 126 = .ok (.getfield 10, 3) := by decide +kernel
theorem dX7_doPoint_129 : decode cX7_doPoint 129 = .ok (.iload 6, 2) := by decide +kernel
theorem dX7_doPoint_131 : decode cX7_doPoint 131 = .ok (.iload 7, 2) := by decide +kernel
theorem dX7_doPoint_133 : decode cX7_doPoint 133 = .ok (.invokevirtual 104, 3) := by decide +kernel
theorem dX7_doPoint_136 : decode cX7_doPoint 136 = .ok (.iconst 1, 1) := by decide +kernel
theorem dX7_doPoint_137 : decode cX7_doPoint 137 = .ok (.ireturn, 1) := by decide +kernel
set_option maxRecDepth 20000 in
theorem ggX7_withSlices_X4_look : GoodIn wsX7_withSlices wsX4_look := goodIn_r _ [7, 8, 9, 10, 6, 11, 12, 13, 14, 15, 16, 17, 18, 19, 20, 21, 22, 23, 24, 25, 26, 27, 28, 29, 30, 31, 32, 33, 34, 35, 36, 37, 38, 39, 40, 41, 42, 43, 44, 45, 70, 71, 72, 73, 74, 75, 76, 77, 78, 79] (by decide +kernel) (by decide +kernel)
set_option maxRecDepth 20000 in
theorem gX7_withSlices_X4_look : GoodIn wsX7_withSlices (wsV RX7 242 RX4 yX4_look wsX4_look) := goodIn_app (goodIn_of _ (by decide +kernel)) ggX7_withSlices_X4_look
set_option maxRecDepth 20000 in
theorem ggX7_withSlices_X4_told : GoodIn wsX7_withSlices wsX4_told := goodIn_r _ [49, 17, 18, 19, 42, 22, 43, 50, 51, 52, 6, 53, 54, 55, 56, 57, 20, 12, 75, 76, 77, 78, 79] (by decide +kernel) (by decide +kernel)
set_option maxRecDepth 20000 in
theorem gX7_withSlices_X4_told : GoodIn wsX7_withSlices (wsV RX7 221 RX4 yX4_told wsX4_told) := goodIn_app (goodIn_of _ (by decide +kernel)) ggX7_withSlices_X4_told
set_option maxRecDepth 20000 in
theorem ggX7_withSlices_X7_mixed : GoodIn wsX7_withSlices wsX7_mixed := goodIn_r _ [60, 61] (by decide +kernel) (by decide +kernel)
set_option maxRecDepth 20000 in
theorem gX7_withSlices_X7_mixed : GoodIn wsX7_withSlices (va_wsS RX7 270 yX7_mixed wsX7_mixed) := goodIn_app (goodIn_of _ (by decide +kernel)) ggX7_withSlices_X7_mixed
theorem dX7_withSlices_0 : decode cX7_withSlices 0 = .ok (.lload_n 1, 1) := by decide +kernel
theorem dX7_withSlices_1 : decode cX7_withSlices 1 = .ok (.lstore_n 3, 1) := by decide +kernel
theorem dX7_withSlices_2 : decode cX7_withSlices 2 = .ok (.iconst 0, 1) := by decide +kernel
theorem dX7_withSlices_3 : decode cX7_withSlices 3 = .ok (.istore 5, 2) := by decide +kernel
theorem dX7_withSlices_5 : decode cX7_withSlices 5 = .ok (.iload 5, 2) := by decide +kernel
theorem dX7_withSlices_7 : decode cX7_withSlices 7 = .ok (.iconst 3, 1) := by decide +kernel
theorem dX7_withSlices_8 : decode cX7_withSlices 8 = .ok (.if_icmp .ge 82, 3) := by decide +kernel
theorem dX7_withSlices_11 : decode cX7_withSlices 11 = .ok (.aload_n 0, 1) := by decide +kernel
theorem dX7_withSlices_12 : decode cX7_withSlices 12 = .ok (.getfield 33, 3) := by decide +kernel
theorem dX7_withSlices_15 : decode cX7_withSlices 15 = .ok (.aload_n 0, 1) := by decide +kernel
theorem dX7_withSlices_16 : decode cX7_withSlices 16 = .ok (.getfield 10, 3) := by decide +kernel
theorem dX7_withSlices_19 : decode cX7_withSlices 19 = .ok (.iload 5, 2) := by decide +kernel
theorem dX7_withSlices_21 : decode cX7_withSlices 21 = .ok (.invokevirtual 242, 3) := by decide +kernel
theorem dX7_withSlices_24 : decode cX7_withSlices 24 = .ok (.iconst 0, 1) := by decide +kernel
theorem dX7_withSlices_25 : decode cX7_withSlices 25 = .ok (.istore 6, 2) := by decide +kernel
theorem dX7_withSlices_27 : decode cX7_withSlices 27 = .ok (.iload 6, 2) := by decide +kernel
theorem dX7_withSlices_29 : decode cX7_withSlices 29 = .ok (.aload_n 0, 1) := by decide +kernel
theorem dX7_withSlices_30 : decode cX7_withSlices 30 = .ok (.getfield 10, 3) := by decide +kernel
theorem dX7_withSlices_33 : decode cX7_withSlices 33 = .ok (.getfield 137, 3) := by decide +kernel
theorem dX7_withSlices_36 : decode cX7_withSlices 36 = .ok (.if_icmp .ge 48, 3) := by decide +kernel
theorem dX7_withSlices_39 : decode cX7_withSlices 39 = .ok (.iconst 0, 1) := by decide +kernel
theorem dX7_withSlices_40 : decode cX7_withSlices 40 = .ok (.istore 7, 2) := by decide +kernel
theorem dX7_withSlices_42 : decode cX7_withSlices 42 = .ok (.iload 7, 2) := by decide +kernel
theorem dX7_withSlices_44 : decode cX7_withSlices 44 = .ok (.iconst 4, 1) := by decide +kernel
theorem dX7_withSlices_45 : decode cX7_withSlices 45 = .ok (.if_icmp .gt 33, 3) := by decide +kernel
theorem dX7_withSlices_48 : decode cX7_withSlices 48 = .ok (.lload_n 3, 1) := by decide +kernel
theorem dX7_withSlices_49 : decode cX7_withSlices 49 = .ok (.aload_n 0, 1) := by decide +kernel
theorem dX7_withSlices_50 : decode cX7_withSlices 50 = .ok (.getfield 33, 3) := by decide +kernel
theorem dX7_withSlices_53 : decode cX7_withSlices 53 = .ok (.iload 6, 2) := by decide +kernel
theorem dX7_withSlices_55 : decode cX7_withSlices 55 = .ok (.iload 7, 2) := by decide +kernel
theorem dX7_withSlices_57 : decode cX7_withSlices 57 = .ok (.aload_n 0, 1) := by decide +kernel
theorem dX7_withSlices_58 : decode cX7_withSlices 58 = .ok (.getfield 10, 3) := by decide +kernel
theorem dX7_withSlices_61 : decode cX7_withSlices 61 = .ok (.getfield 171, 3) := by decide +kernel
theorem dX7_withSlices_64 : decode cX7_withSlices 64 = .ok (.invokevirtual 221, 3) := by decide +kernel
theorem dX7_withSlices_67 : decode cX7_withSlices 67 = .ok (.i2l, 1) := by decide +kernel
theorem dX7_withSlices_68 : decode cX7_withSlices 68 = .ok (.invokestatic 270, 3) := by decide +kernel
theorem dX7_withSlices_71 : decode cX7_withSlices 71 = .ok (.lstore_n 3, 1) := by decide +kernel
theorem dX7_withSlices_72 : decode cX7_withSlices 72 = .ok (.iinc 7 1, 3) := by decide +kernel
theorem dX7_withSlices_75 : decode cX7_withSlices 75 = .ok (.goto (-33), 3) := by decide +kernel
theorem dX7_withSlices_78 : decode cX7_withSlices 78 = .ok (.iinc 6 1, 3) := by decide +kernel
theorem dX7_withSlices_81 : decode cX7_withSlices 81 = .ok (.goto (-54), 3) := by decide +kernel
theorem dX7_withSlices_84 : decode cX7_withSlices 84 = .ok (.iinc 5 1, 3) := by decide +kernel
theorem dX7_withSlices_87 : decode cX7_withSlices 87 = .ok (.goto (-82), 3) := by decide +kernel
theorem dX7_withSlices_90 : decode cX7_withSlices 90 = .ok (.lload_n 3, 1) := by decide +kernel
theorem dX7_withSlices_91 : decode cX7_withSlices 91 = .ok (.lreturn, 1) := by decide +kernel
set_option maxRecDepth 20000 in
theorem ggX7_withLines_X5_lineSum : GoodIn wsX7_withLines wsX5_lineSum := goodIn_r _ [6, 7, 8, 9, 10, 5, 11, 12, 13, 14, 15, 16, 17, 18, 19, 20, 21, 22, 23, 24, 25, 26, 27, 40, 41, 42, 43, 44] (by decide +kernel) (by decide +kernel)
set_option maxRecDepth 20000 in
theorem gX7_withLines_X5_lineSum : GoodIn wsX7_withLines (wsV RX7 212 RX5 yX5_lineSum wsX5_lineSum) := goodIn_app (goodIn_of _ (by decide +kernel)) ggX7_withLines_X5_lineSum
set_option maxRecDepth 20000 in
theorem ggX7_withLines_X7_mixed : GoodIn wsX7_withLines wsX7_mixed := goodIn_r _ [30, 31] (by decide +kernel) (by decide +kernel)
set_option maxRecDepth 20000 in
theorem gX7_withLines_X7_mixed : GoodIn wsX7_withLines (va_wsS RX7 270 yX7_mixed wsX7_mixed) := goodIn_app (goodIn_of _ (by decide +kernel)) ggX7_withLines_X7_mixed
theorem dX7_withLines_0 : decode cX7_withLines 0 = .ok (.lload_n 1, 1) := by decide +kernel
theorem dX7_withLines_1 : decode cX7_withLines 1 = .ok (.lstore_n 3, 1) := by decide +kernel
theorem dX7_withLines_2 : decode cX7_withLines 2 = .ok (.iconst 0, 1) := by decide +kernel
theorem dX7_withLines_3 : decode cX7_withLines 3 = .ok (.istore 5, 2) := by decide +kernel
theorem dX7_withLines_5 : decode cX7_withLines 5 = .ok (.iload 5, 2) := by decide +kernel
theorem dX7_withLines_7 : decode cX7_withLines 7 = .ok (.iconst 3, 1) := by decide +kernel
theorem dX7_withLines_8 : decode cX7_withLines 8 = .ok (.if_icmp .ge 70, 3) := by decide +kernel
theorem dX7_withLines_11 : decode cX7_withLines 11 = .ok (.iconst 0, 1) := by decide +kernel
theorem dX7_withLines_12 : decode cX7_withLines 12 = .ok (.istore 6, 2) := by decide +kernel
theorem dX7_withLines_14 : decode cX7_withLines 14 = .ok (.iload 6, 2) := by decide +kernel
theorem dX7_withLines_16 : decode cX7_withLines 16 = .ok (.aload_n 0, 1) := by decide +kernel
theorem dX7_withLines_17 : decode cX7_withLines 17 = .ok (.getfield 10, 3) := by decide +kernel
theorem dX7_withLines_20 : decode cX7_withLines 20 = .ok (.getfield 137, 3) := by decide +kernel
theorem dX7_withLines_23 : decode cX7_withLines 23 = .ok (.if_icmp .ge 49, 3) := by decide +kernel
theorem dX7_withLines_26 : decode cX7_withLines 26 = .ok (.iconst 0, 1) := by decide +kernel
theorem dX7_withLines_27 : decode cX7_withLines 27 = .ok (.istore 7, 2) := by decide +kernel
theorem dX7_withLines_29 : decode cX7_withLines 29 = .ok (.iload 7, 2) := by decide +kernel
theorem dX7_withLines_31 : decode cX7_withLines 31 = .ok (.aload_n 0, 1) := by decide +kernel
theorem dX7_withLines_32 : decode cX7_withLines 32 = .ok (.getfield 10, 3) := by decide +kernel
theorem dX7_withLines_35 : decode cX7_withLines 35 = .ok (.getfield 137, 3) := by decide +kernel
theorem dX7_withLines_38 : decode cX7_withLines 38 = .ok (.if_icmp .ge 28, 3) := by decide +kernel
theorem dX7_withLines_41 : decode cX7_withLines 41 = .ok (.lload_n 3, 1) := by decide +kernel
theorem dX7_withLines_42 : decode cX7_withLines 42 = .ok (.aload_n 0, 1) := by decide +kernel
theorem dX7_withLines_43 : decode cX7_withLines 43 = .ok (.getfield 10, 3) := by decide +kernel
theorem dX7_withLines_46 : decode cX7_withLines 46 = .ok (.iload 5, 2) := by decide +kernel
theorem dX7_withLines_48 : decode cX7_withLines 48 = .ok (.iload 6, 2) := by decide +kernel
theorem dX7_withLines_50 : decode cX7_withLines 50 = .ok (.iload 7, 2) := by decide +kernel
theorem dX7_withLines_52 : decode cX7_withLines 52 = .ok (.invokevirtual 212, 3) := by decide +kernel
theorem dX7_withLines_55 : decode cX7_withLines 55 = .ok (.i2l, 1) := by decide +kernel
theorem dX7_withLines_56 : decode cX7_withLines 56 = .ok (.invokestatic 270, 3) := by decide +kernel
theorem dX7_withLines_59 : decode cX7_withLines 59 = .ok (.lstore_n 3, 1) := by decide +kernel
theorem dX7_withLines_60 : decode cX7_withLines 60 = .ok (.iinc 7 1, 3) := by decide +kernel
theorem dX7_withLines_63 : decode cX7_withLines 63 = .ok (.goto (-34), 3) := by decide +kernel
theorem dX7_withLines_66 : decode cX7_withLines 66 = .ok (.iinc 6 1, 3) := by decide +kernel
theorem dX7_withLines_69 : decode cX7_withLines 69 = .ok (.goto (-55), 3) := by decide +kernel
theorem dX7_withLines_72 : decode cX7_withLines 72 = .ok (.iinc 5 1, 3) := by decide +kernel
theorem dX7_withLines_75 : decode cX7_withLines 75 = .ok (.goto (-70), 3) := by decide +kernel
theorem dX7_withLines_78 : decode cX7_withLines 78 = .ok (.lload_n 3, 1) := by decide +kernel
theorem dX7_withLines_79 : decode cX7_withLines 79 = .ok (.lreturn, 1) := by decide +kernel
set_option maxRecDepth 20000 in
theorem ggX7_withOrder_X7_withOrdered : GoodIn wsX7_withOrder wsX7_withOrdered := goodIn_r _ [5, 6, 7, 8, 9, 10, 11, 12, 13, 14, 4, 15, 16, 17, 18, 19, 20, 21, 22, 23, 24, 25, 26, 27, 28, 29, 30, 31, 32, 33, 34, 35, 36, 37, 38, 39, 40, 41, 42, 43, 44, 45, 46, 47, 48, 49, 50, 51, 52, 53, 54, 55, 56, 57, 58] (by decide +kernel) (by decide +kernel)
set_option maxRecDepth 20000 in
theorem gX7_withOrder_X7_withOrdered : GoodIn wsX7_withOrder (wsV RX7 296 RX7 yX7_withOrdered wsX7_withOrdered) := goodIn_app (goodIn_of _ (by decide +kernel)) ggX7_withOrder_X7_withOrdered
theorem dX7_withOrder_0 : decode cX7_withOrder 0 = .ok (.aload_n 0, 1) := by decide +kernel
theorem dX7_withOrder_1 : decode cX7_withOrder 1 = .ok (.aload_n 0, 1) := by decide +kernel
theorem dX7_withOrder_2 : decode cX7_withOrder 2 = .ok (.aload_n 0, 1) := by decide +kernel
theorem dX7_withOrder_3 : decode cX7_withOrder 3 = .ok (.lload_n 1, 1) := by decide +kernel
theorem dX7_withOrder_4 : decode cX7_withOrder 4 = .ok (.iconst 0, 1) := by decide +kernel
theorem dX7_withOrder_5 : decode cX7_withOrder 5 = .ok (.invokevirtual 296, 3) := by decide +kernel
theorem dX7_withOrder_8 : decode cX7_withOrder 8 = .ok (.iconst 1, 1) := by decide +kernel
theorem dX7_withOrder_9 : decode cX7_withOrder 9 = .ok (.invokevirtual 296, 3) := by decide +kernel
theorem dX7_withOrder_12 : decode cX7_withOrder 12 = .ok (.iconst 5, 1) := by decide +kernel
theorem dX7_withOrder_13 : decode cX7_withOrder 13 = .ok (.invokevirtual 296, 3) := by decide +kernel
theorem dX7_withOrder_16 : decode cX7_withOrder 16 = .ok (.lreturn, 1) := by decide +kernel
set_option maxRecDepth 20000 in
theorem ggX7_withOrdered_X5_placeOfRank : GoodIn wsX7_withOrdered wsX5_placeOfRank := goodIn_r _ [6, 7, 8, 9, 10, 11, 12, 13, 14, 5, 15, 16, 17, 18, 19, 20, 21, 22, 23, 24, 25, 26, 27, 28, 50, 51, 52, 53, 54] (by decide +kernel) (by decide +kernel)
set_option maxRecDepth 20000 in
theorem gX7_withOrdered_X5_placeOfRank : GoodIn wsX7_withOrdered (wsV RX7 226 RX5 yX5_placeOfRank wsX5_placeOfRank) := goodIn_app (goodIn_of _ (by decide +kernel)) ggX7_withOrdered_X5_placeOfRank
set_option maxRecDepth 20000 in
theorem ggX7_withOrdered_X7_orderedPoint : GoodIn wsX7_withOrdered wsX7_orderedPoint := goodIn_r _ [32, 1, 33, 23, 24, 5, 25, 26, 27, 10, 28, 34, 35, 36, 37, 8, 12, 13, 14, 15, 42, 43, 44, 45, 46, 47, 48, 49, 50, 51, 52, 53, 54] (by decide +kernel) (by decide +kernel)
set_option maxRecDepth 20000 in
theorem gX7_withOrdered_X7_orderedPoint : GoodIn wsX7_withOrdered (wsV RX7 229 RX7 yX7_orderedPoint wsX7_orderedPoint) := goodIn_app (goodIn_of _ (by decide +kernel)) ggX7_withOrdered_X7_orderedPoint
set_option maxRecDepth 20000 in
theorem ggX7_withOrdered_X7_mixed : GoodIn wsX7_withOrdered wsX7_mixed := goodIn_r _ [40, 41] (by decide +kernel) (by decide +kernel)
set_option maxRecDepth 20000 in
theorem gX7_withOrdered_X7_mixed : GoodIn wsX7_withOrdered (va_wsS RX7 270 yX7_mixed wsX7_mixed) := goodIn_app (goodIn_of _ (by decide +kernel)) ggX7_withOrdered_X7_mixed
theorem dX7_withOrdered_0 : decode cX7_withOrdered 0 = .ok (.lload_n 1, 1) := by decide +kernel
theorem dX7_withOrdered_1 : decode cX7_withOrdered 1 = .ok (.lstore 4, 2) := by decide +kernel
theorem dX7_withOrdered_3 : decode cX7_withOrdered 3 = .ok (.aload_n 0, 1) := by decide +kernel
theorem dX7_withOrdered_4 : decode cX7_withOrdered 4 = .ok (.getfield 10, 3) := by decide +kernel
theorem dX7_withOrdered_7 : decode cX7_withOrdered 7 = .ok (.iload_n 3, 1) := by decide +kernel
theorem dX7_withOrdered_8 : decode cX7_withOrdered 8 = .ok (.invokevirtual 226, 3) := by decide +kernel
theorem dX7_withOrdered_11 : decode cX7_withOrdered 11 = .ok (.istore 6, 2) := by decide +kernel
theorem dX7_withOrdered_13 : decode cX7_withOrdered 13 = .ok (.iconst 0, 1) := by decide +kernel
theorem dX7_withOrdered_14 : decode cX7_withOrdered 14 = .ok (.istore 7, 2) := by decide +kernel
theorem dX7_withOrdered_16 : decode cX7_withOrdered 16 = .ok (.iload 7, 2) := by decide +kernel
theorem dX7_withOrdered_18 : decode cX7_withOrdered 18 = .ok (.iconst 3, 1) := by decide +kernel
theorem dX7_withOrdered_19 : decode cX7_withOrdered 19 = .ok (.if_icmp .gt 25, 3) := by decide +kernel
theorem dX7_withOrdered_22 : decode cX7_withOrdered 22 = .ok (.lload 4, 2) := by decide +kernel
theorem dX7_withOrdered_24 : decode cX7_withOrdered 24 = .ok (.aload_n 0, 1) := by decide +kernel
theorem dX7_withOrdered_25 : decode cX7_withOrdered 25 = .ok (.iload 6, 2) := by decide +kernel
theorem dX7_withOrdered_27 : decode cX7_withOrdered 27 = .ok (.iload 7, 2) := by decide +kernel
theorem dX7_withOrdered_29 : decode cX7_withOrdered 29 = .ok (.invokevirtual 229, 3) := by decide +kernel
theorem dX7_withOrdered_32 : decode cX7_withOrdered 32 = .ok (.i2l, 1) := by decide +kernel
theorem dX7_withOrdered_33 : decode cX7_withOrdered 33 = .ok (.invokestatic 270, 3) := by decide +kernel
theorem dX7_withOrdered_36 : decode cX7_withOrdered 36 = .ok (.lstore 4, 2) := by decide +kernel
theorem dX7_withOrdered_38 : decode cX7_withOrdered 38 = .ok (.iinc 7 1, 3) := by decide +kernel
theorem dX7_withOrdered_41 : decode cX7_withOrdered 41 = .ok (.goto (-25), 3) := by decide +kernel
theorem dX7_withOrdered_44 : decode cX7_withOrdered 44 = .ok (.lload 4, 2) := by decide +kernel
theorem dX7_withOrdered_46 : decode cX7_withOrdered 46 = .ok (.lreturn, 1) := by decide +kernel
set_option maxRecDepth 20000 in
theorem ggX7_withDifferences_X0_look : GoodIn wsX7_withDifferences wsX0_look := goodIn_r _ [7, 8, 9, 10, 11, 12, 13, 14, 15, 16, 17, 18, 19, 20, 21, 22, 23, 24, 25, 26, 27, 28, 29, 30, 31, 32, 49, 50, 51, 52, 53, 54, 55, 56, 57] (by decide +kernel) (by decide +kernel)
set_option maxRecDepth 20000 in
theorem gX7_withDifferences_X0_look : GoodIn wsX7_withDifferences (wsV RX7 161 RX0 yX0_look wsX0_look) := goodIn_app (goodIn_of _ (by decide +kernel)) ggX7_withDifferences_X0_look
set_option maxRecDepth 20000 in
theorem ggX7_withDifferences_X0_told : GoodIn wsX7_withDifferences wsX0_told := goodIn_r _ [36, 8, 9, 10, 11, 49, 50, 51, 52] (by decide +kernel) (by decide +kernel)
set_option maxRecDepth 20000 in
theorem gX7_withDifferences_X0_told : GoodIn wsX7_withDifferences (wsV RX7 234 RX0 yX0_told wsX0_told) := goodIn_app (goodIn_of _ (by decide +kernel)) ggX7_withDifferences_X0_told
set_option maxRecDepth 20000 in
theorem ggX7_withDifferences_X7_mixed : GoodIn wsX7_withDifferences wsX7_mixed := goodIn_r _ [39, 40] (by decide +kernel) (by decide +kernel)
set_option maxRecDepth 20000 in
theorem gX7_withDifferences_X7_mixed : GoodIn wsX7_withDifferences (va_wsS RX7 270 yX7_mixed wsX7_mixed) := goodIn_app (goodIn_of _ (by decide +kernel)) ggX7_withDifferences_X7_mixed
theorem dX7_withDifferences_0 : decode cX7_withDifferences 0 = .ok (.lload_n 1, 1) := by decide +kernel
theorem dX7_withDifferences_1 : decode cX7_withDifferences 1 = .ok (.lstore_n 3, 1) := by decide +kernel
theorem dX7_withDifferences_2 : decode cX7_withDifferences 2 = .ok (.aload_n 0, 1) := by decide +kernel
theorem dX7_withDifferences_3 : decode cX7_withDifferences 3 = .ok (.getfield 40, 3) := by decide +kernel
theorem dX7_withDifferences_6 : decode cX7_withDifferences 6 = .ok (.aload_n 0, 1) := by decide +kernel
theorem dX7_withDifferences_7 : decode cX7_withDifferences 7 = .ok (.getfield 10, 3) := by decide +kernel
theorem dX7_withDifferences_10 : decode cX7_withDifferences 10 = .ok (.invokevirtual 161, 3) := by decide +kernel
theorem dX7_withDifferences_13 : decode cX7_withDifferences 13 = .ok (.iconst 0, 1) := by decide +kernel
theorem dX7_withDifferences_14 : decode cX7_withDifferences 14 = .ok (.istore 5, 2) := by decide +kernel
theorem dX7_withDifferences_16 : decode cX7_withDifferences 16 = .ok (.iload 5, 2) := by decide +kernel
theorem dX7_withDifferences_18 : decode cX7_withDifferences 18 = .ok (.iconst 3, 1) := by decide +kernel
theorem dX7_withDifferences_19 : decode cX7_withDifferences 19 = .ok (.if_icmp .gt 24, 3) := by decide +kernel
theorem dX7_withDifferences_22 : decode cX7_withDifferences 22 = .ok (.lload_n 3, 1) := by decide +kernel
theorem dX7_withDifferences_23 : decode cX7_withDifferences 23 = .ok (.aload_n 0, 1) := by decide +kernel
theorem dX7_withDifferences_24 : decode cX7_withDifferences 24 = .ok (.getfield 40, 3) := by decide +kernel
theorem dX7_withDifferences_27 : decode cX7_withDifferences 27 = .ok (.iload 5, 2) := by decide +kernel
theorem dX7_withDifferences_29 : decode cX7_withDifferences 29 = .ok (.invokevirtual 234, 3) := by decide +kernel
theorem dX7_withDifferences_32 : decode cX7_withDifferences 32 = .ok (.i2l, 1) := by decide +kernel
theorem dX7_withDifferences_33 : decode cX7_withDifferences 33 = .ok (.invokestatic 270, 3) := by decide +kernel
theorem dX7_withDifferences_36 : decode cX7_withDifferences 36 = .ok (.lstore_n 3, 1) := by decide +kernel
theorem dX7_withDifferences_37 : decode cX7_withDifferences 37 = .ok (.iinc 5 1, 3) := by decide +kernel
theorem dX7_withDifferences_40 : decode cX7_withDifferences 40 = .ok (.goto (-24), 3) := by decide +kernel
theorem dX7_withDifferences_43 : decode cX7_withDifferences 43 = .ok (.lload_n 3, 1) := by decide +kernel
theorem dX7_withDifferences_44 : decode cX7_withDifferences 44 = .ok (.lreturn, 1) := by decide +kernel
set_option maxRecDepth 20000 in
theorem ggX7_withWhatWouldBe_X7_ifKept : GoodIn wsX7_withWhatWouldBe wsX7_ifKept := goodIn_ca (goodIn_r _ [9, 10, 11, 12, 13, 8, 14, 15, 16, 17, 18, 3, 2, 19, 20, 21, 22, 23, 24, 25, 26, 27, 28, 29, 30, 31, 32, 33, 34, 35, 36, 37, 38, 39, 40, 41, 42, 43, 44, 45, 46, 47, 48, 49, 50, 51, 52, 53, 54, 55, 56, 57, 58, 59, 60, 61, 62, 63, 64, 65, 66, 67, 68, 69, 70, 71, 72, 156, 157, 158, 159, 160, 161, 162, 163, 164, 165, 166, 167, 168, 169, 170, 171, 172, 173] (by decide +kernel) (by decide +kernel)) (goodIn_sub (fun _ h => List.mem_cons_of_mem _ (List.mem_append_left _ (List.mem_append_right _ h))) (by decide +kernel))
set_option maxRecDepth 20000 in
theorem gX7_withWhatWouldBe_X7_ifKept : GoodIn wsX7_withWhatWouldBe (wsV RX7 300 RX7 yX7_ifKept wsX7_ifKept) := goodIn_app (goodIn_of _ (by decide +kernel)) ggX7_withWhatWouldBe_X7_ifKept
set_option maxRecDepth 20000 in
theorem ggX7_withWhatWouldBe_X7_mixed : GoodIn wsX7_withWhatWouldBe wsX7_mixed := goodIn_r _ [75, 76] (by decide +kernel) (by decide +kernel)
set_option maxRecDepth 20000 in
theorem gX7_withWhatWouldBe_X7_mixed : GoodIn wsX7_withWhatWouldBe (va_wsS RX7 270 yX7_mixed wsX7_mixed) := goodIn_app (goodIn_of _ (by decide +kernel)) ggX7_withWhatWouldBe_X7_mixed
set_option maxRecDepth 20000 in
theorem ggX7_withWhatWouldBe_X7_ifPut : GoodIn wsX7_withWhatWouldBe wsX7_ifPut := goodIn_ca (goodIn_ca (goodIn_r _ [80, 81, 82, 10, 11, 2, 3, 83, 84, 85, 42, 86, 87, 88, 89, 90, 44, 91, 92, 8, 93, 94, 95, 96, 97, 98, 53, 54, 55, 56, 57, 58, 99, 100, 101, 102, 59, 60, 19, 20, 21, 22, 23, 24, 25, 26, 27, 28, 29, 30, 31, 32, 33, 34, 35, 36, 37, 38, 39, 40, 41, 43, 45, 46, 47, 48, 49, 50, 51, 52, 61, 62, 63, 64, 65, 66, 67, 68, 69, 70, 71, 72, 103, 104, 105, 106, 107, 156, 157, 158, 159, 160, 161, 162, 163, 164, 165, 166, 167, 168, 169, 170, 171, 172, 173] (by decide +kernel) (by decide +kernel)) (goodIn_sub (fun _ h => List.mem_cons_of_mem _ (List.mem_append_right _ h)) (by decide +kernel))) (goodIn_sub (fun _ h => List.mem_cons_of_mem _ (List.mem_append_left _ (List.mem_append_right _ h))) (by decide +kernel))
set_option maxRecDepth 20000 in
theorem gX7_withWhatWouldBe_X7_ifPut : GoodIn wsX7_withWhatWouldBe (wsV RX7 303 RX7 yX7_ifPut wsX7_ifPut) := goodIn_app (goodIn_of _ (by decide +kernel)) ggX7_withWhatWouldBe_X7_ifPut
set_option maxRecDepth 20000 in
theorem ggX7_withWhatWouldBe_X3_look : GoodIn wsX7_withWhatWouldBe wsX3_look := goodIn_r _ [112, 113, 114, 115, 116, 117, 20, 21, 22, 23, 24, 25, 26, 27, 28, 29, 30, 31, 32, 33, 34, 35, 36, 37, 8, 38, 39, 40, 41, 42, 43, 44, 45, 46, 47, 48, 49, 50, 51, 52, 53, 54, 55, 56, 57, 58, 59, 60, 118, 62, 63, 64, 65, 66, 67, 68, 69, 70, 71, 72, 174, 175, 176, 164, 165, 166, 167, 168, 169, 170, 171, 172, 173] (by decide +kernel) (by decide +kernel)
set_option maxRecDepth 20000 in
theorem gX7_withWhatWouldBe_X3_look : GoodIn wsX7_withWhatWouldBe (wsV RX7 259 RX3 yX3_look wsX3_look) := goodIn_app (goodIn_of _ (by decide +kernel)) ggX7_withWhatWouldBe_X3_look
set_option maxRecDepth 20000 in
theorem ggX7_withWhatWouldBe_X3_told : GoodIn wsX7_withWhatWouldBe wsX3_told := goodIn_r _ [122, 115, 116, 114, 174, 175, 176] (by decide +kernel) (by decide +kernel)
set_option maxRecDepth 20000 in
theorem gX7_withWhatWouldBe_X3_told : GoodIn wsX7_withWhatWouldBe (wsV RX7 262 RX3 yX3_told wsX3_told) := goodIn_app (goodIn_of _ (by decide +kernel)) ggX7_withWhatWouldBe_X3_told
set_option maxRecDepth 20000 in
theorem ggX7_withWhatWouldBe_X1_look : GoodIn wsX7_withWhatWouldBe wsX1_look := goodIn_r _ [127, 128, 129, 130, 131, 132, 133, 134, 135, 42, 136, 44, 49, 40, 41, 43, 137, 138, 139, 140, 37, 8, 38, 50, 51, 141, 53, 54, 55, 56, 57, 58, 177, 178, 179, 180, 164, 165, 166, 167, 168] (by decide +kernel) (by decide +kernel)
set_option maxRecDepth 20000 in
theorem gX7_withWhatWouldBe_X1_look : GoodIn wsX7_withWhatWouldBe (wsV RX7 263 RX1 yX1_look wsX1_look) := goodIn_app (goodIn_of _ (by decide +kernel)) ggX7_withWhatWouldBe_X1_look
set_option maxRecDepth 20000 in
theorem ggX7_withWhatWouldBe_X1_told : GoodIn wsX7_withWhatWouldBe wsX1_told := goodIn_r _ [145, 130, 131, 132, 129, 177, 178, 179, 180] (by decide +kernel) (by decide +kernel)
set_option maxRecDepth 20000 in
theorem gX7_withWhatWouldBe_X1_told : GoodIn wsX7_withWhatWouldBe (wsV RX7 264 RX1 yX1_told wsX1_told) := goodIn_app (goodIn_of _ (by decide +kernel)) ggX7_withWhatWouldBe_X1_told
set_option maxRecDepth 20000 in
theorem ggX7_withWhatWouldBe_X7_roomShare : GoodIn wsX7_withWhatWouldBe wsX7_roomShare := goodIn_r _ [149, 2, 15, 16, 17, 8, 18, 3, 19, 20, 21, 22, 23, 24, 25, 26, 27, 28, 29, 30, 31, 32, 33, 34, 35, 36, 37, 38, 39, 40, 41, 42, 43, 44, 45, 46, 47, 48, 49, 50, 51, 52, 53, 54, 55, 56, 57, 58, 59, 60, 61, 62, 63, 64, 65, 66, 67, 68, 69, 70, 71, 72, 156, 157, 158, 159, 160, 161, 162, 163, 164, 165, 166, 167, 168, 169, 170, 171, 172, 173] (by decide +kernel) (by decide +kernel)
set_option maxRecDepth 20000 in
theorem gX7_withWhatWouldBe_X7_roomShare : GoodIn wsX7_withWhatWouldBe (wsV RX7 307 RX7 yX7_roomShare wsX7_roomShare) := goodIn_app (goodIn_of _ (by decide +kernel)) ggX7_withWhatWouldBe_X7_roomShare
set_option maxRecDepth 20000 in
theorem ggX7_withWhatWouldBe_X7_bitsOf : GoodIn wsX7_withWhatWouldBe wsX7_bitsOf := goodIn_r _ [152, 153, 154, 155] (by decide +kernel) (by decide +kernel)
set_option maxRecDepth 20000 in
theorem gX7_withWhatWouldBe_X7_bitsOf : GoodIn wsX7_withWhatWouldBe (va_wsS RX7 311 yX7_bitsOf wsX7_bitsOf) := goodIn_app (goodIn_of _ (by decide +kernel)) ggX7_withWhatWouldBe_X7_bitsOf
theorem dX7_withWhatWouldBe_0 : decode cX7_withWhatWouldBe 0 = .ok (.lload_n 1, 1) := by decide +kernel
theorem dX7_withWhatWouldBe_1 : decode cX7_withWhatWouldBe 1 = .ok (.lstore_n 3, 1) := by decide +kernel
theorem dX7_withWhatWouldBe_2 : decode cX7_withWhatWouldBe 2 = .ok (.iconst 0, 1) := by decide +kernel
theorem dX7_withWhatWouldBe_3 : decode cX7_withWhatWouldBe 3 = .ok (.istore 5, 2) := by decide +kernel
theorem dX7_withWhatWouldBe_5 : decode cX7_withWhatWouldBe 5 = .ok (.iload 5, 2) := by decide +kernel
theorem dX7_withWhatWouldBe_7 : decode cX7_withWhatWouldBe 7 = .ok (.iconst 3, 1) := by decide +kernel
theorem dX7_withWhatWouldBe_8 : decode cX7_withWhatWouldBe 8 = .ok (.if_icmp .ge 21, 3) := by decide +kernel
theorem dX7_withWhatWouldBe_11 : decode cX7_withWhatWouldBe 11 = .ok (.lload_n 3, 1) := by decide +kernel
theorem dX7_withWhatWouldBe_12 : decode cX7_withWhatWouldBe 12 = .ok (.aload_n 0, 1) := by decide +kernel
theorem dX7_withWhatWouldBe_13 : decode cX7_withWhatWouldBe 13 = .ok (.iload 5, 2) := by decide +kernel
theorem dX7_withWhatWouldBe_15 : decode cX7_withWhatWouldBe 15 = .ok (.invokevirtual 300, 3) := by decide +kernel
theorem dX7_withWhatWouldBe_18 : decode cX7_withWhatWouldBe 18 = .ok (.i2l, 1) := by decide +kernel
theorem dX7_withWhatWouldBe_19 : decode cX7_withWhatWouldBe 19 = .ok (.invokestatic 270, 3) := by decide +kernel
theorem dX7_withWhatWouldBe_22 : decode cX7_withWhatWouldBe 22 = .ok (.lstore_n 3, 1) := by decide +kernel
theorem dX7_withWhatWouldBe_23 : decode cX7_withWhatWouldBe 23 = .ok (.iinc 5 1, 3) := by decide +kernel
theorem dX7_withWhatWouldBe_26 : decode cX7_withWhatWouldBe 26 = .ok (.goto (-21), 3) := by decide +kernel
theorem dX7_withWhatWouldBe_29 : decode cX7_withWhatWouldBe 29 = .ok (.lload_n 3, 1) := by decide +kernel
theorem dX7_withWhatWouldBe_30 : decode cX7_withWhatWouldBe 30 = .ok (.aload_n 0, 1) := by decide +kernel
theorem dX7_withWhatWouldBe_31 : decode cX7_withWhatWouldBe 31 = .ok (.iconst 0, 1) := by decide +kernel
theorem dX7_withWhatWouldBe_32 : decode cX7_withWhatWouldBe 32 = .ok (.iconst 1, 1) := by decide +kernel
theorem dX7_withWhatWouldBe_33 : decode cX7_withWhatWouldBe 33 = .ok (.iconst 0, 1) := by decide +kernel
theorem dX7_withWhatWouldBe_34 : decode cX7_withWhatWouldBe 34 = .ok (.bipush 7, 2) := by decide +kernel
theorem dX7_withWhatWouldBe_36 : decode cX7_withWhatWouldBe 36 = .ok (.iconst 0, 1) := by decide +kernel
theorem dX7_withWhatWouldBe_37 : decode cX7_withWhatWouldBe 37 = .ok (.invokevirtual 303, 3) := by decide +kernel
theorem dX7_withWhatWouldBe_40 : decode cX7_withWhatWouldBe 40 = .ok (.i2l, 1) := by decide +kernel
theorem dX7_withWhatWouldBe_41 : decode cX7_withWhatWouldBe 41 = .ok (.invokestatic 270, 3) := by decide +kernel
theorem dX7_withWhatWouldBe_44 : decode cX7_withWhatWouldBe 44 = .ok (.lstore_n 3, 1) := by decide +kernel
theorem dX7_withWhatWouldBe_45 : decode cX7_withWhatWouldBe 45 = .ok (.lload_n 3, 1) := by decide +kernel
theorem dX7_withWhatWouldBe_46 : decode cX7_withWhatWouldBe 46 = .ok (.aload_n 0, 1) := by decide +kernel
theorem dX7_withWhatWouldBe_47 : decode cX7_withWhatWouldBe 47 = .ok (.iconst 0, 1) := by decide +kernel
theorem dX7_withWhatWouldBe_48 : decode cX7_withWhatWouldBe 48 = .ok (.iconst 1, 1) := by decide +kernel
theorem dX7_withWhatWouldBe_49 : decode cX7_withWhatWouldBe 49 = .ok (.iconst 0, 1) := by decide +kernel
theorem dX7_withWhatWouldBe_50 : decode cX7_withWhatWouldBe 50 = .ok (.bipush 7, 2) := by decide +kernel
theorem dX7_withWhatWouldBe_52 : decode cX7_withWhatWouldBe 52 = .ok (.iconst 1, 1) := by decide +kernel
theorem dX7_withWhatWouldBe_53 : decode cX7_withWhatWouldBe 53 = .ok (.invokevirtual 303, 3) := by decide +kernel
theorem dX7_withWhatWouldBe_56 : decode cX7_withWhatWouldBe 56 = .ok (.i2l, 1) := by decide +kernel
theorem dX7_withWhatWouldBe_57 : decode cX7_withWhatWouldBe 57 = .ok (.invokestatic 270, 3) := by decide +kernel
theorem dX7_withWhatWouldBe_60 : decode cX7_withWhatWouldBe 60 = .ok (.lstore_n 3, 1) := by decide +kernel
theorem dX7_withWhatWouldBe_61 : decode cX7_withWhatWouldBe 61 = .ok (.lload_n 3, 1) := by decide +kernel
theorem dX7_withWhatWouldBe_62 : decode cX7_withWhatWouldBe 62 = .ok (.aload_n 0, 1) := by decide +kernel
theorem dX7_withWhatWouldBe_63 : decode cX7_withWhatWouldBe 63 = .ok (.iconst 0, 1) := by decide +kernel
theorem dX7_withWhatWouldBe_64 : decode cX7_withWhatWouldBe 64 = .ok (.iconst 1, 1) := by decide +kernel
theorem dX7_withWhatWouldBe_65 : decode cX7_withWhatWouldBe 65 = .ok (.iconst 0, 1) := by decide +kernel
theorem dX7_withWhatWouldBe_66 : decode cX7_withWhatWouldBe 66 = .ok (.iconst 0, 1) := by decide +kernel
theorem dX7_withWhatWouldBe_67 : decode cX7_withWhatWouldBe 67 = .ok (.iconst 0, 1) := by decide +kernel
theorem dX7_withWhatWouldBe_68 : decode cX7_withWhatWouldBe 68 = .ok (.invokevirtual 303, 3) := by decide +kernel
theorem dX7_withWhatWouldBe_71 : decode cX7_withWhatWouldBe 71 = .ok (.i2l, 1) := by decide +kernel
theorem dX7_withWhatWouldBe_72 : decode cX7_withWhatWouldBe 72 = .ok (.invokestatic 270, 3) := by decide +kernel
theorem dX7_withWhatWouldBe_75 : decode cX7_withWhatWouldBe 75 = .ok (.lstore_n 3, 1) := by decide +kernel
theorem dX7_withWhatWouldBe_76 : decode cX7_withWhatWouldBe 76 = .ok (.lload_n 3, 1) := by decide +kernel
theorem dX7_withWhatWouldBe_77 : decode cX7_withWhatWouldBe 77 = .ok (.aload_n 0, 1) := by decide +kernel
theorem dX7_withWhatWouldBe_78 : decode cX7_withWhatWouldBe 78 = .ok (.iconst 0, 1) := by decide +kernel
theorem dX7_withWhatWouldBe_79 : decode cX7_withWhatWouldBe 79 = .ok (.iconst 1, 1) := by decide +kernel
theorem dX7_withWhatWouldBe_80 : decode cX7_withWhatWouldBe 80 = .ok (.iconst 0, 1) := by decide +kernel
theorem dX7_withWhatWouldBe_81 : decode cX7_withWhatWouldBe 81 = .ok (.iconst 0, 1) := by decide +kernel
theorem dX7_withWhatWouldBe_82 : decode cX7_withWhatWouldBe 82 = .ok (.iconst 1, 1) := by decide +kernel
theorem dX7_withWhatWouldBe_83 : decode cX7_withWhatWouldBe 83 = .ok (.invokevirtual 303, 3) := by decide +kernel
theorem dX7_withWhatWouldBe_86 : decode cX7_withWhatWouldBe 86 = .ok (.i2l, 1) := by decide +kernel
theorem dX7_withWhatWouldBe_87 : decode cX7_withWhatWouldBe 87 = .ok (.invokestatic 270, 3) := by decide +kernel
theorem dX7_withWhatWouldBe_90 : decode cX7_withWhatWouldBe 90 = .ok (.lstore_n 3, 1) := by decide +kernel
theorem dX7_withWhatWouldBe_91 : decode cX7_withWhatWouldBe 91 = .ok (.aload_n 0, 1) := by decide +kernel
theorem dX7_withWhatWouldBe_92 : decode cX7_withWhatWouldBe 92 = .ok (.getfield 47, 3) := by decide +kernel
theorem dX7_withWhatWouldBe_95 : decode cX7_withWhatWouldBe 95 = .ok (.aload_n 0, 1) := by decide +kernel
theorem dX7_withWhatWouldBe_96 : decode cX7_withWhatWouldBe 96 = .ok (.getfield 10, 3) := by decide +kernel
theorem dX7_withWhatWouldBe_99 : decode cX7_withWhatWouldBe 99 = .ok (.aload_n 0, 1) := by decide +kernel
theorem dX7_withWhatWouldBe_100 : decode cX7_withWhatWouldBe 100 = .ok (.getfield 33, 3) := by decide +kernel
theorem dX7_withWhatWouldBe_103 : decode cX7_withWhatWouldBe 103 = .ok (.invokevirtual 259, 3) := by decide +kernel
theorem dX7_withWhatWouldBe_106 : decode cX7_withWhatWouldBe 106 = .ok (.iconst 0, 1) := by decide +kernel
theorem dX7_withWhatWouldBe_107 : decode cX7_withWhatWouldBe 107 = .ok (.istore 5, 2) := by decide +kernel
theorem dX7_withWhatWouldBe_109 : decode cX7_withWhatWouldBe 109 = .ok (.iload 5, 2) := by decide +kernel
theorem dX7_withWhatWouldBe_111 : decode cX7_withWhatWouldBe 111 = .ok (.iconst 2, 1) := by decide +kernel
theorem dX7_withWhatWouldBe_112 : decode cX7_withWhatWouldBe 112 = .ok (.if_icmp .gt 24, 3) := by decide +kernel
theorem dX7_withWhatWouldBe_115 : decode cX7_withWhatWouldBe 115 = .ok (.lload_n 3, 1) := by decide +kernel
theorem dX7_withWhatWouldBe_116 : decode cX7_withWhatWouldBe 116 = .ok (.aload_n 0, 1) := by decide +kernel
theorem dX7_withWhatWouldBe_117 : decode cX7_withWhatWouldBe 117 = .ok (.getfield 47, 3) := by decide +kernel
theorem dX7_withWhatWouldBe_120 : decode cX7_withWhatWouldBe 120 = .ok (.iload 5, 2) := by decide +kernel
theorem dX7_withWhatWouldBe_122 : decode cX7_withWhatWouldBe 122 = .ok (.invokevirtual 262, 3) := by decide +kernel
theorem dX7_withWhatWouldBe_125 : decode cX7_withWhatWouldBe 125 = .ok (.i2l, 1) := by decide +kernel
theorem dX7_withWhatWouldBe_126 : decode cX7_withWhatWouldBe 126 = .ok (.invokestatic 270, 3) := by decide +kernel
theorem dX7_withWhatWouldBe_129 : decode cX7_withWhatWouldBe 129 = .ok (.lstore_n 3, 1) := by decide +kernel
theorem dX7_withWhatWouldBe_130 : decode cX7_withWhatWouldBe 130 = .ok (.iinc 5 1, 3) := by decide +kernel
theorem dX7_withWhatWouldBe_133 : decode cX7_withWhatWouldBe 133 = .ok (.goto (-24), 3) := by decide +kernel
theorem dX7_withWhatWouldBe_136 : decode cX7_withWhatWouldBe 136 = .ok (.aload_n 0, 1) := by decide +kernel
theorem dX7_withWhatWouldBe_137 : decode cX7_withWhatWouldBe 137 = .ok (.getfield 54, 3) := by decide +kernel
theorem dX7_withWhatWouldBe_140 : decode cX7_withWhatWouldBe 140 = .ok (.aload_n 0, 1) := by decide +kernel
theorem dX7_withWhatWouldBe_141 : decode cX7_withWhatWouldBe 141 = .ok (.getfield 10, 3) := by decide +kernel
theorem dX7_withWhatWouldBe_144 : decode cX7_withWhatWouldBe 144 = .ok (.invokevirtual 263, 3) := by decide +kernel
theorem dX7_withWhatWouldBe_147 : decode cX7_withWhatWouldBe 147 = .ok (.iconst 0, 1) := by decide +kernel
theorem dX7_withWhatWouldBe_148 : decode cX7_withWhatWouldBe 148 = .ok (.istore 5, 2) := by decide +kernel
theorem dX7_withWhatWouldBe_150 : decode cX7_withWhatWouldBe 150 = .ok (.iload 5, 2) := by decide +kernel
theorem dX7_withWhatWouldBe_152 : decode cX7_withWhatWouldBe 152 = .ok (.iconst 3, 1) := by decide +kernel
theorem dX7_withWhatWouldBe_153 : decode cX7_withWhatWouldBe 153 = .ok (.if_icmp .gt 24, 3) := by decide +kernel
theorem dX7_withWhatWouldBe_156 : decode cX7_withWhatWouldBe 156 = .ok (.lload_n 3, 1) := by decide +kernel
theorem dX7_withWhatWouldBe_157 : decode cX7_withWhatWouldBe 157 = .ok (.aload_n 0, 1) := by decide +kernel
theorem dX7_withWhatWouldBe_158 : decode cX7_withWhatWouldBe 158 = .ok (.getfield 54, 3) := by decide +kernel
theorem dX7_withWhatWouldBe_161 : decode cX7_withWhatWouldBe 161 = .ok (.iload 5, 2) := by decide +kernel
theorem dX7_withWhatWouldBe_163 : decode cX7_withWhatWouldBe 163 = .ok (.invokevirtual 264, 3) := by decide +kernel
theorem dX7_withWhatWouldBe_166 : decode cX7_withWhatWouldBe 166 = .ok (.i2l, 1) := by decide +kernel
theorem dX7_withWhatWouldBe_167 : decode cX7_withWhatWouldBe 167 = .ok (.invokestatic 270, 3) := by decide +kernel
theorem dX7_withWhatWouldBe_170 : decode cX7_withWhatWouldBe 170 = .ok (.lstore_n 3, 1) := by decide +kernel
theorem dX7_withWhatWouldBe_171 : decode cX7_withWhatWouldBe 171 = .ok (.iinc 5 1, 3) := by decide +kernel
theorem dX7_withWhatWouldBe_174 : decode cX7_withWhatWouldBe 174 = .ok (.goto (-24), 3) := by decide +kernel
theorem dX7_withWhatWouldBe_177 : decode cX7_withWhatWouldBe 177 = .ok (.lload_n 3, 1) := by decide +kernel
theorem dX7_withWhatWouldBe_178 : decode cX7_withWhatWouldBe 178 = .ok (.aload_n 0, 1) := by decide +kernel
theorem dX7_withWhatWouldBe_179 : decode cX7_withWhatWouldBe 179 = .ok (.invokevirtual 307, 3) := by decide +kernel
theorem dX7_withWhatWouldBe_182 : decode cX7_withWhatWouldBe 182 = .ok (.invokestatic 311, 3) := by decide +kernel
theorem dX7_withWhatWouldBe_185 : decode cX7_withWhatWouldBe 185 = .ok (.invokestatic 270, 3) := by decide +kernel
theorem dX7_withWhatWouldBe_188 : decode cX7_withWhatWouldBe 188 = .ok (.lreturn, 1) := by decide +kernel
set_option maxRecDepth 20000 in
theorem ggX7_withText_X7_mixed : GoodIn wsX7_withText wsX7_mixed := goodIn_r _ [5, 6] (by decide +kernel) (by decide +kernel)
set_option maxRecDepth 20000 in
theorem gX7_withText_X7_mixed : GoodIn wsX7_withText (va_wsS RX7 270 yX7_mixed wsX7_mixed) := goodIn_app (goodIn_of _ (by decide +kernel)) ggX7_withText_X7_mixed
set_option maxRecDepth 20000 in
theorem ggX7_withText_X6_sign : GoodIn wsX7_withText wsX6_sign := goodIn_r _ [11, 12, 13, 14, 4, 15, 24, 25] (by decide +kernel) (by decide +kernel)
set_option maxRecDepth 20000 in
theorem gX7_withText_X6_sign : GoodIn wsX7_withText (wsV RX7 193 RX6 yX6_sign wsX6_sign) := goodIn_app (goodIn_of _ (by decide +kernel)) ggX7_withText_X6_sign
theorem dX7_withText_0 : decode cX7_withText 0 = .ok (.lload_n 1, 1) := by decide +kernel
theorem dX7_withText_1 : decode cX7_withText 1 = .ok (.aload_n 0, 1) := by decide +kernel
theorem dX7_withText_2 : decode cX7_withText 2 = .ok (.getfield 26, 3) := by decide +kernel
theorem dX7_withText_5 : decode cX7_withText 5 = .ok (.getfield 176, 3) := by decide +kernel
theorem dX7_withText_8 : decode cX7_withText 8 = .ok (.i2l, 1) := by decide +kernel
theorem dX7_withText_9 : decode cX7_withText 9 = .ok (.invokestatic 270, 3) := by decide +kernel
theorem dX7_withText_12 : decode cX7_withText 12 = .ok (.lstore_n 3, 1) := by decide +kernel
theorem dX7_withText_13 : decode cX7_withText 13 = .ok (.iconst 0, 1) := by decide +kernel
theorem dX7_withText_14 : decode cX7_withText 14 = .ok (.istore 5, 2) := by decide +kernel
theorem dX7_withText_16 : decode cX7_withText 16 = .ok (.iload 5, 2) := by decide +kernel
theorem dX7_withText_18 : decode cX7_withText 18 = .ok (.aload_n 0, 1) := by decide +kernel
theorem dX7_withText_19 : decode cX7_withText 19 = .ok (.getfield 26, 3) := by decide +kernel
theorem dX7_withText_22 : decode cX7_withText 22 = .ok (.getfield 176, 3) := by decide +kernel
theorem dX7_withText_25 : decode cX7_withText 25 = .ok (.if_icmp .ge 24, 3) := by decide +kernel
theorem dX7_withText_28 : decode cX7_withText 28 = .ok (.lload_n 3, 1) := by decide +kernel
theorem dX7_withText_29 : decode cX7_withText 29 = .ok (.aload_n 0, 1) := by decide +kernel
theorem dX7_withText_30 : decode cX7_withText 30 = .ok (.getfield 26, 3) := by decide +kernel
theorem dX7_withText_33 : decode cX7_withText 33 = .ok (.iload 5, 2) := by decide +kernel
theorem dX7_withText_35 : decode cX7_withText 35 = .ok (.invokevirtual 193, 3) := by decide +kernel
theorem dX7_withText_38 : decode cX7_withText 38 = .ok (.i2l, 1) := by decide +kernel
theorem dX7_withText_39 : decode cX7_withText 39 = .ok (.invokestatic 270, 3) := by decide +kernel
theorem dX7_withText_42 : decode cX7_withText 42 = .ok (.lstore_n 3, 1) := by decide +kernel
theorem dX7_withText_43 : decode cX7_withText 43 = .ok (.iinc 5 1, 3) := by decide +kernel
theorem dX7_withText_46 : decode cX7_withText 46 = .ok (.goto (-30), 3) := by decide +kernel
theorem dX7_withText_49 : decode cX7_withText 49 = .ok (.lload_n 3, 1) := by decide +kernel
theorem dX7_withText_50 : decode cX7_withText 50 = .ok (.lreturn, 1) := by decide +kernel
theorem dX7_mixed_0 : decode cX7_mixed 0 = .ok (.ldc2_w 315, 3) := by decide +kernel
theorem dX7_mixed_3 : decode cX7_mixed 3 = .ok (.lload_n 0, 1) := by decide +kernel
theorem dX7_mixed_4 : decode cX7_mixed 4 = .ok (.lmul, 1) := by decide +kernel
theorem dX7_mixed_5 : decode cX7_mixed 5 = .ok (.lload_n 2, 1) := by decide +kernel
theorem dX7_mixed_6 : decode cX7_mixed 6 = .ok (.ladd, 1) := by decide +kernel
theorem dX7_mixed_7 : decode cX7_mixed 7 = .ok (.lreturn, 1) := by decide +kernel
theorem dX7_bitsOf_0 : decode cX7_bitsOf 0 = .ok (.dload_n 0, 1) := by decide +kernel
theorem dX7_bitsOf_1 : decode cX7_bitsOf 1 = .ok (.dconst 0, 1) := by decide +kernel
theorem dX7_bitsOf_2 : decode cX7_bitsOf 2 = .ok (.dcmp .l, 1) := by decide +kernel
theorem dX7_bitsOf_3 : decode cX7_bitsOf 3 = .ok (.ifCond .gt 5, 3) := by decide +kernel
theorem dX7_bitsOf_6 : decode cX7_bitsOf 6 = .ok (.lconst 0, 1) := by decide +kernel
theorem dX7_bitsOf_7 : decode cX7_bitsOf 7 = .ok (.lreturn, 1) := by decide +kernel
theorem dX7_bitsOf_8 : decode cX7_bitsOf 8 = .ok (.dload_n 0, 1) := by decide +kernel
theorem dX7_bitsOf_9 : decode cX7_bitsOf 9 = .ok (.dstore_n 2, 1) := by decide +kernel
theorem dX7_bitsOf_10 : decode cX7_bitsOf 10 = .ok (.ldc2_w 317, 3) := by decide +kernel
theorem dX7_bitsOf_13 : decode cX7_bitsOf 13 = .ok (.lstore 4, 2) := by decide +kernel
theorem dX7_bitsOf_15 : decode cX7_bitsOf 15 = .ok (.iconst 0, 1) := by decide +kernel
theorem dX7_bitsOf_16 : decode cX7_bitsOf 16 = .ok (.istore 6, 2) := by decide +kernel
theorem dX7_bitsOf_18 : decode cX7_bitsOf 18 = .ok (.iload 6, 2) := by decide +kernel
theorem dX7_bitsOf_20 : decode cX7_bitsOf 20 = .ok (.sipush 1000, 3) := by decide +kernel
theorem dX7_bitsOf_23 : decode cX7_bitsOf 23 = .ok (.if_icmp .ge 27, 3) := by decide +kernel
theorem dX7_bitsOf_26 : decode cX7_bitsOf 26 = .ok (.dload_n 2, 1) := by decide +kernel
theorem dX7_bitsOf_27 : decode cX7_bitsOf 27 = .ok (.dconst 1, 1) := by decide +kernel
theorem dX7_bitsOf_28 : decode cX7_bitsOf 28 = .ok (.dcmp .g, 1) := by decide +kernel
theorem dX7_bitsOf_29 : decode cX7_bitsOf 29 = .ok (.ifCond .ge 21, 3) := by decide +kernel
theorem dX7_bitsOf_32 : decode cX7_bitsOf 32 = .ok (.dload_n 2, 1) := by decide +kernel
theorem dX7_bitsOf_33 : decode cX7_bitsOf 33 = .ok (.ldc2_w 319, 3) := by decide +kernel
theorem dX7_bitsOf_36 : decode cX7_bitsOf 36 = .ok (.dmul, 1) := by decide +kernel
theorem dX7_bitsOf_37 : decode cX7_bitsOf 37 = .ok (.dstore_n 2, 1) := by decide +kernel
theorem dX7_bitsOf_38 : decode cX7_bitsOf 38 = .ok (.lload 4, 2) := by decide +kernel
theorem dX7_bitsOf_40 : decode cX7_bitsOf 40 = .ok (.lconst 1, 1) := by decide +kernel
theorem dX7_bitsOf_41 : decode cX7_bitsOf 41 = .ok (.lsub, 1) := by decide +kernel
theorem dX7_bitsOf_42 : decode cX7_bitsOf 42 = .ok (.lstore 4, 2) := by decide +kernel
theorem dX7_bitsOf_44 : decode cX7_bitsOf 44 = .ok (.iinc 6 1, 3) := by decide +kernel
theorem dX7_bitsOf_47 : decode cX7_bitsOf 47 = .ok (.goto (-29), 3) := by decide +kernel
theorem dX7_bitsOf_50 : decode cX7_bitsOf 50 = .ok (.lload 4, 2) := by decide +kernel
theorem dX7_bitsOf_52 : decode cX7_bitsOf 52 = .ok (.bipush 52, 2) := by decide +kernel
theorem dX7_bitsOf_54 : decode cX7_bitsOf 54 = .ok (.lshl, 1) := by decide +kernel
theorem dX7_bitsOf_55 : decode cX7_bitsOf 55 = .ok (.dload_n 2, 1) := by decide +kernel
theorem dX7_bitsOf_56 : decode cX7_bitsOf 56 = .ok (.dconst 1, 1) := by decide +kernel
theorem dX7_bitsOf_57 : decode cX7_bitsOf 57 = .ok (.dsub, 1) := by decide +kernel
theorem dX7_bitsOf_58 : decode cX7_bitsOf 58 = .ok (.ldc2_w 321, 3) := by decide +kernel
theorem dX7_bitsOf_61 : decode cX7_bitsOf 61 = .ok (.dmul, 1) := by decide +kernel
theorem dX7_bitsOf_62 : decode cX7_bitsOf 62 = .ok (.d2l, 1) := by decide +kernel
theorem dX7_bitsOf_63 : decode cX7_bitsOf 63 = .ok (.ladd, 1) := by decide +kernel
theorem dX7_bitsOf_64 : decode cX7_bitsOf 64 = .ok (.lreturn, 1) := by decide +kernel
theorem dX7_isAxis_0 : decode cX7_isAxis 0 = .ok (.iload_n 0, 1) := by decide +kernel
theorem dX7_isAxis_1 : decode cX7_isAxis 1 = .ok (.ifCond .lt 12, 3) := by decide +kernel
theorem dX7_isAxis_4 : decode cX7_isAxis 4 = .ok (.iload_n 0, 1) := by decide +kernel
theorem dX7_isAxis_5 : decode cX7_isAxis 5 = .ok (.iconst 3, 1) := by decide +kernel
theorem dX7_isAxis_6 : decode cX7_isAxis 6 = .ok (.if_icmp .ge 7, 3) := by decide +kernel
theorem dX7_isAxis_9 : decode cX7_isAxis 9 = .ok (.iconst 1, 1) := by decide +kernel
theorem dX7_isAxis_10 : decode cX7_isAxis 10 = .ok (.goto 4, 3) := by decide +kernel
theorem dX7_isAxis_13 : decode cX7_isAxis 13 = .ok (.iconst 0, 1) := by decide +kernel
theorem dX7_isAxis_14 : decode cX7_isAxis 14 = .ok (.ireturn, 1) := by decide +kernel
theorem dX7_isNumber_0 : decode cX7_isNumber 0 = .ok (.iload_n 0, 1) := by decide +kernel
theorem dX7_isNumber_1 : decode cX7_isNumber 1 = .ok (.sipush (-999), 3) := by decide +kernel
theorem dX7_isNumber_4 : decode cX7_isNumber 4 = .ok (.if_icmp .lt 14, 3) := by decide +kernel
theorem dX7_isNumber_7 : decode cX7_isNumber 7 = .ok (.iload_n 0, 1) := by decide +kernel
theorem dX7_isNumber_8 : decode cX7_isNumber 8 = .ok (.sipush 999, 3) := by decide +kernel
theorem dX7_isNumber_11 : decode cX7_isNumber 11 = .ok (.if_icmp .gt 7, 3) := by decide +kernel
theorem dX7_isNumber_14 : decode cX7_isNumber 14 = .ok (.iconst 1, 1) := by decide +kernel
theorem dX7_isNumber_15 : decode cX7_isNumber 15 = .ok (.goto 4, 3) := by decide +kernel
theorem dX7_isNumber_18 : decode cX7_isNumber 18 = .ok (.iconst 0, 1) := by decide +kernel
theorem dX7_isNumber_19 : decode cX7_isNumber 19 = .ok (.ireturn, 1) := by decide +kernel
theorem dX7_formerOf_0 : decode cX7_formerOf 0 = .ok (.iload_n 0, 1) := by decide +kernel
theorem dX7_formerOf_1 : decode cX7_formerOf 1 = .ok (.ifCond .ne 7, 3) := by decide +kernel
theorem dX7_formerOf_4 : decode cX7_formerOf 4 = .ok (.iconst 1, 1) := by decide +kernel
theorem dX7_formerOf_5 : decode cX7_formerOf 5 = .ok (.goto 4, 3) := by decide +kernel
theorem dX7_formerOf_8 : decode cX7_formerOf 8 = .ok (.iconst 0, 1) := by decide +kernel
theorem dX7_formerOf_9 : decode cX7_formerOf 9 = .ok (.ireturn, 1) := by decide +kernel
theorem dX7_latterOf_0 : decode cX7_latterOf 0 = .ok (.iload_n 0, 1) := by decide +kernel
theorem dX7_latterOf_1 : decode cX7_latterOf 1 = .ok (.iconst 2, 1) := by decide +kernel
theorem dX7_latterOf_2 : decode cX7_latterOf 2 = .ok (.if_icmp .ne 7, 3) := by decide +kernel
theorem dX7_latterOf_5 : decode cX7_latterOf 5 = .ok (.iconst 1, 1) := by decide +kernel
theorem dX7_latterOf_6 : decode cX7_latterOf 6 = .ok (.goto 4, 3) := by decide +kernel
theorem dX7_latterOf_9 : decode cX7_latterOf 9 = .ok (.iconst 2, 1) := by decide +kernel
theorem dX7_latterOf_10 : decode cX7_latterOf 10 = .ok (.ireturn, 1) := by decide +kernel
theorem dX7_cell_0 : decode cX7_cell 0 = .ok (.aload_n 0, 1) := by decide +kernel
theorem dX7_cell_1 : decode cX7_cell 1 = .ok (.ifnull 19, 3) := by decide +kernel
theorem dX7_cell_4 : decode cX7_cell 4 = .ok (.iload_n 1, 1) := by decide +kernel
theorem dX7_cell_5 : decode cX7_cell 5 = .ok (.ifCond .lt 15, 3) := by decide +kernel
theorem dX7_cell_8 : decode cX7_cell 8 = .ok (.iload_n 1, 1) := by decide +kernel
theorem dX7_cell_9 : decode cX7_cell 9 = .ok (.aload_n 0, 1) := by decide +kernel
theorem dX7_cell_10 : decode cX7_cell 10 = .ok (.arraylength, 1) := by decide +kernel
theorem dX7_cell_11 : decode cX7_cell 11 = .ok (.if_icmp .ge 9, 3) := by decide +kernel
theorem dX7_cell_14 : decode cX7_cell 14 = .ok (.aload_n 0, 1) := by decide +kernel
theorem dX7_cell_15 : decode cX7_cell 15 = .ok (.iload_n 1, 1) := by decide +kernel
theorem dX7_cell_16 : decode cX7_cell 16 = .ok (.iaload, 1) := by decide +kernel
theorem dX7_cell_17 : decode cX7_cell 17 = .ok (.goto 4, 3) := by decide +kernel
theorem dX7_cell_20 : decode cX7_cell 20 = .ok (.iconst 0, 1) := by decide +kernel
theorem dX7_cell_21 : decode cX7_cell 21 = .ok (.ireturn, 1) := by decide +kernel
theorem dX7_setCell_0 : decode cX7_setCell 0 = .ok (.aload_n 0, 1) := by decide +kernel
theorem dX7_setCell_1 : decode cX7_setCell 1 = .ok (.ifnull 17, 3) := by decide +kernel
theorem dX7_setCell_4 : decode cX7_setCell 4 = .ok (.iload_n 1, 1) := by decide +kernel
theorem dX7_setCell_5 : decode cX7_setCell 5 = .ok (.ifCond .lt 13, 3) := by decide +kernel
theorem dX7_setCell_8 : decode cX7_setCell 8 = .ok (.iload_n 1, 1) := by decide +kernel
theorem dX7_setCell_9 : decode cX7_setCell 9 = .ok (.aload_n 0, 1) := by decide +kernel
theorem dX7_setCell_10 : decode cX7_setCell 10 = .ok (.arraylength, 1) := by decide +kernel
theorem dX7_setCell_11 : decode cX7_setCell 11 = .ok (.if_icmp .ge 7, 3) := by decide +kernel
theorem dX7_setCell_14 : decode cX7_setCell 14 = .ok (.aload_n 0, 1) := by decide +kernel
theorem dX7_setCell_15 : decode cX7_setCell 15 = .ok (.iload_n 1, 1) := by decide +kernel
theorem dX7_setCell_16 : decode cX7_setCell 16 = .ok (.iload_n 2, 1) := by decide +kernel
theorem dX7_setCell_17 : decode cX7_setCell 17 = .ok (.iastore, 1) := by decide +kernel
theorem dX7_setCell_18 : decode cX7_setCell 18 = .ok (.return_, 1) := by decide +kernel
theorem dX7_copyRow_0 : decode cX7_copyRow 0 = .ok (.aload_n 0, 1) := by decide +kernel
theorem dX7_copyRow_1 : decode cX7_copyRow 1 = .ok (.ifnull 23, 3) := by decide +kernel
theorem dX7_copyRow_4 : decode cX7_copyRow 4 = .ok (.aload_n 1, 1) := by decide +kernel
theorem dX7_copyRow_5 : decode cX7_copyRow 5 = .ok (.ifnull 19, 3) := by decide +kernel
theorem dX7_copyRow_8 : decode cX7_copyRow 8 = .ok (.aload_n 0, 1) := by decide +kernel
theorem dX7_copyRow_9 : decode cX7_copyRow 9 = .ok (.arraylength, 1) := by decide +kernel
theorem dX7_copyRow_10 : decode cX7_copyRow 10 = .ok (.aload_n 1, 1) := by decide +kernel
theorem dX7_copyRow_11 : decode cX7_copyRow 11 = .ok (.arraylength, 1) := by decide +kernel
theorem dX7_copyRow_12 : decode cX7_copyRow 12 = .ok (.if_icmp .gt 12, 3) := by decide +kernel
theorem dX7_copyRow_15 : decode cX7_copyRow 15 = .ok (.aload_n 0, 1) := by decide +kernel
theorem dX7_copyRow_16 : decode cX7_copyRow 16 = .ok (.iconst 0, 1) := by decide +kernel
theorem dX7_copyRow_17 : decode cX7_copyRow 17 = .ok (.aload_n 1, 1) := by decide +kernel
theorem dX7_copyRow_18 : decode cX7_copyRow 18 = .ok (.iconst 0, 1) := by decide +kernel
theorem dX7_copyRow_19 : decode cX7_copyRow 19 = .ok (.aload_n 0, 1) := by decide +kernel
theorem dX7_copyRow_20 : decode cX7_copyRow 20 = .ok (.arraylength, 1) := by decide +kernel
theorem dX7_copyRow_21 : decode cX7_copyRow 21 = .ok (.invokestatic 323, 3) := by decide +kernel
theorem dX7_copyRow_24 : decode cX7_copyRow 24 = .ok (.return_, 1) := by decide +kernel
theorem dX8_init_0 : decode cX8_init 0 = .ok (.aload_n 0, 1) := by decide +kernel
theorem dX8_init_1 : decode cX8_init 1 = .ok (.invokespecial 1, 3) := by decide +kernel
theorem dX8_init_4 : decode cX8_init 4 = .ok (.aload_n 0, 1) := by decide +kernel
theorem dX8_init_5 : decode cX8_init 5 = .ok (.sipush 1027, 3) := by decide +kernel
theorem dX8_init_8 : decode cX8_init 8 = .ok (.newarray .int, 2) := by decide +kernel
theorem dX8_init_10 : decode cX8_init 10 = .ok (.putfield 7, 3) := by decide +kernel
theorem dX8_init_13 : decode cX8_init 13 = .ok (.aload_n 0, 1) := by decide +kernel
theorem dX8_init_14 : decode cX8_init 14 = .ok (.sipush 6162, 3) := by decide +kernel
theorem dX8_init_17 : decode cX8_init 17 = .ok (.newarray .int, 2) := by decide +kernel
theorem dX8_init_19 : decode cX8_init 19 = .ok (.putfield 13, 3) := by decide +kernel
theorem dX8_init_22 : decode cX8_init 22 = .ok (.aload_n 0, 1) := by decide +kernel
theorem dX8_init_23 : decode cX8_init 23 = .ok (.sipush 512, 3) := by decide +kernel
theorem dX8_init_26 : decode cX8_init 26 = .ok (.newarray .int, 2) := by decide +kernel
theorem dX8_init_28 : decode cX8_init 28 = .ok (.putfield 16, 3) := by decide +kernel
theorem dX8_init_31 : decode cX8_init 31 = .ok (.aload_n 0, 1) := by decide +kernel
theorem dX8_init_32 : decode cX8_init 32 = .ok (.bipush 60, 2) := by decide +kernel
theorem dX8_init_34 : decode cX8_init 34 = .ok (.newarray .int, 2) := by decide +kernel
theorem dX8_init_36 : decode cX8_init 36 = .ok (.putfield 19, 3) := by decide +kernel
theorem dX8_init_39 : decode cX8_init 39 = .ok (.aload_n 0, 1) := by decide +kernel
theorem dX8_init_40 : decode cX8_init 40 = .ok (.bipush 60, 2) := by decide +kernel
theorem dX8_init_42 : decode cX8_init 42 = .ok (.newarray .int, 2) := by decide +kernel
theorem dX8_init_44 : decode cX8_init 44 = .ok (.putfield 22, 3) := by decide +kernel
theorem dX8_init_47 : decode cX8_init 47 = .ok (.aload_n 0, 1) := by decide +kernel
theorem dX8_init_48 : decode cX8_init 48 = .ok (.getfield 7, 3) := by decide +kernel
theorem dX8_init_51 : decode cX8_init 51 = .ok (.iconst 0, 1) := by decide +kernel
theorem dX8_init_52 : decode cX8_init 52 = .ok (.iconst 4, 1) := by decide +kernel
theorem dX8_init_53 : decode cX8_init 53 = .ok (.iastore, 1) := by decide +kernel
theorem dX8_init_54 : decode cX8_init 54 = .ok (.aload_n 0, 1) := by decide +kernel
theorem dX8_init_55 : decode cX8_init 55 = .ok (.getfield 7, 3) := by decide +kernel
theorem dX8_init_58 : decode cX8_init 58 = .ok (.iconst 1, 1) := by decide +kernel
theorem dX8_init_59 : decode cX8_init 59 = .ok (.iconst 2, 1) := by decide +kernel
theorem dX8_init_60 : decode cX8_init 60 = .ok (.iastore, 1) := by decide +kernel
theorem dX8_init_61 : decode cX8_init 61 = .ok (.aload_n 0, 1) := by decide +kernel
theorem dX8_init_62 : decode cX8_init 62 = .ok (.getfield 7, 3) := by decide +kernel
theorem dX8_init_65 : decode cX8_init 65 = .ok (.iconst 2, 1) := by decide +kernel
theorem dX8_init_66 : decode cX8_init 66 = .ok (.iconst 4, 1) := by decide +kernel
theorem dX8_init_67 : decode cX8_init 67 = .ok (.iastore, 1) := by decide +kernel
theorem dX8_init_68 : decode cX8_init 68 = .ok (.return_, 1) := by decide +kernel
theorem dX8_thrown_0 : decode cX8_thrown 0 = .ok (.aload_n 0, 1) := by decide +kernel
theorem dX8_thrown_1 : decode cX8_thrown 1 = .ok (.getfield 25, 3) := by decide +kernel
theorem dX8_thrown_4 : decode cX8_thrown 4 = .ok (.ireturn, 1) := by decide +kernel
theorem dX8_in_0 : decode cX8_in 0 = .ok (.iload_n 0, 1) := by decide +kernel
theorem dX8_in_1 : decode cX8_in 1 = .ok (.iload_n 1, 1) := by decide +kernel
theorem dX8_in_2 : decode cX8_in 2 = .ok (.if_icmp .lt 12, 3) := by decide +kernel
theorem dX8_in_5 : decode cX8_in 5 = .ok (.iload_n 0, 1) := by decide +kernel
theorem dX8_in_6 : decode cX8_in 6 = .ok (.iload_n 2, 1) := by decide +kernel
theorem dX8_in_7 : decode cX8_in 7 = .ok (.if_icmp .gt 7, 3) := by decide +kernel
theorem dX8_in_10 : decode cX8_in 10 = .ok (.iconst 1, 1) := by decide +kernel
theorem dX8_in_11 : decode cX8_in 11 = .ok (.goto 4, 3) := by decide +kernel
theorem dX8_in_14 : decode cX8_in 14 = .ok (.iconst 0, 1) := by decide +kernel
theorem dX8_in_15 : decode cX8_in 15 = .ok (.ireturn, 1) := by decide +kernel
theorem dX8_isCoordinate_0 : decode cX8_isCoordinate 0 = .ok (.iload_n 1, 1) := by decide +kernel
theorem dX8_isCoordinate_1 : decode cX8_isCoordinate 1 = .ok (.ifCond .lt 17, 3) := by decide +kernel
theorem dX8_isCoordinate_4 : decode cX8_isCoordinate 4 = .ok (.iload_n 1, 1) := by decide +kernel
theorem dX8_isCoordinate_5 : decode cX8_isCoordinate 5 = .ok (.aload_n 0, 1) := by decide +kernel
theorem dX8_isCoordinate_6 : decode cX8_isCoordinate 6 = .ok (.getfield 7, 3) := by decide +kernel
theorem dX8_isCoordinate_9 : decode cX8_isCoordinate 9 = .ok (.iconst 0, 1) := by decide +kernel
theorem dX8_isCoordinate_10 : decode cX8_isCoordinate 10 = .ok (.iaload, 1) := by decide +kernel
theorem dX8_isCoordinate_11 : decode cX8_isCoordinate 11 = .ok (.if_icmp .ge 7, 3) := by decide +kernel
theorem dX8_isCoordinate_14 : decode cX8_isCoordinate 14 = .ok (.iconst 1, 1) := by decide +kernel
theorem dX8_isCoordinate_15 : decode cX8_isCoordinate 15 = .ok (.goto 4, 3) := by decide +kernel
theorem dX8_isCoordinate_18 : decode cX8_isCoordinate 18 = .ok (.iconst 0, 1) := by decide +kernel
theorem dX8_isCoordinate_19 : decode cX8_isCoordinate 19 = .ok (.ireturn, 1) := by decide +kernel
set_option maxRecDepth 20000 in
theorem ggX8_isPoint_X8_isCoordinate : GoodIn wsX8_isPoint wsX8_isCoordinate := goodIn_r _ [5, 6, 7, 8, 9, 10, 11, 12, 13, 14, 15, 16, 17, 18] (by decide +kernel) (by decide +kernel)
set_option maxRecDepth 20000 in
theorem gX8_isPoint_X8_isCoordinate : GoodIn wsX8_isPoint (wsV RX8 29 RX8 yX8_isCoordinate wsX8_isCoordinate) := goodIn_app (goodIn_of _ (by decide +kernel)) ggX8_isPoint_X8_isCoordinate
theorem dX8_isPoint_0 : decode cX8_isPoint 0 = .ok (.aload_n 0, 1) := by decide +kernel
theorem dX8_isPoint_1 : decode cX8_isPoint 1 = .ok (.iload_n 1, 1) := by decide +kernel
theorem dX8_isPoint_2 : decode cX8_isPoint 2 = .ok (.invokevirtual 29, 3) := by decide +kernel
theorem dX8_isPoint_5 : decode cX8_isPoint 5 = .ok (.ifCond .eq 23, 3) := by decide +kernel
theorem dX8_isPoint_8 : decode cX8_isPoint 8 = .ok (.aload_n 0, 1) := by decide +kernel
theorem dX8_isPoint_9 : decode cX8_isPoint 9 = .ok (.iload_n 2, 1) := by decide +kernel
theorem dX8_isPoint_10 : decode cX8_isPoint 10 = .ok (.invokevirtual 29, 3) := by decide +kernel
theorem dX8_isPoint_13 : decode cX8_isPoint 13 = .ok (.ifCond .eq 15, 3) := by decide +kernel
theorem dX8_isPoint_16 : decode cX8_isPoint 16 = .ok (.aload_n 0, 1) := by decide +kernel
theorem dX8_isPoint_17 : decode cX8_isPoint 17 = .ok (.iload_n 3, 1) := by decide +kernel
theorem dX8_isPoint_18 : decode cX8_isPoint 18 = .ok (.invokevirtual 29, 3) := by decide +kernel
theorem dX8_isPoint_21 : decode cX8_isPoint 21 = .ok (.ifCond .eq 7, 3) := by decide +kernel
theorem dX8_isPoint_24 : decode cX8_isPoint 24 = .ok (.iconst 1, 1) := by decide +kernel
theorem dX8_isPoint_25 : decode cX8_isPoint 25 = .ok (.goto 4, 3) := by decide +kernel
theorem dX8_isPoint_28 : decode cX8_isPoint 28 = .ok (.iconst 0, 1) := by decide +kernel
theorem dX8_isPoint_29 : decode cX8_isPoint 29 = .ok (.ireturn, 1) := by decide +kernel
set_option maxRecDepth 20000 in
theorem ggX8_isAxis_X8_in : GoodIn wsX8_isAxis wsX8_in := goodIn_r _ [4] (by decide +kernel) (by decide +kernel)
set_option maxRecDepth 20000 in
theorem gX8_isAxis_X8_in : GoodIn wsX8_isAxis (va_wsS RX8 33 yX8_in wsX8_in) := goodIn_app (goodIn_of _ (by decide +kernel)) ggX8_isAxis_X8_in
theorem dX8_isAxis_0 : decode cX8_isAxis 0 = .ok (.iload_n 0, 1) := by decide +kernel
theorem dX8_isAxis_1 : decode cX8_isAxis 1 = .ok (.iconst 0, 1) := by decide +kernel
theorem dX8_isAxis_2 : decode cX8_isAxis 2 = .ok (.iconst 2, 1) := by decide +kernel
theorem dX8_isAxis_3 : decode cX8_isAxis 3 = .ok (.invokestatic 33, 3) := by decide +kernel
theorem dX8_isAxis_6 : decode cX8_isAxis 6 = .ok (.ireturn, 1) := by decide +kernel
set_option maxRecDepth 20000 in
theorem ggX8_isNumber_X8_in : GoodIn wsX8_isNumber wsX8_in := goodIn_r _ [4] (by decide +kernel) (by decide +kernel)
set_option maxRecDepth 20000 in
theorem gX8_isNumber_X8_in : GoodIn wsX8_isNumber (va_wsS RX8 33 yX8_in wsX8_in) := goodIn_app (goodIn_of _ (by decide +kernel)) ggX8_isNumber_X8_in
theorem dX8_isNumber_0 : decode cX8_isNumber 0 = .ok (.iload_n 0, 1) := by decide +kernel
theorem dX8_isNumber_1 : decode cX8_isNumber 1 = .ok (.sipush (-999), 3) := by decide +kernel
theorem dX8_isNumber_4 : decode cX8_isNumber 4 = .ok (.sipush 999, 3) := by decide +kernel
theorem dX8_isNumber_7 : decode cX8_isNumber 7 = .ok (.invokestatic 33, 3) := by decide +kernel
theorem dX8_isNumber_10 : decode cX8_isNumber 10 = .ok (.ireturn, 1) := by decide +kernel
theorem dX8_place_0 : decode cX8_place 0 = .ok (.iload_n 0, 1) := by decide +kernel
theorem dX8_place_1 : decode cX8_place 1 = .ok (.bipush 8, 2) := by decide +kernel
theorem dX8_place_3 : decode cX8_place 3 = .ok (.iload_n 1, 1) := by decide +kernel
theorem dX8_place_4 : decode cX8_place 4 = .ok (.imul, 1) := by decide +kernel
theorem dX8_place_5 : decode cX8_place 5 = .ok (.iadd, 1) := by decide +kernel
theorem dX8_place_6 : decode cX8_place 6 = .ok (.bipush 64, 2) := by decide +kernel
theorem dX8_place_8 : decode cX8_place 8 = .ok (.iload_n 2, 1) := by decide +kernel
theorem dX8_place_9 : decode cX8_place 9 = .ok (.imul, 1) := by decide +kernel
theorem dX8_place_10 : decode cX8_place 10 = .ok (.iadd, 1) := by decide +kernel
theorem dX8_place_11 : decode cX8_place 11 = .ok (.ireturn, 1) := by decide +kernel
set_option maxRecDepth 20000 in
theorem ggX8_placeBy_X8_place : GoodIn wsX8_placeBy wsX8_place := goodIn_r _ [4] (by decide +kernel) (by decide +kernel)
set_option maxRecDepth 20000 in
theorem gX8_placeBy_X8_place : GoodIn wsX8_placeBy (va_wsS RX8 37 yX8_place wsX8_place) := goodIn_app (goodIn_of _ (by decide +kernel)) ggX8_placeBy_X8_place
theorem dX8_placeBy_0 : decode cX8_placeBy 0 = .ok (.iload_n 0, 1) := by decide +kernel
theorem dX8_placeBy_1 : decode cX8_placeBy 1 = .ok (.ifCond .ne 12, 3) := by decide +kernel
theorem dX8_placeBy_4 : decode cX8_placeBy 4 = .ok (.iload_n 1, 1) := by decide +kernel
theorem dX8_placeBy_5 : decode cX8_placeBy 5 = .ok (.iload_n 2, 1) := by decide +kernel
theorem dX8_placeBy_6 : decode cX8_placeBy 6 = .ok (.iload_n 3, 1) := by decide +kernel
theorem dX8_placeBy_7 : decode cX8_placeBy 7 = .ok (.invokestatic 37, 3) := by decide +kernel
theorem dX8_placeBy_10 : decode cX8_placeBy 10 = .ok (.goto 23, 3) := by decide +kernel
theorem dX8_placeBy_13 : decode cX8_placeBy 13 = .ok (.iload_n 0, 1) := by decide +kernel
theorem dX8_placeBy_14 : decode cX8_placeBy 14 = .ok (.iconst 1, 1) := by decide +kernel
theorem dX8_placeBy_15 : decode cX8_placeBy 15 = .ok (.if_icmp .ne 12, 3) := by decide +kernel
theorem dX8_placeBy_18 : decode cX8_placeBy 18 = .ok (.iload_n 2, 1) := by decide +kernel
theorem dX8_placeBy_19 : decode cX8_placeBy 19 = .ok (.iload_n 1, 1) := by decide +kernel
theorem dX8_placeBy_20 : decode cX8_placeBy 20 = .ok (.iload_n 3, 1) := by decide +kernel
theorem dX8_placeBy_21 : decode cX8_placeBy 21 = .ok (.invokestatic 37, 3) := by decide +kernel
theorem dX8_placeBy_24 : decode cX8_placeBy 24 = .ok (.goto 9, 3) := by decide +kernel
theorem dX8_placeBy_27 : decode cX8_placeBy 27 = .ok (.iload_n 2, 1) := by decide +kernel
theorem dX8_placeBy_28 : decode cX8_placeBy 28 = .ok (.iload_n 3, 1) := by decide +kernel
theorem dX8_placeBy_29 : decode cX8_placeBy 29 = .ok (.iload_n 1, 1) := by decide +kernel
theorem dX8_placeBy_30 : decode cX8_placeBy 30 = .ok (.invokestatic 37, 3) := by decide +kernel
theorem dX8_placeBy_33 : decode cX8_placeBy 33 = .ok (.ireturn, 1) := by decide +kernel
set_option maxRecDepth 20000 in
theorem ggX8_numberBy_X8_placeBy : GoodIn wsX8_numberBy wsX8_placeBy := goodIn_r _ [5, 6, 7, 4, 8] (by decide +kernel) (by decide +kernel)
set_option maxRecDepth 20000 in
theorem gX8_numberBy_X8_placeBy : GoodIn wsX8_numberBy (va_wsS RX8 41 yX8_placeBy wsX8_placeBy) := goodIn_app (goodIn_of _ (by decide +kernel)) ggX8_numberBy_X8_placeBy
theorem dX8_numberBy_0 : decode cX8_numberBy 0 = .ok (.aload_n 0, 1) := by decide +kernel
theorem dX8_numberBy_1 : decode cX8_numberBy 1 = .ok (.getfield 7, 3) := by decide +kernel
theorem dX8_numberBy_4 : decode cX8_numberBy 4 = .ok (.iconst 3, 1) := by decide +kernel
theorem dX8_numberBy_5 : decode cX8_numberBy 5 = .ok (.iload_n 1, 1) := by decide +kernel
theorem dX8_numberBy_6 : decode cX8_numberBy 6 = .ok (.iload_n 2, 1) := by decide +kernel
theorem dX8_numberBy_7 : decode cX8_numberBy 7 = .ok (.iload_n 3, 1) := by decide +kernel
theorem dX8_numberBy_8 : decode cX8_numberBy 8 = .ok (.iload 4, 2) := by decide +kernel
theorem dX8_numberBy_10 : decode cX8_numberBy 10 = .ok (.invokestatic 41, 3) := by decide +kernel
theorem dX8_numberBy_13 : decode cX8_numberBy 13 = .ok (.iadd, 1) := by decide +kernel
theorem dX8_numberBy_14 : decode cX8_numberBy 14 = .ok (.iaload, 1) := by decide +kernel
theorem dX8_numberBy_15 : decode cX8_numberBy 15 = .ok (.ireturn, 1) := by decide +kernel
theorem dX8_save_0 : decode cX8_save 0 = .ok (.aload_n 0, 1) := by decide +kernel
theorem dX8_save_1 : decode cX8_save 1 = .ok (.getfield 45, 3) := by decide +kernel
theorem dX8_save_4 : decode cX8_save 4 = .ok (.bipush 6, 2) := by decide +kernel
theorem dX8_save_6 : decode cX8_save 6 = .ok (.if_icmp .ne 44, 3) := by decide +kernel
theorem dX8_save_9 : decode cX8_save 9 = .ok (.iconst 0, 1) := by decide +kernel
theorem dX8_save_10 : decode cX8_save 10 = .ok (.istore_n 1, 1) := by decide +kernel
theorem dX8_save_11 : decode cX8_save 11 = .ok (.iload_n 1, 1) := by decide +kernel
theorem dX8_save_12 : decode cX8_save 12 = .ok (.sipush 5135, 3) := by decide +kernel
theorem dX8_save_15 : decode cX8_save 15 = .ok (.if_icmp .ge 25, 3) := by decide +kernel
theorem dX8_save_18 : decode cX8_save 18 = .ok (.aload_n 0, 1) := by decide +kernel
theorem dX8_save_19 : decode cX8_save 19 = .ok (.getfield 13, 3) := by decide +kernel
theorem dX8_save_22 : decode cX8_save 22 = .ok (.iload_n 1, 1) := by decide +kernel
theorem dX8_save_23 : decode cX8_save 23 = .ok (.aload_n 0, 1) := by decide +kernel
theorem dX8_save_24 : decode cX8_save 24 = .ok (.getfield 13, 3) := by decide +kernel
theorem dX8_save_27 : decode cX8_save 27 = .ok (.iload_n 1, 1) := by decide +kernel
theorem dX8_save_28 : decode cX8_save 28 = .ok (.sipush 1027, 3) := by decide +kernel
theorem dX8_save_31 : decode cX8_save 31 = .ok (.iadd, 1) := by decide +kernel
theorem dX8_save_32 : decode cX8_save 32 = .ok (.iaload, 1) := by decide +kernel
theorem dX8_save_33 : decode cX8_save 33 = .ok (.iastore, 1) := by decide +kernel
theorem dX8_save_34 : decode cX8_save 34 = .ok (.iinc 1 1, 3) := by decide +kernel
theorem dX8_save_37 : decode cX8_save 37 = .ok (.goto (-26), 3) := by decide +kernel
theorem dX8_save_40 : decode cX8_save 40 = .ok (.aload_n 0, 1) := by decide +kernel
theorem dX8_save_41 : decode cX8_save 41 = .ok (.dup, 1) := by decide +kernel
theorem dX8_save_42 : decode cX8_save 42 = .ok (.getfield 45, 3) := by decide +kernel
theorem dX8_save_45 : decode cX8_save 45 = .ok (.iconst 1, 1) := by decide +kernel
theorem dX8_save_46 : decode cX8_save 46 = .ok (.isub, 1) := by decide +kernel
theorem dX8_save_47 : decode cX8_save 47 = .ok (.putfield 45, 3) := by decide +kernel
theorem dX8_save_50 : decode cX8_save 50 = .ok (.iconst 0, 1) := by decide +kernel
theorem dX8_save_51 : decode cX8_save 51 = .ok (.istore_n 1, 1) := by decide +kernel
theorem dX8_save_52 : decode cX8_save 52 = .ok (.iload_n 1, 1) := by decide +kernel
theorem dX8_save_53 : decode cX8_save 53 = .ok (.sipush 1027, 3) := by decide +kernel
theorem dX8_save_56 : decode cX8_save 56 = .ok (.if_icmp .ge 30, 3) := by decide +kernel
theorem dX8_save_59 : decode cX8_save 59 = .ok (.aload_n 0, 1) := by decide +kernel
theorem dX8_save_60 : decode cX8_save 60 = .ok (.getfield 13, 3) := by decide +kernel
theorem dX8_save_63 : decode cX8_save 63 = .ok (.aload_n 0, 1) := by decide +kernel
theorem dX8_save_64 : decode cX8_save 64 = .ok (.getfield 45, 3) := by decide +kernel
theorem dX8_save_67 : decode cX8_save 67 = .ok (.sipush 1027, 3) := by decide +kernel
theorem dX8_save_70 : decode cX8_save 70 = .ok (.imul, 1) := by decide +kernel
theorem dX8_save_71 : decode cX8_save 71 = .ok (.iload_n 1, 1) := by decide +kernel
theorem dX8_save_72 : decode cX8_save 72 = .ok (.iadd, 1) := by decide +kernel
theorem dX8_save_73 : decode cX8_save 73 = .ok (.aload_n 0, 1) := by decide +kernel
theorem dX8_save_74 : decode cX8_save 74 = .ok (.getfield 7, 3) := by decide +kernel
theorem dX8_save_77 : decode cX8_save 77 = .ok (.iload_n 1, 1) := by decide +kernel
theorem dX8_save_78 : decode cX8_save 78 = .ok (.iaload, 1) := by decide +kernel
theorem dX8_save_79 : decode cX8_save 79 = .ok (.iastore, 1) := by decide +kernel
theorem dX8_save_80 : decode cX8_save 80 = .ok (.iinc 1 1, 3) := by decide +kernel
theorem dX8_save_83 : decode cX8_save 83 = .ok (.goto (-31), 3) := by decide +kernel
theorem dX8_save_86 : decode cX8_save 86 = .ok (.aload_n 0, 1) := by decide +kernel
theorem dX8_save_87 : decode cX8_save 87 = .ok (.dup, 1) := by decide +kernel
theorem dX8_save_88 : decode cX8_save 88 = .ok (.getfield 45, 3) := by decide +kernel
theorem dX8_save_91 : decode cX8_save 91 = .ok (.iconst 1, 1) := by decide +kernel
theorem dX8_save_92 : decode cX8_save 92 = .ok (.iadd, 1) := by decide +kernel
theorem dX8_save_93 : decode cX8_save 93 = .ok (.putfield 45, 3) := by decide +kernel
theorem dX8_save_96 : decode cX8_save 96 = .ok (.return_, 1) := by decide +kernel
theorem dX8_undo_0 : decode cX8_undo 0 = .ok (.aload_n 0, 1) := by decide +kernel
theorem dX8_undo_1 : decode cX8_undo 1 = .ok (.aload_n 0, 1) := by decide +kernel
theorem dX8_undo_2 : decode cX8_undo 2 = .ok (.getfield 45, 3) := by decide +kernel
theorem dX8_undo_5 : decode cX8_undo 5 = .ok (.ifCond .ne 7, 3) := by decide +kernel
theorem dX8_undo_8 : decode cX8_undo 8 = .ok (.iconst 1, 1) := by decide +kernel
theorem dX8_undo_9 : decode cX8_undo 9 = .ok (.goto 4, 3) := by decide +kernel
theorem dX8_undo_12 : decode cX8_undo 12 = .ok (.iconst 0, 1) := by decide +kernel
theorem dX8_undo_13 : decode cX8_undo 13 = .ok (.putfield 25, 3) := by decide +kernel
theorem dX8_undo_16 : decode cX8_undo 16 = .ok (.aload_n 0, 1) := by decide +kernel
theorem dX8_undo_17 : decode cX8_undo 17 = .ok (.getfield 25, 3) := by decide +kernel
theorem dX8_undo_20 : decode cX8_undo 20 = .ok (.ifCond .le 5, 3) := by decide +kernel
theorem dX8_undo_23 : decode cX8_undo 23 = .ok (.iconst 0, 1) := by decide +kernel
theorem dX8_undo_24 : decode cX8_undo 24 = .ok (.ireturn, 1) := by decide +kernel
theorem dX8_undo_25 : decode cX8_undo 25 = .ok (.aload_n 0, 1) := by decide +kernel
theorem dX8_undo_26 : decode cX8_undo 26 = .ok (.dup, 1) := by decide +kernel
theorem dX8_undo_27 : decode cX8_undo 27 = .ok (.getfield 45, 3) := by decide +kernel
theorem dX8_undo_30 : decode cX8_undo 30 = .ok (.iconst 1, 1) := by decide +kernel
theorem dX8_undo_31 : decode cX8_undo 31 = .ok (.isub, 1) := by decide +kernel
theorem dX8_undo_32 : decode cX8_undo 32 = .ok (.putfield 45, 3) := by decide +kernel
theorem dX8_undo_35 : decode cX8_undo 35 = .ok (.iconst 0, 1) := by decide +kernel
theorem dX8_undo_36 : decode cX8_undo 36 = .ok (.istore_n 1, 1) := by decide +kernel
theorem dX8_undo_37 : decode cX8_undo 37 = .ok (.iload_n 1, 1) := by decide +kernel
theorem dX8_undo_38 : decode cX8_undo 38 = .ok (.sipush 1027, 3) := by decide +kernel
theorem dX8_undo_41 : decode cX8_undo 41 = .ok (.if_icmp .ge 30, 3) := by decide +kernel
theorem dX8_undo_44 : decode cX8_undo 44 = .ok (.aload_n 0, 1) := by decide +kernel
theorem dX8_undo_45 : decode cX8_undo 45 = .ok (.getfield 7, 3) := by decide +kernel
theorem dX8_undo_48 : decode cX8_undo 48 = .ok (.iload_n 1, 1) := by decide +kernel
theorem dX8_undo_49 : decode cX8_undo 49 = .ok (.aload_n 0, 1) := by decide +kernel
theorem dX8_undo_50 : decode cX8_undo 50 = .ok (.getfield 13, 3) := by decide +kernel
theorem dX8_undo_53 : decode cX8_undo 53 = .ok (.aload_n 0, 1) := by decide +kernel
theorem dX8_undo_54 : decode cX8_undo 54 = .ok (.getfield 45, 3) := by decide +kernel
theorem dX8_undo_57 : decode cX8_undo 57 = .ok (.sipush 1027, 3) := by decide +kernel
theorem dX8_undo_60 : decode cX8_undo 60 = .ok (.imul, 1) := by decide +kernel
theorem dX8_undo_61 : decode cX8_undo 61 = .ok (.iload_n 1, 1) := by decide +kernel
theorem dX8_undo_62 : decode cX8_undo 62 = .ok (.iadd, 1) := by decide +kernel
theorem dX8_undo_63 : decode cX8_undo 63 = .ok (.iaload, 1) := by decide +kernel
theorem dX8_undo_64 : decode cX8_undo 64 = .ok (.iastore, 1) := by decide +kernel
theorem dX8_undo_65 : decode cX8_undo 65 = .ok (.iinc 1 1, 3) := by decide +kernel
theorem dX8_undo_68 : decode cX8_undo 68 = .ok (.goto (-31), 3) := by decide +kernel
theorem dX8_undo_71 : decode cX8_undo 71 = .ok (.aload_n 0, 1) := by decide +kernel
theorem dX8_undo_72 : decode cX8_undo 72 = .ok (.getfield 45, 3) := by decide +kernel
theorem dX8_undo_75 : decode cX8_undo 75 = .ok (.ireturn, 1) := by decide +kernel
set_option maxRecDepth 20000 in
theorem ggX8_numberAt_X8_numberBy : GoodIn wsX8_numberAt wsX8_numberBy := goodIn_r _ [6, 1, 7, 8, 5, 9, 10, 11, 12, 13, 14, 15, 16, 17, 18, 19, 20, 21, 22, 23, 24] (by decide +kernel) (by decide +kernel)
set_option maxRecDepth 20000 in
theorem gX8_numberAt_X8_numberBy : GoodIn wsX8_numberAt (wsV RX8 48 RX8 yX8_numberBy wsX8_numberBy) := goodIn_app (goodIn_of _ (by decide +kernel)) ggX8_numberAt_X8_numberBy
theorem dX8_numberAt_0 : decode cX8_numberAt 0 = .ok (.aload_n 0, 1) := by decide +kernel
theorem dX8_numberAt_1 : decode cX8_numberAt 1 = .ok (.iload_n 1, 1) := by decide +kernel
theorem dX8_numberAt_2 : decode cX8_numberAt 2 = .ok (.iload_n 2, 1) := by decide +kernel
theorem dX8_numberAt_3 : decode cX8_numberAt 3 = .ok (.iload_n 3, 1) := by decide +kernel
theorem dX8_numberAt_4 : decode cX8_numberAt 4 = .ok (.aload_n 0, 1) := by decide +kernel
theorem dX8_numberAt_5 : decode cX8_numberAt 5 = .ok (.getfield 7, 3) := by decide +kernel
theorem dX8_numberAt_8 : decode cX8_numberAt 8 = .ok (.iconst 0, 1) := by decide +kernel
theorem dX8_numberAt_9 : decode cX8_numberAt 9 = .ok (.iaload, 1) := by decide +kernel
theorem dX8_numberAt_10 : decode cX8_numberAt 10 = .ok (.irem, 1) := by decide +kernel
theorem dX8_numberAt_11 : decode cX8_numberAt 11 = .ok (.iload_n 3, 1) := by decide +kernel
theorem dX8_numberAt_12 : decode cX8_numberAt 12 = .ok (.aload_n 0, 1) := by decide +kernel
theorem dX8_numberAt_13 : decode cX8_numberAt 13 = .ok (.getfield 7, 3) := by decide +kernel
theorem dX8_numberAt_16 : decode cX8_numberAt 16 = .ok (.iconst 0, 1) := by decide +kernel
theorem dX8_numberAt_17 : decode cX8_numberAt 17 = .ok (.iaload, 1) := by decide +kernel
theorem dX8_numberAt_18 : decode cX8_numberAt 18 = .ok (.idiv, 1) := by decide +kernel
theorem dX8_numberAt_19 : decode cX8_numberAt 19 = .ok (.invokevirtual 48, 3) := by decide +kernel
theorem dX8_numberAt_22 : decode cX8_numberAt 22 = .ok (.ireturn, 1) := by decide +kernel
theorem dX8_offsets_0 : decode cX8_offsets 0 = .ok (.aload_n 0, 1) := by decide +kernel
theorem dX8_offsets_1 : decode cX8_offsets 1 = .ok (.getfield 7, 3) := by decide +kernel
theorem dX8_offsets_4 : decode cX8_offsets 4 = .ok (.iconst 0, 1) := by decide +kernel
theorem dX8_offsets_5 : decode cX8_offsets 5 = .ok (.iaload, 1) := by decide +kernel
theorem dX8_offsets_6 : decode cX8_offsets 6 = .ok (.aload_n 0, 1) := by decide +kernel
theorem dX8_offsets_7 : decode cX8_offsets 7 = .ok (.getfield 7, 3) := by decide +kernel
theorem dX8_offsets_10 : decode cX8_offsets 10 = .ok (.iconst 0, 1) := by decide +kernel
theorem dX8_offsets_11 : decode cX8_offsets 11 = .ok (.iaload, 1) := by decide +kernel
theorem dX8_offsets_12 : decode cX8_offsets 12 = .ok (.imul, 1) := by decide +kernel
theorem dX8_offsets_13 : decode cX8_offsets 13 = .ok (.ireturn, 1) := by decide +kernel
set_option maxRecDepth 20000 in
theorem ggX8_filled_X8_offsets : GoodIn wsX8_filled wsX8_offsets := goodIn_r _ [5, 6, 21, 22, 23, 24, 25, 26, 27, 28, 29, 30, 31, 32] (by decide +kernel) (by decide +kernel)
set_option maxRecDepth 20000 in
theorem gX8_filled_X8_offsets : GoodIn wsX8_filled (wsV RX8 51 RX8 yX8_offsets wsX8_offsets) := goodIn_app (goodIn_of _ (by decide +kernel)) ggX8_filled_X8_offsets
set_option maxRecDepth 20000 in
theorem ggX8_filled_X8_numberAt : GoodIn wsX8_filled wsX8_numberAt := goodIn_r _ [10, 6, 11, 12, 13, 4, 14, 15, 16, 17, 18, 19, 20, 21, 22, 23, 24, 25, 26, 27, 28, 29, 30, 31, 32] (by decide +kernel) (by decide +kernel)
set_option maxRecDepth 20000 in
theorem gX8_filled_X8_numberAt : GoodIn wsX8_filled (wsV RX8 55 RX8 yX8_numberAt wsX8_numberAt) := goodIn_app (goodIn_of _ (by decide +kernel)) ggX8_filled_X8_numberAt
theorem dX8_filled_0 : decode cX8_filled 0 = .ok (.iconst 0, 1) := by decide +kernel
theorem dX8_filled_1 : decode cX8_filled 1 = .ok (.istore_n 3, 1) := by decide +kernel
theorem dX8_filled_2 : decode cX8_filled 2 = .ok (.iconst 0, 1) := by decide +kernel
theorem dX8_filled_3 : decode cX8_filled 3 = .ok (.istore 4, 2) := by decide +kernel
theorem dX8_filled_5 : decode cX8_filled 5 = .ok (.iload 4, 2) := by decide +kernel
theorem dX8_filled_7 : decode cX8_filled 7 = .ok (.aload_n 0, 1) := by decide +kernel
theorem dX8_filled_8 : decode cX8_filled 8 = .ok (.invokevirtual 51, 3) := by decide +kernel
theorem dX8_filled_11 : decode cX8_filled 11 = .ok (.if_icmp .ge 28, 3) := by decide +kernel
theorem dX8_filled_14 : decode cX8_filled 14 = .ok (.iload_n 3, 1) := by decide +kernel
theorem dX8_filled_15 : decode cX8_filled 15 = .ok (.aload_n 0, 1) := by decide +kernel
theorem dX8_filled_16 : decode cX8_filled 16 = .ok (.iload_n 1, 1) := by decide +kernel
theorem dX8_filled_17 : decode cX8_filled 17 = .ok (.iload_n 2, 1) := by decide +kernel
theorem dX8_filled_18 : decode cX8_filled 18 = .ok (.iload 4, 2) := by decide +kernel
theorem dX8_filled_20 : decode cX8_filled 20 = .ok (.invokevirtual 55, 3) := by decide +kernel
theorem dX8_filled_23 : decode cX8_filled 23 = .ok (.ifCond .ne 7, 3) := by decide +kernel
theorem dX8_filled_26 : decode cX8_filled 26 = .ok (.iconst 0, 1) := by decide +kernel
theorem dX8_filled_27 : decode cX8_filled 27 = .ok (.goto 4, 3) := by decide +kernel
theorem dX8_filled_30 : decode cX8_filled 30 = .ok (.iconst 1, 1) := by decide +kernel
theorem dX8_filled_31 : decode cX8_filled 31 = .ok (.iadd, 1) := by decide +kernel
theorem dX8_filled_32 : decode cX8_filled 32 = .ok (.istore_n 3, 1) := by decide +kernel
theorem dX8_filled_33 : decode cX8_filled 33 = .ok (.iinc 4 1, 3) := by decide +kernel
theorem dX8_filled_36 : decode cX8_filled 36 = .ok (.goto (-31), 3) := by decide +kernel
theorem dX8_filled_39 : decode cX8_filled 39 = .ok (.iload_n 3, 1) := by decide +kernel
theorem dX8_filled_40 : decode cX8_filled 40 = .ok (.ireturn, 1) := by decide +kernel
set_option maxRecDepth 20000 in
theorem ggX8_sumOf_X8_offsets : GoodIn wsX8_sumOf wsX8_offsets := goodIn_r _ [5, 6, 21, 22, 23, 24, 25, 26, 27, 28, 29, 30, 31, 32] (by decide +kernel) (by decide +kernel)
set_option maxRecDepth 20000 in
theorem gX8_sumOf_X8_offsets : GoodIn wsX8_sumOf (wsV RX8 51 RX8 yX8_offsets wsX8_offsets) := goodIn_app (goodIn_of _ (by decide +kernel)) ggX8_sumOf_X8_offsets
set_option maxRecDepth 20000 in
theorem ggX8_sumOf_X8_numberAt : GoodIn wsX8_sumOf wsX8_numberAt := goodIn_r _ [10, 6, 11, 12, 13, 4, 14, 15, 16, 17, 18, 19, 20, 21, 22, 23, 24, 25, 26, 27, 28, 29, 30, 31, 32] (by decide +kernel) (by decide +kernel)
set_option maxRecDepth 20000 in
theorem gX8_sumOf_X8_numberAt : GoodIn wsX8_sumOf (wsV RX8 55 RX8 yX8_numberAt wsX8_numberAt) := goodIn_app (goodIn_of _ (by decide +kernel)) ggX8_sumOf_X8_numberAt
theorem dX8_sumOf_0 : decode cX8_sumOf 0 = .ok (.iconst 0, 1) := by decide +kernel
theorem dX8_sumOf_1 : decode cX8_sumOf 1 = .ok (.istore_n 3, 1) := by decide +kernel
theorem dX8_sumOf_2 : decode cX8_sumOf 2 = .ok (.iconst 0, 1) := by decide +kernel
theorem dX8_sumOf_3 : decode cX8_sumOf 3 = .ok (.istore 4, 2) := by decide +kernel
theorem dX8_sumOf_5 : decode cX8_sumOf 5 = .ok (.iload 4, 2) := by decide +kernel
theorem dX8_sumOf_7 : decode cX8_sumOf 7 = .ok (.aload_n 0, 1) := by decide +kernel
theorem dX8_sumOf_8 : decode cX8_sumOf 8 = .ok (.invokevirtual 51, 3) := by decide +kernel
theorem dX8_sumOf_11 : decode cX8_sumOf 11 = .ok (.if_icmp .ge 20, 3) := by decide +kernel
theorem dX8_sumOf_14 : decode cX8_sumOf 14 = .ok (.iload_n 3, 1) := by decide +kernel
theorem dX8_sumOf_15 : decode cX8_sumOf 15 = .ok (.aload_n 0, 1) := by decide +kernel
theorem dX8_sumOf_16 : decode cX8_sumOf 16 = .ok (.iload_n 1, 1) := by decide +kernel
theorem dX8_sumOf_17 : decode cX8_sumOf 17 = .ok (.iload_n 2, 1) := by decide +kernel
theorem dX8_sumOf_18 : decode cX8_sumOf 18 = .ok (.iload 4, 2) := by decide +kernel
theorem dX8_sumOf_20 : decode cX8_sumOf 20 = .ok (.invokevirtual 55, 3) := by decide +kernel
theorem dX8_sumOf_23 : decode cX8_sumOf 23 = .ok (.iadd, 1) := by decide +kernel
theorem dX8_sumOf_24 : decode cX8_sumOf 24 = .ok (.istore_n 3, 1) := by decide +kernel
theorem dX8_sumOf_25 : decode cX8_sumOf 25 = .ok (.iinc 4 1, 3) := by decide +kernel
theorem dX8_sumOf_28 : decode cX8_sumOf 28 = .ok (.goto (-23), 3) := by decide +kernel
theorem dX8_sumOf_31 : decode cX8_sumOf 31 = .ok (.iload_n 3, 1) := by decide +kernel
theorem dX8_sumOf_32 : decode cX8_sumOf 32 = .ok (.ireturn, 1) := by decide +kernel
set_option maxRecDepth 20000 in
theorem ggX8_greatest_X8_offsets : GoodIn wsX8_greatest wsX8_offsets := goodIn_r _ [5, 6, 21, 22, 23, 24, 25, 26, 27, 28, 29, 30, 31, 32] (by decide +kernel) (by decide +kernel)
set_option maxRecDepth 20000 in
theorem gX8_greatest_X8_offsets : GoodIn wsX8_greatest (wsV RX8 51 RX8 yX8_offsets wsX8_offsets) := goodIn_app (goodIn_of _ (by decide +kernel)) ggX8_greatest_X8_offsets
set_option maxRecDepth 20000 in
theorem ggX8_greatest_X8_numberAt : GoodIn wsX8_greatest wsX8_numberAt := goodIn_r _ [10, 6, 11, 12, 13, 4, 14, 15, 16, 17, 18, 19, 20, 21, 22, 23, 24, 25, 26, 27, 28, 29, 30, 31, 32] (by decide +kernel) (by decide +kernel)
set_option maxRecDepth 20000 in
theorem gX8_greatest_X8_numberAt : GoodIn wsX8_greatest (wsV RX8 55 RX8 yX8_numberAt wsX8_numberAt) := goodIn_app (goodIn_of _ (by decide +kernel)) ggX8_greatest_X8_numberAt
theorem dX8_greatest_0 : decode cX8_greatest 0 = .ok (.sipush (-999), 3) := by decide +kernel
theorem dX8_greatest_3 : decode cX8_greatest 3 = .ok (.istore_n 3, 1) := by decide +kernel
theorem dX8_greatest_4 : decode cX8_greatest 4 = .ok (.iconst 0, 1) := by decide +kernel
theorem dX8_greatest_5 : decode cX8_greatest 5 = .ok (.istore 4, 2) := by decide +kernel
theorem dX8_greatest_7 : decode cX8_greatest 7 = .ok (.iload 4, 2) := by decide +kernel
theorem dX8_greatest_9 : decode cX8_greatest 9 = .ok (.aload_n 0, 1) := by decide +kernel
theorem dX8_greatest_10 : decode cX8_greatest 10 = .ok (.invokevirtual 51, 3) := by decide +kernel
theorem dX8_greatest_13 : decode cX8_greatest 13 = .ok (.if_icmp .ge 34, 3) := by decide +kernel
theorem dX8_greatest_16 : decode cX8_greatest 16 = .ok (.aload_n 0, 1) := by decide +kernel
theorem dX8_greatest_17 : decode cX8_greatest 17 = .ok (.iload_n 1, 1) := by decide +kernel
theorem dX8_greatest_18 : decode cX8_greatest 18 = .ok (.iload_n 2, 1) := by decide +kernel
theorem dX8_greatest_19 : decode cX8_greatest 19 = .ok (.iload 4, 2) := by decide +kernel
theorem dX8_greatest_21 : decode cX8_greatest 21 = .ok (.invokevirtual 55, 3) := by decide +kernel
theorem dX8_greatest_24 : decode cX8_greatest 24 = .ok (.iload_n 3, 1) := by decide +kernel
theorem dX8_greatest_25 : decode cX8_greatest 25 = .ok (.if_icmp .le 14, 3) := by decide +kernel
theorem dX8_greatest_28 : decode cX8_greatest 28 = .ok (.aload_n 0, 1) := by decide +kernel
theorem dX8_greatest_29 : decode cX8_greatest 29 = .ok (.iload_n 1, 1) := by decide +kernel
theorem dX8_greatest_30 : decode cX8_greatest 30 = .ok (.iload_n 2, 1) := by decide +kernel
theorem dX8_greatest_31 : decode cX8_greatest 31 = .ok (.iload 4, 2) := by decide +kernel
theorem dX8_greatest_33 : decode cX8_greatest 33 = .ok (.invokevirtual 55, 3) := by decide +kernel
theorem dX8_greatest_36 : decode cX8_greatest 36 = .ok (.goto 4, 3) := by decide +kernel
theorem dX8_greatest_39 : decode cX8_greatest 39 = .ok (.iload_n 3, 1) := by decide +kernel
theorem dX8_greatest_40 : decode cX8_greatest 40 = .ok (.istore_n 3, 1) := by decide +kernel
theorem dX8_greatest_41 : decode cX8_greatest 41 = .ok (.iinc 4 1, 3) := by decide +kernel
theorem dX8_greatest_44 : decode cX8_greatest 44 = .ok (.goto (-37), 3) := by decide +kernel
theorem dX8_greatest_47 : decode cX8_greatest 47 = .ok (.iload_n 3, 1) := by decide +kernel
theorem dX8_greatest_48 : decode cX8_greatest 48 = .ok (.ireturn, 1) := by decide +kernel
set_option maxRecDepth 20000 in
theorem ggX8_form_X8_filled : GoodIn wsX8_form wsX8_filled := goodIn_r _ [6, 7, 8, 9, 5, 10, 1, 11, 12, 13, 14, 15, 16, 17, 18, 19, 20, 21, 22, 23, 24, 25, 26, 27, 28, 29, 30, 31, 32, 33, 34, 35, 36] (by decide +kernel) (by decide +kernel)
set_option maxRecDepth 20000 in
theorem gX8_form_X8_filled : GoodIn wsX8_form (wsV RX8 58 RX8 yX8_filled wsX8_filled) := goodIn_app (goodIn_of _ (by decide +kernel)) ggX8_form_X8_filled
theorem dX8_form_0 : decode cX8_form 0 = .ok (.aload_n 0, 1) := by decide +kernel
theorem dX8_form_1 : decode cX8_form 1 = .ok (.iload_n 1, 1) := by decide +kernel
theorem dX8_form_2 : decode cX8_form 2 = .ok (.iload_n 2, 1) := by decide +kernel
theorem dX8_form_3 : decode cX8_form 3 = .ok (.invokevirtual 58, 3) := by decide +kernel
theorem dX8_form_6 : decode cX8_form 6 = .ok (.istore_n 3, 1) := by decide +kernel
theorem dX8_form_7 : decode cX8_form 7 = .ok (.iload_n 3, 1) := by decide +kernel
theorem dX8_form_8 : decode cX8_form 8 = .ok (.ifCond .ne 7, 3) := by decide +kernel
theorem dX8_form_11 : decode cX8_form 11 = .ok (.iconst 0, 1) := by decide +kernel
theorem dX8_form_12 : decode cX8_form 12 = .ok (.goto 18, 3) := by decide +kernel
theorem dX8_form_15 : decode cX8_form 15 = .ok (.iload_n 3, 1) := by decide +kernel
theorem dX8_form_16 : decode cX8_form 16 = .ok (.aload_n 0, 1) := by decide +kernel
theorem dX8_form_17 : decode cX8_form 17 = .ok (.getfield 7, 3) := by decide +kernel
theorem dX8_form_20 : decode cX8_form 20 = .ok (.iconst 2, 1) := by decide +kernel
theorem dX8_form_21 : decode cX8_form 21 = .ok (.iaload, 1) := by decide +kernel
theorem dX8_form_22 : decode cX8_form 22 = .ok (.if_icmp .gt 7, 3) := by decide +kernel
theorem dX8_form_25 : decode cX8_form 25 = .ok (.iconst 1, 1) := by decide +kernel
theorem dX8_form_26 : decode cX8_form 26 = .ok (.goto 4, 3) := by decide +kernel
theorem dX8_form_29 : decode cX8_form 29 = .ok (.iconst 2, 1) := by decide +kernel
theorem dX8_form_30 : decode cX8_form 30 = .ok (.ireturn, 1) := by decide +kernel
set_option maxRecDepth 20000 in
theorem ggX8_listed_X8_offsets : GoodIn wsX8_listed wsX8_offsets := goodIn_r _ [5, 6, 21, 22, 23, 24, 25, 26, 27, 28, 29, 30, 31, 32] (by decide +kernel) (by decide +kernel)
set_option maxRecDepth 20000 in
theorem gX8_listed_X8_offsets : GoodIn wsX8_listed (wsV RX8 51 RX8 yX8_offsets wsX8_offsets) := goodIn_app (goodIn_of _ (by decide +kernel)) ggX8_listed_X8_offsets
set_option maxRecDepth 20000 in
theorem ggX8_listed_X8_numberAt : GoodIn wsX8_listed wsX8_numberAt := goodIn_r _ [10, 6, 11, 12, 13, 4, 14, 15, 16, 17, 18, 19, 20, 21, 22, 23, 24, 25, 26, 27, 28, 29, 30, 31, 32] (by decide +kernel) (by decide +kernel)
set_option maxRecDepth 20000 in
theorem gX8_listed_X8_numberAt : GoodIn wsX8_listed (wsV RX8 55 RX8 yX8_numberAt wsX8_numberAt) := goodIn_app (goodIn_of _ (by decide +kernel)) ggX8_listed_X8_numberAt
theorem dX8_listed_0 : decode cX8_listed 0 = .ok (.iconst 1, 1) := by decide +kernel
theorem dX8_listed_1 : decode cX8_listed 1 = .ok (.istore_n 3, 1) := by decide +kernel
theorem dX8_listed_2 : decode cX8_listed 2 = .ok (.iconst 0, 1) := by decide +kernel
theorem dX8_listed_3 : decode cX8_listed 3 = .ok (.istore 4, 2) := by decide +kernel
theorem dX8_listed_5 : decode cX8_listed 5 = .ok (.iconst 0, 1) := by decide +kernel
theorem dX8_listed_6 : decode cX8_listed 6 = .ok (.istore 5, 2) := by decide +kernel
theorem dX8_listed_8 : decode cX8_listed 8 = .ok (.iload 5, 2) := by decide +kernel
theorem dX8_listed_10 : decode cX8_listed 10 = .ok (.aload_n 0, 1) := by decide +kernel
theorem dX8_listed_11 : decode cX8_listed 11 = .ok (.invokevirtual 51, 3) := by decide +kernel
theorem dX8_listed_14 : decode cX8_listed 14 = .ok (.if_icmp .ge 53, 3) := by decide +kernel
theorem dX8_listed_17 : decode cX8_listed 17 = .ok (.aload_n 0, 1) := by decide +kernel
theorem dX8_listed_18 : decode cX8_listed 18 = .ok (.iload_n 1, 1) := by decide +kernel
theorem dX8_listed_19 : decode cX8_listed 19 = .ok (.iload_n 2, 1) := by decide +kernel
theorem dX8_listed_20 : decode cX8_listed 20 = .ok (.iload 5, 2) := by decide +kernel
theorem dX8_listed_22 : decode cX8_listed 22 = .ok (.invokevirtual 55, 3) := by decide +kernel
theorem dX8_listed_25 : decode cX8_listed 25 = .ok (.ifCond .eq 7, 3) := by decide +kernel
theorem dX8_listed_28 : decode cX8_listed 28 = .ok (.iconst 1, 1) := by decide +kernel
theorem dX8_listed_29 : decode cX8_listed 29 = .ok (.goto 4, 3) := by decide +kernel
theorem dX8_listed_32 : decode cX8_listed 32 = .ok (.iconst 0, 1) := by decide +kernel
theorem dX8_listed_33 : decode cX8_listed 33 = .ok (.istore 6, 2) := by decide +kernel
theorem dX8_listed_35 : decode cX8_listed 35 = .ok (.iload_n 3, 1) := by decide +kernel
theorem dX8_listed_36 : decode cX8_listed 36 = .ok (.iload 6, 2) := by decide +kernel
theorem dX8_listed_38 : decode cX8_listed 38 = .ok (.ifCond .ne 7, 3) := by decide +kernel
theorem dX8_listed_41 : decode cX8_listed 41 = .ok (.iconst 0, 1) := by decide +kernel
theorem dX8_listed_42 : decode cX8_listed 42 = .ok (.goto 13, 3) := by decide +kernel
theorem dX8_listed_45 : decode cX8_listed 45 = .ok (.iload 4, 2) := by decide +kernel
theorem dX8_listed_47 : decode cX8_listed 47 = .ok (.ifCond .eq 7, 3) := by decide +kernel
theorem dX8_listed_50 : decode cX8_listed 50 = .ok (.iconst 1, 1) := by decide +kernel
theorem dX8_listed_51 : decode cX8_listed 51 = .ok (.goto 4, 3) := by decide +kernel
theorem dX8_listed_54 : decode cX8_listed 54 = .ok (.iconst 2, 1) := by decide +kernel
theorem dX8_listed_55 : decode cX8_listed 55 = .ok (.iadd, 1) := by decide +kernel
theorem dX8_listed_56 : decode cX8_listed 56 = .ok (.istore_n 3, 1) := by decide +kernel
theorem dX8_listed_57 : decode cX8_listed 57 = .ok (.iload 6, 2) := by decide +kernel
theorem dX8_listed_59 : decode cX8_listed 59 = .ok (.istore 4, 2) := by decide +kernel
theorem dX8_listed_61 : decode cX8_listed 61 = .ok (.iinc 5 1, 3) := by decide +kernel
theorem dX8_listed_64 : decode cX8_listed 64 = .ok (.goto (-56), 3) := by decide +kernel
theorem dX8_listed_67 : decode cX8_listed 67 = .ok (.iload_n 3, 1) := by decide +kernel
theorem dX8_listed_68 : decode cX8_listed 68 = .ok (.ireturn, 1) := by decide +kernel
set_option maxRecDepth 20000 in
theorem ggX8_roomOf_X8_form : GoodIn wsX8_roomOf wsX8_form := goodIn_r _ [5, 6, 7, 8, 9, 4, 10, 11, 12, 13, 14, 15, 16, 17, 18, 19, 20, 21, 22, 23, 24, 25, 26, 27, 28, 33, 34, 35, 36, 37, 38, 39, 40, 41, 42, 43, 44] (by decide +kernel) (by decide +kernel)
set_option maxRecDepth 20000 in
theorem gX8_roomOf_X8_form : GoodIn wsX8_roomOf (wsV RX8 62 RX8 yX8_form wsX8_form) := goodIn_app (goodIn_of _ (by decide +kernel)) ggX8_roomOf_X8_form
set_option maxRecDepth 20000 in
theorem ggX8_roomOf_X8_listed : GoodIn wsX8_roomOf wsX8_listed := goodIn_r _ [32, 11, 12, 13, 4, 14, 6, 15, 16, 17, 18, 19, 20, 21, 22, 23, 24, 25, 26, 27, 28, 33, 34, 35, 36, 37, 38, 39, 40, 41, 42, 43, 44] (by decide +kernel) (by decide +kernel)
set_option maxRecDepth 20000 in
theorem gX8_roomOf_X8_listed : GoodIn wsX8_roomOf (wsV RX8 65 RX8 yX8_listed wsX8_listed) := goodIn_app (goodIn_of _ (by decide +kernel)) ggX8_roomOf_X8_listed
set_option maxRecDepth 20000 in
theorem ggX8_roomOf_X8_offsets : GoodIn wsX8_roomOf wsX8_offsets := goodIn_r _ [14, 6, 33, 34, 35, 36, 37, 38, 39, 40, 41, 42, 43, 44] (by decide +kernel) (by decide +kernel)
set_option maxRecDepth 20000 in
theorem gX8_roomOf_X8_offsets : GoodIn wsX8_roomOf (wsV RX8 51 RX8 yX8_offsets wsX8_offsets) := goodIn_app (goodIn_of _ (by decide +kernel)) ggX8_roomOf_X8_offsets
theorem dX8_roomOf_0 : decode cX8_roomOf 0 = .ok (.aload_n 0, 1) := by decide +kernel
theorem dX8_roomOf_1 : decode cX8_roomOf 1 = .ok (.iload_n 1, 1) := by decide +kernel
theorem dX8_roomOf_2 : decode cX8_roomOf 2 = .ok (.iload_n 2, 1) := by decide +kernel
theorem dX8_roomOf_3 : decode cX8_roomOf 3 = .ok (.invokevirtual 62, 3) := by decide +kernel
theorem dX8_roomOf_6 : decode cX8_roomOf 6 = .ok (.istore_n 3, 1) := by decide +kernel
theorem dX8_roomOf_7 : decode cX8_roomOf 7 = .ok (.iload_n 3, 1) := by decide +kernel
theorem dX8_roomOf_8 : decode cX8_roomOf 8 = .ok (.ifCond .ne 7, 3) := by decide +kernel
theorem dX8_roomOf_11 : decode cX8_roomOf 11 = .ok (.iconst 1, 1) := by decide +kernel
theorem dX8_roomOf_12 : decode cX8_roomOf 12 = .ok (.goto 23, 3) := by decide +kernel
theorem dX8_roomOf_15 : decode cX8_roomOf 15 = .ok (.iload_n 3, 1) := by decide +kernel
theorem dX8_roomOf_16 : decode cX8_roomOf 16 = .ok (.iconst 1, 1) := by decide +kernel
theorem dX8_roomOf_17 : decode cX8_roomOf 17 = .ok (.if_icmp .ne 12, 3) := by decide +kernel
theorem dX8_roomOf_20 : decode cX8_roomOf 20 = .ok (.aload_n 0, 1) := by decide +kernel
theorem dX8_roomOf_21 : decode cX8_roomOf 21 = .ok (.iload_n 1, 1) := by decide +kernel
theorem dX8_roomOf_22 : decode cX8_roomOf 22 = .ok (.iload_n 2, 1) := by decide +kernel
theorem dX8_roomOf_23 : decode cX8_roomOf 23 = .ok (.invokevirtual 65, 3) := by decide +kernel
theorem dX8_roomOf_26 : decode cX8_roomOf 26 = .ok (.goto 9, 3) := by decide +kernel
theorem dX8_roomOf_29 : decode cX8_roomOf 29 = .ok (.iconst 1, 1) := by decide +kernel
theorem dX8_roomOf_30 : decode cX8_roomOf 30 = .ok (.aload_n 0, 1) := by decide +kernel
theorem dX8_roomOf_31 : decode cX8_roomOf 31 = .ok (.invokevirtual 51, 3) := by decide +kernel
theorem dX8_roomOf_34 : decode cX8_roomOf 34 = .ok (.iadd, 1) := by decide +kernel
theorem dX8_roomOf_35 : decode cX8_roomOf 35 = .ok (.ireturn, 1) := by decide +kernel
set_option maxRecDepth 20000 in
theorem ggX8_roomBy_X8_form : GoodIn wsX8_roomBy wsX8_form := goodIn_r _ [6, 1, 7, 8, 9, 5, 10, 11, 12, 13, 14, 15, 16, 17, 18, 19, 20, 21, 22, 23, 24, 25, 26, 27, 28, 37, 38, 39, 40, 41, 42, 43, 44, 45, 46, 47, 48] (by decide +kernel) (by decide +kernel)
set_option maxRecDepth 20000 in
theorem gX8_roomBy_X8_form : GoodIn wsX8_roomBy (wsV RX8 62 RX8 yX8_form wsX8_form) := goodIn_app (goodIn_of _ (by decide +kernel)) ggX8_roomBy_X8_form
set_option maxRecDepth 20000 in
theorem ggX8_roomBy_X8_roomOf : GoodIn wsX8_roomBy wsX8_roomOf := goodIn_r _ [32, 2, 3, 4, 5, 6, 1, 7, 8, 9, 10, 11, 12, 13, 14, 15, 16, 17, 18, 19, 20, 21, 22, 23, 24, 25, 26, 27, 28, 33, 34, 35, 36, 37, 38, 39, 40, 41, 42, 43, 44, 45, 46, 47, 48] (by decide +kernel) (by decide +kernel)
set_option maxRecDepth 20000 in
theorem gX8_roomBy_X8_roomOf : GoodIn wsX8_roomBy (wsV RX8 68 RX8 yX8_roomOf wsX8_roomOf) := goodIn_app (goodIn_of _ (by decide +kernel)) ggX8_roomBy_X8_roomOf
theorem dX8_roomBy_0 : decode cX8_roomBy 0 = .ok (.iconst 0, 1) := by decide +kernel
theorem dX8_roomBy_1 : decode cX8_roomBy 1 = .ok (.istore_n 2, 1) := by decide +kernel
theorem dX8_roomBy_2 : decode cX8_roomBy 2 = .ok (.iconst 0, 1) := by decide +kernel
theorem dX8_roomBy_3 : decode cX8_roomBy 3 = .ok (.istore_n 3, 1) := by decide +kernel
theorem dX8_roomBy_4 : decode cX8_roomBy 4 = .ok (.iload_n 3, 1) := by decide +kernel
theorem dX8_roomBy_5 : decode cX8_roomBy 5 = .ok (.aload_n 0, 1) := by decide +kernel
theorem dX8_roomBy_6 : decode cX8_roomBy 6 = .ok (.getfield 7, 3) := by decide +kernel
theorem dX8_roomBy_9 : decode cX8_roomBy 9 = .ok (.iconst 0, 1) := by decide +kernel
theorem dX8_roomBy_10 : decode cX8_roomBy 10 = .ok (.iaload, 1) := by decide +kernel
theorem dX8_roomBy_11 : decode cX8_roomBy 11 = .ok (.if_icmp .ge 58, 3) := by decide +kernel
theorem dX8_roomBy_14 : decode cX8_roomBy 14 = .ok (.iload_n 3, 1) := by decide +kernel
theorem dX8_roomBy_15 : decode cX8_roomBy 15 = .ok (.ifCond .le 27, 3) := by decide +kernel
theorem dX8_roomBy_18 : decode cX8_roomBy 18 = .ok (.aload_n 0, 1) := by decide +kernel
theorem dX8_roomBy_19 : decode cX8_roomBy 19 = .ok (.iload_n 1, 1) := by decide +kernel
theorem dX8_roomBy_20 : decode cX8_roomBy 20 = .ok (.iload_n 3, 1) := by decide +kernel
theorem dX8_roomBy_21 : decode cX8_roomBy 21 = .ok (.invokevirtual 62, 3) := by decide +kernel
theorem dX8_roomBy_24 : decode cX8_roomBy 24 = .ok (.ifCond .ne 18, 3) := by decide +kernel
theorem dX8_roomBy_27 : decode cX8_roomBy 27 = .ok (.aload_n 0, 1) := by decide +kernel
theorem dX8_roomBy_28 : decode cX8_roomBy 28 = .ok (.iload_n 1, 1) := by decide +kernel
theorem dX8_roomBy_29 : decode cX8_roomBy 29 = .ok (.iload_n 3, 1) := by decide +kernel
theorem dX8_roomBy_30 : decode cX8_roomBy 30 = .ok (.iconst 1, 1) := by decide +kernel
theorem dX8_roomBy_31 : decode cX8_roomBy 31 = .ok (.isub, 1) := by decide +kernel
theorem dX8_roomBy_32 : decode cX8_roomBy 32 = .ok (.invokevirtual 62, 3) := by decide +kernel
theorem dX8_roomBy_35 : decode cX8_roomBy 35 = .ok (.ifCond .ne 7, 3) := by decide +kernel
theorem dX8_roomBy_38 : decode cX8_roomBy 38 = .ok (.iconst 1, 1) := by decide +kernel
theorem dX8_roomBy_39 : decode cX8_roomBy 39 = .ok (.goto 4, 3) := by decide +kernel
theorem dX8_roomBy_42 : decode cX8_roomBy 42 = .ok (.iconst 0, 1) := by decide +kernel
theorem dX8_roomBy_43 : decode cX8_roomBy 43 = .ok (.istore 4, 2) := by decide +kernel
theorem dX8_roomBy_45 : decode cX8_roomBy 45 = .ok (.iload_n 2, 1) := by decide +kernel
theorem dX8_roomBy_46 : decode cX8_roomBy 46 = .ok (.iload 4, 2) := by decide +kernel
theorem dX8_roomBy_48 : decode cX8_roomBy 48 = .ok (.ifCond .eq 7, 3) := by decide +kernel
theorem dX8_roomBy_51 : decode cX8_roomBy 51 = .ok (.iconst 0, 1) := by decide +kernel
theorem dX8_roomBy_52 : decode cX8_roomBy 52 = .ok (.goto 9, 3) := by decide +kernel
theorem dX8_roomBy_55 : decode cX8_roomBy 55 = .ok (.aload_n 0, 1) := by decide +kernel
theorem dX8_roomBy_56 : decode cX8_roomBy 56 = .ok (.iload_n 1, 1) := by decide +kernel
theorem dX8_roomBy_57 : decode cX8_roomBy 57 = .ok (.iload_n 3, 1) := by decide +kernel
theorem dX8_roomBy_58 : decode cX8_roomBy 58 = .ok (.invokevirtual 68, 3) := by decide +kernel
theorem dX8_roomBy_61 : decode cX8_roomBy 61 = .ok (.iadd, 1) := by decide +kernel
theorem dX8_roomBy_62 : decode cX8_roomBy 62 = .ok (.istore_n 2, 1) := by decide +kernel
theorem dX8_roomBy_63 : decode cX8_roomBy 63 = .ok (.iinc 3 1, 3) := by decide +kernel
theorem dX8_roomBy_66 : decode cX8_roomBy 66 = .ok (.goto (-62), 3) := by decide +kernel
theorem dX8_roomBy_69 : decode cX8_roomBy 69 = .ok (.iload_n 2, 1) := by decide +kernel
theorem dX8_roomBy_70 : decode cX8_roomBy 70 = .ok (.ireturn, 1) := by decide +kernel
set_option maxRecDepth 20000 in
theorem ggX8_room_X8_roomBy : GoodIn wsX8_room wsX8_roomBy := goodIn_r _ [6, 1, 7, 8, 9, 5, 10, 11, 12, 13, 14, 15, 16, 17, 18, 19, 20, 21, 22, 23, 24, 25, 26, 27, 28, 29, 30, 31, 32, 33, 34, 35, 36, 37, 38, 39, 40, 41, 42, 43, 44, 45, 46, 47, 48, 49, 50, 51, 52] (by decide +kernel) (by decide +kernel)
set_option maxRecDepth 20000 in
theorem gX8_room_X8_roomBy : GoodIn wsX8_room (wsV RX8 71 RX8 yX8_roomBy wsX8_roomBy) := goodIn_app (goodIn_of _ (by decide +kernel)) ggX8_room_X8_roomBy
theorem dX8_room_0 : decode cX8_room 0 = .ok (.aload_n 0, 1) := by decide +kernel
theorem dX8_room_1 : decode cX8_room 1 = .ok (.aload_n 0, 1) := by decide +kernel
theorem dX8_room_2 : decode cX8_room 2 = .ok (.getfield 7, 3) := by decide +kernel
theorem dX8_room_5 : decode cX8_room 5 = .ok (.iconst 1, 1) := by decide +kernel
theorem dX8_room_6 : decode cX8_room 6 = .ok (.iaload, 1) := by decide +kernel
theorem dX8_room_7 : decode cX8_room 7 = .ok (.invokevirtual 71, 3) := by decide +kernel
theorem dX8_room_10 : decode cX8_room 10 = .ok (.ireturn, 1) := by decide +kernel
set_option maxRecDepth 20000 in
theorem ggX8_begin_X8_in : GoodIn wsX8_begin wsX8_in := goodIn_r _ [6] (by decide +kernel) (by decide +kernel)
set_option maxRecDepth 20000 in
theorem gX8_begin_X8_in : GoodIn wsX8_begin (va_wsS RX8 33 yX8_in wsX8_in) := goodIn_app (goodIn_of _ (by decide +kernel)) ggX8_begin_X8_in
set_option maxRecDepth 20000 in
theorem ggX8_begin_X8_save : GoodIn wsX8_begin wsX8_save := goodIn_r _ [10, 11, 12, 2, 13, 14, 15, 16, 17, 18, 19, 20, 21, 22, 23, 24] (by decide +kernel) (by decide +kernel)
set_option maxRecDepth 20000 in
theorem gX8_begin_X8_save : GoodIn wsX8_begin (wsV RX8 75 RX8 yX8_save wsX8_save) := goodIn_app (goodIn_of _ (by decide +kernel)) ggX8_begin_X8_save
theorem dX8_begin_0 : decode cX8_begin 0 = .ok (.aload_n 0, 1) := by decide +kernel
theorem dX8_begin_1 : decode cX8_begin 1 = .ok (.iload_n 1, 1) := by decide +kernel
theorem dX8_begin_2 : decode cX8_begin 2 = .ok (.iconst 2, 1) := by decide +kernel
theorem dX8_begin_3 : decode cX8_begin 3 = .ok (.bipush 8, 2) := by decide +kernel
theorem dX8_begin_5 : decode cX8_begin 5 = .ok (.invokestatic 33, 3) := by decide +kernel
theorem dX8_begin_8 : decode cX8_begin 8 = .ok (.ifCond .eq 7, 3) := by decide +kernel
theorem dX8_begin_11 : decode cX8_begin 11 = .ok (.iconst 0, 1) := by decide +kernel
theorem dX8_begin_12 : decode cX8_begin 12 = .ok (.goto 4, 3) := by decide +kernel
theorem dX8_begin_15 : decode cX8_begin 15 = .ok (.iconst 1, 1) := by decide +kernel
theorem dX8_begin_16 : decode cX8_begin 16 = .ok (.putfield 25, 3) := by decide +kernel
theorem dX8_begin_19 : decode cX8_begin 19 = .ok (.aload_n 0, 1) := by decide +kernel
theorem dX8_begin_20 : decode cX8_begin 20 = .ok (.getfield 25, 3) := by decide +kernel
theorem dX8_begin_23 : decode cX8_begin 23 = .ok (.ifCond .le 5, 3) := by decide +kernel
theorem dX8_begin_26 : decode cX8_begin 26 = .ok (.iconst 0, 1) := by decide +kernel
theorem dX8_begin_27 : decode cX8_begin 27 = .ok (.ireturn, 1) := by decide +kernel
theorem dX8_begin_28 : decode cX8_begin 28 = .ok (.aload_n 0, 1) := by decide +kernel
theorem dX8_begin_29 : decode cX8_begin 29 = .ok (.invokevirtual 75, 3) := by decide +kernel
theorem dX8_begin_32 : decode cX8_begin 32 = .ok (.iconst 3, 1) := by decide +kernel
theorem dX8_begin_33 : decode cX8_begin 33 = .ok (.istore_n 2, 1) := by decide +kernel
theorem dX8_begin_34 : decode cX8_begin 34 = .ok (.iload_n 2, 1) := by decide +kernel
theorem dX8_begin_35 : decode cX8_begin 35 = .ok (.sipush 1027, 3) := by decide +kernel
theorem dX8_begin_38 : decode cX8_begin 38 = .ok (.if_icmp .ge 16, 3) := by decide +kernel
theorem dX8_begin_41 : decode cX8_begin 41 = .ok (.aload_n 0, 1) := by decide +kernel
theorem dX8_begin_42 : decode cX8_begin 42 = .ok (.getfield 7, 3) := by decide +kernel
theorem dX8_begin_45 : decode cX8_begin 45 = .ok (.iload_n 2, 1) := by decide +kernel
theorem dX8_begin_46 : decode cX8_begin 46 = .ok (.iconst 0, 1) := by decide +kernel
theorem dX8_begin_47 : decode cX8_begin 47 = .ok (.iastore, 1) := by decide +kernel
theorem dX8_begin_48 : decode cX8_begin 48 = .ok (.iinc 2 1, 3) := by decide +kernel
theorem dX8_begin_51 : decode cX8_begin 51 = .ok (.goto (-17), 3) := by decide +kernel
theorem dX8_begin_54 : decode cX8_begin 54 = .ok (.aload_n 0, 1) := by decide +kernel
theorem dX8_begin_55 : decode cX8_begin 55 = .ok (.getfield 7, 3) := by decide +kernel
theorem dX8_begin_58 : decode cX8_begin 58 = .ok (.iconst 0, 1) := by decide +kernel
theorem dX8_begin_59 : decode cX8_begin 59 = .ok (.iload_n 1, 1) := by decide +kernel
theorem dX8_begin_60 : decode cX8_begin 60 = .ok (.iastore, 1) := by decide +kernel
theorem dX8_begin_61 : decode cX8_begin 61 = .ok (.iload_n 1, 1) := by decide +kernel
theorem dX8_begin_62 : decode cX8_begin 62 = .ok (.iload_n 1, 1) := by decide +kernel
theorem dX8_begin_63 : decode cX8_begin 63 = .ok (.imul, 1) := by decide +kernel
theorem dX8_begin_64 : decode cX8_begin 64 = .ok (.iload_n 1, 1) := by decide +kernel
theorem dX8_begin_65 : decode cX8_begin 65 = .ok (.imul, 1) := by decide +kernel
theorem dX8_begin_66 : decode cX8_begin 66 = .ok (.ireturn, 1) := by decide +kernel
set_option maxRecDepth 20000 in
theorem ggX8_put_X8_isPoint : GoodIn wsX8_put wsX8_isPoint := goodIn_r _ [7, 8, 9, 10, 6, 11, 2, 27, 28, 29, 30, 31, 32, 33, 34, 35, 36, 37, 38] (by decide +kernel) (by decide +kernel)
set_option maxRecDepth 20000 in
theorem gX8_put_X8_isPoint : GoodIn wsX8_put (wsV RX8 78 RX8 yX8_isPoint wsX8_isPoint) := goodIn_app (goodIn_of _ (by decide +kernel)) ggX8_put_X8_isPoint
set_option maxRecDepth 20000 in
theorem ggX8_put_X8_isNumber : GoodIn wsX8_put wsX8_isNumber := goodIn_r _ [14, 15, 16, 6, 17] (by decide +kernel) (by decide +kernel)
set_option maxRecDepth 20000 in
theorem gX8_put_X8_isNumber : GoodIn wsX8_put (va_wsS RX8 81 yX8_isNumber wsX8_isNumber) := goodIn_app (goodIn_of _ (by decide +kernel)) ggX8_put_X8_isNumber
set_option maxRecDepth 20000 in
theorem ggX8_put_X8_save : GoodIn wsX8_put wsX8_save := goodIn_r _ [21, 22, 23, 2, 27, 28, 29, 30, 31, 32, 33, 34, 35, 36, 37, 38] (by decide +kernel) (by decide +kernel)
set_option maxRecDepth 20000 in
theorem gX8_put_X8_save : GoodIn wsX8_put (wsV RX8 75 RX8 yX8_save wsX8_save) := goodIn_app (goodIn_of _ (by decide +kernel)) ggX8_put_X8_save
set_option maxRecDepth 20000 in
theorem ggX8_put_X8_place : GoodIn wsX8_put wsX8_place := goodIn_r _ [26] (by decide +kernel) (by decide +kernel)
set_option maxRecDepth 20000 in
theorem gX8_put_X8_place : GoodIn wsX8_put (va_wsS RX8 37 yX8_place wsX8_place) := goodIn_app (goodIn_of _ (by decide +kernel)) ggX8_put_X8_place
theorem dX8_put_0 : decode cX8_put 0 = .ok (.aload_n 0, 1) := by decide +kernel
theorem dX8_put_1 : decode cX8_put 1 = .ok (.aload_n 0, 1) := by decide +kernel
theorem dX8_put_2 : decode cX8_put 2 = .ok (.iload_n 1, 1) := by decide +kernel
theorem dX8_put_3 : decode cX8_put 3 = .ok (.iload_n 2, 1) := by decide +kernel
theorem dX8_put_4 : decode cX8_put 4 = .ok (.iload_n 3, 1) := by decide +kernel
theorem dX8_put_5 : decode cX8_put 5 = .ok (.invokevirtual 78, 3) := by decide +kernel
theorem dX8_put_8 : decode cX8_put 8 = .ok (.ifCond .ne 7, 3) := by decide +kernel
theorem dX8_put_11 : decode cX8_put 11 = .ok (.iconst 1, 1) := by decide +kernel
theorem dX8_put_12 : decode cX8_put 12 = .ok (.goto 16, 3) := by decide +kernel
theorem dX8_put_15 : decode cX8_put 15 = .ok (.iload 4, 2) := by decide +kernel
theorem dX8_put_17 : decode cX8_put 17 = .ok (.invokestatic 81, 3) := by decide +kernel
theorem dX8_put_20 : decode cX8_put 20 = .ok (.ifCond .eq 7, 3) := by decide +kernel
theorem dX8_put_23 : decode cX8_put 23 = .ok (.iconst 0, 1) := by decide +kernel
theorem dX8_put_24 : decode cX8_put 24 = .ok (.goto 4, 3) := by decide +kernel
theorem dX8_put_27 : decode cX8_put 27 = .ok (.iconst 2, 1) := by decide +kernel
theorem dX8_put_28 : decode cX8_put 28 = .ok (.putfield 25, 3) := by decide +kernel
theorem dX8_put_31 : decode cX8_put 31 = .ok (.aload_n 0, 1) := by decide +kernel
theorem dX8_put_32 : decode cX8_put 32 = .ok (.getfield 25, 3) := by decide +kernel
theorem dX8_put_35 : decode cX8_put 35 = .ok (.ifCond .le 5, 3) := by decide +kernel
theorem dX8_put_38 : decode cX8_put 38 = .ok (.iconst 0, 1) := by decide +kernel
theorem dX8_put_39 : decode cX8_put 39 = .ok (.ireturn, 1) := by decide +kernel
theorem dX8_put_40 : decode cX8_put 40 = .ok (.aload_n 0, 1) := by decide +kernel
theorem dX8_put_41 : decode cX8_put 41 = .ok (.invokevirtual 75, 3) := by decide +kernel
theorem dX8_put_44 : decode cX8_put 44 = .ok (.aload_n 0, 1) := by decide +kernel
theorem dX8_put_45 : decode cX8_put 45 = .ok (.getfield 7, 3) := by decide +kernel
theorem dX8_put_48 : decode cX8_put 48 = .ok (.iconst 3, 1) := by decide +kernel
theorem dX8_put_49 : decode cX8_put 49 = .ok (.iload_n 1, 1) := by decide +kernel
theorem dX8_put_50 : decode cX8_put 50 = .ok (.iload_n 2, 1) := by decide +kernel
theorem dX8_put_51 : decode cX8_put 51 = .ok (.iload_n 3, 1) := by decide +kernel
theorem dX8_put_52 : decode cX8_put 52 = .ok (.invokestatic 37, 3) := by decide +kernel
theorem dX8_put_55 : decode cX8_put 55 = .ok (.iadd, 1) := by decide +kernel
theorem dX8_put_56 : decode cX8_put 56 = .ok (.iaload, 1) := by decide +kernel
theorem dX8_put_57 : decode cX8_put 57 = .ok (.istore 5, 2) := by decide +kernel
theorem dX8_put_59 : decode cX8_put 59 = .ok (.aload_n 0, 1) := by decide +kernel
theorem dX8_put_60 : decode cX8_put 60 = .ok (.getfield 7, 3) := by decide +kernel
theorem dX8_put_63 : decode cX8_put 63 = .ok (.iconst 3, 1) := by decide +kernel
theorem dX8_put_64 : decode cX8_put 64 = .ok (.iload_n 1, 1) := by decide +kernel
theorem dX8_put_65 : decode cX8_put 65 = .ok (.iload_n 2, 1) := by decide +kernel
theorem dX8_put_66 : decode cX8_put 66 = .ok (.iload_n 3, 1) := by decide +kernel
theorem dX8_put_67 : decode cX8_put 67 = .ok (.invokestatic 37, 3) := by decide +kernel
theorem dX8_put_70 : decode cX8_put 70 = .ok (.iadd, 1) := by decide +kernel
theorem dX8_put_71 : decode cX8_put 71 = .ok (.iload 4, 2) := by decide +kernel
theorem dX8_put_73 : decode cX8_put 73 = .ok (.iastore, 1) := by decide +kernel
theorem dX8_put_74 : decode cX8_put 74 = .ok (.iload 5, 2) := by decide +kernel
theorem dX8_put_76 : decode cX8_put 76 = .ok (.ireturn, 1) := by decide +kernel
set_option maxRecDepth 20000 in
theorem ggX8_canAdd_X8_place : GoodIn wsX8_canAdd wsX8_place := goodIn_r _ [5] (by decide +kernel) (by decide +kernel)
set_option maxRecDepth 20000 in
theorem gX8_canAdd_X8_place : GoodIn wsX8_canAdd (va_wsS RX8 37 yX8_place wsX8_place) := goodIn_app (goodIn_of _ (by decide +kernel)) ggX8_canAdd_X8_place
set_option maxRecDepth 20000 in
theorem ggX8_canAdd_X8_isNumber : GoodIn wsX8_canAdd wsX8_isNumber := goodIn_r _ [8, 9, 10, 4, 11] (by decide +kernel) (by decide +kernel)
set_option maxRecDepth 20000 in
theorem gX8_canAdd_X8_isNumber : GoodIn wsX8_canAdd (va_wsS RX8 81 yX8_isNumber wsX8_isNumber) := goodIn_app (goodIn_of _ (by decide +kernel)) ggX8_canAdd_X8_isNumber
theorem dX8_canAdd_0 : decode cX8_canAdd 0 = .ok (.iconst 1, 1) := by decide +kernel
theorem dX8_canAdd_1 : decode cX8_canAdd 1 = .ok (.istore 6, 2) := by decide +kernel
theorem dX8_canAdd_3 : decode cX8_canAdd 3 = .ok (.iconst 0, 1) := by decide +kernel
theorem dX8_canAdd_4 : decode cX8_canAdd 4 = .ok (.istore 7, 2) := by decide +kernel
theorem dX8_canAdd_6 : decode cX8_canAdd 6 = .ok (.iload 7, 2) := by decide +kernel
theorem dX8_canAdd_8 : decode cX8_canAdd 8 = .ok (.iload 4, 2) := by decide +kernel
theorem dX8_canAdd_10 : decode cX8_canAdd 10 = .ok (.iload 4, 2) := by decide +kernel
theorem dX8_canAdd_12 : decode cX8_canAdd 12 = .ok (.imul, 1) := by decide +kernel
theorem dX8_canAdd_13 : decode cX8_canAdd 13 = .ok (.iload 4, 2) := by decide +kernel
theorem dX8_canAdd_15 : decode cX8_canAdd 15 = .ok (.imul, 1) := by decide +kernel
theorem dX8_canAdd_16 : decode cX8_canAdd 16 = .ok (.if_icmp .ge 67, 3) := by decide +kernel
theorem dX8_canAdd_19 : decode cX8_canAdd 19 = .ok (.iload 6, 2) := by decide +kernel
theorem dX8_canAdd_21 : decode cX8_canAdd 21 = .ok (.ifCond .eq 53, 3) := by decide +kernel
theorem dX8_canAdd_24 : decode cX8_canAdd 24 = .ok (.aload_n 0, 1) := by decide +kernel
theorem dX8_canAdd_25 : decode cX8_canAdd 25 = .ok (.getfield 7, 3) := by decide +kernel
theorem dX8_canAdd_28 : decode cX8_canAdd 28 = .ok (.iconst 3, 1) := by decide +kernel
theorem dX8_canAdd_29 : decode cX8_canAdd 29 = .ok (.iload_n 1, 1) := by decide +kernel
theorem dX8_canAdd_30 : decode cX8_canAdd 30 = .ok (.iload 7, 2) := by decide +kernel
theorem dX8_canAdd_32 : decode cX8_canAdd 32 = .ok (.iload 4, 2) := by decide +kernel
theorem dX8_canAdd_34 : decode cX8_canAdd 34 = .ok (.irem, 1) := by decide +kernel
theorem dX8_canAdd_35 : decode cX8_canAdd 35 = .ok (.iadd, 1) := by decide +kernel
theorem dX8_canAdd_36 : decode cX8_canAdd 36 = .ok (.iload_n 2, 1) := by decide +kernel
theorem dX8_canAdd_37 : decode cX8_canAdd 37 = .ok (.iload 7, 2) := by decide +kernel
theorem dX8_canAdd_39 : decode cX8_canAdd 39 = .ok (.iload 4, 2) := by decide +kernel
theorem dX8_canAdd_41 : decode cX8_canAdd 41 = .ok (.idiv, 1) := by decide +kernel
theorem dX8_canAdd_42 : decode cX8_canAdd 42 = .ok (.iload 4, 2) := by decide +kernel
theorem dX8_canAdd_44 : decode cX8_canAdd 44 = .ok (.irem, 1) := by decide +kernel
theorem dX8_canAdd_45 : decode cX8_canAdd 45 = .ok (.iadd, 1) := by decide +kernel
theorem dX8_canAdd_46 : decode cX8_canAdd 46 = .ok (.iload_n 3, 1) := by decide +kernel
theorem dX8_canAdd_47 : decode cX8_canAdd 47 = .ok (.iload 7, 2) := by decide +kernel
theorem dX8_canAdd_49 : decode cX8_canAdd 49 = .ok (.iload 4, 2) := by decide +kernel
theorem dX8_canAdd_51 : decode cX8_canAdd 51 = .ok (.iload 4, 2) := by decide +kernel
theorem dX8_canAdd_53 : decode cX8_canAdd 53 = .ok (.imul, 1) := by decide +kernel
theorem dX8_canAdd_54 : decode cX8_canAdd 54 = .ok (.idiv, 1) := by decide +kernel
theorem dX8_canAdd_55 : decode cX8_canAdd 55 = .ok (.iadd, 1) := by decide +kernel
theorem dX8_canAdd_56 : decode cX8_canAdd 56 = .ok (.invokestatic 37, 3) := by decide +kernel
theorem dX8_canAdd_59 : decode cX8_canAdd 59 = .ok (.iadd, 1) := by decide +kernel
theorem dX8_canAdd_60 : decode cX8_canAdd 60 = .ok (.iaload, 1) := by decide +kernel
theorem dX8_canAdd_61 : decode cX8_canAdd 61 = .ok (.iload 5, 2) := by decide +kernel
theorem dX8_canAdd_63 : decode cX8_canAdd 63 = .ok (.iadd, 1) := by decide +kernel
theorem dX8_canAdd_64 : decode cX8_canAdd 64 = .ok (.invokestatic 81, 3) := by decide +kernel
theorem dX8_canAdd_67 : decode cX8_canAdd 67 = .ok (.ifCond .eq 7, 3) := by decide +kernel
theorem dX8_canAdd_70 : decode cX8_canAdd 70 = .ok (.iconst 1, 1) := by decide +kernel
theorem dX8_canAdd_71 : decode cX8_canAdd 71 = .ok (.goto 4, 3) := by decide +kernel
theorem dX8_canAdd_74 : decode cX8_canAdd 74 = .ok (.iconst 0, 1) := by decide +kernel
theorem dX8_canAdd_75 : decode cX8_canAdd 75 = .ok (.istore 6, 2) := by decide +kernel
theorem dX8_canAdd_77 : decode cX8_canAdd 77 = .ok (.iinc 7 1, 3) := by decide +kernel
theorem dX8_canAdd_80 : decode cX8_canAdd 80 = .ok (.goto (-74), 3) := by decide +kernel
theorem dX8_canAdd_83 : decode cX8_canAdd 83 = .ok (.iload 6, 2) := by decide +kernel
theorem dX8_canAdd_85 : decode cX8_canAdd 85 = .ok (.ireturn, 1) := by decide +kernel
set_option maxRecDepth 20000 in
theorem ggX8_add_X8_isPoint : GoodIn wsX8_add wsX8_isPoint := goodIn_r _ [7, 8, 9, 10, 6, 11, 2, 31, 32, 33, 34, 35, 36, 37, 38, 39, 40, 41, 42] (by decide +kernel) (by decide +kernel)
set_option maxRecDepth 20000 in
theorem gX8_add_X8_isPoint : GoodIn wsX8_add (wsV RX8 78 RX8 yX8_isPoint wsX8_isPoint) := goodIn_app (goodIn_of _ (by decide +kernel)) ggX8_add_X8_isPoint
set_option maxRecDepth 20000 in
theorem ggX8_add_X8_in : GoodIn wsX8_add wsX8_in := goodIn_r _ [14] (by decide +kernel) (by decide +kernel)
set_option maxRecDepth 20000 in
theorem gX8_add_X8_in : GoodIn wsX8_add (va_wsS RX8 33 yX8_in wsX8_in) := goodIn_app (goodIn_of _ (by decide +kernel)) ggX8_add_X8_in
set_option maxRecDepth 20000 in
theorem ggX8_add_X8_isNumber : GoodIn wsX8_add wsX8_isNumber := goodIn_r _ [17, 12, 13, 6, 14] (by decide +kernel) (by decide +kernel)
set_option maxRecDepth 20000 in
theorem gX8_add_X8_isNumber : GoodIn wsX8_add (va_wsS RX8 81 yX8_isNumber wsX8_isNumber) := goodIn_app (goodIn_of _ (by decide +kernel)) ggX8_add_X8_isNumber
set_option maxRecDepth 20000 in
theorem ggX8_add_X8_canAdd : GoodIn wsX8_add wsX8_canAdd := goodIn_r _ [21, 2, 22, 23, 6, 24, 15, 16, 17, 12, 13, 14, 31, 32, 33, 34, 35, 36, 37, 38, 39, 40, 41, 42] (by decide +kernel) (by decide +kernel)
set_option maxRecDepth 20000 in
theorem gX8_add_X8_canAdd : GoodIn wsX8_add (wsV RX8 84 RX8 yX8_canAdd wsX8_canAdd) := goodIn_app (goodIn_of _ (by decide +kernel)) ggX8_add_X8_canAdd
set_option maxRecDepth 20000 in
theorem ggX8_add_X8_save : GoodIn wsX8_add wsX8_save := goodIn_r _ [28, 29, 30, 2, 31, 32, 33, 34, 35, 36, 37, 38, 39, 40, 41, 42] (by decide +kernel) (by decide +kernel)
set_option maxRecDepth 20000 in
theorem gX8_add_X8_save : GoodIn wsX8_add (wsV RX8 75 RX8 yX8_save wsX8_save) := goodIn_app (goodIn_of _ (by decide +kernel)) ggX8_add_X8_save
set_option maxRecDepth 20000 in
theorem ggX8_add_X8_place : GoodIn wsX8_add wsX8_place := goodIn_r _ [24] (by decide +kernel) (by decide +kernel)
set_option maxRecDepth 20000 in
theorem gX8_add_X8_place : GoodIn wsX8_add (va_wsS RX8 37 yX8_place wsX8_place) := goodIn_app (goodIn_of _ (by decide +kernel)) ggX8_add_X8_place
theorem dX8_add_0 : decode cX8_add 0 = .ok (.aload_n 0, 1) := by decide +kernel
theorem dX8_add_1 : decode cX8_add 1 = .ok (.iload_n 1, 1) := by decide +kernel
theorem dX8_add_2 : decode cX8_add 2 = .ok (.iload_n 2, 1) := by decide +kernel
theorem dX8_add_3 : decode cX8_add 3 = .ok (.iload_n 3, 1) := by decide +kernel
theorem dX8_add_4 : decode cX8_add 4 = .ok (.invokevirtual 78, 3) := by decide +kernel
theorem dX8_add_7 : decode cX8_add 7 = .ok (.ifCond .eq 43, 3) := by decide +kernel
theorem dX8_add_10 : decode cX8_add 10 = .ok (.iload 4, 2) := by decide +kernel
theorem dX8_add_12 : decode cX8_add 12 = .ok (.iconst 1, 1) := by decide +kernel
theorem dX8_add_13 : decode cX8_add 13 = .ok (.bipush 8, 2) := by decide +kernel
theorem dX8_add_15 : decode cX8_add 15 = .ok (.invokestatic 33, 3) := by decide +kernel
theorem dX8_add_18 : decode cX8_add 18 = .ok (.ifCond .eq 28, 3) := by decide +kernel
theorem dX8_add_21 : decode cX8_add 21 = .ok (.aload_n 0, 1) := by decide +kernel
theorem dX8_add_22 : decode cX8_add 22 = .ok (.iload_n 1, 1) := by decide +kernel
theorem dX8_add_23 : decode cX8_add 23 = .ok (.iload 4, 2) := by decide +kernel
theorem dX8_add_25 : decode cX8_add 25 = .ok (.iadd, 1) := by decide +kernel
theorem dX8_add_26 : decode cX8_add 26 = .ok (.iconst 1, 1) := by decide +kernel
theorem dX8_add_27 : decode cX8_add 27 = .ok (.isub, 1) := by decide +kernel
theorem dX8_add_28 : decode cX8_add 28 = .ok (.iload_n 2, 1) := by decide +kernel
theorem dX8_add_29 : decode cX8_add 29 = .ok (.iload 4, 2) := by decide +kernel
theorem dX8_add_31 : decode cX8_add 31 = .ok (.iadd, 1) := by decide +kernel
theorem dX8_add_32 : decode cX8_add 32 = .ok (.iconst 1, 1) := by decide +kernel
theorem dX8_add_33 : decode cX8_add 33 = .ok (.isub, 1) := by decide +kernel
theorem dX8_add_34 : decode cX8_add 34 = .ok (.iload_n 3, 1) := by decide +kernel
theorem dX8_add_35 : decode cX8_add 35 = .ok (.iload 4, 2) := by decide +kernel
theorem dX8_add_37 : decode cX8_add 37 = .ok (.iadd, 1) := by decide +kernel
theorem dX8_add_38 : decode cX8_add 38 = .ok (.iconst 1, 1) := by decide +kernel
theorem dX8_add_39 : decode cX8_add 39 = .ok (.isub, 1) := by decide +kernel
theorem dX8_add_40 : decode cX8_add 40 = .ok (.invokevirtual 78, 3) := by decide +kernel
theorem dX8_add_43 : decode cX8_add 43 = .ok (.ifCond .eq 7, 3) := by decide +kernel
theorem dX8_add_46 : decode cX8_add 46 = .ok (.iconst 1, 1) := by decide +kernel
theorem dX8_add_47 : decode cX8_add 47 = .ok (.goto 4, 3) := by decide +kernel
theorem dX8_add_50 : decode cX8_add 50 = .ok (.iconst 0, 1) := by decide +kernel
theorem dX8_add_51 : decode cX8_add 51 = .ok (.istore 6, 2) := by decide +kernel
theorem dX8_add_53 : decode cX8_add 53 = .ok (.iload 4, 2) := by decide +kernel
theorem dX8_add_55 : decode cX8_add 55 = .ok (.iconst 1, 1) := by decide +kernel
theorem dX8_add_56 : decode cX8_add 56 = .ok (.bipush 8, 2) := by decide +kernel
theorem dX8_add_58 : decode cX8_add 58 = .ok (.invokestatic 33, 3) := by decide +kernel
theorem dX8_add_61 : decode cX8_add 61 = .ok (.ifCond .eq 15, 3) := by decide +kernel
theorem dX8_add_64 : decode cX8_add 64 = .ok (.iload 5, 2) := by decide +kernel
theorem dX8_add_66 : decode cX8_add 66 = .ok (.invokestatic 81, 3) := by decide +kernel
theorem dX8_add_69 : decode cX8_add 69 = .ok (.ifCond .eq 7, 3) := by decide +kernel
theorem dX8_add_72 : decode cX8_add 72 = .ok (.iconst 1, 1) := by decide +kernel
theorem dX8_add_73 : decode cX8_add 73 = .ok (.goto 4, 3) := by decide +kernel
theorem dX8_add_76 : decode cX8_add 76 = .ok (.iconst 0, 1) := by decide +kernel
theorem dX8_add_77 : decode cX8_add 77 = .ok (.istore 7, 2) := by decide +kernel
theorem dX8_add_79 : decode cX8_add 79 = .ok (.aload_n 0, 1) := by decide +kernel
theorem dX8_add_80 : decode cX8_add 80 = .ok (.iload 6, 2) := by decide +kernel
theorem dX8_add_82 : decode cX8_add 82 = .ok (.ifCond .ne 7, 3) := by decide +kernel
theorem dX8_add_85 : decode cX8_add 85 = .ok (.iconst 1, 1) := by decide +kernel
theorem dX8_add_86 : decode cX8_add 86 = .ok (.goto 31, 3) := by decide +kernel
theorem dX8_add_89 : decode cX8_add 89 = .ok (.iload 7, 2) := by decide +kernel
theorem dX8_add_91 : decode cX8_add 91 = .ok (.ifCond .ne 7, 3) := by decide +kernel
theorem dX8_add_94 : decode cX8_add 94 = .ok (.iconst 2, 1) := by decide +kernel
theorem dX8_add_95 : decode cX8_add 95 = .ok (.goto 22, 3) := by decide +kernel
theorem dX8_add_98 : decode cX8_add 98 = .ok (.aload_n 0, 1) := by decide +kernel
theorem dX8_add_99 : decode cX8_add 99 = .ok (.iload_n 1, 1) := by decide +kernel
theorem dX8_add_100 : decode cX8_add 100 = .ok (.iload_n 2, 1) := by decide +kernel
theorem dX8_add_101 : decode cX8_add 101 = .ok (.iload_n 3, 1) := by decide +kernel
theorem dX8_add_102 : decode cX8_add 102 = .ok (.iload 4, 2) := by decide +kernel
theorem dX8_add_104 : decode cX8_add 104 = .ok (.iload 5, 2) := by decide +kernel
theorem dX8_add_106 : decode cX8_add 106 = .ok (.invokevirtual 84, 3) := by decide +kernel
theorem dX8_add_109 : decode cX8_add 109 = .ok (.ifCond .eq 7, 3) := by decide +kernel
theorem dX8_add_112 : decode cX8_add 112 = .ok (.iconst 0, 1) := by decide +kernel
theorem dX8_add_113 : decode cX8_add 113 = .ok (.goto 4, 3) := by decide +kernel
theorem dX8_add_116 : decode cX8_add 116 = .ok (.iconst 3, 1) := by decide +kernel
theorem dX8_add_117 : decode cX8_add 117 = .ok (.putfield 25, 3) := by decide +kernel
theorem dX8_add_120 : decode cX8_add 120 = .ok (.aload_n 0, 1) := by decide +kernel
theorem dX8_add_121 : decode cX8_add 121 = .ok (.getfield 25, 3) := by decide +kernel
theorem dX8_add_124 : decode cX8_add 124 = .ok (.ifCond .le 5, 3) := by decide +kernel
theorem dX8_add_127 : decode cX8_add 127 = .ok (.iconst 0, 1) := by decide +kernel
theorem dX8_add_128 : decode cX8_add 128 = .ok (.ireturn, 1) := by decide +kernel
theorem dX8_add_129 : decode cX8_add 129 = .ok (.aload_n 0, 1) := by decide +kernel
theorem dX8_add_130 : decode cX8_add 130 = .ok (.invokevirtual 75, 3) := by decide +kernel
theorem dX8_add_133 : decode cX8_add 133 = .ok (.iconst 0, 1) := by decide +kernel
theorem dX8_add_134 : decode cX8_add 134 = .ok (.istore 8, 2) := by decide +kernel
theorem dX8_add_136 : decode cX8_add 136 = .ok (.iconst 0, 1) := by decide +kernel
theorem dX8_add_137 : decode cX8_add 137 = .ok (.istore 9, 2) := by decide +kernel
theorem dX8_add_139 : decode cX8_add 139 = .ok (.iload 9, 2) := by decide +kernel
theorem dX8_add_141 : decode cX8_add 141 = .ok (.iload 4, 2) := by decide +kernel
theorem dX8_add_143 : decode cX8_add 143 = .ok (.iload 4, 2) := by decide +kernel
theorem dX8_add_145 : decode cX8_add 145 = .ok (.imul, 1) := by decide +kernel
theorem dX8_add_146 : decode cX8_add 146 = .ok (.iload 4, 2) := by decide +kernel
theorem dX8_add_148 : decode cX8_add 148 = .ok (.imul, 1) := by decide +kernel
theorem dX8_add_149 : decode cX8_add 149 = .ok (.if_icmp .ge 75, 3) := by decide +kernel
theorem dX8_add_152 : decode cX8_add 152 = .ok (.iconst 3, 1) := by decide +kernel
theorem dX8_add_153 : decode cX8_add 153 = .ok (.iload_n 1, 1) := by decide +kernel
theorem dX8_add_154 : decode cX8_add 154 = .ok (.iload 9, 2) := by decide +kernel
theorem dX8_add_156 : decode cX8_add 156 = .ok (.iload 4, 2) := by decide +kernel
theorem dX8_add_158 : decode cX8_add 158 = .ok (.irem, 1) := by decide +kernel
theorem dX8_add_159 : decode cX8_add 159 = .ok (.iadd, 1) := by decide +kernel
theorem dX8_add_160 : decode cX8_add 160 = .ok (.iload_n 2, 1) := by decide +kernel
theorem dX8_add_161 : decode cX8_add 161 = .ok (.iload 9, 2) := by decide +kernel
theorem dX8_add_163 : decode cX8_add 163 = .ok (.iload 4, 2) := by decide +kernel
theorem dX8_add_165 : decode cX8_add 165 = .ok (.idiv, 1) := by decide +kernel
theorem dX8_add_166 : decode cX8_add 166 = .ok (.iload 4, 2) := by decide +kernel
theorem dX8_add_168 : decode cX8_add 168 = .ok (.irem, 1) := by decide +kernel
theorem dX8_add_169 : decode cX8_add 169 = .ok (.iadd, 1) := by decide +kernel
theorem dX8_add_170 : decode cX8_add 170 = .ok (.iload_n 3, 1) := by decide +kernel
theorem dX8_add_171 : decode cX8_add 171 = .ok (.iload 9, 2) := by decide +kernel
theorem dX8_add_173 : decode cX8_add 173 = .ok (.iload 4, 2) := by decide +kernel
theorem dX8_add_175 : decode cX8_add 175 = .ok (.iload 4, 2) := by decide +kernel
theorem dX8_add_177 : decode cX8_add 177 = .ok (.imul, 1) := by decide +kernel
theorem dX8_add_178 : decode cX8_add 178 = .ok (.idiv, 1) := by decide +kernel
theorem dX8_add_179 : decode cX8_add 179 = .ok (.iadd, 1) := by decide +kernel
theorem dX8_add_180 : decode cX8_add 180 = .ok (.invokestatic 37, 3) := by decide +kernel
theorem dX8_add_183 : decode cX8_add 183 = .ok (.iadd, 1) := by decide +kernel
theorem dX8_add_184 : decode cX8_add 184 = .ok (.istore 10, 2) := by decide +kernel
theorem dX8_add_186 : decode cX8_add 186 = .ok (.aload_n 0, 1) := by decide +kernel
theorem dX8_add_187 : decode cX8_add 187 = .ok (.getfield 7, 3) := by decide +kernel
theorem dX8_add_190 : decode cX8_add 190 = .ok (.iload 10, 2) := by decide +kernel
theorem dX8_add_192 : decode cX8_add 192 = .ok (.dup2, 1) := by decide +kernel
theorem dX8_add_193 : decode cX8_add 193 = .ok (.iaload, 1) := by decide +kernel
theorem dX8_add_194 : decode cX8_add 194 = .ok (.iload 5, 2) := by decide +kernel
theorem dX8_add_196 : decode cX8_add 196 = .ok (.iadd, 1) := by decide +kernel
