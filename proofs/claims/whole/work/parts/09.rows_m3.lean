theorem dX8_spread_78 : decode cX8_spread 78 = .ok (.aload_n 0, 1) := by decide +kernel
theorem dX8_spread_79 : decode cX8_spread 79 = .ok (.iload 6, 2) := by decide +kernel
theorem dX8_spread_81 : decode cX8_spread 81 = .ok (.aload_n 0, 1) := by decide +kernel
theorem dX8_spread_82 : decode cX8_spread 82 = .ok (.invokevirtual 51, 3) := by decide +kernel
theorem dX8_spread_85 : decode cX8_spread 85 = .ok (.iconst 1, 1) := by decide +kernel
theorem dX8_spread_86 : decode cX8_spread 86 = .ok (.isub, 1) := by decide +kernel
theorem dX8_spread_87 : decode cX8_spread 87 = .ok (.invokevirtual 217, 3) := by decide +kernel
theorem dX8_spread_90 : decode cX8_spread 90 = .ok (.f2d, 1) := by decide +kernel
theorem dX8_spread_91 : decode cX8_spread 91 = .ok (.dload_n 2, 1) := by decide +kernel
theorem dX8_spread_92 : decode cX8_spread 92 = .ok (.dsub, 1) := by decide +kernel
theorem dX8_spread_93 : decode cX8_spread 93 = .ok (.dstore 7, 2) := by decide +kernel
theorem dX8_spread_95 : decode cX8_spread 95 = .ok (.dload 4, 2) := by decide +kernel
theorem dX8_spread_97 : decode cX8_spread 97 = .ok (.dload 7, 2) := by decide +kernel
theorem dX8_spread_99 : decode cX8_spread 99 = .ok (.dload 7, 2) := by decide +kernel
theorem dX8_spread_101 : decode cX8_spread 101 = .ok (.dmul, 1) := by decide +kernel
theorem dX8_spread_102 : decode cX8_spread 102 = .ok (.dadd, 1) := by decide +kernel
theorem dX8_spread_103 : decode cX8_spread 103 = .ok (.dstore 4, 2) := by decide +kernel
theorem dX8_spread_105 : decode cX8_spread 105 = .ok (.iinc 6 1, 3) := by decide +kernel
theorem dX8_spread_108 : decode cX8_spread 108 = .ok (.goto (-41), 3) := by decide +kernel
theorem dX8_spread_111 : decode cX8_spread 111 = .ok (.dload 4, 2) := by decide +kernel
theorem dX8_spread_113 : decode cX8_spread 113 = .ok (.aload_n 0, 1) := by decide +kernel
theorem dX8_spread_114 : decode cX8_spread 114 = .ok (.getfield 11, 3) := by decide +kernel
theorem dX8_spread_117 : decode cX8_spread 117 = .ok (.iconst 0, 1) := by decide +kernel
theorem dX8_spread_118 : decode cX8_spread 118 = .ok (.iaload, 1) := by decide +kernel
theorem dX8_spread_119 : decode cX8_spread 119 = .ok (.i2d, 1) := by decide +kernel
theorem dX8_spread_120 : decode cX8_spread 120 = .ok (.ddiv, 1) := by decide +kernel
theorem dX8_spread_121 : decode cX8_spread 121 = .ok (.invokestatic 257, 3) := by decide +kernel
theorem dX8_spread_124 : decode cX8_spread 124 = .ok (.lstore 6, 2) := by decide +kernel
theorem dX8_spread_126 : decode cX8_spread 126 = .ok (.iload_n 1, 1) := by decide +kernel
theorem dX8_spread_127 : decode cX8_spread 127 = .ok (.ifCond .ne 11, 3) := by decide +kernel
theorem dX8_spread_130 : decode cX8_spread 130 = .ok (.lload 6, 2) := by decide +kernel
theorem dX8_spread_132 : decode cX8_spread 132 = .ok (.bipush 32, 2) := by decide +kernel
theorem dX8_spread_134 : decode cX8_spread 134 = .ok (.lushr, 1) := by decide +kernel
theorem dX8_spread_135 : decode cX8_spread 135 = .ok (.goto 9, 3) := by decide +kernel
theorem dX8_spread_138 : decode cX8_spread 138 = .ok (.lload 6, 2) := by decide +kernel
theorem dX8_spread_140 : decode cX8_spread 140 = .ok (.ldc2_w 263, 3) := by decide +kernel
theorem dX8_spread_143 : decode cX8_spread 143 = .ok (.land, 1) := by decide +kernel
theorem dX8_spread_144 : decode cX8_spread 144 = .ok (.lreturn, 1) := by decide +kernel
set_option maxRecDepth 20000 in
theorem ggX8_does_X8_turns : GoodIn wsX8_does wsX8_turns := goodIn_r _ [5, 6, 7, 8, 4, 9, 10, 11, 12, 13, 14, 27, 28, 29, 30, 31, 32, 33, 34, 35, 36, 37, 38, 39, 40, 41] (by decide +kernel) (by decide +kernel)
set_option maxRecDepth 20000 in
theorem gX8_does_X8_turns : GoodIn wsX8_does (wsV RX8 86 RX8 yX8_turns wsX8_turns) := goodIn_app (goodIn_of _ (by decide +kernel)) ggX8_does_X8_turns
set_option maxRecDepth 20000 in
theorem ggX8_does_X8_swaps : GoodIn wsX8_does wsX8_swaps := goodIn_r _ [18, 14, 10, 11, 12, 4, 13, 27, 28, 29, 30, 31, 32, 33, 34, 35, 36, 37, 38, 39, 40, 41] (by decide +kernel) (by decide +kernel)
set_option maxRecDepth 20000 in
theorem gX8_does_X8_swaps : GoodIn wsX8_does (wsV RX8 77 RX8 yX8_swaps wsX8_swaps) := goodIn_app (goodIn_of _ (by decide +kernel)) ggX8_does_X8_swaps
set_option maxRecDepth 20000 in
theorem ggX8_does_X8_stands : GoodIn wsX8_does wsX8_stands := goodIn_r _ [22, 14, 23, 24, 25, 4, 26, 27, 28, 29, 30, 31, 32, 33, 34, 35, 36, 37, 38, 39, 40, 41] (by decide +kernel) (by decide +kernel)
set_option maxRecDepth 20000 in
theorem gX8_does_X8_stands : GoodIn wsX8_does (wsV RX8 92 RX8 yX8_stands wsX8_stands) := goodIn_app (goodIn_of _ (by decide +kernel)) ggX8_does_X8_stands
theorem dX8_does_0 : decode cX8_does 0 = .ok (.iload_n 1, 1) := by decide +kernel
theorem dX8_does_1 : decode cX8_does 1 = .ok (.ifCond .ne 12, 3) := by decide +kernel
theorem dX8_does_4 : decode cX8_does 4 = .ok (.aload_n 0, 1) := by decide +kernel
theorem dX8_does_5 : decode cX8_does 5 = .ok (.iload_n 2, 1) := by decide +kernel
theorem dX8_does_6 : decode cX8_does 6 = .ok (.iload_n 3, 1) := by decide +kernel
theorem dX8_does_7 : decode cX8_does 7 = .ok (.invokevirtual 86, 3) := by decide +kernel
theorem dX8_does_10 : decode cX8_does 10 = .ok (.goto 23, 3) := by decide +kernel
theorem dX8_does_13 : decode cX8_does 13 = .ok (.iload_n 1, 1) := by decide +kernel
theorem dX8_does_14 : decode cX8_does 14 = .ok (.iconst 1, 1) := by decide +kernel
theorem dX8_does_15 : decode cX8_does 15 = .ok (.if_icmp .ne 12, 3) := by decide +kernel
theorem dX8_does_18 : decode cX8_does 18 = .ok (.aload_n 0, 1) := by decide +kernel
theorem dX8_does_19 : decode cX8_does 19 = .ok (.iload_n 2, 1) := by decide +kernel
theorem dX8_does_20 : decode cX8_does 20 = .ok (.iload_n 3, 1) := by decide +kernel
theorem dX8_does_21 : decode cX8_does 21 = .ok (.invokevirtual 77, 3) := by decide +kernel
theorem dX8_does_24 : decode cX8_does 24 = .ok (.goto 9, 3) := by decide +kernel
theorem dX8_does_27 : decode cX8_does 27 = .ok (.aload_n 0, 1) := by decide +kernel
theorem dX8_does_28 : decode cX8_does 28 = .ok (.iload_n 2, 1) := by decide +kernel
theorem dX8_does_29 : decode cX8_does 29 = .ok (.iload_n 3, 1) := by decide +kernel
theorem dX8_does_30 : decode cX8_does 30 = .ok (.invokevirtual 92, 3) := by decide +kernel
theorem dX8_does_33 : decode cX8_does 33 = .ok (.return_, 1) := by decide +kernel
set_option maxRecDepth 20000 in
theorem ggX8_isStepped_X8_costs : GoodIn wsX8_isStepped wsX8_costs := goodIn_r _ [6, 7, 8, 9, 5, 10, 1, 11, 12, 13, 14, 15, 16, 17, 18, 19, 20, 21, 22, 23, 24, 25, 26, 27, 28, 29, 30, 31, 32, 33, 34, 35, 36, 37, 38, 39, 40, 41, 42, 43, 44, 45, 46, 47, 48, 49, 50, 51, 52, 53, 54, 55, 56, 57, 58, 59, 60, 61, 62, 63, 64, 65, 66, 67, 68, 69, 70, 71, 96, 97, 98, 99, 100, 101, 102, 103, 104, 105, 106, 107, 108, 109, 110] (by decide +kernel) (by decide +kernel)
set_option maxRecDepth 20000 in
theorem gX8_isStepped_X8_costs : GoodIn wsX8_isStepped (wsV RX8 253 RX8 yX8_costs wsX8_costs) := goodIn_app (goodIn_of _ (by decide +kernel)) ggX8_isStepped_X8_costs
set_option maxRecDepth 20000 in
theorem ggX8_isStepped_X8_rounds : GoodIn wsX8_isStepped wsX8_rounds := goodIn_r _ [18, 1, 96, 97, 98, 99, 100, 101, 102, 103, 104, 105, 106, 107, 108, 109, 110] (by decide +kernel) (by decide +kernel)
set_option maxRecDepth 20000 in
theorem gX8_isStepped_X8_rounds : GoodIn wsX8_isStepped (wsV RX8 51 RX8 yX8_rounds wsX8_rounds) := goodIn_app (goodIn_of _ (by decide +kernel)) ggX8_isStepped_X8_rounds
set_option maxRecDepth 20000 in
theorem ggX8_isStepped_X8_does : GoodIn wsX8_isStepped wsX8_does := goodIn_r _ [75, 76, 77, 78, 5, 79, 80, 81, 82, 83, 84, 85, 86, 87, 1, 88, 89, 90, 91, 92, 93, 94, 95, 15, 16, 17, 18, 96, 97, 98, 99, 100, 101, 102, 103, 104, 105, 106, 107, 108, 109, 110] (by decide +kernel) (by decide +kernel)
set_option maxRecDepth 20000 in
theorem gX8_isStepped_X8_does : GoodIn wsX8_isStepped (wsV RX8 265 RX8 yX8_does wsX8_does) := goodIn_app (goodIn_of _ (by decide +kernel)) ggX8_isStepped_X8_does
theorem dX8_isStepped_0 : decode cX8_isStepped 0 = .ok (.aload_n 0, 1) := by decide +kernel
theorem dX8_isStepped_1 : decode cX8_isStepped 1 = .ok (.invokevirtual 253, 3) := by decide +kernel
theorem dX8_isStepped_4 : decode cX8_isStepped 4 = .ok (.fstore_n 2, 1) := by decide +kernel
theorem dX8_isStepped_5 : decode cX8_isStepped 5 = .ok (.iconst (-1), 1) := by decide +kernel
theorem dX8_isStepped_6 : decode cX8_isStepped 6 = .ok (.istore_n 3, 1) := by decide +kernel
theorem dX8_isStepped_7 : decode cX8_isStepped 7 = .ok (.iconst (-1), 1) := by decide +kernel
theorem dX8_isStepped_8 : decode cX8_isStepped 8 = .ok (.istore 4, 2) := by decide +kernel
theorem dX8_isStepped_10 : decode cX8_isStepped 10 = .ok (.iload_n 1, 1) := by decide +kernel
theorem dX8_isStepped_11 : decode cX8_isStepped 11 = .ok (.iconst 2, 1) := by decide +kernel
theorem dX8_isStepped_12 : decode cX8_isStepped 12 = .ok (.if_icmp .ne 12, 3) := by decide +kernel
theorem dX8_isStepped_15 : decode cX8_isStepped 15 = .ok (.aload_n 0, 1) := by decide +kernel
theorem dX8_isStepped_16 : decode cX8_isStepped 16 = .ok (.getfield 11, 3) := by decide +kernel
theorem dX8_isStepped_19 : decode cX8_isStepped 19 = .ok (.iconst 0, 1) := by decide +kernel
theorem dX8_isStepped_20 : decode cX8_isStepped 20 = .ok (.iaload, 1) := by decide +kernel
theorem dX8_isStepped_21 : decode cX8_isStepped 21 = .ok (.goto 7, 3) := by decide +kernel
theorem dX8_isStepped_24 : decode cX8_isStepped 24 = .ok (.aload_n 0, 1) := by decide +kernel
theorem dX8_isStepped_25 : decode cX8_isStepped 25 = .ok (.invokevirtual 51, 3) := by decide +kernel
theorem dX8_isStepped_28 : decode cX8_isStepped 28 = .ok (.istore 5, 2) := by decide +kernel
theorem dX8_isStepped_30 : decode cX8_isStepped 30 = .ok (.iload_n 1, 1) := by decide +kernel
theorem dX8_isStepped_31 : decode cX8_isStepped 31 = .ok (.ifCond .ne 14, 3) := by decide +kernel
theorem dX8_isStepped_34 : decode cX8_isStepped 34 = .ok (.aload_n 0, 1) := by decide +kernel
theorem dX8_isStepped_35 : decode cX8_isStepped 35 = .ok (.getfield 11, 3) := by decide +kernel
theorem dX8_isStepped_38 : decode cX8_isStepped 38 = .ok (.iconst 0, 1) := by decide +kernel
theorem dX8_isStepped_39 : decode cX8_isStepped 39 = .ok (.iaload, 1) := by decide +kernel
theorem dX8_isStepped_40 : decode cX8_isStepped 40 = .ok (.iconst 2, 1) := by decide +kernel
theorem dX8_isStepped_41 : decode cX8_isStepped 41 = .ok (.idiv, 1) := by decide +kernel
theorem dX8_isStepped_42 : decode cX8_isStepped 42 = .ok (.goto 5, 3) := by decide +kernel
theorem dX8_isStepped_45 : decode cX8_isStepped 45 = .ok (.iload 5, 2) := by decide +kernel
theorem dX8_isStepped_47 : decode cX8_isStepped 47 = .ok (.istore 6, 2) := by decide +kernel
theorem dX8_isStepped_49 : decode cX8_isStepped 49 = .ok (.iconst 0, 1) := by decide +kernel
theorem dX8_isStepped_50 : decode cX8_isStepped 50 = .ok (.istore 7, 2) := by decide +kernel
theorem dX8_isStepped_52 : decode cX8_isStepped 52 = .ok (.iload 7, 2) := by decide +kernel
theorem dX8_isStepped_54 : decode cX8_isStepped 54 = .ok (.iload 5, 2) := by decide +kernel
theorem dX8_isStepped_56 : decode cX8_isStepped 56 = .ok (.if_icmp .ge 77, 3) := by decide +kernel
theorem dX8_isStepped_59 : decode cX8_isStepped 59 = .ok (.iload_n 1, 1) := by decide +kernel
theorem dX8_isStepped_60 : decode cX8_isStepped 60 = .ok (.ifCond .ne 7, 3) := by decide +kernel
theorem dX8_isStepped_63 : decode cX8_isStepped 63 = .ok (.iconst 0, 1) := by decide +kernel
theorem dX8_isStepped_64 : decode cX8_isStepped 64 = .ok (.goto 7, 3) := by decide +kernel
theorem dX8_isStepped_67 : decode cX8_isStepped 67 = .ok (.iload 7, 2) := by decide +kernel
theorem dX8_isStepped_69 : decode cX8_isStepped 69 = .ok (.iconst 1, 1) := by decide +kernel
theorem dX8_isStepped_70 : decode cX8_isStepped 70 = .ok (.iadd, 1) := by decide +kernel
theorem dX8_isStepped_71 : decode cX8_isStepped 71 = .ok (.istore 8, 2) := by decide +kernel
theorem dX8_isStepped_73 : decode cX8_isStepped 73 = .ok (.iload 8, 2) := by decide +kernel
theorem dX8_isStepped_75 : decode cX8_isStepped 75 = .ok (.iload 6, 2) := by decide +kernel
theorem dX8_isStepped_77 : decode cX8_isStepped 77 = .ok (.if_icmp .ge 50, 3) := by decide +kernel
theorem dX8_isStepped_80 : decode cX8_isStepped 80 = .ok (.aload_n 0, 1) := by decide +kernel
theorem dX8_isStepped_81 : decode cX8_isStepped 81 = .ok (.iload_n 1, 1) := by decide +kernel
theorem dX8_isStepped_82 : decode cX8_isStepped 82 = .ok (.iload 7, 2) := by decide +kernel
theorem dX8_isStepped_84 : decode cX8_isStepped 84 = .ok (.iload 8, 2) := by decide +kernel
theorem dX8_isStepped_86 : decode cX8_isStepped 86 = .ok (.invokevirtual 265, 3) := by decide +kernel
theorem dX8_isStepped_89 : decode cX8_isStepped 89 = .ok (.aload_n 0, 1) := by decide +kernel
theorem dX8_isStepped_90 : decode cX8_isStepped 90 = .ok (.invokevirtual 253, 3) := by decide +kernel
theorem dX8_isStepped_93 : decode cX8_isStepped 93 = .ok (.fstore 9, 2) := by decide +kernel
theorem dX8_isStepped_95 : decode cX8_isStepped 95 = .ok (.aload_n 0, 1) := by decide +kernel
theorem dX8_isStepped_96 : decode cX8_isStepped 96 = .ok (.iload_n 1, 1) := by decide +kernel
theorem dX8_isStepped_97 : decode cX8_isStepped 97 = .ok (.iload 7, 2) := by decide +kernel
theorem dX8_isStepped_99 : decode cX8_isStepped 99 = .ok (.iload 8, 2) := by decide +kernel
theorem dX8_isStepped_101 : decode cX8_isStepped 101 = .ok (.invokevirtual 265, 3) := by decide +kernel
theorem dX8_isStepped_104 : decode cX8_isStepped 104 = .ok (.fload 9, 2) := by decide +kernel
theorem dX8_isStepped_106 : decode cX8_isStepped 106 = .ok (.fload_n 2, 1) := by decide +kernel
theorem dX8_isStepped_107 : decode cX8_isStepped 107 = .ok (.fcmp .g, 1) := by decide +kernel
theorem dX8_isStepped_108 : decode cX8_isStepped 108 = .ok (.ifCond .ge 13, 3) := by decide +kernel
theorem dX8_isStepped_111 : decode cX8_isStepped 111 = .ok (.fload 9, 2) := by decide +kernel
theorem dX8_isStepped_113 : decode cX8_isStepped 113 = .ok (.fstore_n 2, 1) := by decide +kernel
theorem dX8_isStepped_114 : decode cX8_isStepped 114 = .ok (.iload 7, 2) := by decide +kernel
theorem dX8_isStepped_116 : decode cX8_isStepped 116 = .ok (.istore_n 3, 1) := by decide +kernel
theorem dX8_isStepped_117 : decode cX8_isStepped 117 = .ok (.iload 8, 2) := by decide +kernel
theorem dX8_isStepped_119 : decode cX8_isStepped 119 = .ok (.istore 4, 2) := by decide +kernel
theorem dX8_isStepped_121 : decode cX8_isStepped 121 = .ok (.iinc 8 1, 3) := by decide +kernel
theorem dX8_isStepped_124 : decode cX8_isStepped 124 = .ok (.goto (-51), 3) := by decide +kernel
theorem dX8_isStepped_127 : decode cX8_isStepped 127 = .ok (.iinc 7 1, 3) := by decide +kernel
theorem dX8_isStepped_130 : decode cX8_isStepped 130 = .ok (.goto (-78), 3) := by decide +kernel
theorem dX8_isStepped_133 : decode cX8_isStepped 133 = .ok (.iload_n 3, 1) := by decide +kernel
theorem dX8_isStepped_134 : decode cX8_isStepped 134 = .ok (.ifCond .ge 5, 3) := by decide +kernel
theorem dX8_isStepped_137 : decode cX8_isStepped 137 = .ok (.iconst 0, 1) := by decide +kernel
theorem dX8_isStepped_138 : decode cX8_isStepped 138 = .ok (.ireturn, 1) := by decide +kernel
theorem dX8_isStepped_139 : decode cX8_isStepped 139 = .ok (.aload_n 0, 1) := by decide +kernel
theorem dX8_isStepped_140 : decode cX8_isStepped 140 = .ok (.iload_n 1, 1) := by decide +kernel
theorem dX8_isStepped_141 : decode cX8_isStepped 141 = .ok (.iload_n 3, 1) := by decide +kernel
theorem dX8_isStepped_142 : decode cX8_isStepped 142 = .ok (.iload 4, 2) := by decide +kernel
theorem dX8_isStepped_144 : decode cX8_isStepped 144 = .ok (.invokevirtual 265, 3) := by decide +kernel
theorem dX8_isStepped_147 : decode cX8_isStepped 147 = .ok (.iconst 1, 1) := by decide +kernel
theorem dX8_isStepped_148 : decode cX8_isStepped 148 = .ok (.ireturn, 1) := by decide +kernel
set_option maxRecDepth 20000 in
theorem ggX8_step_X8_isIn : GoodIn wsX8_step wsX8_isIn := goodIn_r _ [4] (by decide +kernel) (by decide +kernel)
set_option maxRecDepth 20000 in
theorem gX8_step_X8_isIn : GoodIn wsX8_step (va_wsS RX8 47 yX8_isIn wsX8_isIn) := goodIn_app (goodIn_of _ (by decide +kernel)) ggX8_step_X8_isIn
set_option maxRecDepth 20000 in
theorem ggX8_step_X8_isStepped : GoodIn wsX8_step wsX8_isStepped := goodIn_r _ [8, 9, 10, 11, 12, 3, 13, 14, 15, 16, 17, 18, 19, 20, 21, 22, 23, 24, 25, 26, 27, 28, 29, 30, 31, 32, 33, 34, 35, 36, 37, 38, 39, 40, 41, 42, 43, 44, 45, 46, 47, 48, 49, 50, 51, 52, 53, 54, 55, 56, 57, 58, 59, 60, 61, 62, 63, 64, 65, 66, 67, 68, 69, 70, 71, 72, 73, 74, 75, 76, 77, 78, 79, 80, 81, 82, 83, 84, 85, 86, 87, 88, 89, 90, 91, 92, 93, 94, 95, 96, 97, 98, 99, 100, 101, 102, 103, 104, 105, 106, 107, 108, 109, 110, 111, 112, 113, 114, 115, 116, 117] (by decide +kernel) (by decide +kernel)
set_option maxRecDepth 20000 in
theorem gX8_step_X8_isStepped : GoodIn wsX8_step (wsV RX8 269 RX8 yX8_isStepped wsX8_isStepped) := goodIn_app (goodIn_of _ (by decide +kernel)) ggX8_step_X8_isStepped
theorem dX8_step_0 : decode cX8_step 0 = .ok (.iload_n 1, 1) := by decide +kernel
theorem dX8_step_1 : decode cX8_step 1 = .ok (.iconst 0, 1) := by decide +kernel
theorem dX8_step_2 : decode cX8_step 2 = .ok (.iconst 2, 1) := by decide +kernel
theorem dX8_step_3 : decode cX8_step 3 = .ok (.invokestatic 47, 3) := by decide +kernel
theorem dX8_step_6 : decode cX8_step 6 = .ok (.ifCond .eq 13, 3) := by decide +kernel
theorem dX8_step_9 : decode cX8_step 9 = .ok (.iload_n 2, 1) := by decide +kernel
theorem dX8_step_10 : decode cX8_step 10 = .ok (.iconst 0, 1) := by decide +kernel
theorem dX8_step_11 : decode cX8_step 11 = .ok (.bipush 50, 2) := by decide +kernel
theorem dX8_step_13 : decode cX8_step 13 = .ok (.invokestatic 47, 3) := by decide +kernel
theorem dX8_step_16 : decode cX8_step 16 = .ok (.ifCond .ne 6, 3) := by decide +kernel
theorem dX8_step_19 : decode cX8_step 19 = .ok (.bipush (-2), 2) := by decide +kernel
theorem dX8_step_21 : decode cX8_step 21 = .ok (.ireturn, 1) := by decide +kernel
theorem dX8_step_22 : decode cX8_step 22 = .ok (.iconst 0, 1) := by decide +kernel
theorem dX8_step_23 : decode cX8_step 23 = .ok (.istore_n 3, 1) := by decide +kernel
theorem dX8_step_24 : decode cX8_step 24 = .ok (.iload_n 3, 1) := by decide +kernel
theorem dX8_step_25 : decode cX8_step 25 = .ok (.iload_n 2, 1) := by decide +kernel
theorem dX8_step_26 : decode cX8_step 26 = .ok (.if_icmp .ge 17, 3) := by decide +kernel
theorem dX8_step_29 : decode cX8_step 29 = .ok (.aload_n 0, 1) := by decide +kernel
theorem dX8_step_30 : decode cX8_step 30 = .ok (.iload_n 1, 1) := by decide +kernel
theorem dX8_step_31 : decode cX8_step 31 = .ok (.invokevirtual 269, 3) := by decide +kernel
theorem dX8_step_34 : decode cX8_step 34 = .ok (.ifCond .eq 9, 3) := by decide +kernel
theorem dX8_step_37 : decode cX8_step 37 = .ok (.iinc 3 1, 3) := by decide +kernel
theorem dX8_step_40 : decode cX8_step 40 = .ok (.goto (-16), 3) := by decide +kernel
theorem dX8_step_43 : decode cX8_step 43 = .ok (.iload_n 3, 1) := by decide +kernel
theorem dX8_step_44 : decode cX8_step 44 = .ok (.ireturn, 1) := by decide +kernel
set_option maxRecDepth 20000 in
theorem ggX8_see_X8_isTeam : GoodIn wsX8_see wsX8_isTeam := goodIn_r _ [6, 1, 7, 8, 5, 9, 10, 11, 12, 13, 14, 15, 16, 17, 18, 19, 20, 21, 22, 23, 24] (by decide +kernel) (by decide +kernel)
set_option maxRecDepth 20000 in
theorem gX8_see_X8_isTeam : GoodIn wsX8_see (wsV RX8 63 RX8 yX8_isTeam wsX8_isTeam) := goodIn_app (goodIn_of _ (by decide +kernel)) ggX8_see_X8_isTeam
set_option maxRecDepth 20000 in
theorem ggX8_see_X8_isIn : GoodIn wsX8_see wsX8_isIn := goodIn_r _ [9] (by decide +kernel) (by decide +kernel)
set_option maxRecDepth 20000 in
theorem gX8_see_X8_isIn : GoodIn wsX8_see (va_wsS RX8 47 yX8_isIn wsX8_isIn) := goodIn_app (goodIn_of _ (by decide +kernel)) ggX8_see_X8_isIn
theorem dX8_see_0 : decode cX8_see 0 = .ok (.iload_n 1, 1) := by decide +kernel
theorem dX8_see_1 : decode cX8_see 1 = .ok (.iconst (-1), 1) := by decide +kernel
theorem dX8_see_2 : decode cX8_see 2 = .ok (.if_icmp .ne 12, 3) := by decide +kernel
theorem dX8_see_5 : decode cX8_see 5 = .ok (.aload_n 0, 1) := by decide +kernel
theorem dX8_see_6 : decode cX8_see 6 = .ok (.getfield 11, 3) := by decide +kernel
theorem dX8_see_9 : decode cX8_see 9 = .ok (.iconst 2, 1) := by decide +kernel
theorem dX8_see_10 : decode cX8_see 10 = .ok (.iconst 0, 1) := by decide +kernel
theorem dX8_see_11 : decode cX8_see 11 = .ok (.iastore, 1) := by decide +kernel
theorem dX8_see_12 : decode cX8_see 12 = .ok (.iconst 0, 1) := by decide +kernel
theorem dX8_see_13 : decode cX8_see 13 = .ok (.ireturn, 1) := by decide +kernel
theorem dX8_see_14 : decode cX8_see 14 = .ok (.aload_n 0, 1) := by decide +kernel
theorem dX8_see_15 : decode cX8_see 15 = .ok (.iload_n 1, 1) := by decide +kernel
theorem dX8_see_16 : decode cX8_see 16 = .ok (.invokevirtual 63, 3) := by decide +kernel
theorem dX8_see_19 : decode cX8_see 19 = .ok (.ifCond .ne 5, 3) := by decide +kernel
theorem dX8_see_22 : decode cX8_see 22 = .ok (.iconst (-1), 1) := by decide +kernel
theorem dX8_see_23 : decode cX8_see 23 = .ok (.ireturn, 1) := by decide +kernel
theorem dX8_see_24 : decode cX8_see 24 = .ok (.iload_n 2, 1) := by decide +kernel
theorem dX8_see_25 : decode cX8_see 25 = .ok (.iconst 0, 1) := by decide +kernel
theorem dX8_see_26 : decode cX8_see 26 = .ok (.bipush 9, 2) := by decide +kernel
theorem dX8_see_28 : decode cX8_see 28 = .ok (.invokestatic 47, 3) := by decide +kernel
theorem dX8_see_31 : decode cX8_see 31 = .ok (.ifCond .ne 6, 3) := by decide +kernel
theorem dX8_see_34 : decode cX8_see 34 = .ok (.bipush (-2), 2) := by decide +kernel
theorem dX8_see_36 : decode cX8_see 36 = .ok (.ireturn, 1) := by decide +kernel
theorem dX8_see_37 : decode cX8_see 37 = .ok (.aload_n 0, 1) := by decide +kernel
theorem dX8_see_38 : decode cX8_see 38 = .ok (.getfield 11, 3) := by decide +kernel
theorem dX8_see_41 : decode cX8_see 41 = .ok (.iconst 2, 1) := by decide +kernel
theorem dX8_see_42 : decode cX8_see 42 = .ok (.iaload, 1) := by decide +kernel
theorem dX8_see_43 : decode cX8_see 43 = .ok (.bipush 6, 2) := by decide +kernel
theorem dX8_see_45 : decode cX8_see 45 = .ok (.if_icmp .ne 6, 3) := by decide +kernel
theorem dX8_see_48 : decode cX8_see 48 = .ok (.bipush (-4), 2) := by decide +kernel
theorem dX8_see_50 : decode cX8_see 50 = .ok (.ireturn, 1) := by decide +kernel
theorem dX8_see_51 : decode cX8_see 51 = .ok (.bipush 87, 2) := by decide +kernel
theorem dX8_see_53 : decode cX8_see 53 = .ok (.iconst 3, 1) := by decide +kernel
theorem dX8_see_54 : decode cX8_see 54 = .ok (.aload_n 0, 1) := by decide +kernel
theorem dX8_see_55 : decode cX8_see 55 = .ok (.getfield 11, 3) := by decide +kernel
theorem dX8_see_58 : decode cX8_see 58 = .ok (.iconst 2, 1) := by decide +kernel
theorem dX8_see_59 : decode cX8_see 59 = .ok (.iaload, 1) := by decide +kernel
theorem dX8_see_60 : decode cX8_see 60 = .ok (.imul, 1) := by decide +kernel
theorem dX8_see_61 : decode cX8_see 61 = .ok (.iadd, 1) := by decide +kernel
theorem dX8_see_62 : decode cX8_see 62 = .ok (.istore 4, 2) := by decide +kernel
theorem dX8_see_64 : decode cX8_see 64 = .ok (.aload_n 0, 1) := by decide +kernel
theorem dX8_see_65 : decode cX8_see 65 = .ok (.getfield 11, 3) := by decide +kernel
theorem dX8_see_68 : decode cX8_see 68 = .ok (.iload 4, 2) := by decide +kernel
theorem dX8_see_70 : decode cX8_see 70 = .ok (.iload_n 1, 1) := by decide +kernel
theorem dX8_see_71 : decode cX8_see 71 = .ok (.iastore, 1) := by decide +kernel
theorem dX8_see_72 : decode cX8_see 72 = .ok (.aload_n 0, 1) := by decide +kernel
theorem dX8_see_73 : decode cX8_see 73 = .ok (.getfield 11, 3) := by decide +kernel
theorem dX8_see_76 : decode cX8_see 76 = .ok (.iload 4, 2) := by decide +kernel
theorem dX8_see_78 : decode cX8_see 78 = .ok (.iconst 1, 1) := by decide +kernel
theorem dX8_see_79 : decode cX8_see 79 = .ok (.iadd, 1) := by decide +kernel
theorem dX8_see_80 : decode cX8_see 80 = .ok (.iload_n 2, 1) := by decide +kernel
theorem dX8_see_81 : decode cX8_see 81 = .ok (.iastore, 1) := by decide +kernel
theorem dX8_see_82 : decode cX8_see 82 = .ok (.aload_n 0, 1) := by decide +kernel
theorem dX8_see_83 : decode cX8_see 83 = .ok (.getfield 11, 3) := by decide +kernel
theorem dX8_see_86 : decode cX8_see 86 = .ok (.iload 4, 2) := by decide +kernel
theorem dX8_see_88 : decode cX8_see 88 = .ok (.iconst 2, 1) := by decide +kernel
theorem dX8_see_89 : decode cX8_see 89 = .ok (.iadd, 1) := by decide +kernel
theorem dX8_see_90 : decode cX8_see 90 = .ok (.iload_n 3, 1) := by decide +kernel
theorem dX8_see_91 : decode cX8_see 91 = .ok (.ifCond .eq 7, 3) := by decide +kernel
theorem dX8_see_94 : decode cX8_see 94 = .ok (.iconst 1, 1) := by decide +kernel
theorem dX8_see_95 : decode cX8_see 95 = .ok (.goto 4, 3) := by decide +kernel
theorem dX8_see_98 : decode cX8_see 98 = .ok (.iconst 0, 1) := by decide +kernel
theorem dX8_see_99 : decode cX8_see 99 = .ok (.iastore, 1) := by decide +kernel
theorem dX8_see_100 : decode cX8_see 100 = .ok (.aload_n 0, 1) := by decide +kernel
theorem dX8_see_101 : decode cX8_see 101 = .ok (.getfield 11, 3) := by decide +kernel
theorem dX8_see_104 : decode cX8_see 104 = .ok (.iconst 2, 1) := by decide +kernel
theorem dX8_see_105 : decode cX8_see 105 = .ok (.dup2, 1) := by decide +kernel
theorem dX8_see_106 : decode cX8_see 106 = .ok (.iaload, 1) := by decide +kernel
theorem dX8_see_107 : decode cX8_see 107 = .ok (.iconst 1, 1) := by decide +kernel
theorem dX8_see_108 : decode cX8_see 108 = .ok (.iadd, 1) := by decide +kernel
theorem dX8_see_109 : decode cX8_see 109 = .ok (.iastore, 1) := by decide +kernel
theorem dX8_see_110 : decode cX8_see 110 = .ok (.aload_n 0, 1) := by decide +kernel
theorem dX8_see_111 : decode cX8_see 111 = .ok (.getfield 11, 3) := by decide +kernel
theorem dX8_see_114 : decode cX8_see 114 = .ok (.iconst 2, 1) := by decide +kernel
theorem dX8_see_115 : decode cX8_see 115 = .ok (.iaload, 1) := by decide +kernel
theorem dX8_see_116 : decode cX8_see 116 = .ok (.ireturn, 1) := by decide +kernel
set_option maxRecDepth 20000 in
theorem ggX8_isSeen_X8_rounds : GoodIn wsX8_isSeen wsX8_rounds := goodIn_r _ [6, 1, 23, 24, 25, 26, 27, 28, 29, 30, 31, 32, 33, 34, 35, 36, 37] (by decide +kernel) (by decide +kernel)
set_option maxRecDepth 20000 in
theorem gX8_isSeen_X8_rounds : GoodIn wsX8_isSeen (wsV RX8 51 RX8 yX8_rounds wsX8_rounds) := goodIn_app (goodIn_of _ (by decide +kernel)) ggX8_isSeen_X8_rounds
set_option maxRecDepth 20000 in
theorem ggX8_isSeen_X8_isHomeIn : GoodIn wsX8_isSeen wsX8_isHomeIn := goodIn_r _ [10, 11, 12, 13, 5, 14, 2, 3, 4, 6, 1, 15, 16, 17, 18, 19, 20, 21, 22, 23, 24, 25, 26, 27, 28, 29, 30, 31, 32, 33, 34, 35, 36, 37] (by decide +kernel) (by decide +kernel)
set_option maxRecDepth 20000 in
theorem gX8_isSeen_X8_isHomeIn : GoodIn wsX8_isSeen (wsV RX8 205 RX8 yX8_isHomeIn wsX8_isHomeIn) := goodIn_app (goodIn_of _ (by decide +kernel)) ggX8_isSeen_X8_isHomeIn
theorem dX8_isSeen_0 : decode cX8_isSeen 0 = .ok (.iconst 1, 1) := by decide +kernel
theorem dX8_isSeen_1 : decode cX8_isSeen 1 = .ok (.istore_n 2, 1) := by decide +kernel
theorem dX8_isSeen_2 : decode cX8_isSeen 2 = .ok (.iconst 0, 1) := by decide +kernel
theorem dX8_isSeen_3 : decode cX8_isSeen 3 = .ok (.istore_n 3, 1) := by decide +kernel
theorem dX8_isSeen_4 : decode cX8_isSeen 4 = .ok (.iload_n 3, 1) := by decide +kernel
theorem dX8_isSeen_5 : decode cX8_isSeen 5 = .ok (.aload_n 0, 1) := by decide +kernel
theorem dX8_isSeen_6 : decode cX8_isSeen 6 = .ok (.getfield 11, 3) := by decide +kernel
theorem dX8_isSeen_9 : decode cX8_isSeen 9 = .ok (.iconst 2, 1) := by decide +kernel
theorem dX8_isSeen_10 : decode cX8_isSeen 10 = .ok (.iaload, 1) := by decide +kernel
theorem dX8_isSeen_11 : decode cX8_isSeen 11 = .ok (.if_icmp .ge 88, 3) := by decide +kernel
theorem dX8_isSeen_14 : decode cX8_isSeen 14 = .ok (.aload_n 0, 1) := by decide +kernel
theorem dX8_isSeen_15 : decode cX8_isSeen 15 = .ok (.getfield 11, 3) := by decide +kernel
theorem dX8_isSeen_18 : decode cX8_isSeen 18 = .ok (.bipush 87, 2) := by decide +kernel
theorem dX8_isSeen_20 : decode cX8_isSeen 20 = .ok (.iconst 3, 1) := by decide +kernel
theorem dX8_isSeen_21 : decode cX8_isSeen 21 = .ok (.iload_n 3, 1) := by decide +kernel
theorem dX8_isSeen_22 : decode cX8_isSeen 22 = .ok (.imul, 1) := by decide +kernel
theorem dX8_isSeen_23 : decode cX8_isSeen 23 = .ok (.iadd, 1) := by decide +kernel
theorem dX8_isSeen_24 : decode cX8_isSeen 24 = .ok (.iconst 1, 1) := by decide +kernel
theorem dX8_isSeen_25 : decode cX8_isSeen 25 = .ok (.iadd, 1) := by decide +kernel
theorem dX8_isSeen_26 : decode cX8_isSeen 26 = .ok (.iaload, 1) := by decide +kernel
theorem dX8_isSeen_27 : decode cX8_isSeen 27 = .ok (.istore 4, 2) := by decide +kernel
theorem dX8_isSeen_29 : decode cX8_isSeen 29 = .ok (.iload_n 2, 1) := by decide +kernel
theorem dX8_isSeen_30 : decode cX8_isSeen 30 = .ok (.ifCond .eq 61, 3) := by decide +kernel
theorem dX8_isSeen_33 : decode cX8_isSeen 33 = .ok (.iload 4, 2) := by decide +kernel
theorem dX8_isSeen_35 : decode cX8_isSeen 35 = .ok (.iconst 2, 1) := by decide +kernel
theorem dX8_isSeen_36 : decode cX8_isSeen 36 = .ok (.aload_n 0, 1) := by decide +kernel
theorem dX8_isSeen_37 : decode cX8_isSeen 37 = .ok (.invokevirtual 51, 3) := by decide +kernel
theorem dX8_isSeen_40 : decode cX8_isSeen 40 = .ok (.imul, 1) := by decide +kernel
theorem dX8_isSeen_41 : decode cX8_isSeen 41 = .ok (.if_icmp .ge 50, 3) := by decide +kernel
theorem dX8_isSeen_44 : decode cX8_isSeen 44 = .ok (.aload_n 0, 1) := by decide +kernel
theorem dX8_isSeen_45 : decode cX8_isSeen 45 = .ok (.aload_n 0, 1) := by decide +kernel
theorem dX8_isSeen_46 : decode cX8_isSeen 46 = .ok (.getfield 11, 3) := by decide +kernel
theorem dX8_isSeen_49 : decode cX8_isSeen 49 = .ok (.bipush 87, 2) := by decide +kernel
theorem dX8_isSeen_51 : decode cX8_isSeen 51 = .ok (.iconst 3, 1) := by decide +kernel
theorem dX8_isSeen_52 : decode cX8_isSeen 52 = .ok (.iload_n 3, 1) := by decide +kernel
theorem dX8_isSeen_53 : decode cX8_isSeen 53 = .ok (.imul, 1) := by decide +kernel
theorem dX8_isSeen_54 : decode cX8_isSeen 54 = .ok (.iadd, 1) := by decide +kernel
theorem dX8_isSeen_55 : decode cX8_isSeen 55 = .ok (.iaload, 1) := by decide +kernel
theorem dX8_isSeen_56 : decode cX8_isSeen 56 = .ok (.iload 4, 2) := by decide +kernel
theorem dX8_isSeen_58 : decode cX8_isSeen 58 = .ok (.iload_n 1, 1) := by decide +kernel
theorem dX8_isSeen_59 : decode cX8_isSeen 59 = .ok (.invokevirtual 205, 3) := by decide +kernel
theorem dX8_isSeen_62 : decode cX8_isSeen 62 = .ok (.aload_n 0, 1) := by decide +kernel
theorem dX8_isSeen_63 : decode cX8_isSeen 63 = .ok (.getfield 11, 3) := by decide +kernel
theorem dX8_isSeen_66 : decode cX8_isSeen 66 = .ok (.bipush 87, 2) := by decide +kernel
theorem dX8_isSeen_68 : decode cX8_isSeen 68 = .ok (.iconst 3, 1) := by decide +kernel
theorem dX8_isSeen_69 : decode cX8_isSeen 69 = .ok (.iload_n 3, 1) := by decide +kernel
theorem dX8_isSeen_70 : decode cX8_isSeen 70 = .ok (.imul, 1) := by decide +kernel
theorem dX8_isSeen_71 : decode cX8_isSeen 71 = .ok (.iadd, 1) := by decide +kernel
theorem dX8_isSeen_72 : decode cX8_isSeen 72 = .ok (.iconst 2, 1) := by decide +kernel
theorem dX8_isSeen_73 : decode cX8_isSeen 73 = .ok (.iadd, 1) := by decide +kernel
theorem dX8_isSeen_74 : decode cX8_isSeen 74 = .ok (.iaload, 1) := by decide +kernel
theorem dX8_isSeen_75 : decode cX8_isSeen 75 = .ok (.iconst 1, 1) := by decide +kernel
theorem dX8_isSeen_76 : decode cX8_isSeen 76 = .ok (.if_icmp .ne 7, 3) := by decide +kernel
theorem dX8_isSeen_79 : decode cX8_isSeen 79 = .ok (.iconst 1, 1) := by decide +kernel
theorem dX8_isSeen_80 : decode cX8_isSeen 80 = .ok (.goto 4, 3) := by decide +kernel
theorem dX8_isSeen_83 : decode cX8_isSeen 83 = .ok (.iconst 0, 1) := by decide +kernel
theorem dX8_isSeen_84 : decode cX8_isSeen 84 = .ok (.if_icmp .ne 7, 3) := by decide +kernel
theorem dX8_isSeen_87 : decode cX8_isSeen 87 = .ok (.iconst 1, 1) := by decide +kernel
theorem dX8_isSeen_88 : decode cX8_isSeen 88 = .ok (.goto 4, 3) := by decide +kernel
theorem dX8_isSeen_91 : decode cX8_isSeen 91 = .ok (.iconst 0, 1) := by decide +kernel
theorem dX8_isSeen_92 : decode cX8_isSeen 92 = .ok (.istore_n 2, 1) := by decide +kernel
theorem dX8_isSeen_93 : decode cX8_isSeen 93 = .ok (.iinc 3 1, 3) := by decide +kernel
theorem dX8_isSeen_96 : decode cX8_isSeen 96 = .ok (.goto (-92), 3) := by decide +kernel
theorem dX8_isSeen_99 : decode cX8_isSeen 99 = .ok (.iload_n 2, 1) := by decide +kernel
theorem dX8_isSeen_100 : decode cX8_isSeen 100 = .ok (.ireturn, 1) := by decide +kernel
set_option maxRecDepth 20000 in
theorem ggX8_fits_X8_isSeen : GoodIn wsX8_fits wsX8_isSeen := goodIn_r _ [5, 6, 7, 8, 9, 4, 10, 11, 12, 13, 14, 15, 16, 17, 18, 19, 20, 21, 22, 23, 24, 25, 26, 27, 28, 29, 30, 31, 32, 33, 34, 35, 36, 37, 38, 39, 40, 41] (by decide +kernel) (by decide +kernel)
set_option maxRecDepth 20000 in
theorem gX8_fits_X8_isSeen : GoodIn wsX8_fits (wsV RX8 272 RX8 yX8_isSeen wsX8_isSeen) := goodIn_app (goodIn_of _ (by decide +kernel)) ggX8_fits_X8_isSeen
theorem dX8_fits_0 : decode cX8_fits 0 = .ok (.iconst 0, 1) := by decide +kernel
theorem dX8_fits_1 : decode cX8_fits 1 = .ok (.istore_n 1, 1) := by decide +kernel
theorem dX8_fits_2 : decode cX8_fits 2 = .ok (.iconst 0, 1) := by decide +kernel
theorem dX8_fits_3 : decode cX8_fits 3 = .ok (.istore_n 2, 1) := by decide +kernel
theorem dX8_fits_4 : decode cX8_fits 4 = .ok (.iload_n 2, 1) := by decide +kernel
theorem dX8_fits_5 : decode cX8_fits 5 = .ok (.iconst 3, 1) := by decide +kernel
theorem dX8_fits_6 : decode cX8_fits 6 = .ok (.if_icmp .ge 27, 3) := by decide +kernel
theorem dX8_fits_9 : decode cX8_fits 9 = .ok (.iload_n 1, 1) := by decide +kernel
theorem dX8_fits_10 : decode cX8_fits 10 = .ok (.aload_n 0, 1) := by decide +kernel
theorem dX8_fits_11 : decode cX8_fits 11 = .ok (.iload_n 2, 1) := by decide +kernel
theorem dX8_fits_12 : decode cX8_fits 12 = .ok (.invokevirtual 272, 3) := by decide +kernel
theorem dX8_fits_15 : decode cX8_fits 15 = .ok (.ifCond .eq 9, 3) := by decide +kernel
theorem dX8_fits_18 : decode cX8_fits 18 = .ok (.iconst 1, 1) := by decide +kernel
theorem dX8_fits_19 : decode cX8_fits 19 = .ok (.iload_n 2, 1) := by decide +kernel
theorem dX8_fits_20 : decode cX8_fits 20 = .ok (.ishl, 1) := by decide +kernel
theorem dX8_fits_21 : decode cX8_fits 21 = .ok (.goto 4, 3) := by decide +kernel
theorem dX8_fits_24 : decode cX8_fits 24 = .ok (.iconst 0, 1) := by decide +kernel
theorem dX8_fits_25 : decode cX8_fits 25 = .ok (.ior, 1) := by decide +kernel
theorem dX8_fits_26 : decode cX8_fits 26 = .ok (.istore_n 1, 1) := by decide +kernel
theorem dX8_fits_27 : decode cX8_fits 27 = .ok (.iinc 2 1, 3) := by decide +kernel
theorem dX8_fits_30 : decode cX8_fits 30 = .ok (.goto (-26), 3) := by decide +kernel
theorem dX8_fits_33 : decode cX8_fits 33 = .ok (.iload_n 1, 1) := by decide +kernel
theorem dX8_fits_34 : decode cX8_fits 34 = .ok (.ireturn, 1) := by decide +kernel
theorem dX8_lowest_0 : decode cX8_lowest 0 = .ok (.iload_n 0, 1) := by decide +kernel
theorem dX8_lowest_1 : decode cX8_lowest 1 = .ok (.istore_n 3, 1) := by decide +kernel
theorem dX8_lowest_2 : decode cX8_lowest 2 = .ok (.iload_n 1, 1) := by decide +kernel
theorem dX8_lowest_3 : decode cX8_lowest 3 = .ok (.istore 4, 2) := by decide +kernel
theorem dX8_lowest_5 : decode cX8_lowest 5 = .ok (.iload 4, 2) := by decide +kernel
theorem dX8_lowest_7 : decode cX8_lowest 7 = .ok (.ifCond .eq 19, 3) := by decide +kernel
theorem dX8_lowest_10 : decode cX8_lowest 10 = .ok (.iload_n 3, 1) := by decide +kernel
theorem dX8_lowest_11 : decode cX8_lowest 11 = .ok (.iload 4, 2) := by decide +kernel
theorem dX8_lowest_13 : decode cX8_lowest 13 = .ok (.irem, 1) := by decide +kernel
theorem dX8_lowest_14 : decode cX8_lowest 14 = .ok (.istore 5, 2) := by decide +kernel
theorem dX8_lowest_16 : decode cX8_lowest 16 = .ok (.iload 4, 2) := by decide +kernel
theorem dX8_lowest_18 : decode cX8_lowest 18 = .ok (.istore_n 3, 1) := by decide +kernel
theorem dX8_lowest_19 : decode cX8_lowest 19 = .ok (.iload 5, 2) := by decide +kernel
theorem dX8_lowest_21 : decode cX8_lowest 21 = .ok (.istore 4, 2) := by decide +kernel
theorem dX8_lowest_23 : decode cX8_lowest 23 = .ok (.goto (-18), 3) := by decide +kernel
theorem dX8_lowest_26 : decode cX8_lowest 26 = .ok (.iload_n 2, 1) := by decide +kernel
theorem dX8_lowest_27 : decode cX8_lowest 27 = .ok (.ifCond .ne 10, 3) := by decide +kernel
theorem dX8_lowest_30 : decode cX8_lowest 30 = .ok (.iload_n 0, 1) := by decide +kernel
theorem dX8_lowest_31 : decode cX8_lowest 31 = .ok (.iload_n 3, 1) := by decide +kernel
theorem dX8_lowest_32 : decode cX8_lowest 32 = .ok (.idiv, 1) := by decide +kernel
theorem dX8_lowest_33 : decode cX8_lowest 33 = .ok (.i2l, 1) := by decide +kernel
theorem dX8_lowest_34 : decode cX8_lowest 34 = .ok (.goto 7, 3) := by decide +kernel
theorem dX8_lowest_37 : decode cX8_lowest 37 = .ok (.iload_n 1, 1) := by decide +kernel
theorem dX8_lowest_38 : decode cX8_lowest 38 = .ok (.iload_n 3, 1) := by decide +kernel
theorem dX8_lowest_39 : decode cX8_lowest 39 = .ok (.idiv, 1) := by decide +kernel
theorem dX8_lowest_40 : decode cX8_lowest 40 = .ok (.i2l, 1) := by decide +kernel
theorem dX8_lowest_41 : decode cX8_lowest 41 = .ok (.lreturn, 1) := by decide +kernel
set_option maxRecDepth 20000 in
theorem ggX8_odds_X8_isTeam : GoodIn wsX8_odds wsX8_isTeam := goodIn_r _ [6, 7, 8, 9, 5, 10, 38, 39, 40, 41, 42, 43, 44, 45, 46, 47, 48, 49, 50, 51, 52] (by decide +kernel) (by decide +kernel)
set_option maxRecDepth 20000 in
theorem gX8_odds_X8_isTeam : GoodIn wsX8_odds (wsV RX8 63 RX8 yX8_isTeam wsX8_isTeam) := goodIn_app (goodIn_of _ (by decide +kernel)) ggX8_odds_X8_isTeam
set_option maxRecDepth 20000 in
theorem ggX8_odds_X8_isIn : GoodIn wsX8_odds wsX8_isIn := goodIn_r _ [10] (by decide +kernel) (by decide +kernel)
set_option maxRecDepth 20000 in
theorem gX8_odds_X8_isIn : GoodIn wsX8_odds (va_wsS RX8 47 yX8_isIn wsX8_isIn) := goodIn_app (goodIn_of _ (by decide +kernel)) ggX8_odds_X8_isIn
set_option maxRecDepth 20000 in
theorem ggX8_odds_X8_seasonBreaks : GoodIn wsX8_odds wsX8_seasonBreaks := goodIn_r _ [14, 7, 15, 16, 17, 5, 18, 19, 20, 21, 22, 23, 24, 25, 26, 27, 28, 29, 30, 31, 32, 33, 34, 38, 39, 40, 41, 42, 43, 44, 45, 46, 47, 48, 49, 50, 51, 52] (by decide +kernel) (by decide +kernel)
set_option maxRecDepth 20000 in
theorem gX8_odds_X8_seasonBreaks : GoodIn wsX8_odds (wsV RX8 214 RX8 yX8_seasonBreaks wsX8_seasonBreaks) := goodIn_app (goodIn_of _ (by decide +kernel)) ggX8_odds_X8_seasonBreaks
set_option maxRecDepth 20000 in
theorem ggX8_odds_X8_rounds : GoodIn wsX8_odds wsX8_rounds := goodIn_r _ [18, 7, 38, 39, 40, 41, 42, 43, 44, 45, 46, 47, 48, 49, 50, 51, 52] (by decide +kernel) (by decide +kernel)
set_option maxRecDepth 20000 in
theorem gX8_odds_X8_rounds : GoodIn wsX8_odds (wsV RX8 51 RX8 yX8_rounds wsX8_rounds) := goodIn_app (goodIn_of _ (by decide +kernel)) ggX8_odds_X8_rounds
set_option maxRecDepth 20000 in
theorem ggX8_odds_X8_lowest : GoodIn wsX8_odds wsX8_lowest := goodIn_r _ [37] (by decide +kernel) (by decide +kernel)
set_option maxRecDepth 20000 in
theorem gX8_odds_X8_lowest : GoodIn wsX8_odds (va_wsS RX8 275 yX8_lowest wsX8_lowest) := goodIn_app (goodIn_of _ (by decide +kernel)) ggX8_odds_X8_lowest
theorem dX8_odds_0 : decode cX8_odds 0 = .ok (.aload_n 0, 1) := by decide +kernel
theorem dX8_odds_1 : decode cX8_odds 1 = .ok (.iload_n 1, 1) := by decide +kernel
theorem dX8_odds_2 : decode cX8_odds 2 = .ok (.invokevirtual 63, 3) := by decide +kernel
theorem dX8_odds_5 : decode cX8_odds 5 = .ok (.ifCond .eq 32, 3) := by decide +kernel
theorem dX8_odds_8 : decode cX8_odds 8 = .ok (.iload_n 2, 1) := by decide +kernel
theorem dX8_odds_9 : decode cX8_odds 9 = .ok (.iconst 0, 1) := by decide +kernel
theorem dX8_odds_10 : decode cX8_odds 10 = .ok (.iconst 1, 1) := by decide +kernel
theorem dX8_odds_11 : decode cX8_odds 11 = .ok (.invokestatic 47, 3) := by decide +kernel
theorem dX8_odds_14 : decode cX8_odds 14 = .ok (.ifCond .eq 23, 3) := by decide +kernel
theorem dX8_odds_17 : decode cX8_odds 17 = .ok (.aload_n 0, 1) := by decide +kernel
theorem dX8_odds_18 : decode cX8_odds 18 = .ok (.iload_n 1, 1) := by decide +kernel
theorem dX8_odds_19 : decode cX8_odds 19 = .ok (.invokevirtual 214, 3) := by decide +kernel
theorem dX8_odds_22 : decode cX8_odds 22 = .ok (.iconst 2, 1) := by decide +kernel
theorem dX8_odds_23 : decode cX8_odds 23 = .ok (.aload_n 0, 1) := by decide +kernel
theorem dX8_odds_24 : decode cX8_odds 24 = .ok (.invokevirtual 51, 3) := by decide +kernel
theorem dX8_odds_27 : decode cX8_odds 27 = .ok (.imul, 1) := by decide +kernel
theorem dX8_odds_28 : decode cX8_odds 28 = .ok (.iconst 1, 1) := by decide +kernel
theorem dX8_odds_29 : decode cX8_odds 29 = .ok (.isub, 1) := by decide +kernel
theorem dX8_odds_30 : decode cX8_odds 30 = .ok (.iload_n 2, 1) := by decide +kernel
theorem dX8_odds_31 : decode cX8_odds 31 = .ok (.invokestatic 275, 3) := by decide +kernel
theorem dX8_odds_34 : decode cX8_odds 34 = .ok (.goto 6, 3) := by decide +kernel
theorem dX8_odds_37 : decode cX8_odds 37 = .ok (.ldc2_w 247, 3) := by decide +kernel
theorem dX8_odds_40 : decode cX8_odds 40 = .ok (.lreturn, 1) := by decide +kernel
set_option maxRecDepth 20000 in
theorem ggX8_mean_X8_isIn : GoodIn wsX8_mean wsX8_isIn := goodIn_r _ [6] (by decide +kernel) (by decide +kernel)
set_option maxRecDepth 20000 in
theorem gX8_mean_X8_isIn : GoodIn wsX8_mean (va_wsS RX8 47 yX8_isIn wsX8_isIn) := goodIn_app (goodIn_of _ (by decide +kernel)) ggX8_mean_X8_isIn
set_option maxRecDepth 20000 in
theorem ggX8_mean_X8_allBreaks : GoodIn wsX8_mean wsX8_allBreaks := goodIn_r _ [10, 1, 11, 12, 13, 5, 14, 15, 16, 17, 18, 19, 20, 21, 22, 23, 24, 25, 26, 30, 31, 32, 33, 34, 35, 36, 37, 38, 39, 40, 41, 42, 43, 44] (by decide +kernel) (by decide +kernel)
set_option maxRecDepth 20000 in
theorem gX8_mean_X8_allBreaks : GoodIn wsX8_mean (wsV RX8 80 RX8 yX8_allBreaks wsX8_allBreaks) := goodIn_app (goodIn_of _ (by decide +kernel)) ggX8_mean_X8_allBreaks
set_option maxRecDepth 20000 in
theorem ggX8_mean_X8_lowest : GoodIn wsX8_mean wsX8_lowest := goodIn_r _ [29] (by decide +kernel) (by decide +kernel)
set_option maxRecDepth 20000 in
theorem gX8_mean_X8_lowest : GoodIn wsX8_mean (va_wsS RX8 275 yX8_lowest wsX8_lowest) := goodIn_app (goodIn_of _ (by decide +kernel)) ggX8_mean_X8_lowest
theorem dX8_mean_0 : decode cX8_mean 0 = .ok (.iload_n 1, 1) := by decide +kernel
theorem dX8_mean_1 : decode cX8_mean 1 = .ok (.iconst 0, 1) := by decide +kernel
theorem dX8_mean_2 : decode cX8_mean 2 = .ok (.iconst 1, 1) := by decide +kernel
theorem dX8_mean_3 : decode cX8_mean 3 = .ok (.invokestatic 47, 3) := by decide +kernel
theorem dX8_mean_6 : decode cX8_mean 6 = .ok (.ifCond .eq 20, 3) := by decide +kernel
theorem dX8_mean_9 : decode cX8_mean 9 = .ok (.aload_n 0, 1) := by decide +kernel
theorem dX8_mean_10 : decode cX8_mean 10 = .ok (.invokevirtual 80, 3) := by decide +kernel
theorem dX8_mean_13 : decode cX8_mean 13 = .ok (.aload_n 0, 1) := by decide +kernel
theorem dX8_mean_14 : decode cX8_mean 14 = .ok (.getfield 11, 3) := by decide +kernel
theorem dX8_mean_17 : decode cX8_mean 17 = .ok (.iconst 0, 1) := by decide +kernel
theorem dX8_mean_18 : decode cX8_mean 18 = .ok (.iaload, 1) := by decide +kernel
theorem dX8_mean_19 : decode cX8_mean 19 = .ok (.iload_n 1, 1) := by decide +kernel
theorem dX8_mean_20 : decode cX8_mean 20 = .ok (.invokestatic 275, 3) := by decide +kernel
theorem dX8_mean_23 : decode cX8_mean 23 = .ok (.goto 6, 3) := by decide +kernel
theorem dX8_mean_26 : decode cX8_mean 26 = .ok (.ldc2_w 247, 3) := by decide +kernel
theorem dX8_mean_29 : decode cX8_mean 29 = .ok (.lreturn, 1) := by decide +kernel
set_option maxRecDepth 20000 in
theorem ggX8_isEvent_X8_isRound : GoodIn wsX8_isEvent wsX8_isRound := goodIn_r _ [5, 6, 7, 8, 4, 9, 10, 11, 12, 13, 22, 23, 24, 25, 26, 27, 28, 29, 30, 31, 32, 33, 34, 35, 36] (by decide +kernel) (by decide +kernel)
set_option maxRecDepth 20000 in
theorem gX8_isEvent_X8_isRound : GoodIn wsX8_isEvent (wsV RX8 74 RX8 yX8_isRound wsX8_isRound) := goodIn_app (goodIn_of _ (by decide +kernel)) ggX8_isEvent_X8_isRound
set_option maxRecDepth 20000 in
theorem ggX8_isEvent_X8_isGame : GoodIn wsX8_isEvent wsX8_isGame := goodIn_r _ [17, 10, 11, 12, 4, 13, 22, 23, 24, 25, 26, 27, 28, 29, 30, 31, 32, 33, 34, 35, 36] (by decide +kernel) (by decide +kernel)
set_option maxRecDepth 20000 in
theorem gX8_isEvent_X8_isGame : GoodIn wsX8_isEvent (wsV RX8 83 RX8 yX8_isGame wsX8_isGame) := goodIn_app (goodIn_of _ (by decide +kernel)) ggX8_isEvent_X8_isGame
set_option maxRecDepth 20000 in
theorem ggX8_isEvent_X8_isTeam : GoodIn wsX8_isEvent wsX8_isTeam := goodIn_r _ [21, 10, 11, 12, 4, 13, 22, 23, 24, 25, 26, 27, 28, 29, 30, 31, 32, 33, 34, 35, 36] (by decide +kernel) (by decide +kernel)
set_option maxRecDepth 20000 in
theorem gX8_isEvent_X8_isTeam : GoodIn wsX8_isEvent (wsV RX8 63 RX8 yX8_isTeam wsX8_isTeam) := goodIn_app (goodIn_of _ (by decide +kernel)) ggX8_isEvent_X8_isTeam
set_option maxRecDepth 20000 in
theorem ggX8_isEvent_X8_isIn : GoodIn wsX8_isEvent wsX8_isIn := goodIn_r _ [13] (by decide +kernel) (by decide +kernel)
set_option maxRecDepth 20000 in
theorem gX8_isEvent_X8_isIn : GoodIn wsX8_isEvent (va_wsS RX8 47 yX8_isIn wsX8_isIn) := goodIn_app (goodIn_of _ (by decide +kernel)) ggX8_isEvent_X8_isIn
theorem dX8_isEvent_0 : decode cX8_isEvent 0 = .ok (.iload_n 1, 1) := by decide +kernel
theorem dX8_isEvent_1 : decode cX8_isEvent 1 = .ok (.tableswitch 93 0 2 #[27, 49, 71], 27) := by decide +kernel
theorem dX8_isEvent_28 : decode cX8_isEvent 28 = .ok (.aload_n 0, 1) := by decide +kernel
theorem dX8_isEvent_29 : decode cX8_isEvent 29 = .ok (.iload_n 2, 1) := by decide +kernel
theorem dX8_isEvent_30 : decode cX8_isEvent 30 = .ok (.invokevirtual 74, 3) := by decide +kernel
theorem dX8_isEvent_33 : decode cX8_isEvent 33 = .ok (.ifCond .eq 15, 3) := by decide +kernel
theorem dX8_isEvent_36 : decode cX8_isEvent 36 = .ok (.aload_n 0, 1) := by decide +kernel
theorem dX8_isEvent_37 : decode cX8_isEvent 37 = .ok (.iload_n 3, 1) := by decide +kernel
theorem dX8_isEvent_38 : decode cX8_isEvent 38 = .ok (.invokevirtual 74, 3) := by decide +kernel
theorem dX8_isEvent_41 : decode cX8_isEvent 41 = .ok (.ifCond .eq 7, 3) := by decide +kernel
theorem dX8_isEvent_44 : decode cX8_isEvent 44 = .ok (.iconst 1, 1) := by decide +kernel
theorem dX8_isEvent_45 : decode cX8_isEvent 45 = .ok (.goto 4, 3) := by decide +kernel
theorem dX8_isEvent_48 : decode cX8_isEvent 48 = .ok (.iconst 0, 1) := by decide +kernel
theorem dX8_isEvent_49 : decode cX8_isEvent 49 = .ok (.ireturn, 1) := by decide +kernel
theorem dX8_isEvent_50 : decode cX8_isEvent 50 = .ok (.aload_n 0, 1) := by decide +kernel
theorem dX8_isEvent_51 : decode cX8_isEvent 51 = .ok (.iload_n 2, 1) := by decide +kernel
theorem dX8_isEvent_52 : decode cX8_isEvent 52 = .ok (.invokevirtual 74, 3) := by decide +kernel
theorem dX8_isEvent_55 : decode cX8_isEvent 55 = .ok (.ifCond .eq 15, 3) := by decide +kernel
theorem dX8_isEvent_58 : decode cX8_isEvent 58 = .ok (.aload_n 0, 1) := by decide +kernel
theorem dX8_isEvent_59 : decode cX8_isEvent 59 = .ok (.iload_n 3, 1) := by decide +kernel
theorem dX8_isEvent_60 : decode cX8_isEvent 60 = .ok (.invokevirtual 83, 3) := by decide +kernel
theorem dX8_isEvent_63 : decode cX8_isEvent 63 = .ok (.ifCond .eq 7, 3) := by decide +kernel
theorem dX8_isEvent_66 : decode cX8_isEvent 66 = .ok (.iconst 1, 1) := by decide +kernel
theorem dX8_isEvent_67 : decode cX8_isEvent 67 = .ok (.goto 4, 3) := by decide +kernel
theorem dX8_isEvent_70 : decode cX8_isEvent 70 = .ok (.iconst 0, 1) := by decide +kernel
theorem dX8_isEvent_71 : decode cX8_isEvent 71 = .ok (.ireturn, 1) := by decide +kernel
theorem dX8_isEvent_72 : decode cX8_isEvent 72 = .ok (.aload_n 0, 1) := by decide +kernel
theorem dX8_isEvent_73 : decode cX8_isEvent 73 = .ok (.iload_n 2, 1) := by decide +kernel
theorem dX8_isEvent_74 : decode cX8_isEvent 74 = .ok (.invokevirtual 63, 3) := by decide +kernel
theorem dX8_isEvent_77 : decode cX8_isEvent 77 = .ok (.ifCond .eq 15, 3) := by decide +kernel
theorem dX8_isEvent_80 : decode cX8_isEvent 80 = .ok (.aload_n 0, 1) := by decide +kernel
theorem dX8_isEvent_81 : decode cX8_isEvent 81 = .ok (.iload_n 3, 1) := by decide +kernel
theorem dX8_isEvent_82 : decode cX8_isEvent 82 = .ok (.invokevirtual 63, 3) := by decide +kernel
theorem dX8_isEvent_85 : decode cX8_isEvent 85 = .ok (.ifCond .eq 7, 3) := by decide +kernel
theorem dX8_isEvent_88 : decode cX8_isEvent 88 = .ok (.iconst 1, 1) := by decide +kernel
theorem dX8_isEvent_89 : decode cX8_isEvent 89 = .ok (.goto 4, 3) := by decide +kernel
theorem dX8_isEvent_92 : decode cX8_isEvent 92 = .ok (.iconst 0, 1) := by decide +kernel
theorem dX8_isEvent_93 : decode cX8_isEvent 93 = .ok (.ireturn, 1) := by decide +kernel
theorem dX8_isEvent_94 : decode cX8_isEvent 94 = .ok (.iload_n 2, 1) := by decide +kernel
theorem dX8_isEvent_95 : decode cX8_isEvent 95 = .ok (.iconst 0, 1) := by decide +kernel
theorem dX8_isEvent_96 : decode cX8_isEvent 96 = .ok (.iconst 3, 1) := by decide +kernel
theorem dX8_isEvent_97 : decode cX8_isEvent 97 = .ok (.invokestatic 47, 3) := by decide +kernel
theorem dX8_isEvent_100 : decode cX8_isEvent 100 = .ok (.ireturn, 1) := by decide +kernel
set_option maxRecDepth 20000 in
theorem ggX8_event_X8_isIn : GoodIn wsX8_event wsX8_isIn := goodIn_r _ [5] (by decide +kernel) (by decide +kernel)
set_option maxRecDepth 20000 in
theorem gX8_event_X8_isIn : GoodIn wsX8_event (va_wsS RX8 47 yX8_isIn wsX8_isIn) := goodIn_app (goodIn_of _ (by decide +kernel)) ggX8_event_X8_isIn
set_option maxRecDepth 20000 in
theorem ggX8_event_X8_isEvent : GoodIn wsX8_event wsX8_isEvent := goodIn_r _ [9, 10, 11, 12, 4, 13, 14, 15, 16, 17, 1, 2, 3, 5, 18, 19, 20, 21, 22, 23, 24, 25, 26, 27, 28, 29, 30, 31, 32, 33, 34, 35, 36, 37, 38, 39, 40] (by decide +kernel) (by decide +kernel)
set_option maxRecDepth 20000 in
theorem gX8_event_X8_isEvent : GoodIn wsX8_event (wsV RX8 279 RX8 yX8_isEvent wsX8_isEvent) := goodIn_app (goodIn_of _ (by decide +kernel)) ggX8_event_X8_isEvent
theorem dX8_event_0 : decode cX8_event 0 = .ok (.iload_n 1, 1) := by decide +kernel
theorem dX8_event_1 : decode cX8_event 1 = .ok (.iconst (-1), 1) := by decide +kernel
theorem dX8_event_2 : decode cX8_event 2 = .ok (.if_icmp .ne 12, 3) := by decide +kernel
theorem dX8_event_5 : decode cX8_event 5 = .ok (.aload_n 0, 1) := by decide +kernel
theorem dX8_event_6 : decode cX8_event 6 = .ok (.getfield 11, 3) := by decide +kernel
theorem dX8_event_9 : decode cX8_event 9 = .ok (.iconst 3, 1) := by decide +kernel
theorem dX8_event_10 : decode cX8_event 10 = .ok (.iconst 0, 1) := by decide +kernel
theorem dX8_event_11 : decode cX8_event 11 = .ok (.iastore, 1) := by decide +kernel
theorem dX8_event_12 : decode cX8_event 12 = .ok (.iconst 0, 1) := by decide +kernel
theorem dX8_event_13 : decode cX8_event 13 = .ok (.ireturn, 1) := by decide +kernel
theorem dX8_event_14 : decode cX8_event 14 = .ok (.iload_n 1, 1) := by decide +kernel
theorem dX8_event_15 : decode cX8_event 15 = .ok (.iconst 0, 1) := by decide +kernel
theorem dX8_event_16 : decode cX8_event 16 = .ok (.iconst 3, 1) := by decide +kernel
theorem dX8_event_17 : decode cX8_event 17 = .ok (.invokestatic 47, 3) := by decide +kernel
theorem dX8_event_20 : decode cX8_event 20 = .ok (.ifCond .eq 23, 3) := by decide +kernel
theorem dX8_event_23 : decode cX8_event 23 = .ok (.iload_n 2, 1) := by decide +kernel
theorem dX8_event_24 : decode cX8_event 24 = .ok (.ifCond .lt 19, 3) := by decide +kernel
theorem dX8_event_27 : decode cX8_event 27 = .ok (.aload_n 0, 1) := by decide +kernel
theorem dX8_event_28 : decode cX8_event 28 = .ok (.iload_n 1, 1) := by decide +kernel
theorem dX8_event_29 : decode cX8_event 29 = .ok (.iload_n 2, 1) := by decide +kernel
theorem dX8_event_30 : decode cX8_event 30 = .ok (.bipush 10, 2) := by decide +kernel
theorem dX8_event_32 : decode cX8_event 32 = .ok (.idiv, 1) := by decide +kernel
theorem dX8_event_33 : decode cX8_event 33 = .ok (.iload_n 2, 1) := by decide +kernel
theorem dX8_event_34 : decode cX8_event 34 = .ok (.bipush 10, 2) := by decide +kernel
theorem dX8_event_36 : decode cX8_event 36 = .ok (.irem, 1) := by decide +kernel
theorem dX8_event_37 : decode cX8_event 37 = .ok (.invokevirtual 279, 3) := by decide +kernel
theorem dX8_event_40 : decode cX8_event 40 = .ok (.ifCond .ne 5, 3) := by decide +kernel
theorem dX8_event_43 : decode cX8_event 43 = .ok (.iconst (-1), 1) := by decide +kernel
theorem dX8_event_44 : decode cX8_event 44 = .ok (.ireturn, 1) := by decide +kernel
theorem dX8_event_45 : decode cX8_event 45 = .ok (.aload_n 0, 1) := by decide +kernel
theorem dX8_event_46 : decode cX8_event 46 = .ok (.getfield 11, 3) := by decide +kernel
theorem dX8_event_49 : decode cX8_event 49 = .ok (.iconst 3, 1) := by decide +kernel
theorem dX8_event_50 : decode cX8_event 50 = .ok (.iaload, 1) := by decide +kernel
theorem dX8_event_51 : decode cX8_event 51 = .ok (.bipush 8, 2) := by decide +kernel
theorem dX8_event_53 : decode cX8_event 53 = .ok (.if_icmp .ne 6, 3) := by decide +kernel
theorem dX8_event_56 : decode cX8_event 56 = .ok (.bipush (-4), 2) := by decide +kernel
theorem dX8_event_58 : decode cX8_event 58 = .ok (.ireturn, 1) := by decide +kernel
theorem dX8_event_59 : decode cX8_event 59 = .ok (.aload_n 0, 1) := by decide +kernel
theorem dX8_event_60 : decode cX8_event 60 = .ok (.getfield 11, 3) := by decide +kernel
theorem dX8_event_63 : decode cX8_event 63 = .ok (.bipush 105, 2) := by decide +kernel
theorem dX8_event_65 : decode cX8_event 65 = .ok (.iconst 2, 1) := by decide +kernel
theorem dX8_event_66 : decode cX8_event 66 = .ok (.aload_n 0, 1) := by decide +kernel
theorem dX8_event_67 : decode cX8_event 67 = .ok (.getfield 11, 3) := by decide +kernel
theorem dX8_event_70 : decode cX8_event 70 = .ok (.iconst 3, 1) := by decide +kernel
theorem dX8_event_71 : decode cX8_event 71 = .ok (.iaload, 1) := by decide +kernel
theorem dX8_event_72 : decode cX8_event 72 = .ok (.imul, 1) := by decide +kernel
theorem dX8_event_73 : decode cX8_event 73 = .ok (.iadd, 1) := by decide +kernel
theorem dX8_event_74 : decode cX8_event 74 = .ok (.iload_n 1, 1) := by decide +kernel
theorem dX8_event_75 : decode cX8_event 75 = .ok (.iastore, 1) := by decide +kernel
theorem dX8_event_76 : decode cX8_event 76 = .ok (.aload_n 0, 1) := by decide +kernel
theorem dX8_event_77 : decode cX8_event 77 = .ok (.getfield 11, 3) := by decide +kernel
theorem dX8_event_80 : decode cX8_event 80 = .ok (.bipush 105, 2) := by decide +kernel
theorem dX8_event_82 : decode cX8_event 82 = .ok (.iconst 2, 1) := by decide +kernel
theorem dX8_event_83 : decode cX8_event 83 = .ok (.aload_n 0, 1) := by decide +kernel
theorem dX8_event_84 : decode cX8_event 84 = .ok (.getfield 11, 3) := by decide +kernel
theorem dX8_event_87 : decode cX8_event 87 = .ok (.iconst 3, 1) := by decide +kernel
theorem dX8_event_88 : decode cX8_event 88 = .ok (.iaload, 1) := by decide +kernel
theorem dX8_event_89 : decode cX8_event 89 = .ok (.imul, 1) := by decide +kernel
theorem dX8_event_90 : decode cX8_event 90 = .ok (.iadd, 1) := by decide +kernel
theorem dX8_event_91 : decode cX8_event 91 = .ok (.iconst 1, 1) := by decide +kernel
theorem dX8_event_92 : decode cX8_event 92 = .ok (.iadd, 1) := by decide +kernel
theorem dX8_event_93 : decode cX8_event 93 = .ok (.iload_n 2, 1) := by decide +kernel
theorem dX8_event_94 : decode cX8_event 94 = .ok (.iastore, 1) := by decide +kernel
theorem dX8_event_95 : decode cX8_event 95 = .ok (.aload_n 0, 1) := by decide +kernel
theorem dX8_event_96 : decode cX8_event 96 = .ok (.getfield 11, 3) := by decide +kernel
theorem dX8_event_99 : decode cX8_event 99 = .ok (.iconst 3, 1) := by decide +kernel
theorem dX8_event_100 : decode cX8_event 100 = .ok (.dup2, 1) := by decide +kernel
theorem dX8_event_101 : decode cX8_event 101 = .ok (.iaload, 1) := by decide +kernel
theorem dX8_event_102 : decode cX8_event 102 = .ok (.iconst 1, 1) := by decide +kernel
theorem dX8_event_103 : decode cX8_event 103 = .ok (.iadd, 1) := by decide +kernel
theorem dX8_event_104 : decode cX8_event 104 = .ok (.iastore, 1) := by decide +kernel
theorem dX8_event_105 : decode cX8_event 105 = .ok (.aload_n 0, 1) := by decide +kernel
theorem dX8_event_106 : decode cX8_event 106 = .ok (.getfield 11, 3) := by decide +kernel
theorem dX8_event_109 : decode cX8_event 109 = .ok (.iconst 3, 1) := by decide +kernel
theorem dX8_event_110 : decode cX8_event 110 = .ok (.iaload, 1) := by decide +kernel
theorem dX8_event_111 : decode cX8_event 111 = .ok (.ireturn, 1) := by decide +kernel
set_option maxRecDepth 20000 in
theorem ggX8_happens_X8_swaps : GoodIn wsX8_happens wsX8_swaps := goodIn_r _ [6, 1, 7, 8, 9, 5, 10, 27, 28, 29, 30, 31, 32, 33, 34, 35, 36, 37, 38, 39, 40, 41] (by decide +kernel) (by decide +kernel)
set_option maxRecDepth 20000 in
theorem gX8_happens_X8_swaps : GoodIn wsX8_happens (wsV RX8 77 RX8 yX8_swaps wsX8_swaps) := goodIn_app (goodIn_of _ (by decide +kernel)) ggX8_happens_X8_swaps
set_option maxRecDepth 20000 in
theorem ggX8_happens_X8_turns : GoodIn wsX8_happens wsX8_turns := goodIn_r _ [14, 15, 16, 17, 5, 18, 7, 8, 9, 10, 1, 27, 28, 29, 30, 31, 32, 33, 34, 35, 36, 37, 38, 39, 40, 41] (by decide +kernel) (by decide +kernel)
set_option maxRecDepth 20000 in
theorem gX8_happens_X8_turns : GoodIn wsX8_happens (wsV RX8 86 RX8 yX8_turns wsX8_turns) := goodIn_app (goodIn_of _ (by decide +kernel)) ggX8_happens_X8_turns
set_option maxRecDepth 20000 in
theorem ggX8_happens_X8_stands : GoodIn wsX8_happens wsX8_stands := goodIn_r _ [22, 1, 23, 24, 25, 5, 26, 27, 28, 29, 30, 31, 32, 33, 34, 35, 36, 37, 38, 39, 40, 41] (by decide +kernel) (by decide +kernel)
set_option maxRecDepth 20000 in
theorem gX8_happens_X8_stands : GoodIn wsX8_happens (wsV RX8 92 RX8 yX8_stands wsX8_stands) := goodIn_app (goodIn_of _ (by decide +kernel)) ggX8_happens_X8_stands
theorem dX8_happens_0 : decode cX8_happens 0 = .ok (.iload_n 1, 1) := by decide +kernel
theorem dX8_happens_1 : decode cX8_happens 1 = .ok (.ifCond .ne 12, 3) := by decide +kernel
theorem dX8_happens_4 : decode cX8_happens 4 = .ok (.aload_n 0, 1) := by decide +kernel
theorem dX8_happens_5 : decode cX8_happens 5 = .ok (.iload_n 2, 1) := by decide +kernel
theorem dX8_happens_6 : decode cX8_happens 6 = .ok (.iload_n 3, 1) := by decide +kernel
theorem dX8_happens_7 : decode cX8_happens 7 = .ok (.invokevirtual 77, 3) := by decide +kernel
theorem dX8_happens_10 : decode cX8_happens 10 = .ok (.goto 40, 3) := by decide +kernel
theorem dX8_happens_13 : decode cX8_happens 13 = .ok (.iload_n 1, 1) := by decide +kernel
theorem dX8_happens_14 : decode cX8_happens 14 = .ok (.iconst 1, 1) := by decide +kernel
theorem dX8_happens_15 : decode cX8_happens 15 = .ok (.if_icmp .ne 12, 3) := by decide +kernel
theorem dX8_happens_18 : decode cX8_happens 18 = .ok (.aload_n 0, 1) := by decide +kernel
theorem dX8_happens_19 : decode cX8_happens 19 = .ok (.iload_n 2, 1) := by decide +kernel
theorem dX8_happens_20 : decode cX8_happens 20 = .ok (.iload_n 3, 1) := by decide +kernel
theorem dX8_happens_21 : decode cX8_happens 21 = .ok (.invokevirtual 86, 3) := by decide +kernel
theorem dX8_happens_24 : decode cX8_happens 24 = .ok (.goto 26, 3) := by decide +kernel
theorem dX8_happens_27 : decode cX8_happens 27 = .ok (.iload_n 1, 1) := by decide +kernel
theorem dX8_happens_28 : decode cX8_happens 28 = .ok (.iconst 2, 1) := by decide +kernel
theorem dX8_happens_29 : decode cX8_happens 29 = .ok (.if_icmp .ne 12, 3) := by decide +kernel
theorem dX8_happens_32 : decode cX8_happens 32 = .ok (.aload_n 0, 1) := by decide +kernel
theorem dX8_happens_33 : decode cX8_happens 33 = .ok (.iload_n 2, 1) := by decide +kernel
theorem dX8_happens_34 : decode cX8_happens 34 = .ok (.iload_n 3, 1) := by decide +kernel
theorem dX8_happens_35 : decode cX8_happens 35 = .ok (.invokevirtual 92, 3) := by decide +kernel
theorem dX8_happens_38 : decode cX8_happens 38 = .ok (.goto 12, 3) := by decide +kernel
theorem dX8_happens_41 : decode cX8_happens 41 = .ok (.aload_n 0, 1) := by decide +kernel
theorem dX8_happens_42 : decode cX8_happens 42 = .ok (.getfield 11, 3) := by decide +kernel
theorem dX8_happens_45 : decode cX8_happens 45 = .ok (.iconst 5, 1) := by decide +kernel
theorem dX8_happens_46 : decode cX8_happens 46 = .ok (.iload_n 2, 1) := by decide +kernel
theorem dX8_happens_47 : decode cX8_happens 47 = .ok (.iadd, 1) := by decide +kernel
theorem dX8_happens_48 : decode cX8_happens 48 = .ok (.iload_n 3, 1) := by decide +kernel
theorem dX8_happens_49 : decode cX8_happens 49 = .ok (.iastore, 1) := by decide +kernel
theorem dX8_happens_50 : decode cX8_happens 50 = .ok (.return_, 1) := by decide +kernel
set_option maxRecDepth 20000 in
theorem ggX8_after_X8_isIn : GoodIn wsX8_after wsX8_isIn := goodIn_r _ [7] (by decide +kernel) (by decide +kernel)
set_option maxRecDepth 20000 in
theorem gX8_after_X8_isIn : GoodIn wsX8_after (va_wsS RX8 47 yX8_isIn wsX8_isIn) := goodIn_app (goodIn_of _ (by decide +kernel)) ggX8_after_X8_isIn
set_option maxRecDepth 20000 in
theorem ggX8_after_X8_copies : GoodIn wsX8_after wsX8_copies := goodIn_r _ [10] (by decide +kernel) (by decide +kernel)
set_option maxRecDepth 20000 in
theorem gX8_after_X8_copies : GoodIn wsX8_after (va_wsS RX8 282 yX8_copies wsX8_copies) := goodIn_app (goodIn_of _ (by decide +kernel)) ggX8_after_X8_copies
set_option maxRecDepth 20000 in
theorem ggX8_after_X8_happens : GoodIn wsX8_after wsX8_happens := goodIn_r _ [14, 2, 15, 16, 17, 6, 18, 19, 20, 21, 22, 23, 24, 25, 26, 27, 28, 29, 30, 31, 32, 33, 34, 35, 36, 37, 38, 116, 117, 118, 119, 120, 121, 122, 123, 124, 125, 126, 127, 128, 129, 130] (by decide +kernel) (by decide +kernel)
set_option maxRecDepth 20000 in
theorem gX8_after_X8_happens : GoodIn wsX8_after (wsV RX8 286 RX8 yX8_happens wsX8_happens) := goodIn_app (goodIn_of _ (by decide +kernel)) ggX8_after_X8_happens
set_option maxRecDepth 20000 in
theorem ggX8_after_X8_allBreaks : GoodIn wsX8_after wsX8_allBreaks := goodIn_r _ [42, 2, 43, 44, 45, 6, 46, 35, 36, 37, 38, 47, 48, 49, 50, 51, 52, 53, 54, 116, 117, 118, 119, 120, 121, 122, 123, 124, 125, 126, 127, 128, 129, 130] (by decide +kernel) (by decide +kernel)
set_option maxRecDepth 20000 in
theorem gX8_after_X8_allBreaks : GoodIn wsX8_after (wsV RX8 80 RX8 yX8_allBreaks wsX8_allBreaks) := goodIn_app (goodIn_of _ (by decide +kernel)) ggX8_after_X8_allBreaks
set_option maxRecDepth 20000 in
theorem ggX8_after_X8_violated : GoodIn wsX8_after wsX8_violated := goodIn_r _ [58, 2, 35, 36, 37, 6, 38, 47, 48, 49, 50, 51, 52, 53, 54, 116, 117, 118, 119, 120, 121, 122, 123, 124, 125, 126, 127, 128, 129, 130] (by decide +kernel) (by decide +kernel)
set_option maxRecDepth 20000 in
theorem gX8_after_X8_violated : GoodIn wsX8_after (wsV RX8 221 RX8 yX8_violated wsX8_violated) := goodIn_app (goodIn_of _ (by decide +kernel)) ggX8_after_X8_violated
set_option maxRecDepth 20000 in
theorem ggX8_after_X8_costs : GoodIn wsX8_after wsX8_costs := goodIn_r _ [62, 39, 40, 41, 6, 42, 2, 43, 44, 45, 46, 35, 36, 37, 38, 47, 48, 49, 50, 51, 52, 53, 54, 63, 64, 65, 66, 67, 55, 56, 57, 58, 68, 69, 70, 71, 72, 73, 74, 75, 76, 77, 78, 79, 80, 81, 82, 83, 84, 85, 86, 87, 88, 89, 90, 91, 92, 93, 94, 95, 96, 97, 98, 99, 100, 101, 102, 103, 116, 117, 118, 119, 120, 121, 122, 123, 124, 125, 126, 127, 128, 129, 130] (by decide +kernel) (by decide +kernel)
set_option maxRecDepth 20000 in
theorem gX8_after_X8_costs : GoodIn wsX8_after (wsV RX8 253 RX8 yX8_costs wsX8_costs) := goodIn_app (goodIn_of _ (by decide +kernel)) ggX8_after_X8_costs
set_option maxRecDepth 20000 in
theorem ggX8_after_Jxf58ca_floatToIntBits_5c35a : GoodIn wsX8_after wsJxf58ca_floatToIntBits_5c35a := goodIn_r _ [107, 108, 109, 110, 111, 112, 113, 114, 106, 115] (by decide +kernel) (by decide +kernel)
set_option maxRecDepth 20000 in
theorem gX8_after_Jxf58ca_floatToIntBits_5c35a : GoodIn wsX8_after (va_wsS RX8 241 yJxf58ca_floatToIntBits_5c35a wsJxf58ca_floatToIntBits_5c35a) := goodIn_app (goodIn_of _ (by decide +kernel)) ggX8_after_Jxf58ca_floatToIntBits_5c35a
theorem dX8_after_0 : decode cX8_after 0 = .ok (.iload_n 1, 1) := by decide +kernel
theorem dX8_after_1 : decode cX8_after 1 = .ok (.iconst 0, 1) := by decide +kernel
theorem dX8_after_2 : decode cX8_after 2 = .ok (.iconst 2, 1) := by decide +kernel
theorem dX8_after_3 : decode cX8_after 3 = .ok (.invokestatic 47, 3) := by decide +kernel
theorem dX8_after_6 : decode cX8_after 6 = .ok (.ifCond .ne 7, 3) := by decide +kernel
theorem dX8_after_9 : decode cX8_after 9 = .ok (.ldc2_w 247, 3) := by decide +kernel
theorem dX8_after_12 : decode cX8_after 12 = .ok (.lreturn, 1) := by decide +kernel
theorem dX8_after_13 : decode cX8_after 13 = .ok (.aload_n 0, 1) := by decide +kernel
theorem dX8_after_14 : decode cX8_after 14 = .ok (.getfield 11, 3) := by decide +kernel
theorem dX8_after_17 : decode cX8_after 17 = .ok (.aload_n 0, 1) := by decide +kernel
theorem dX8_after_18 : decode cX8_after 18 = .ok (.getfield 18, 3) := by decide +kernel
theorem dX8_after_21 : decode cX8_after 21 = .ok (.invokestatic 282, 3) := by decide +kernel
theorem dX8_after_24 : decode cX8_after 24 = .ok (.iconst 0, 1) := by decide +kernel
theorem dX8_after_25 : decode cX8_after 25 = .ok (.istore_n 2, 1) := by decide +kernel
theorem dX8_after_26 : decode cX8_after 26 = .ok (.iload_n 2, 1) := by decide +kernel
theorem dX8_after_27 : decode cX8_after 27 = .ok (.aload_n 0, 1) := by decide +kernel
theorem dX8_after_28 : decode cX8_after 28 = .ok (.getfield 11, 3) := by decide +kernel
theorem dX8_after_31 : decode cX8_after 31 = .ok (.iconst 3, 1) := by decide +kernel
theorem dX8_after_32 : decode cX8_after 32 = .ok (.iaload, 1) := by decide +kernel
theorem dX8_after_33 : decode cX8_after 33 = .ok (.if_icmp .ge 46, 3) := by decide +kernel
theorem dX8_after_36 : decode cX8_after 36 = .ok (.aload_n 0, 1) := by decide +kernel
theorem dX8_after_37 : decode cX8_after 37 = .ok (.getfield 11, 3) := by decide +kernel
theorem dX8_after_40 : decode cX8_after 40 = .ok (.bipush 105, 2) := by decide +kernel
theorem dX8_after_42 : decode cX8_after 42 = .ok (.iconst 2, 1) := by decide +kernel
theorem dX8_after_43 : decode cX8_after 43 = .ok (.iload_n 2, 1) := by decide +kernel
theorem dX8_after_44 : decode cX8_after 44 = .ok (.imul, 1) := by decide +kernel
theorem dX8_after_45 : decode cX8_after 45 = .ok (.iadd, 1) := by decide +kernel
theorem dX8_after_46 : decode cX8_after 46 = .ok (.iconst 1, 1) := by decide +kernel
theorem dX8_after_47 : decode cX8_after 47 = .ok (.iadd, 1) := by decide +kernel
theorem dX8_after_48 : decode cX8_after 48 = .ok (.iaload, 1) := by decide +kernel
theorem dX8_after_49 : decode cX8_after 49 = .ok (.istore_n 3, 1) := by decide +kernel
theorem dX8_after_50 : decode cX8_after 50 = .ok (.aload_n 0, 1) := by decide +kernel
theorem dX8_after_51 : decode cX8_after 51 = .ok (.aload_n 0, 1) := by decide +kernel
theorem dX8_after_52 : decode cX8_after 52 = .ok (.getfield 11, 3) := by decide +kernel
theorem dX8_after_55 : decode cX8_after 55 = .ok (.bipush 105, 2) := by decide +kernel
theorem dX8_after_57 : decode cX8_after 57 = .ok (.iconst 2, 1) := by decide +kernel
theorem dX8_after_58 : decode cX8_after 58 = .ok (.iload_n 2, 1) := by decide +kernel
theorem dX8_after_59 : decode cX8_after 59 = .ok (.imul, 1) := by decide +kernel
theorem dX8_after_60 : decode cX8_after 60 = .ok (.iadd, 1) := by decide +kernel
theorem dX8_after_61 : decode cX8_after 61 = .ok (.iaload, 1) := by decide +kernel
theorem dX8_after_62 : decode cX8_after 62 = .ok (.iload_n 3, 1) := by decide +kernel
theorem dX8_after_63 : decode cX8_after 63 = .ok (.bipush 10, 2) := by decide +kernel
theorem dX8_after_65 : decode cX8_after 65 = .ok (.idiv, 1) := by decide +kernel
theorem dX8_after_66 : decode cX8_after 66 = .ok (.iload_n 3, 1) := by decide +kernel
theorem dX8_after_67 : decode cX8_after 67 = .ok (.bipush 10, 2) := by decide +kernel
theorem dX8_after_69 : decode cX8_after 69 = .ok (.irem, 1) := by decide +kernel
theorem dX8_after_70 : decode cX8_after 70 = .ok (.invokevirtual 286, 3) := by decide +kernel
theorem dX8_after_73 : decode cX8_after 73 = .ok (.iinc 2 1, 3) := by decide +kernel
theorem dX8_after_76 : decode cX8_after 76 = .ok (.goto (-50), 3) := by decide +kernel
theorem dX8_after_79 : decode cX8_after 79 = .ok (.iload_n 1, 1) := by decide +kernel
theorem dX8_after_80 : decode cX8_after 80 = .ok (.ifCond .ne 11, 3) := by decide +kernel
theorem dX8_after_83 : decode cX8_after 83 = .ok (.aload_n 0, 1) := by decide +kernel
theorem dX8_after_84 : decode cX8_after 84 = .ok (.invokevirtual 80, 3) := by decide +kernel
theorem dX8_after_87 : decode cX8_after 87 = .ok (.i2l, 1) := by decide +kernel
theorem dX8_after_88 : decode cX8_after 88 = .ok (.goto 24, 3) := by decide +kernel
theorem dX8_after_91 : decode cX8_after 91 = .ok (.iload_n 1, 1) := by decide +kernel
theorem dX8_after_92 : decode cX8_after 92 = .ok (.iconst 1, 1) := by decide +kernel
theorem dX8_after_93 : decode cX8_after 93 = .ok (.if_icmp .ne 11, 3) := by decide +kernel
theorem dX8_after_96 : decode cX8_after 96 = .ok (.aload_n 0, 1) := by decide +kernel
theorem dX8_after_97 : decode cX8_after 97 = .ok (.invokevirtual 221, 3) := by decide +kernel
theorem dX8_after_100 : decode cX8_after 100 = .ok (.i2l, 1) := by decide +kernel
theorem dX8_after_101 : decode cX8_after 101 = .ok (.goto 11, 3) := by decide +kernel
theorem dX8_after_104 : decode cX8_after 104 = .ok (.aload_n 0, 1) := by decide +kernel
theorem dX8_after_105 : decode cX8_after 105 = .ok (.invokevirtual 253, 3) := by decide +kernel
theorem dX8_after_108 : decode cX8_after 108 = .ok (.invokestatic 241, 3) := by decide +kernel
theorem dX8_after_111 : decode cX8_after 111 = .ok (.i2l, 1) := by decide +kernel
theorem dX8_after_112 : decode cX8_after 112 = .ok (.lstore_n 2, 1) := by decide +kernel
theorem dX8_after_113 : decode cX8_after 113 = .ok (.aload_n 0, 1) := by decide +kernel
theorem dX8_after_114 : decode cX8_after 114 = .ok (.getfield 18, 3) := by decide +kernel
theorem dX8_after_117 : decode cX8_after 117 = .ok (.aload_n 0, 1) := by decide +kernel
theorem dX8_after_118 : decode cX8_after 118 = .ok (.getfield 11, 3) := by decide +kernel
theorem dX8_after_121 : decode cX8_after 121 = .ok (.invokestatic 282, 3) := by decide +kernel
theorem dX8_after_124 : decode cX8_after 124 = .ok (.lload_n 2, 1) := by decide +kernel
theorem dX8_after_125 : decode cX8_after 125 = .ok (.lreturn, 1) := by decide +kernel
set_option maxRecDepth 20000 in
theorem ggX8_book_X8_isTeam : GoodIn wsX8_book wsX8_isTeam := goodIn_r _ [6, 1, 7, 8, 5, 9, 10, 11, 12, 13, 14, 15, 16, 17, 18, 19, 20, 21, 22, 23, 24] (by decide +kernel) (by decide +kernel)
set_option maxRecDepth 20000 in
theorem gX8_book_X8_isTeam : GoodIn wsX8_book (wsV RX8 63 RX8 yX8_isTeam wsX8_isTeam) := goodIn_app (goodIn_of _ (by decide +kernel)) ggX8_book_X8_isTeam
set_option maxRecDepth 20000 in
theorem ggX8_book_X8_isIn : GoodIn wsX8_book wsX8_isIn := goodIn_r _ [9] (by decide +kernel) (by decide +kernel)
set_option maxRecDepth 20000 in
theorem gX8_book_X8_isIn : GoodIn wsX8_book (va_wsS RX8 47 yX8_isIn wsX8_isIn) := goodIn_app (goodIn_of _ (by decide +kernel)) ggX8_book_X8_isIn
theorem dX8_book_0 : decode cX8_book 0 = .ok (.iload_n 1, 1) := by decide +kernel
theorem dX8_book_1 : decode cX8_book 1 = .ok (.iconst (-1), 1) := by decide +kernel
theorem dX8_book_2 : decode cX8_book 2 = .ok (.if_icmp .ne 12, 3) := by decide +kernel
theorem dX8_book_5 : decode cX8_book 5 = .ok (.aload_n 0, 1) := by decide +kernel
theorem dX8_book_6 : decode cX8_book 6 = .ok (.getfield 11, 3) := by decide +kernel
theorem dX8_book_9 : decode cX8_book 9 = .ok (.iconst 4, 1) := by decide +kernel
theorem dX8_book_10 : decode cX8_book 10 = .ok (.iconst 0, 1) := by decide +kernel
theorem dX8_book_11 : decode cX8_book 11 = .ok (.iastore, 1) := by decide +kernel
theorem dX8_book_12 : decode cX8_book 12 = .ok (.iconst 0, 1) := by decide +kernel
theorem dX8_book_13 : decode cX8_book 13 = .ok (.ireturn, 1) := by decide +kernel
theorem dX8_book_14 : decode cX8_book 14 = .ok (.aload_n 0, 1) := by decide +kernel
theorem dX8_book_15 : decode cX8_book 15 = .ok (.iload_n 1, 1) := by decide +kernel
theorem dX8_book_16 : decode cX8_book 16 = .ok (.invokevirtual 63, 3) := by decide +kernel
theorem dX8_book_19 : decode cX8_book 19 = .ok (.ifCond .ne 5, 3) := by decide +kernel
theorem dX8_book_22 : decode cX8_book 22 = .ok (.iconst (-1), 1) := by decide +kernel
theorem dX8_book_23 : decode cX8_book 23 = .ok (.ireturn, 1) := by decide +kernel
theorem dX8_book_24 : decode cX8_book 24 = .ok (.iload_n 2, 1) := by decide +kernel
theorem dX8_book_25 : decode cX8_book 25 = .ok (.iconst 0, 1) := by decide +kernel
theorem dX8_book_26 : decode cX8_book 26 = .ok (.iconst 4, 1) := by decide +kernel
theorem dX8_book_27 : decode cX8_book 27 = .ok (.invokestatic 47, 3) := by decide +kernel
theorem dX8_book_30 : decode cX8_book 30 = .ok (.ifCond .ne 6, 3) := by decide +kernel
theorem dX8_book_33 : decode cX8_book 33 = .ok (.bipush (-2), 2) := by decide +kernel
theorem dX8_book_35 : decode cX8_book 35 = .ok (.ireturn, 1) := by decide +kernel
theorem dX8_book_36 : decode cX8_book 36 = .ok (.aload_n 0, 1) := by decide +kernel
theorem dX8_book_37 : decode cX8_book 37 = .ok (.getfield 11, 3) := by decide +kernel
theorem dX8_book_40 : decode cX8_book 40 = .ok (.iconst 4, 1) := by decide +kernel
theorem dX8_book_41 : decode cX8_book 41 = .ok (.iaload, 1) := by decide +kernel
theorem dX8_book_42 : decode cX8_book 42 = .ok (.bipush 8, 2) := by decide +kernel
theorem dX8_book_44 : decode cX8_book 44 = .ok (.if_icmp .ne 6, 3) := by decide +kernel
theorem dX8_book_47 : decode cX8_book 47 = .ok (.bipush (-4), 2) := by decide +kernel
theorem dX8_book_49 : decode cX8_book 49 = .ok (.ireturn, 1) := by decide +kernel
theorem dX8_book_50 : decode cX8_book 50 = .ok (.aload_n 0, 1) := by decide +kernel
theorem dX8_book_51 : decode cX8_book 51 = .ok (.getfield 11, 3) := by decide +kernel
theorem dX8_book_54 : decode cX8_book 54 = .ok (.bipush 121, 2) := by decide +kernel
theorem dX8_book_56 : decode cX8_book 56 = .ok (.iconst 2, 1) := by decide +kernel
theorem dX8_book_57 : decode cX8_book 57 = .ok (.aload_n 0, 1) := by decide +kernel
theorem dX8_book_58 : decode cX8_book 58 = .ok (.getfield 11, 3) := by decide +kernel
theorem dX8_book_61 : decode cX8_book 61 = .ok (.iconst 4, 1) := by decide +kernel
theorem dX8_book_62 : decode cX8_book 62 = .ok (.iaload, 1) := by decide +kernel
theorem dX8_book_63 : decode cX8_book 63 = .ok (.imul, 1) := by decide +kernel
theorem dX8_book_64 : decode cX8_book 64 = .ok (.iadd, 1) := by decide +kernel
theorem dX8_book_65 : decode cX8_book 65 = .ok (.iload_n 1, 1) := by decide +kernel
theorem dX8_book_66 : decode cX8_book 66 = .ok (.iastore, 1) := by decide +kernel
theorem dX8_book_67 : decode cX8_book 67 = .ok (.aload_n 0, 1) := by decide +kernel
theorem dX8_book_68 : decode cX8_book 68 = .ok (.getfield 11, 3) := by decide +kernel
theorem dX8_book_71 : decode cX8_book 71 = .ok (.bipush 121, 2) := by decide +kernel
theorem dX8_book_73 : decode cX8_book 73 = .ok (.iconst 2, 1) := by decide +kernel
theorem dX8_book_74 : decode cX8_book 74 = .ok (.aload_n 0, 1) := by decide +kernel
theorem dX8_book_75 : decode cX8_book 75 = .ok (.getfield 11, 3) := by decide +kernel
theorem dX8_book_78 : decode cX8_book 78 = .ok (.iconst 4, 1) := by decide +kernel
theorem dX8_book_79 : decode cX8_book 79 = .ok (.iaload, 1) := by decide +kernel
theorem dX8_book_80 : decode cX8_book 80 = .ok (.imul, 1) := by decide +kernel
theorem dX8_book_81 : decode cX8_book 81 = .ok (.iadd, 1) := by decide +kernel
theorem dX8_book_82 : decode cX8_book 82 = .ok (.iconst 1, 1) := by decide +kernel
theorem dX8_book_83 : decode cX8_book 83 = .ok (.iadd, 1) := by decide +kernel
theorem dX8_book_84 : decode cX8_book 84 = .ok (.iload_n 2, 1) := by decide +kernel
theorem dX8_book_85 : decode cX8_book 85 = .ok (.iastore, 1) := by decide +kernel
theorem dX8_book_86 : decode cX8_book 86 = .ok (.aload_n 0, 1) := by decide +kernel
theorem dX8_book_87 : decode cX8_book 87 = .ok (.getfield 11, 3) := by decide +kernel
theorem dX8_book_90 : decode cX8_book 90 = .ok (.iconst 4, 1) := by decide +kernel
theorem dX8_book_91 : decode cX8_book 91 = .ok (.dup2, 1) := by decide +kernel
theorem dX8_book_92 : decode cX8_book 92 = .ok (.iaload, 1) := by decide +kernel
theorem dX8_book_93 : decode cX8_book 93 = .ok (.iconst 1, 1) := by decide +kernel
theorem dX8_book_94 : decode cX8_book 94 = .ok (.iadd, 1) := by decide +kernel
theorem dX8_book_95 : decode cX8_book 95 = .ok (.iastore, 1) := by decide +kernel
theorem dX8_book_96 : decode cX8_book 96 = .ok (.aload_n 0, 1) := by decide +kernel
theorem dX8_book_97 : decode cX8_book 97 = .ok (.getfield 11, 3) := by decide +kernel
theorem dX8_book_100 : decode cX8_book 100 = .ok (.iconst 4, 1) := by decide +kernel
theorem dX8_book_101 : decode cX8_book 101 = .ok (.iaload, 1) := by decide +kernel
theorem dX8_book_102 : decode cX8_book 102 = .ok (.ireturn, 1) := by decide +kernel
set_option maxRecDepth 20000 in
theorem ggX8_looked_X8_breaksOf : GoodIn wsX8_looked wsX8_breaksOf := goodIn_r _ [6, 7, 8, 9, 5, 10, 1, 11, 12, 13, 14, 15, 16, 17, 18, 19, 20, 21, 22, 23, 24, 25, 26, 27, 28, 29, 30, 31, 32, 33] (by decide +kernel) (by decide +kernel)
set_option maxRecDepth 20000 in
theorem gX8_looked_X8_breaksOf : GoodIn wsX8_looked (wsV RX8 176 RX8 yX8_breaksOf wsX8_breaksOf) := goodIn_app (goodIn_of _ (by decide +kernel)) ggX8_looked_X8_breaksOf
theorem dX8_looked_0 : decode cX8_looked 0 = .ok (.iconst 0, 1) := by decide +kernel
theorem dX8_looked_1 : decode cX8_looked 1 = .ok (.istore_n 1, 1) := by decide +kernel
theorem dX8_looked_2 : decode cX8_looked 2 = .ok (.iload_n 1, 1) := by decide +kernel
theorem dX8_looked_3 : decode cX8_looked 3 = .ok (.aload_n 0, 1) := by decide +kernel
theorem dX8_looked_4 : decode cX8_looked 4 = .ok (.getfield 11, 3) := by decide +kernel
theorem dX8_looked_7 : decode cX8_looked 7 = .ok (.iconst 4, 1) := by decide +kernel
theorem dX8_looked_8 : decode cX8_looked 8 = .ok (.iaload, 1) := by decide +kernel
theorem dX8_looked_9 : decode cX8_looked 9 = .ok (.if_icmp .ge 42, 3) := by decide +kernel
theorem dX8_looked_12 : decode cX8_looked 12 = .ok (.aload_n 0, 1) := by decide +kernel
theorem dX8_looked_13 : decode cX8_looked 13 = .ok (.aload_n 0, 1) := by decide +kernel
theorem dX8_looked_14 : decode cX8_looked 14 = .ok (.getfield 11, 3) := by decide +kernel
theorem dX8_looked_17 : decode cX8_looked 17 = .ok (.bipush 121, 2) := by decide +kernel
theorem dX8_looked_19 : decode cX8_looked 19 = .ok (.iconst 2, 1) := by decide +kernel
theorem dX8_looked_20 : decode cX8_looked 20 = .ok (.iload_n 1, 1) := by decide +kernel
theorem dX8_looked_21 : decode cX8_looked 21 = .ok (.imul, 1) := by decide +kernel
theorem dX8_looked_22 : decode cX8_looked 22 = .ok (.iadd, 1) := by decide +kernel
theorem dX8_looked_23 : decode cX8_looked 23 = .ok (.iaload, 1) := by decide +kernel
theorem dX8_looked_24 : decode cX8_looked 24 = .ok (.invokevirtual 176, 3) := by decide +kernel
theorem dX8_looked_27 : decode cX8_looked 27 = .ok (.aload_n 0, 1) := by decide +kernel
theorem dX8_looked_28 : decode cX8_looked 28 = .ok (.getfield 11, 3) := by decide +kernel
theorem dX8_looked_31 : decode cX8_looked 31 = .ok (.bipush 121, 2) := by decide +kernel
theorem dX8_looked_33 : decode cX8_looked 33 = .ok (.iconst 2, 1) := by decide +kernel
theorem dX8_looked_34 : decode cX8_looked 34 = .ok (.iload_n 1, 1) := by decide +kernel
theorem dX8_looked_35 : decode cX8_looked 35 = .ok (.imul, 1) := by decide +kernel
theorem dX8_looked_36 : decode cX8_looked 36 = .ok (.iadd, 1) := by decide +kernel
theorem dX8_looked_37 : decode cX8_looked 37 = .ok (.iconst 1, 1) := by decide +kernel
theorem dX8_looked_38 : decode cX8_looked 38 = .ok (.iadd, 1) := by decide +kernel
theorem dX8_looked_39 : decode cX8_looked 39 = .ok (.iaload, 1) := by decide +kernel
theorem dX8_looked_40 : decode cX8_looked 40 = .ok (.if_icmp .eq 5, 3) := by decide +kernel
theorem dX8_looked_43 : decode cX8_looked 43 = .ok (.iload_n 1, 1) := by decide +kernel
theorem dX8_looked_44 : decode cX8_looked 44 = .ok (.ireturn, 1) := by decide +kernel
theorem dX8_looked_45 : decode cX8_looked 45 = .ok (.iinc 1 1, 3) := by decide +kernel
theorem dX8_looked_48 : decode cX8_looked 48 = .ok (.goto (-46), 3) := by decide +kernel
theorem dX8_looked_51 : decode cX8_looked 51 = .ok (.bipush (-5), 2) := by decide +kernel
theorem dX8_looked_53 : decode cX8_looked 53 = .ok (.ireturn, 1) := by decide +kernel
set_option maxRecDepth 20000 in
theorem ggX8_isTape_X8_isIn : GoodIn wsX8_isTape wsX8_isIn := goodIn_r _ [4] (by decide +kernel) (by decide +kernel)
set_option maxRecDepth 20000 in
theorem gX8_isTape_X8_isIn : GoodIn wsX8_isTape (va_wsS RX8 47 yX8_isIn wsX8_isIn) := goodIn_app (goodIn_of _ (by decide +kernel)) ggX8_isTape_X8_isIn
theorem dX8_isTape_0 : decode cX8_isTape 0 = .ok (.iload_n 0, 1) := by decide +kernel
theorem dX8_isTape_1 : decode cX8_isTape 1 = .ok (.iconst 0, 1) := by decide +kernel
theorem dX8_isTape_2 : decode cX8_isTape 2 = .ok (.iconst 5, 1) := by decide +kernel
theorem dX8_isTape_3 : decode cX8_isTape 3 = .ok (.invokestatic 47, 3) := by decide +kernel
theorem dX8_isTape_6 : decode cX8_isTape 6 = .ok (.ireturn, 1) := by decide +kernel
set_option maxRecDepth 20000 in
theorem ggX8_judge_X8_isTeam : GoodIn wsX8_judge wsX8_isTeam := goodIn_r _ [8, 9, 10, 11, 7, 12, 66, 67, 68, 69, 70, 71, 72, 73, 74, 75, 76, 77, 78, 79, 80] (by decide +kernel) (by decide +kernel)
set_option maxRecDepth 20000 in
theorem gX8_judge_X8_isTeam : GoodIn wsX8_judge (wsV RX8 63 RX8 yX8_isTeam wsX8_isTeam) := goodIn_app (goodIn_of _ (by decide +kernel)) ggX8_judge_X8_isTeam
set_option maxRecDepth 20000 in
theorem ggX8_judge_X8_isTape : GoodIn wsX8_judge wsX8_isTape := goodIn_r _ [15, 10, 11, 7, 12] (by decide +kernel) (by decide +kernel)
set_option maxRecDepth 20000 in
theorem gX8_judge_X8_isTape : GoodIn wsX8_judge (va_wsS RX8 289 yX8_isTape wsX8_isTape) := goodIn_app (goodIn_of _ (by decide +kernel)) ggX8_judge_X8_isTape
set_option maxRecDepth 20000 in
theorem ggX8_judge_X8_rounds : GoodIn wsX8_judge wsX8_rounds := goodIn_r _ [19, 9, 66, 67, 68, 69, 70, 71, 72, 73, 74, 75, 76, 77, 78, 79, 80] (by decide +kernel) (by decide +kernel)
set_option maxRecDepth 20000 in
theorem gX8_judge_X8_rounds : GoodIn wsX8_judge (wsV RX8 51 RX8 yX8_rounds wsX8_rounds) := goodIn_app (goodIn_of _ (by decide +kernel)) ggX8_judge_X8_rounds
set_option maxRecDepth 20000 in
theorem ggX8_judge_X8_wearOf : GoodIn wsX8_judge wsX8_wearOf := goodIn_r _ [23, 24, 25, 26, 27, 28, 7, 29, 30, 31, 32, 33, 34, 35, 36, 37, 38, 39, 40, 41, 9, 42, 43, 44, 45, 46, 47, 48, 49, 50, 51, 52, 53, 66, 67, 68, 69, 70, 71, 72, 73, 74, 75, 76, 77, 78, 79, 80] (by decide +kernel) (by decide +kernel)
set_option maxRecDepth 20000 in
theorem gX8_judge_X8_wearOf : GoodIn wsX8_judge (wsV RX8 217 RX8 yX8_wearOf wsX8_wearOf) := goodIn_app (goodIn_of _ (by decide +kernel)) ggX8_judge_X8_wearOf
set_option maxRecDepth 20000 in
theorem ggX8_judge_Jxf58ca_floatToIntBits_5c35a : GoodIn wsX8_judge wsJxf58ca_floatToIntBits_5c35a := goodIn_r _ [57, 58, 59, 60, 61, 62, 63, 64, 56, 65] (by decide +kernel) (by decide +kernel)
set_option maxRecDepth 20000 in
theorem gX8_judge_Jxf58ca_floatToIntBits_5c35a : GoodIn wsX8_judge (va_wsS RX8 241 yJxf58ca_floatToIntBits_5c35a wsJxf58ca_floatToIntBits_5c35a) := goodIn_app (goodIn_of _ (by decide +kernel)) ggX8_judge_Jxf58ca_floatToIntBits_5c35a
theorem dX8_judge_0 : decode cX8_judge 0 = .ok (.aload_n 0, 1) := by decide +kernel
theorem dX8_judge_1 : decode cX8_judge 1 = .ok (.iload_n 1, 1) := by decide +kernel
theorem dX8_judge_2 : decode cX8_judge 2 = .ok (.invokevirtual 63, 3) := by decide +kernel
theorem dX8_judge_5 : decode cX8_judge 5 = .ok (.ifCond .eq 10, 3) := by decide +kernel
theorem dX8_judge_8 : decode cX8_judge 8 = .ok (.iload_n 2, 1) := by decide +kernel
theorem dX8_judge_9 : decode cX8_judge 9 = .ok (.invokestatic 289, 3) := by decide +kernel
theorem dX8_judge_12 : decode cX8_judge 12 = .ok (.ifCond .ne 5, 3) := by decide +kernel
theorem dX8_judge_15 : decode cX8_judge 15 = .ok (.iconst (-1), 1) := by decide +kernel
theorem dX8_judge_16 : decode cX8_judge 16 = .ok (.ireturn, 1) := by decide +kernel
theorem dX8_judge_17 : decode cX8_judge 17 = .ok (.aload_n 0, 1) := by decide +kernel
theorem dX8_judge_18 : decode cX8_judge 18 = .ok (.getfield 30, 3) := by decide +kernel
theorem dX8_judge_21 : decode cX8_judge 21 = .ok (.iload_n 2, 1) := by decide +kernel
theorem dX8_judge_22 : decode cX8_judge 22 = .ok (.iaload, 1) := by decide +kernel
theorem dX8_judge_23 : decode cX8_judge 23 = .ok (.ifCond .lt 16, 3) := by decide +kernel
theorem dX8_judge_26 : decode cX8_judge 26 = .ok (.aload_n 0, 1) := by decide +kernel
theorem dX8_judge_27 : decode cX8_judge 27 = .ok (.getfield 30, 3) := by decide +kernel
theorem dX8_judge_30 : decode cX8_judge 30 = .ok (.iload_n 2, 1) := by decide +kernel
theorem dX8_judge_31 : decode cX8_judge 31 = .ok (.iaload, 1) := by decide +kernel
theorem dX8_judge_32 : decode cX8_judge 32 = .ok (.iconst 2, 1) := by decide +kernel
theorem dX8_judge_33 : decode cX8_judge 33 = .ok (.if_icmp .eq 6, 3) := by decide +kernel
theorem dX8_judge_36 : decode cX8_judge 36 = .ok (.bipush (-12), 2) := by decide +kernel
theorem dX8_judge_38 : decode cX8_judge 38 = .ok (.ireturn, 1) := by decide +kernel
theorem dX8_judge_39 : decode cX8_judge 39 = .ok (.iconst 0, 1) := by decide +kernel
theorem dX8_judge_40 : decode cX8_judge 40 = .ok (.istore 4, 2) := by decide +kernel
theorem dX8_judge_42 : decode cX8_judge 42 = .ok (.iload 4, 2) := by decide +kernel
theorem dX8_judge_44 : decode cX8_judge 44 = .ok (.aload_n 0, 1) := by decide +kernel
theorem dX8_judge_45 : decode cX8_judge 45 = .ok (.invokevirtual 51, 3) := by decide +kernel
theorem dX8_judge_48 : decode cX8_judge 48 = .ok (.if_icmp .ge 64, 3) := by decide +kernel
theorem dX8_judge_51 : decode cX8_judge 51 = .ok (.iload_n 3, 1) := by decide +kernel
theorem dX8_judge_52 : decode cX8_judge 52 = .ok (.ifCond .lt 16, 3) := by decide +kernel
theorem dX8_judge_55 : decode cX8_judge 55 = .ok (.iload 4, 2) := by decide +kernel
theorem dX8_judge_57 : decode cX8_judge 57 = .ok (.aload_n 0, 1) := by decide +kernel
theorem dX8_judge_58 : decode cX8_judge 58 = .ok (.getfield 33, 3) := by decide +kernel
theorem dX8_judge_61 : decode cX8_judge 61 = .ok (.iload_n 2, 1) := by decide +kernel
theorem dX8_judge_62 : decode cX8_judge 62 = .ok (.iaload, 1) := by decide +kernel
theorem dX8_judge_63 : decode cX8_judge 63 = .ok (.iload_n 3, 1) := by decide +kernel
theorem dX8_judge_64 : decode cX8_judge 64 = .ok (.isub, 1) := by decide +kernel
theorem dX8_judge_65 : decode cX8_judge 65 = .ok (.if_icmp .lt 9, 3) := by decide +kernel
theorem dX8_judge_68 : decode cX8_judge 68 = .ok (.bipush 100, 2) := by decide +kernel
theorem dX8_judge_70 : decode cX8_judge 70 = .ok (.iload 4, 2) := by decide +kernel
theorem dX8_judge_72 : decode cX8_judge 72 = .ok (.iadd, 1) := by decide +kernel
theorem dX8_judge_73 : decode cX8_judge 73 = .ok (.ireturn, 1) := by decide +kernel
theorem dX8_judge_74 : decode cX8_judge 74 = .ok (.aload_n 0, 1) := by decide +kernel
theorem dX8_judge_75 : decode cX8_judge 75 = .ok (.getfield 36, 3) := by decide +kernel
theorem dX8_judge_78 : decode cX8_judge 78 = .ok (.bipush 60, 2) := by decide +kernel
theorem dX8_judge_80 : decode cX8_judge 80 = .ok (.iload_n 2, 1) := by decide +kernel
theorem dX8_judge_81 : decode cX8_judge 81 = .ok (.imul, 1) := by decide +kernel
theorem dX8_judge_82 : decode cX8_judge 82 = .ok (.iload_n 3, 1) := by decide +kernel
theorem dX8_judge_83 : decode cX8_judge 83 = .ok (.iadd, 1) := by decide +kernel
theorem dX8_judge_84 : decode cX8_judge 84 = .ok (.iload 4, 2) := by decide +kernel
theorem dX8_judge_86 : decode cX8_judge 86 = .ok (.iadd, 1) := by decide +kernel
theorem dX8_judge_87 : decode cX8_judge 87 = .ok (.laload, 1) := by decide +kernel
theorem dX8_judge_88 : decode cX8_judge 88 = .ok (.aload_n 0, 1) := by decide +kernel
theorem dX8_judge_89 : decode cX8_judge 89 = .ok (.iload_n 1, 1) := by decide +kernel
theorem dX8_judge_90 : decode cX8_judge 90 = .ok (.iload 4, 2) := by decide +kernel
theorem dX8_judge_92 : decode cX8_judge 92 = .ok (.invokevirtual 217, 3) := by decide +kernel
theorem dX8_judge_95 : decode cX8_judge 95 = .ok (.invokestatic 241, 3) := by decide +kernel
theorem dX8_judge_98 : decode cX8_judge 98 = .ok (.i2l, 1) := by decide +kernel
theorem dX8_judge_99 : decode cX8_judge 99 = .ok (.lcmp, 1) := by decide +kernel
theorem dX8_judge_100 : decode cX8_judge 100 = .ok (.ifCond .eq 6, 3) := by decide +kernel
theorem dX8_judge_103 : decode cX8_judge 103 = .ok (.iload 4, 2) := by decide +kernel
theorem dX8_judge_105 : decode cX8_judge 105 = .ok (.ireturn, 1) := by decide +kernel
theorem dX8_judge_106 : decode cX8_judge 106 = .ok (.iinc 4 1, 3) := by decide +kernel
theorem dX8_judge_109 : decode cX8_judge 109 = .ok (.goto (-67), 3) := by decide +kernel
theorem dX8_judge_112 : decode cX8_judge 112 = .ok (.bipush (-5), 2) := by decide +kernel
theorem dX8_judge_114 : decode cX8_judge 114 = .ok (.ireturn, 1) := by decide +kernel
set_option maxRecDepth 20000 in
theorem ggX8_image_X8_copies : GoodIn wsX8_image wsX8_copies := goodIn_r _ [7] (by decide +kernel) (by decide +kernel)
set_option maxRecDepth 20000 in
theorem gX8_image_X8_copies : GoodIn wsX8_image (va_wsS RX8 282 yX8_copies wsX8_copies) := goodIn_app (goodIn_of _ (by decide +kernel)) ggX8_image_X8_copies
theorem dX8_image_0 : decode cX8_image 0 = .ok (.aload_n 0, 1) := by decide +kernel
theorem dX8_image_1 : decode cX8_image 1 = .ok (.getfield 11, 3) := by decide +kernel
theorem dX8_image_4 : decode cX8_image 4 = .ok (.aload_n 0, 1) := by decide +kernel
theorem dX8_image_5 : decode cX8_image 5 = .ok (.getfield 15, 3) := by decide +kernel
theorem dX8_image_8 : decode cX8_image 8 = .ok (.invokestatic 282, 3) := by decide +kernel
theorem dX8_image_11 : decode cX8_image 11 = .ok (.aload_n 0, 1) := by decide +kernel
theorem dX8_image_12 : decode cX8_image 12 = .ok (.iconst 1, 1) := by decide +kernel
theorem dX8_image_13 : decode cX8_image 13 = .ok (.putfield 292, 3) := by decide +kernel
theorem dX8_image_16 : decode cX8_image 16 = .ok (.aload_n 0, 1) := by decide +kernel
theorem dX8_image_17 : decode cX8_image 17 = .ok (.getfield 11, 3) := by decide +kernel
theorem dX8_image_20 : decode cX8_image 20 = .ok (.iconst 0, 1) := by decide +kernel
theorem dX8_image_21 : decode cX8_image 21 = .ok (.iaload, 1) := by decide +kernel
theorem dX8_image_22 : decode cX8_image 22 = .ok (.ireturn, 1) := by decide +kernel
set_option maxRecDepth 20000 in
theorem ggX8_undo_X8_copies : GoodIn wsX8_undo wsX8_copies := goodIn_r _ [7] (by decide +kernel) (by decide +kernel)
set_option maxRecDepth 20000 in
theorem gX8_undo_X8_copies : GoodIn wsX8_undo (va_wsS RX8 282 yX8_copies wsX8_copies) := goodIn_app (goodIn_of _ (by decide +kernel)) ggX8_undo_X8_copies
theorem dX8_undo_0 : decode cX8_undo 0 = .ok (.aload_n 0, 1) := by decide +kernel
theorem dX8_undo_1 : decode cX8_undo 1 = .ok (.getfield 292, 3) := by decide +kernel
theorem dX8_undo_4 : decode cX8_undo 4 = .ok (.ifCond .ne 6, 3) := by decide +kernel
theorem dX8_undo_7 : decode cX8_undo 7 = .ok (.bipush (-3), 2) := by decide +kernel
theorem dX8_undo_9 : decode cX8_undo 9 = .ok (.ireturn, 1) := by decide +kernel
theorem dX8_undo_10 : decode cX8_undo 10 = .ok (.aload_n 0, 1) := by decide +kernel
theorem dX8_undo_11 : decode cX8_undo 11 = .ok (.getfield 15, 3) := by decide +kernel
theorem dX8_undo_14 : decode cX8_undo 14 = .ok (.aload_n 0, 1) := by decide +kernel
theorem dX8_undo_15 : decode cX8_undo 15 = .ok (.getfield 11, 3) := by decide +kernel
theorem dX8_undo_18 : decode cX8_undo 18 = .ok (.invokestatic 282, 3) := by decide +kernel
theorem dX8_undo_21 : decode cX8_undo 21 = .ok (.aload_n 0, 1) := by decide +kernel
theorem dX8_undo_22 : decode cX8_undo 22 = .ok (.getfield 11, 3) := by decide +kernel
theorem dX8_undo_25 : decode cX8_undo 25 = .ok (.iconst 0, 1) := by decide +kernel
theorem dX8_undo_26 : decode cX8_undo 26 = .ok (.iaload, 1) := by decide +kernel
theorem dX8_undo_27 : decode cX8_undo 27 = .ok (.ireturn, 1) := by decide +kernel
set_option maxRecDepth 20000 in
theorem ggX8_count_X8_isIn : GoodIn wsX8_count wsX8_isIn := goodIn_r _ [6] (by decide +kernel) (by decide +kernel)
set_option maxRecDepth 20000 in
theorem gX8_count_X8_isIn : GoodIn wsX8_count (va_wsS RX8 47 yX8_isIn wsX8_isIn) := goodIn_app (goodIn_of _ (by decide +kernel)) ggX8_count_X8_isIn
theorem dX8_count_0 : decode cX8_count 0 = .ok (.iload_n 1, 1) := by decide +kernel
theorem dX8_count_1 : decode cX8_count 1 = .ok (.iconst 3, 1) := by decide +kernel
theorem dX8_count_2 : decode cX8_count 2 = .ok (.if_icmp .ne 10, 3) := by decide +kernel
theorem dX8_count_5 : decode cX8_count 5 = .ok (.aload_n 0, 1) := by decide +kernel
theorem dX8_count_6 : decode cX8_count 6 = .ok (.getfield 99, 3) := by decide +kernel
theorem dX8_count_9 : decode cX8_count 9 = .ok (.goto 25, 3) := by decide +kernel
theorem dX8_count_12 : decode cX8_count 12 = .ok (.iload_n 1, 1) := by decide +kernel
theorem dX8_count_13 : decode cX8_count 13 = .ok (.iconst 0, 1) := by decide +kernel
theorem dX8_count_14 : decode cX8_count 14 = .ok (.iconst 2, 1) := by decide +kernel
theorem dX8_count_15 : decode cX8_count 15 = .ok (.invokestatic 47, 3) := by decide +kernel
theorem dX8_count_18 : decode cX8_count 18 = .ok (.ifCond .eq 14, 3) := by decide +kernel
theorem dX8_count_21 : decode cX8_count 21 = .ok (.aload_n 0, 1) := by decide +kernel
theorem dX8_count_22 : decode cX8_count 22 = .ok (.getfield 11, 3) := by decide +kernel
theorem dX8_count_25 : decode cX8_count 25 = .ok (.iconst 2, 1) := by decide +kernel
theorem dX8_count_26 : decode cX8_count 26 = .ok (.iload_n 1, 1) := by decide +kernel
theorem dX8_count_27 : decode cX8_count 27 = .ok (.iadd, 1) := by decide +kernel
theorem dX8_count_28 : decode cX8_count 28 = .ok (.iaload, 1) := by decide +kernel
theorem dX8_count_29 : decode cX8_count 29 = .ok (.goto 5, 3) := by decide +kernel
theorem dX8_count_32 : decode cX8_count 32 = .ok (.bipush (-2), 2) := by decide +kernel
theorem dX8_count_34 : decode cX8_count 34 = .ok (.ireturn, 1) := by decide +kernel
set_option maxRecDepth 20000 in
theorem ggX8_tape_X8_isTape : GoodIn wsX8_tape wsX8_isTape := goodIn_r _ [7, 8, 9, 6, 10] (by decide +kernel) (by decide +kernel)
set_option maxRecDepth 20000 in
theorem gX8_tape_X8_isTape : GoodIn wsX8_tape (va_wsS RX8 289 yX8_isTape wsX8_isTape) := goodIn_app (goodIn_of _ (by decide +kernel)) ggX8_tape_X8_isTape
set_option maxRecDepth 20000 in
theorem ggX8_tape_X8_isIn : GoodIn wsX8_tape wsX8_isIn := goodIn_r _ [10] (by decide +kernel) (by decide +kernel)
set_option maxRecDepth 20000 in
theorem gX8_tape_X8_isIn : GoodIn wsX8_tape (va_wsS RX8 47 yX8_isIn wsX8_isIn) := goodIn_app (goodIn_of _ (by decide +kernel)) ggX8_tape_X8_isIn
theorem dX8_tape_0 : decode cX8_tape 0 = .ok (.iload_n 1, 1) := by decide +kernel
theorem dX8_tape_1 : decode cX8_tape 1 = .ok (.invokestatic 289, 3) := by decide +kernel
theorem dX8_tape_4 : decode cX8_tape 4 = .ok (.ifCond .ne 5, 3) := by decide +kernel
theorem dX8_tape_7 : decode cX8_tape 7 = .ok (.iconst (-1), 1) := by decide +kernel
theorem dX8_tape_8 : decode cX8_tape 8 = .ok (.ireturn, 1) := by decide +kernel
theorem dX8_tape_9 : decode cX8_tape 9 = .ok (.iload_n 2, 1) := by decide +kernel
theorem dX8_tape_10 : decode cX8_tape 10 = .ok (.iconst (-1), 1) := by decide +kernel
theorem dX8_tape_11 : decode cX8_tape 11 = .ok (.iconst 4, 1) := by decide +kernel
theorem dX8_tape_12 : decode cX8_tape 12 = .ok (.invokestatic 47, 3) := by decide +kernel
theorem dX8_tape_15 : decode cX8_tape 15 = .ok (.ifCond .eq 13, 3) := by decide +kernel
theorem dX8_tape_18 : decode cX8_tape 18 = .ok (.iload_n 2, 1) := by decide +kernel
theorem dX8_tape_19 : decode cX8_tape 19 = .ok (.ifCond .lt 12, 3) := by decide +kernel
theorem dX8_tape_22 : decode cX8_tape 22 = .ok (.iload_n 3, 1) := by decide +kernel
theorem dX8_tape_23 : decode cX8_tape 23 = .ok (.bipush 60, 2) := by decide +kernel
theorem dX8_tape_25 : decode cX8_tape 25 = .ok (.if_icmp .le 6, 3) := by decide +kernel
theorem dX8_tape_28 : decode cX8_tape 28 = .ok (.bipush (-2), 2) := by decide +kernel
theorem dX8_tape_30 : decode cX8_tape 30 = .ok (.ireturn, 1) := by decide +kernel
theorem dX8_tape_31 : decode cX8_tape 31 = .ok (.iload_n 2, 1) := by decide +kernel
theorem dX8_tape_32 : decode cX8_tape 32 = .ok (.ifCond .lt 10, 3) := by decide +kernel
theorem dX8_tape_35 : decode cX8_tape 35 = .ok (.iload_n 3, 1) := by decide +kernel
theorem dX8_tape_36 : decode cX8_tape 36 = .ok (.ifCond .ge 6, 3) := by decide +kernel
theorem dX8_tape_39 : decode cX8_tape 39 = .ok (.bipush (-14), 2) := by decide +kernel
theorem dX8_tape_41 : decode cX8_tape 41 = .ok (.ireturn, 1) := by decide +kernel
theorem dX8_tape_42 : decode cX8_tape 42 = .ok (.aload_n 0, 1) := by decide +kernel
theorem dX8_tape_43 : decode cX8_tape 43 = .ok (.getfield 30, 3) := by decide +kernel
theorem dX8_tape_46 : decode cX8_tape 46 = .ok (.iload_n 1, 1) := by decide +kernel
theorem dX8_tape_47 : decode cX8_tape 47 = .ok (.iload_n 2, 1) := by decide +kernel
theorem dX8_tape_48 : decode cX8_tape 48 = .ok (.iastore, 1) := by decide +kernel
theorem dX8_tape_49 : decode cX8_tape 49 = .ok (.aload_n 0, 1) := by decide +kernel
theorem dX8_tape_50 : decode cX8_tape 50 = .ok (.getfield 33, 3) := by decide +kernel
theorem dX8_tape_53 : decode cX8_tape 53 = .ok (.iload_n 1, 1) := by decide +kernel
theorem dX8_tape_54 : decode cX8_tape 54 = .ok (.iload_n 2, 1) := by decide +kernel
theorem dX8_tape_55 : decode cX8_tape 55 = .ok (.ifCond .ge 7, 3) := by decide +kernel
theorem dX8_tape_58 : decode cX8_tape 58 = .ok (.iconst 0, 1) := by decide +kernel
theorem dX8_tape_59 : decode cX8_tape 59 = .ok (.goto 4, 3) := by decide +kernel
theorem dX8_tape_62 : decode cX8_tape 62 = .ok (.iload_n 3, 1) := by decide +kernel
theorem dX8_tape_63 : decode cX8_tape 63 = .ok (.iastore, 1) := by decide +kernel
theorem dX8_tape_64 : decode cX8_tape 64 = .ok (.iconst 0, 1) := by decide +kernel
theorem dX8_tape_65 : decode cX8_tape 65 = .ok (.istore 4, 2) := by decide +kernel
theorem dX8_tape_67 : decode cX8_tape 67 = .ok (.iload 4, 2) := by decide +kernel
theorem dX8_tape_69 : decode cX8_tape 69 = .ok (.bipush 60, 2) := by decide +kernel
theorem dX8_tape_71 : decode cX8_tape 71 = .ok (.if_icmp .ge 22, 3) := by decide +kernel
theorem dX8_tape_74 : decode cX8_tape 74 = .ok (.aload_n 0, 1) := by decide +kernel
theorem dX8_tape_75 : decode cX8_tape 75 = .ok (.getfield 36, 3) := by decide +kernel
theorem dX8_tape_78 : decode cX8_tape 78 = .ok (.bipush 60, 2) := by decide +kernel
theorem dX8_tape_80 : decode cX8_tape 80 = .ok (.iload_n 1, 1) := by decide +kernel
theorem dX8_tape_81 : decode cX8_tape 81 = .ok (.imul, 1) := by decide +kernel
theorem dX8_tape_82 : decode cX8_tape 82 = .ok (.iload 4, 2) := by decide +kernel
theorem dX8_tape_84 : decode cX8_tape 84 = .ok (.iadd, 1) := by decide +kernel
theorem dX8_tape_85 : decode cX8_tape 85 = .ok (.lconst 0, 1) := by decide +kernel
theorem dX8_tape_86 : decode cX8_tape 86 = .ok (.lastore, 1) := by decide +kernel
theorem dX8_tape_87 : decode cX8_tape 87 = .ok (.iinc 4 1, 3) := by decide +kernel
theorem dX8_tape_90 : decode cX8_tape 90 = .ok (.goto (-23), 3) := by decide +kernel
theorem dX8_tape_93 : decode cX8_tape 93 = .ok (.iconst 1, 1) := by decide +kernel
theorem dX8_tape_94 : decode cX8_tape 94 = .ok (.ireturn, 1) := by decide +kernel
theorem dX8_held_0 : decode cX8_held 0 = .ok (.iload_n 0, 1) := by decide +kernel
theorem dX8_held_1 : decode cX8_held 1 = .ok (.tableswitch 47 0 3 #[31, 36, 41, 45], 31) := by decide +kernel
theorem dX8_held_32 : decode cX8_held 32 = .ok (.lload_n 1, 1) := by decide +kernel
theorem dX8_held_33 : decode cX8_held 33 = .ok (.l2i, 1) := by decide +kernel
theorem dX8_held_34 : decode cX8_held 34 = .ok (.i2b, 1) := by decide +kernel
theorem dX8_held_35 : decode cX8_held 35 = .ok (.i2l, 1) := by decide +kernel
theorem dX8_held_36 : decode cX8_held 36 = .ok (.lreturn, 1) := by decide +kernel
theorem dX8_held_37 : decode cX8_held 37 = .ok (.lload_n 1, 1) := by decide +kernel
theorem dX8_held_38 : decode cX8_held 38 = .ok (.l2i, 1) := by decide +kernel
theorem dX8_held_39 : decode cX8_held 39 = .ok (.i2s, 1) := by decide +kernel
theorem dX8_held_40 : decode cX8_held 40 = .ok (.i2l, 1) := by decide +kernel
theorem dX8_held_41 : decode cX8_held 41 = .ok (.lreturn, 1) := by decide +kernel
theorem dX8_held_42 : decode cX8_held 42 = .ok (.lload_n 1, 1) := by decide +kernel
theorem dX8_held_43 : decode cX8_held 43 = .ok (.l2i, 1) := by decide +kernel
theorem dX8_held_44 : decode cX8_held 44 = .ok (.i2l, 1) := by decide +kernel
theorem dX8_held_45 : decode cX8_held 45 = .ok (.lreturn, 1) := by decide +kernel
theorem dX8_held_46 : decode cX8_held 46 = .ok (.lload_n 1, 1) := by decide +kernel
theorem dX8_held_47 : decode cX8_held 47 = .ok (.lreturn, 1) := by decide +kernel
theorem dX8_held_48 : decode cX8_held 48 = .ok (.lload_n 1, 1) := by decide +kernel
theorem dX8_held_49 : decode cX8_held 49 = .ok (.lconst 0, 1) := by decide +kernel
theorem dX8_held_50 : decode cX8_held 50 = .ok (.lcmp, 1) := by decide +kernel
theorem dX8_held_51 : decode cX8_held 51 = .ok (.ifCond .eq 7, 3) := by decide +kernel
theorem dX8_held_54 : decode cX8_held 54 = .ok (.lconst 1, 1) := by decide +kernel
theorem dX8_held_55 : decode cX8_held 55 = .ok (.goto 4, 3) := by decide +kernel
theorem dX8_held_58 : decode cX8_held 58 = .ok (.lconst 0, 1) := by decide +kernel
theorem dX8_held_59 : decode cX8_held 59 = .ok (.lreturn, 1) := by decide +kernel
set_option maxRecDepth 20000 in
theorem ggX8_item_X8_isTape : GoodIn wsX8_item wsX8_isTape := goodIn_r _ [7, 8, 9, 6, 10] (by decide +kernel) (by decide +kernel)
set_option maxRecDepth 20000 in
theorem gX8_item_X8_isTape : GoodIn wsX8_item (va_wsS RX8 289 yX8_isTape wsX8_isTape) := goodIn_app (goodIn_of _ (by decide +kernel)) ggX8_item_X8_isTape
set_option maxRecDepth 20000 in
theorem ggX8_item_X8_isIn : GoodIn wsX8_item wsX8_isIn := goodIn_r _ [10] (by decide +kernel) (by decide +kernel)
set_option maxRecDepth 20000 in
theorem gX8_item_X8_isIn : GoodIn wsX8_item (va_wsS RX8 47 yX8_isIn wsX8_isIn) := goodIn_app (goodIn_of _ (by decide +kernel)) ggX8_item_X8_isIn
set_option maxRecDepth 20000 in
theorem ggX8_item_X8_held : GoodIn wsX8_item wsX8_held := goodIn_r _ [13] (by decide +kernel) (by decide +kernel)
set_option maxRecDepth 20000 in
theorem gX8_item_X8_held : GoodIn wsX8_item (va_wsS RX8 296 yX8_held wsX8_held) := goodIn_app (goodIn_of _ (by decide +kernel)) ggX8_item_X8_held
theorem dX8_item_0 : decode cX8_item 0 = .ok (.iload_n 1, 1) := by decide +kernel
theorem dX8_item_1 : decode cX8_item 1 = .ok (.invokestatic 289, 3) := by decide +kernel
theorem dX8_item_4 : decode cX8_item 4 = .ok (.ifCond .ne 5, 3) := by decide +kernel
theorem dX8_item_7 : decode cX8_item 7 = .ok (.iconst (-1), 1) := by decide +kernel
theorem dX8_item_8 : decode cX8_item 8 = .ok (.ireturn, 1) := by decide +kernel
theorem dX8_item_9 : decode cX8_item 9 = .ok (.aload_n 0, 1) := by decide +kernel
theorem dX8_item_10 : decode cX8_item 10 = .ok (.getfield 30, 3) := by decide +kernel
theorem dX8_item_13 : decode cX8_item 13 = .ok (.iload_n 1, 1) := by decide +kernel
theorem dX8_item_14 : decode cX8_item 14 = .ok (.iaload, 1) := by decide +kernel
theorem dX8_item_15 : decode cX8_item 15 = .ok (.ifCond .ge 6, 3) := by decide +kernel
theorem dX8_item_18 : decode cX8_item 18 = .ok (.bipush (-11), 2) := by decide +kernel
theorem dX8_item_20 : decode cX8_item 20 = .ok (.ireturn, 1) := by decide +kernel
theorem dX8_item_21 : decode cX8_item 21 = .ok (.iload_n 2, 1) := by decide +kernel
theorem dX8_item_22 : decode cX8_item 22 = .ok (.iconst 0, 1) := by decide +kernel
theorem dX8_item_23 : decode cX8_item 23 = .ok (.aload_n 0, 1) := by decide +kernel
theorem dX8_item_24 : decode cX8_item 24 = .ok (.getfield 33, 3) := by decide +kernel
theorem dX8_item_27 : decode cX8_item 27 = .ok (.iload_n 1, 1) := by decide +kernel
theorem dX8_item_28 : decode cX8_item 28 = .ok (.iaload, 1) := by decide +kernel
theorem dX8_item_29 : decode cX8_item 29 = .ok (.iconst 1, 1) := by decide +kernel
theorem dX8_item_30 : decode cX8_item 30 = .ok (.isub, 1) := by decide +kernel
theorem dX8_item_31 : decode cX8_item 31 = .ok (.invokestatic 47, 3) := by decide +kernel
theorem dX8_item_34 : decode cX8_item 34 = .ok (.ifCond .ne 6, 3) := by decide +kernel
theorem dX8_item_37 : decode cX8_item 37 = .ok (.bipush (-13), 2) := by decide +kernel
theorem dX8_item_39 : decode cX8_item 39 = .ok (.ireturn, 1) := by decide +kernel
theorem dX8_item_40 : decode cX8_item 40 = .ok (.aload_n 0, 1) := by decide +kernel
theorem dX8_item_41 : decode cX8_item 41 = .ok (.getfield 36, 3) := by decide +kernel
theorem dX8_item_44 : decode cX8_item 44 = .ok (.bipush 60, 2) := by decide +kernel
theorem dX8_item_46 : decode cX8_item 46 = .ok (.iload_n 1, 1) := by decide +kernel
theorem dX8_item_47 : decode cX8_item 47 = .ok (.imul, 1) := by decide +kernel
theorem dX8_item_48 : decode cX8_item 48 = .ok (.iload_n 2, 1) := by decide +kernel
theorem dX8_item_49 : decode cX8_item 49 = .ok (.iadd, 1) := by decide +kernel
theorem dX8_item_50 : decode cX8_item 50 = .ok (.aload_n 0, 1) := by decide +kernel
theorem dX8_item_51 : decode cX8_item 51 = .ok (.getfield 30, 3) := by decide +kernel
theorem dX8_item_54 : decode cX8_item 54 = .ok (.iload_n 1, 1) := by decide +kernel
theorem dX8_item_55 : decode cX8_item 55 = .ok (.iaload, 1) := by decide +kernel
theorem dX8_item_56 : decode cX8_item 56 = .ok (.lload_n 3, 1) := by decide +kernel
theorem dX8_item_57 : decode cX8_item 57 = .ok (.invokestatic 296, 3) := by decide +kernel
theorem dX8_item_60 : decode cX8_item 60 = .ok (.lastore, 1) := by decide +kernel
theorem dX8_item_61 : decode cX8_item 61 = .ok (.iconst 1, 1) := by decide +kernel
theorem dX8_item_62 : decode cX8_item 62 = .ok (.ireturn, 1) := by decide +kernel
set_option maxRecDepth 20000 in
theorem ggX8_peek__X8_isTape : GoodIn wsX8_peek_ wsX8_isTape := goodIn_r _ [7, 8, 9, 6, 10] (by decide +kernel) (by decide +kernel)
set_option maxRecDepth 20000 in
theorem gX8_peek__X8_isTape : GoodIn wsX8_peek_ (va_wsS RX8 289 yX8_isTape wsX8_isTape) := goodIn_app (goodIn_of _ (by decide +kernel)) ggX8_peek__X8_isTape
set_option maxRecDepth 20000 in
theorem ggX8_peek__X8_isIn : GoodIn wsX8_peek_ wsX8_isIn := goodIn_r _ [10] (by decide +kernel) (by decide +kernel)
set_option maxRecDepth 20000 in
theorem gX8_peek__X8_isIn : GoodIn wsX8_peek_ (va_wsS RX8 47 yX8_isIn wsX8_isIn) := goodIn_app (goodIn_of _ (by decide +kernel)) ggX8_peek__X8_isIn
theorem dX8_peek__0 : decode cX8_peek_ 0 = .ok (.iload_n 1, 1) := by decide +kernel
theorem dX8_peek__1 : decode cX8_peek_ 1 = .ok (.invokestatic 289, 3) := by decide +kernel
theorem dX8_peek__4 : decode cX8_peek_ 4 = .ok (.ifCond .eq 33, 3) := by decide +kernel
theorem dX8_peek__7 : decode cX8_peek_ 7 = .ok (.iload_n 2, 1) := by decide +kernel
theorem dX8_peek__8 : decode cX8_peek_ 8 = .ok (.iconst 0, 1) := by decide +kernel
theorem dX8_peek__9 : decode cX8_peek_ 9 = .ok (.aload_n 0, 1) := by decide +kernel
theorem dX8_peek__10 : decode cX8_peek_ 10 = .ok (.getfield 33, 3) := by decide +kernel
theorem dX8_peek__13 : decode cX8_peek_ 13 = .ok (.iload_n 1, 1) := by decide +kernel
theorem dX8_peek__14 : decode cX8_peek_ 14 = .ok (.iaload, 1) := by decide +kernel
theorem dX8_peek__15 : decode cX8_peek_ 15 = .ok (.iconst 1, 1) := by decide +kernel
theorem dX8_peek__16 : decode cX8_peek_ 16 = .ok (.isub, 1) := by decide +kernel
theorem dX8_peek__17 : decode cX8_peek_ 17 = .ok (.invokestatic 47, 3) := by decide +kernel
theorem dX8_peek__20 : decode cX8_peek_ 20 = .ok (.ifCond .eq 17, 3) := by decide +kernel
theorem dX8_peek__23 : decode cX8_peek_ 23 = .ok (.aload_n 0, 1) := by decide +kernel
theorem dX8_peek__24 : decode cX8_peek_ 24 = .ok (.getfield 36, 3) := by decide +kernel
theorem dX8_peek__27 : decode cX8_peek_ 27 = .ok (.bipush 60, 2) := by decide +kernel
theorem dX8_peek__29 : decode cX8_peek_ 29 = .ok (.iload_n 1, 1) := by decide +kernel
theorem dX8_peek__30 : decode cX8_peek_ 30 = .ok (.imul, 1) := by decide +kernel
theorem dX8_peek__31 : decode cX8_peek_ 31 = .ok (.iload_n 2, 1) := by decide +kernel
theorem dX8_peek__32 : decode cX8_peek_ 32 = .ok (.iadd, 1) := by decide +kernel
theorem dX8_peek__33 : decode cX8_peek_ 33 = .ok (.laload, 1) := by decide +kernel
theorem dX8_peek__34 : decode cX8_peek_ 34 = .ok (.goto 6, 3) := by decide +kernel
theorem dX8_peek__37 : decode cX8_peek_ 37 = .ok (.ldc2_w 247, 3) := by decide +kernel
theorem dX8_peek__40 : decode cX8_peek_ 40 = .ok (.lreturn, 1) := by decide +kernel
set_option maxRecDepth 20000 in
theorem ggX8_shift_X8_isTape : GoodIn wsX8_shift wsX8_isTape := goodIn_r _ [8, 9, 10, 7, 11] (by decide +kernel) (by decide +kernel)
set_option maxRecDepth 20000 in
theorem gX8_shift_X8_isTape : GoodIn wsX8_shift (va_wsS RX8 289 yX8_isTape wsX8_isTape) := goodIn_app (goodIn_of _ (by decide +kernel)) ggX8_shift_X8_isTape
theorem dX8_shift_0 : decode cX8_shift 0 = .ok (.iload_n 1, 1) := by decide +kernel
theorem dX8_shift_1 : decode cX8_shift 1 = .ok (.invokestatic 289, 3) := by decide +kernel
theorem dX8_shift_4 : decode cX8_shift 4 = .ok (.ifCond .eq 10, 3) := by decide +kernel
theorem dX8_shift_7 : decode cX8_shift 7 = .ok (.iload_n 3, 1) := by decide +kernel
theorem dX8_shift_8 : decode cX8_shift 8 = .ok (.invokestatic 289, 3) := by decide +kernel
theorem dX8_shift_11 : decode cX8_shift 11 = .ok (.ifCond .ne 5, 3) := by decide +kernel
theorem dX8_shift_14 : decode cX8_shift 14 = .ok (.iconst (-1), 1) := by decide +kernel
theorem dX8_shift_15 : decode cX8_shift 15 = .ok (.ireturn, 1) := by decide +kernel
theorem dX8_shift_16 : decode cX8_shift 16 = .ok (.aload_n 0, 1) := by decide +kernel
theorem dX8_shift_17 : decode cX8_shift 17 = .ok (.getfield 30, 3) := by decide +kernel
theorem dX8_shift_20 : decode cX8_shift 20 = .ok (.iload_n 1, 1) := by decide +kernel
theorem dX8_shift_21 : decode cX8_shift 21 = .ok (.iaload, 1) := by decide +kernel
theorem dX8_shift_22 : decode cX8_shift 22 = .ok (.ifCond .lt 12, 3) := by decide +kernel
theorem dX8_shift_25 : decode cX8_shift 25 = .ok (.aload_n 0, 1) := by decide +kernel
theorem dX8_shift_26 : decode cX8_shift 26 = .ok (.getfield 30, 3) := by decide +kernel
theorem dX8_shift_29 : decode cX8_shift 29 = .ok (.iload_n 3, 1) := by decide +kernel
theorem dX8_shift_30 : decode cX8_shift 30 = .ok (.iaload, 1) := by decide +kernel
theorem dX8_shift_31 : decode cX8_shift 31 = .ok (.ifCond .ge 6, 3) := by decide +kernel
theorem dX8_shift_34 : decode cX8_shift 34 = .ok (.bipush (-11), 2) := by decide +kernel
theorem dX8_shift_36 : decode cX8_shift 36 = .ok (.ireturn, 1) := by decide +kernel
theorem dX8_shift_37 : decode cX8_shift 37 = .ok (.aload_n 0, 1) := by decide +kernel
theorem dX8_shift_38 : decode cX8_shift 38 = .ok (.getfield 30, 3) := by decide +kernel
theorem dX8_shift_41 : decode cX8_shift 41 = .ok (.iload_n 1, 1) := by decide +kernel
theorem dX8_shift_42 : decode cX8_shift 42 = .ok (.iaload, 1) := by decide +kernel
theorem dX8_shift_43 : decode cX8_shift 43 = .ok (.aload_n 0, 1) := by decide +kernel
theorem dX8_shift_44 : decode cX8_shift 44 = .ok (.getfield 30, 3) := by decide +kernel
theorem dX8_shift_47 : decode cX8_shift 47 = .ok (.iload_n 3, 1) := by decide +kernel
theorem dX8_shift_48 : decode cX8_shift 48 = .ok (.iaload, 1) := by decide +kernel
theorem dX8_shift_49 : decode cX8_shift 49 = .ok (.if_icmp .eq 6, 3) := by decide +kernel
theorem dX8_shift_52 : decode cX8_shift 52 = .ok (.bipush (-12), 2) := by decide +kernel
theorem dX8_shift_54 : decode cX8_shift 54 = .ok (.ireturn, 1) := by decide +kernel
theorem dX8_shift_55 : decode cX8_shift 55 = .ok (.iload 5, 2) := by decide +kernel
theorem dX8_shift_57 : decode cX8_shift 57 = .ok (.ifCond .lt 39, 3) := by decide +kernel
theorem dX8_shift_60 : decode cX8_shift 60 = .ok (.iload_n 2, 1) := by decide +kernel
theorem dX8_shift_61 : decode cX8_shift 61 = .ok (.ifCond .lt 35, 3) := by decide +kernel
theorem dX8_shift_64 : decode cX8_shift 64 = .ok (.iload 4, 2) := by decide +kernel
theorem dX8_shift_66 : decode cX8_shift 66 = .ok (.ifCond .lt 30, 3) := by decide +kernel
theorem dX8_shift_69 : decode cX8_shift 69 = .ok (.iload_n 2, 1) := by decide +kernel
theorem dX8_shift_70 : decode cX8_shift 70 = .ok (.aload_n 0, 1) := by decide +kernel
theorem dX8_shift_71 : decode cX8_shift 71 = .ok (.getfield 33, 3) := by decide +kernel
theorem dX8_shift_74 : decode cX8_shift 74 = .ok (.iload_n 1, 1) := by decide +kernel
theorem dX8_shift_75 : decode cX8_shift 75 = .ok (.iaload, 1) := by decide +kernel
theorem dX8_shift_76 : decode cX8_shift 76 = .ok (.iload 5, 2) := by decide +kernel
theorem dX8_shift_78 : decode cX8_shift 78 = .ok (.isub, 1) := by decide +kernel
theorem dX8_shift_79 : decode cX8_shift 79 = .ok (.if_icmp .gt 17, 3) := by decide +kernel
theorem dX8_shift_82 : decode cX8_shift 82 = .ok (.iload 4, 2) := by decide +kernel
theorem dX8_shift_84 : decode cX8_shift 84 = .ok (.aload_n 0, 1) := by decide +kernel
theorem dX8_shift_85 : decode cX8_shift 85 = .ok (.getfield 33, 3) := by decide +kernel
theorem dX8_shift_88 : decode cX8_shift 88 = .ok (.iload_n 3, 1) := by decide +kernel
theorem dX8_shift_89 : decode cX8_shift 89 = .ok (.iaload, 1) := by decide +kernel
theorem dX8_shift_90 : decode cX8_shift 90 = .ok (.iload 5, 2) := by decide +kernel
theorem dX8_shift_92 : decode cX8_shift 92 = .ok (.isub, 1) := by decide +kernel
theorem dX8_shift_93 : decode cX8_shift 93 = .ok (.if_icmp .le 6, 3) := by decide +kernel
theorem dX8_shift_96 : decode cX8_shift 96 = .ok (.bipush (-13), 2) := by decide +kernel
theorem dX8_shift_98 : decode cX8_shift 98 = .ok (.ireturn, 1) := by decide +kernel
theorem dX8_shift_99 : decode cX8_shift 99 = .ok (.iconst 0, 1) := by decide +kernel
theorem dX8_shift_100 : decode cX8_shift 100 = .ok (.istore 6, 2) := by decide +kernel
theorem dX8_shift_102 : decode cX8_shift 102 = .ok (.iload 6, 2) := by decide +kernel
theorem dX8_shift_104 : decode cX8_shift 104 = .ok (.iload 5, 2) := by decide +kernel
theorem dX8_shift_106 : decode cX8_shift 106 = .ok (.if_icmp .ge 30, 3) := by decide +kernel
theorem dX8_shift_109 : decode cX8_shift 109 = .ok (.aload_n 0, 1) := by decide +kernel
theorem dX8_shift_110 : decode cX8_shift 110 = .ok (.getfield 40, 3) := by decide +kernel
theorem dX8_shift_113 : decode cX8_shift 113 = .ok (.iload 6, 2) := by decide +kernel
theorem dX8_shift_115 : decode cX8_shift 115 = .ok (.aload_n 0, 1) := by decide +kernel
theorem dX8_shift_116 : decode cX8_shift 116 = .ok (.getfield 36, 3) := by decide +kernel
theorem dX8_shift_119 : decode cX8_shift 119 = .ok (.bipush 60, 2) := by decide +kernel
theorem dX8_shift_121 : decode cX8_shift 121 = .ok (.iload_n 1, 1) := by decide +kernel
theorem dX8_shift_122 : decode cX8_shift 122 = .ok (.imul, 1) := by decide +kernel
theorem dX8_shift_123 : decode cX8_shift 123 = .ok (.iload_n 2, 1) := by decide +kernel
theorem dX8_shift_124 : decode cX8_shift 124 = .ok (.iadd, 1) := by decide +kernel
theorem dX8_shift_125 : decode cX8_shift 125 = .ok (.iload 6, 2) := by decide +kernel
theorem dX8_shift_127 : decode cX8_shift 127 = .ok (.iadd, 1) := by decide +kernel
theorem dX8_shift_128 : decode cX8_shift 128 = .ok (.laload, 1) := by decide +kernel
theorem dX8_shift_129 : decode cX8_shift 129 = .ok (.lastore, 1) := by decide +kernel
theorem dX8_shift_130 : decode cX8_shift 130 = .ok (.iinc 6 1, 3) := by decide +kernel
theorem dX8_shift_133 : decode cX8_shift 133 = .ok (.goto (-31), 3) := by decide +kernel
theorem dX8_shift_136 : decode cX8_shift 136 = .ok (.iconst 0, 1) := by decide +kernel
theorem dX8_shift_137 : decode cX8_shift 137 = .ok (.istore 6, 2) := by decide +kernel
theorem dX8_shift_139 : decode cX8_shift 139 = .ok (.iload 6, 2) := by decide +kernel
theorem dX8_shift_141 : decode cX8_shift 141 = .ok (.iload 5, 2) := by decide +kernel
theorem dX8_shift_143 : decode cX8_shift 143 = .ok (.if_icmp .ge 31, 3) := by decide +kernel
theorem dX8_shift_146 : decode cX8_shift 146 = .ok (.aload_n 0, 1) := by decide +kernel
theorem dX8_shift_147 : decode cX8_shift 147 = .ok (.getfield 36, 3) := by decide +kernel
theorem dX8_shift_150 : decode cX8_shift 150 = .ok (.bipush 60, 2) := by decide +kernel
theorem dX8_shift_152 : decode cX8_shift 152 = .ok (.iload_n 3, 1) := by decide +kernel
theorem dX8_shift_153 : decode cX8_shift 153 = .ok (.imul, 1) := by decide +kernel
theorem dX8_shift_154 : decode cX8_shift 154 = .ok (.iload 4, 2) := by decide +kernel
theorem dX8_shift_156 : decode cX8_shift 156 = .ok (.iadd, 1) := by decide +kernel
theorem dX8_shift_157 : decode cX8_shift 157 = .ok (.iload 6, 2) := by decide +kernel
theorem dX8_shift_159 : decode cX8_shift 159 = .ok (.iadd, 1) := by decide +kernel
theorem dX8_shift_160 : decode cX8_shift 160 = .ok (.aload_n 0, 1) := by decide +kernel
theorem dX8_shift_161 : decode cX8_shift 161 = .ok (.getfield 40, 3) := by decide +kernel
theorem dX8_shift_164 : decode cX8_shift 164 = .ok (.iload 6, 2) := by decide +kernel
theorem dX8_shift_166 : decode cX8_shift 166 = .ok (.laload, 1) := by decide +kernel
theorem dX8_shift_167 : decode cX8_shift 167 = .ok (.lastore, 1) := by decide +kernel
theorem dX8_shift_168 : decode cX8_shift 168 = .ok (.iinc 6 1, 3) := by decide +kernel
theorem dX8_shift_171 : decode cX8_shift 171 = .ok (.goto (-32), 3) := by decide +kernel
theorem dX8_shift_174 : decode cX8_shift 174 = .ok (.iload 5, 2) := by decide +kernel
theorem dX8_shift_176 : decode cX8_shift 176 = .ok (.ireturn, 1) := by decide +kernel
