theorem dX7_modCopy_2 : decode cX7_modCopy 2 = .ok (.iload_n 3, 1) := by decide +kernel
theorem dX7_modCopy_3 : decode cX7_modCopy 3 = .ok (.bipush 16, 2) := by decide +kernel
theorem dX7_modCopy_5 : decode cX7_modCopy 5 = .ok (.if_icmp .ge 31, 3) := by decide +kernel
theorem dX7_modCopy_8 : decode cX7_modCopy 8 = .ok (.aload_n 0, 1) := by decide +kernel
theorem dX7_modCopy_9 : decode cX7_modCopy 9 = .ok (.getfield 32, 3) := by decide +kernel
theorem dX7_modCopy_12 : decode cX7_modCopy 12 = .ok (.bipush 16, 2) := by decide +kernel
theorem dX7_modCopy_14 : decode cX7_modCopy 14 = .ok (.iload_n 1, 1) := by decide +kernel
theorem dX7_modCopy_15 : decode cX7_modCopy 15 = .ok (.imul, 1) := by decide +kernel
theorem dX7_modCopy_16 : decode cX7_modCopy 16 = .ok (.iload_n 3, 1) := by decide +kernel
theorem dX7_modCopy_17 : decode cX7_modCopy 17 = .ok (.iadd, 1) := by decide +kernel
theorem dX7_modCopy_18 : decode cX7_modCopy 18 = .ok (.aload_n 0, 1) := by decide +kernel
theorem dX7_modCopy_19 : decode cX7_modCopy 19 = .ok (.getfield 32, 3) := by decide +kernel
theorem dX7_modCopy_22 : decode cX7_modCopy 22 = .ok (.bipush 16, 2) := by decide +kernel
theorem dX7_modCopy_24 : decode cX7_modCopy 24 = .ok (.iload_n 2, 1) := by decide +kernel
theorem dX7_modCopy_25 : decode cX7_modCopy 25 = .ok (.imul, 1) := by decide +kernel
theorem dX7_modCopy_26 : decode cX7_modCopy 26 = .ok (.iload_n 3, 1) := by decide +kernel
theorem dX7_modCopy_27 : decode cX7_modCopy 27 = .ok (.iadd, 1) := by decide +kernel
theorem dX7_modCopy_28 : decode cX7_modCopy 28 = .ok (.iaload, 1) := by decide +kernel
theorem dX7_modCopy_29 : decode cX7_modCopy 29 = .ok (.iastore, 1) := by decide +kernel
theorem dX7_modCopy_30 : decode cX7_modCopy 30 = .ok (.iinc 3 1, 3) := by decide +kernel
theorem dX7_modCopy_33 : decode cX7_modCopy 33 = .ok (.goto (-31), 3) := by decide +kernel
theorem dX7_modCopy_36 : decode cX7_modCopy 36 = .ok (.return_, 1) := by decide +kernel
theorem dX7_inverse_0 : decode cX7_inverse 0 = .ok (.iconst 1, 1) := by decide +kernel
theorem dX7_inverse_1 : decode cX7_inverse 1 = .ok (.istore_n 2, 1) := by decide +kernel
theorem dX7_inverse_2 : decode cX7_inverse 2 = .ok (.iload_n 1, 1) := by decide +kernel
theorem dX7_inverse_3 : decode cX7_inverse 3 = .ok (.istore_n 3, 1) := by decide +kernel
theorem dX7_inverse_4 : decode cX7_inverse 4 = .ok (.aload_n 0, 1) := by decide +kernel
theorem dX7_inverse_5 : decode cX7_inverse 5 = .ok (.getfield 167, 3) := by decide +kernel
theorem dX7_inverse_8 : decode cX7_inverse 8 = .ok (.iconst 2, 1) := by decide +kernel
theorem dX7_inverse_9 : decode cX7_inverse 9 = .ok (.isub, 1) := by decide +kernel
theorem dX7_inverse_10 : decode cX7_inverse 10 = .ok (.istore 4, 2) := by decide +kernel
theorem dX7_inverse_12 : decode cX7_inverse 12 = .ok (.iload 4, 2) := by decide +kernel
theorem dX7_inverse_14 : decode cX7_inverse 14 = .ok (.ifCond .le 42, 3) := by decide +kernel
theorem dX7_inverse_17 : decode cX7_inverse 17 = .ok (.iload 4, 2) := by decide +kernel
theorem dX7_inverse_19 : decode cX7_inverse 19 = .ok (.iconst 2, 1) := by decide +kernel
theorem dX7_inverse_20 : decode cX7_inverse 20 = .ok (.irem, 1) := by decide +kernel
theorem dX7_inverse_21 : decode cX7_inverse 21 = .ok (.iconst 1, 1) := by decide +kernel
theorem dX7_inverse_22 : decode cX7_inverse 22 = .ok (.if_icmp .ne 14, 3) := by decide +kernel
theorem dX7_inverse_25 : decode cX7_inverse 25 = .ok (.iload_n 2, 1) := by decide +kernel
theorem dX7_inverse_26 : decode cX7_inverse 26 = .ok (.iload_n 3, 1) := by decide +kernel
theorem dX7_inverse_27 : decode cX7_inverse 27 = .ok (.imul, 1) := by decide +kernel
theorem dX7_inverse_28 : decode cX7_inverse 28 = .ok (.aload_n 0, 1) := by decide +kernel
theorem dX7_inverse_29 : decode cX7_inverse 29 = .ok (.getfield 167, 3) := by decide +kernel
theorem dX7_inverse_32 : decode cX7_inverse 32 = .ok (.irem, 1) := by decide +kernel
theorem dX7_inverse_33 : decode cX7_inverse 33 = .ok (.goto 4, 3) := by decide +kernel
theorem dX7_inverse_36 : decode cX7_inverse 36 = .ok (.iload_n 2, 1) := by decide +kernel
theorem dX7_inverse_37 : decode cX7_inverse 37 = .ok (.istore_n 2, 1) := by decide +kernel
theorem dX7_inverse_38 : decode cX7_inverse 38 = .ok (.iload_n 3, 1) := by decide +kernel
theorem dX7_inverse_39 : decode cX7_inverse 39 = .ok (.iload_n 3, 1) := by decide +kernel
theorem dX7_inverse_40 : decode cX7_inverse 40 = .ok (.imul, 1) := by decide +kernel
theorem dX7_inverse_41 : decode cX7_inverse 41 = .ok (.aload_n 0, 1) := by decide +kernel
theorem dX7_inverse_42 : decode cX7_inverse 42 = .ok (.getfield 167, 3) := by decide +kernel
theorem dX7_inverse_45 : decode cX7_inverse 45 = .ok (.irem, 1) := by decide +kernel
theorem dX7_inverse_46 : decode cX7_inverse 46 = .ok (.istore_n 3, 1) := by decide +kernel
theorem dX7_inverse_47 : decode cX7_inverse 47 = .ok (.iload 4, 2) := by decide +kernel
theorem dX7_inverse_49 : decode cX7_inverse 49 = .ok (.iconst 2, 1) := by decide +kernel
theorem dX7_inverse_50 : decode cX7_inverse 50 = .ok (.idiv, 1) := by decide +kernel
theorem dX7_inverse_51 : decode cX7_inverse 51 = .ok (.istore 4, 2) := by decide +kernel
theorem dX7_inverse_53 : decode cX7_inverse 53 = .ok (.goto (-41), 3) := by decide +kernel
theorem dX7_inverse_56 : decode cX7_inverse 56 = .ok (.iload_n 2, 1) := by decide +kernel
theorem dX7_inverse_57 : decode cX7_inverse 57 = .ok (.ireturn, 1) := by decide +kernel
set_option maxRecDepth 20000 in
theorem ggX7_reduce_X7_modDegree : GoodIn wsX7_reduce wsX7_modDegree := goodIn_r _ [7, 1, 12, 13, 14, 15, 16, 17, 18, 19, 20, 21, 22, 23, 24, 25, 26, 27, 28, 29, 30, 31, 32, 33, 34, 35, 36] (by decide +kernel) (by decide +kernel)
set_option maxRecDepth 20000 in
theorem gX7_reduce_X7_modDegree : GoodIn wsX7_reduce (wsV RX7 170 RX7 yX7_modDegree wsX7_modDegree) := goodIn_app (goodIn_of _ (by decide +kernel)) ggX7_reduce_X7_modDegree
set_option maxRecDepth 20000 in
theorem ggX7_reduce_X7_inverse : GoodIn wsX7_reduce wsX7_inverse := goodIn_r _ [11, 2, 12, 13, 14, 15, 16, 17, 18, 19, 20, 21, 22, 23, 24, 25, 26, 27, 28, 29, 30, 31, 32, 33, 34, 35, 36] (by decide +kernel) (by decide +kernel)
set_option maxRecDepth 20000 in
theorem gX7_reduce_X7_inverse : GoodIn wsX7_reduce (wsV RX7 173 RX7 yX7_inverse wsX7_inverse) := goodIn_app (goodIn_of _ (by decide +kernel)) ggX7_reduce_X7_inverse
theorem dX7_reduce_0 : decode cX7_reduce 0 = .ok (.aload_n 0, 1) := by decide +kernel
theorem dX7_reduce_1 : decode cX7_reduce 1 = .ok (.iload_n 2, 1) := by decide +kernel
theorem dX7_reduce_2 : decode cX7_reduce 2 = .ok (.invokevirtual 170, 3) := by decide +kernel
theorem dX7_reduce_5 : decode cX7_reduce 5 = .ok (.istore_n 3, 1) := by decide +kernel
theorem dX7_reduce_6 : decode cX7_reduce 6 = .ok (.aload_n 0, 1) := by decide +kernel
theorem dX7_reduce_7 : decode cX7_reduce 7 = .ok (.aload_n 0, 1) := by decide +kernel
theorem dX7_reduce_8 : decode cX7_reduce 8 = .ok (.getfield 32, 3) := by decide +kernel
theorem dX7_reduce_11 : decode cX7_reduce 11 = .ok (.bipush 16, 2) := by decide +kernel
theorem dX7_reduce_13 : decode cX7_reduce 13 = .ok (.iload_n 2, 1) := by decide +kernel
theorem dX7_reduce_14 : decode cX7_reduce 14 = .ok (.imul, 1) := by decide +kernel
theorem dX7_reduce_15 : decode cX7_reduce 15 = .ok (.iload_n 3, 1) := by decide +kernel
theorem dX7_reduce_16 : decode cX7_reduce 16 = .ok (.iadd, 1) := by decide +kernel
theorem dX7_reduce_17 : decode cX7_reduce 17 = .ok (.iaload, 1) := by decide +kernel
theorem dX7_reduce_18 : decode cX7_reduce 18 = .ok (.invokevirtual 173, 3) := by decide +kernel
theorem dX7_reduce_21 : decode cX7_reduce 21 = .ok (.istore 4, 2) := by decide +kernel
theorem dX7_reduce_23 : decode cX7_reduce 23 = .ok (.iconst 0, 1) := by decide +kernel
theorem dX7_reduce_24 : decode cX7_reduce 24 = .ok (.istore 5, 2) := by decide +kernel
theorem dX7_reduce_26 : decode cX7_reduce 26 = .ok (.iload 5, 2) := by decide +kernel
theorem dX7_reduce_28 : decode cX7_reduce 28 = .ok (.bipush 16, 2) := by decide +kernel
theorem dX7_reduce_30 : decode cX7_reduce 30 = .ok (.if_icmp .ge 21, 3) := by decide +kernel
theorem dX7_reduce_33 : decode cX7_reduce 33 = .ok (.aload_n 0, 1) := by decide +kernel
theorem dX7_reduce_34 : decode cX7_reduce 34 = .ok (.getfield 32, 3) := by decide +kernel
theorem dX7_reduce_37 : decode cX7_reduce 37 = .ok (.sipush 144, 3) := by decide +kernel
theorem dX7_reduce_40 : decode cX7_reduce 40 = .ok (.iload 5, 2) := by decide +kernel
theorem dX7_reduce_42 : decode cX7_reduce 42 = .ok (.iadd, 1) := by decide +kernel
theorem dX7_reduce_43 : decode cX7_reduce 43 = .ok (.iconst 0, 1) := by decide +kernel
theorem dX7_reduce_44 : decode cX7_reduce 44 = .ok (.iastore, 1) := by decide +kernel
theorem dX7_reduce_45 : decode cX7_reduce 45 = .ok (.iinc 5 1, 3) := by decide +kernel
theorem dX7_reduce_48 : decode cX7_reduce 48 = .ok (.goto (-22), 3) := by decide +kernel
theorem dX7_reduce_51 : decode cX7_reduce 51 = .ok (.aload_n 0, 1) := by decide +kernel
theorem dX7_reduce_52 : decode cX7_reduce 52 = .ok (.iload_n 1, 1) := by decide +kernel
theorem dX7_reduce_53 : decode cX7_reduce 53 = .ok (.invokevirtual 170, 3) := by decide +kernel
theorem dX7_reduce_56 : decode cX7_reduce 56 = .ok (.iload_n 3, 1) := by decide +kernel
theorem dX7_reduce_57 : decode cX7_reduce 57 = .ok (.isub, 1) := by decide +kernel
theorem dX7_reduce_58 : decode cX7_reduce 58 = .ok (.istore 5, 2) := by decide +kernel
theorem dX7_reduce_60 : decode cX7_reduce 60 = .ok (.iload 5, 2) := by decide +kernel
theorem dX7_reduce_62 : decode cX7_reduce 62 = .ok (.ifCond .lt 117, 3) := by decide +kernel
theorem dX7_reduce_65 : decode cX7_reduce 65 = .ok (.aload_n 0, 1) := by decide +kernel
theorem dX7_reduce_66 : decode cX7_reduce 66 = .ok (.getfield 32, 3) := by decide +kernel
theorem dX7_reduce_69 : decode cX7_reduce 69 = .ok (.bipush 16, 2) := by decide +kernel
theorem dX7_reduce_71 : decode cX7_reduce 71 = .ok (.iload_n 1, 1) := by decide +kernel
theorem dX7_reduce_72 : decode cX7_reduce 72 = .ok (.imul, 1) := by decide +kernel
theorem dX7_reduce_73 : decode cX7_reduce 73 = .ok (.iload 5, 2) := by decide +kernel
theorem dX7_reduce_75 : decode cX7_reduce 75 = .ok (.iadd, 1) := by decide +kernel
theorem dX7_reduce_76 : decode cX7_reduce 76 = .ok (.iload_n 3, 1) := by decide +kernel
theorem dX7_reduce_77 : decode cX7_reduce 77 = .ok (.iadd, 1) := by decide +kernel
theorem dX7_reduce_78 : decode cX7_reduce 78 = .ok (.iaload, 1) := by decide +kernel
theorem dX7_reduce_79 : decode cX7_reduce 79 = .ok (.iload 4, 2) := by decide +kernel
theorem dX7_reduce_81 : decode cX7_reduce 81 = .ok (.imul, 1) := by decide +kernel
theorem dX7_reduce_82 : decode cX7_reduce 82 = .ok (.aload_n 0, 1) := by decide +kernel
theorem dX7_reduce_83 : decode cX7_reduce 83 = .ok (.getfield 167, 3) := by decide +kernel
theorem dX7_reduce_86 : decode cX7_reduce 86 = .ok (.irem, 1) := by decide +kernel
theorem dX7_reduce_87 : decode cX7_reduce 87 = .ok (.istore 6, 2) := by decide +kernel
theorem dX7_reduce_89 : decode cX7_reduce 89 = .ok (.aload_n 0, 1) := by decide +kernel
theorem dX7_reduce_90 : decode cX7_reduce 90 = .ok (.getfield 32, 3) := by decide +kernel
theorem dX7_reduce_93 : decode cX7_reduce 93 = .ok (.sipush 144, 3) := by decide +kernel
theorem dX7_reduce_96 : decode cX7_reduce 96 = .ok (.iload 5, 2) := by decide +kernel
theorem dX7_reduce_98 : decode cX7_reduce 98 = .ok (.iadd, 1) := by decide +kernel
theorem dX7_reduce_99 : decode cX7_reduce 99 = .ok (.iload 6, 2) := by decide +kernel
theorem dX7_reduce_101 : decode cX7_reduce 101 = .ok (.iastore, 1) := by decide +kernel
theorem dX7_reduce_102 : decode cX7_reduce 102 = .ok (.iconst 0, 1) := by decide +kernel
theorem dX7_reduce_103 : decode cX7_reduce 103 = .ok (.istore 7, 2) := by decide +kernel
theorem dX7_reduce_105 : decode cX7_reduce 105 = .ok (.iload 7, 2) := by decide +kernel
theorem dX7_reduce_107 : decode cX7_reduce 107 = .ok (.iload_n 3, 1) := by decide +kernel
theorem dX7_reduce_108 : decode cX7_reduce 108 = .ok (.if_icmp .gt 65, 3) := by decide +kernel
theorem dX7_reduce_111 : decode cX7_reduce 111 = .ok (.aload_n 0, 1) := by decide +kernel
theorem dX7_reduce_112 : decode cX7_reduce 112 = .ok (.getfield 32, 3) := by decide +kernel
theorem dX7_reduce_115 : decode cX7_reduce 115 = .ok (.bipush 16, 2) := by decide +kernel
theorem dX7_reduce_117 : decode cX7_reduce 117 = .ok (.iload_n 1, 1) := by decide +kernel
theorem dX7_reduce_118 : decode cX7_reduce 118 = .ok (.imul, 1) := by decide +kernel
theorem dX7_reduce_119 : decode cX7_reduce 119 = .ok (.iload 5, 2) := by decide +kernel
theorem dX7_reduce_121 : decode cX7_reduce 121 = .ok (.iadd, 1) := by decide +kernel
theorem dX7_reduce_122 : decode cX7_reduce 122 = .ok (.iload 7, 2) := by decide +kernel
theorem dX7_reduce_124 : decode cX7_reduce 124 = .ok (.iadd, 1) := by decide +kernel
theorem dX7_reduce_125 : decode cX7_reduce 125 = .ok (.aload_n 0, 1) := by decide +kernel
theorem dX7_reduce_126 : decode cX7_reduce 126 = .ok (.getfield 32, 3) := by decide +kernel
theorem dX7_reduce_129 : decode cX7_reduce 129 = .ok (.bipush 16, 2) := by decide +kernel
theorem dX7_reduce_131 : decode cX7_reduce 131 = .ok (.iload_n 1, 1) := by decide +kernel
theorem dX7_reduce_132 : decode cX7_reduce 132 = .ok (.imul, 1) := by decide +kernel
theorem dX7_reduce_133 : decode cX7_reduce 133 = .ok (.iload 5, 2) := by decide +kernel
theorem dX7_reduce_135 : decode cX7_reduce 135 = .ok (.iadd, 1) := by decide +kernel
theorem dX7_reduce_136 : decode cX7_reduce 136 = .ok (.iload 7, 2) := by decide +kernel
theorem dX7_reduce_138 : decode cX7_reduce 138 = .ok (.iadd, 1) := by decide +kernel
theorem dX7_reduce_139 : decode cX7_reduce 139 = .ok (.iaload, 1) := by decide +kernel
theorem dX7_reduce_140 : decode cX7_reduce 140 = .ok (.aload_n 0, 1) := by decide +kernel
theorem dX7_reduce_141 : decode cX7_reduce 141 = .ok (.getfield 167, 3) := by decide +kernel
theorem dX7_reduce_144 : decode cX7_reduce 144 = .ok (.iload 6, 2) := by decide +kernel
theorem dX7_reduce_146 : decode cX7_reduce 146 = .ok (.isub, 1) := by decide +kernel
theorem dX7_reduce_147 : decode cX7_reduce 147 = .ok (.aload_n 0, 1) := by decide +kernel
theorem dX7_reduce_148 : decode cX7_reduce 148 = .ok (.getfield 32, 3) := by decide +kernel
theorem dX7_reduce_151 : decode cX7_reduce 151 = .ok (.bipush 16, 2) := by decide +kernel
theorem dX7_reduce_153 : decode cX7_reduce 153 = .ok (.iload_n 2, 1) := by decide +kernel
theorem dX7_reduce_154 : decode cX7_reduce 154 = .ok (.imul, 1) := by decide +kernel
theorem dX7_reduce_155 : decode cX7_reduce 155 = .ok (.iload 7, 2) := by decide +kernel
theorem dX7_reduce_157 : decode cX7_reduce 157 = .ok (.iadd, 1) := by decide +kernel
theorem dX7_reduce_158 : decode cX7_reduce 158 = .ok (.iaload, 1) := by decide +kernel
theorem dX7_reduce_159 : decode cX7_reduce 159 = .ok (.imul, 1) := by decide +kernel
theorem dX7_reduce_160 : decode cX7_reduce 160 = .ok (.iadd, 1) := by decide +kernel
theorem dX7_reduce_161 : decode cX7_reduce 161 = .ok (.aload_n 0, 1) := by decide +kernel
theorem dX7_reduce_162 : decode cX7_reduce 162 = .ok (.getfield 167, 3) := by decide +kernel
theorem dX7_reduce_165 : decode cX7_reduce 165 = .ok (.irem, 1) := by decide +kernel
theorem dX7_reduce_166 : decode cX7_reduce 166 = .ok (.iastore, 1) := by decide +kernel
theorem dX7_reduce_167 : decode cX7_reduce 167 = .ok (.iinc 7 1, 3) := by decide +kernel
theorem dX7_reduce_170 : decode cX7_reduce 170 = .ok (.goto (-65), 3) := by decide +kernel
theorem dX7_reduce_173 : decode cX7_reduce 173 = .ok (.iinc 5 (-1), 3) := by decide +kernel
theorem dX7_reduce_176 : decode cX7_reduce 176 = .ok (.goto (-116), 3) := by decide +kernel
theorem dX7_reduce_179 : decode cX7_reduce 179 = .ok (.return_, 1) := by decide +kernel
set_option maxRecDepth 20000 in
theorem ggX7_modCommon_X7_modDegree : GoodIn wsX7_modCommon wsX7_modDegree := goodIn_r _ [5, 6, 20, 21, 22, 23, 24, 25, 26, 27, 28, 29, 30, 31, 32, 33, 34, 35, 36, 37, 38, 39, 40, 41, 42, 43, 44] (by decide +kernel) (by decide +kernel)
set_option maxRecDepth 20000 in
theorem gX7_modCommon_X7_modDegree : GoodIn wsX7_modCommon (wsV RX7 170 RX7 yX7_modDegree wsX7_modDegree) := goodIn_app (goodIn_of _ (by decide +kernel)) ggX7_modCommon_X7_modDegree
set_option maxRecDepth 20000 in
theorem ggX7_modCommon_X7_reduce : GoodIn wsX7_modCommon wsX7_reduce := goodIn_r _ [10, 6, 11, 1, 2, 3, 4, 5, 12, 13, 14, 15, 20, 21, 22, 23, 24, 25, 26, 27, 28, 29, 30, 31, 32, 33, 34, 35, 36, 37, 38, 39, 40, 41, 42, 43, 44] (by decide +kernel) (by decide +kernel)
set_option maxRecDepth 20000 in
theorem gX7_modCommon_X7_reduce : GoodIn wsX7_modCommon (wsV RX7 176 RX7 yX7_reduce wsX7_reduce) := goodIn_app (goodIn_of _ (by decide +kernel)) ggX7_modCommon_X7_reduce
set_option maxRecDepth 20000 in
theorem ggX7_modCommon_X7_modCopy : GoodIn wsX7_modCommon wsX7_modCopy := goodIn_r _ [19, 6, 20, 21, 22, 23, 24, 25, 26, 27, 28, 29, 30, 31, 32, 33, 34, 35, 36, 37, 38, 39, 40, 41, 42, 43, 44] (by decide +kernel) (by decide +kernel)
set_option maxRecDepth 20000 in
theorem gX7_modCommon_X7_modCopy : GoodIn wsX7_modCommon (wsV RX7 179 RX7 yX7_modCopy wsX7_modCopy) := goodIn_app (goodIn_of _ (by decide +kernel)) ggX7_modCommon_X7_modCopy
theorem dX7_modCommon_0 : decode cX7_modCommon 0 = .ok (.aload_n 0, 1) := by decide +kernel
theorem dX7_modCommon_1 : decode cX7_modCommon 1 = .ok (.iconst 2, 1) := by decide +kernel
theorem dX7_modCommon_2 : decode cX7_modCommon 2 = .ok (.invokevirtual 170, 3) := by decide +kernel
theorem dX7_modCommon_5 : decode cX7_modCommon 5 = .ok (.ifCond .lt 30, 3) := by decide +kernel
theorem dX7_modCommon_8 : decode cX7_modCommon 8 = .ok (.aload_n 0, 1) := by decide +kernel
theorem dX7_modCommon_9 : decode cX7_modCommon 9 = .ok (.iconst 1, 1) := by decide +kernel
theorem dX7_modCommon_10 : decode cX7_modCommon 10 = .ok (.iconst 2, 1) := by decide +kernel
theorem dX7_modCommon_11 : decode cX7_modCommon 11 = .ok (.invokevirtual 176, 3) := by decide +kernel
theorem dX7_modCommon_14 : decode cX7_modCommon 14 = .ok (.aload_n 0, 1) := by decide +kernel
theorem dX7_modCommon_15 : decode cX7_modCommon 15 = .ok (.iconst 3, 1) := by decide +kernel
theorem dX7_modCommon_16 : decode cX7_modCommon 16 = .ok (.iconst 1, 1) := by decide +kernel
theorem dX7_modCommon_17 : decode cX7_modCommon 17 = .ok (.invokevirtual 179, 3) := by decide +kernel
theorem dX7_modCommon_20 : decode cX7_modCommon 20 = .ok (.aload_n 0, 1) := by decide +kernel
theorem dX7_modCommon_21 : decode cX7_modCommon 21 = .ok (.iconst 1, 1) := by decide +kernel
theorem dX7_modCommon_22 : decode cX7_modCommon 22 = .ok (.iconst 2, 1) := by decide +kernel
theorem dX7_modCommon_23 : decode cX7_modCommon 23 = .ok (.invokevirtual 179, 3) := by decide +kernel
theorem dX7_modCommon_26 : decode cX7_modCommon 26 = .ok (.aload_n 0, 1) := by decide +kernel
theorem dX7_modCommon_27 : decode cX7_modCommon 27 = .ok (.iconst 2, 1) := by decide +kernel
theorem dX7_modCommon_28 : decode cX7_modCommon 28 = .ok (.iconst 3, 1) := by decide +kernel
theorem dX7_modCommon_29 : decode cX7_modCommon 29 = .ok (.invokevirtual 179, 3) := by decide +kernel
theorem dX7_modCommon_32 : decode cX7_modCommon 32 = .ok (.goto (-32), 3) := by decide +kernel
theorem dX7_modCommon_35 : decode cX7_modCommon 35 = .ok (.aload_n 0, 1) := by decide +kernel
theorem dX7_modCommon_36 : decode cX7_modCommon 36 = .ok (.iconst 3, 1) := by decide +kernel
theorem dX7_modCommon_37 : decode cX7_modCommon 37 = .ok (.iconst 1, 1) := by decide +kernel
theorem dX7_modCommon_38 : decode cX7_modCommon 38 = .ok (.invokevirtual 179, 3) := by decide +kernel
theorem dX7_modCommon_41 : decode cX7_modCommon 41 = .ok (.return_, 1) := by decide +kernel
set_option maxRecDepth 20000 in
theorem ggX7_modTimes_X7_reduce : GoodIn wsX7_modTimes wsX7_reduce := goodIn_r _ [7, 1, 2, 8, 9, 10, 6, 11, 12, 13, 14, 15, 20, 21, 22, 23, 24, 25, 26, 27, 28, 29, 30, 31, 32, 33, 34, 35, 36, 37, 38, 39, 40, 41, 42, 43, 44] (by decide +kernel) (by decide +kernel)
set_option maxRecDepth 20000 in
theorem gX7_modTimes_X7_reduce : GoodIn wsX7_modTimes (wsV RX7 176 RX7 yX7_reduce wsX7_reduce) := goodIn_app (goodIn_of _ (by decide +kernel)) ggX7_modTimes_X7_reduce
set_option maxRecDepth 20000 in
theorem ggX7_modTimes_X7_modCopy : GoodIn wsX7_modTimes wsX7_modCopy := goodIn_r _ [19, 1, 20, 21, 22, 23, 24, 25, 26, 27, 28, 29, 30, 31, 32, 33, 34, 35, 36, 37, 38, 39, 40, 41, 42, 43, 44] (by decide +kernel) (by decide +kernel)
set_option maxRecDepth 20000 in
theorem gX7_modTimes_X7_modCopy : GoodIn wsX7_modTimes (wsV RX7 179 RX7 yX7_modCopy wsX7_modCopy) := goodIn_app (goodIn_of _ (by decide +kernel)) ggX7_modTimes_X7_modCopy
theorem dX7_modTimes_0 : decode cX7_modTimes 0 = .ok (.iconst 0, 1) := by decide +kernel
theorem dX7_modTimes_1 : decode cX7_modTimes 1 = .ok (.istore 4, 2) := by decide +kernel
theorem dX7_modTimes_3 : decode cX7_modTimes 3 = .ok (.iload 4, 2) := by decide +kernel
theorem dX7_modTimes_5 : decode cX7_modTimes 5 = .ok (.bipush 16, 2) := by decide +kernel
theorem dX7_modTimes_7 : decode cX7_modTimes 7 = .ok (.if_icmp .ge 20, 3) := by decide +kernel
theorem dX7_modTimes_10 : decode cX7_modTimes 10 = .ok (.aload_n 0, 1) := by decide +kernel
theorem dX7_modTimes_11 : decode cX7_modTimes 11 = .ok (.getfield 32, 3) := by decide +kernel
theorem dX7_modTimes_14 : decode cX7_modTimes 14 = .ok (.bipush 80, 2) := by decide +kernel
theorem dX7_modTimes_16 : decode cX7_modTimes 16 = .ok (.iload 4, 2) := by decide +kernel
theorem dX7_modTimes_18 : decode cX7_modTimes 18 = .ok (.iadd, 1) := by decide +kernel
theorem dX7_modTimes_19 : decode cX7_modTimes 19 = .ok (.iconst 0, 1) := by decide +kernel
theorem dX7_modTimes_20 : decode cX7_modTimes 20 = .ok (.iastore, 1) := by decide +kernel
theorem dX7_modTimes_21 : decode cX7_modTimes 21 = .ok (.iinc 4 1, 3) := by decide +kernel
theorem dX7_modTimes_24 : decode cX7_modTimes 24 = .ok (.goto (-21), 3) := by decide +kernel
theorem dX7_modTimes_27 : decode cX7_modTimes 27 = .ok (.iconst 0, 1) := by decide +kernel
theorem dX7_modTimes_28 : decode cX7_modTimes 28 = .ok (.istore 4, 2) := by decide +kernel
theorem dX7_modTimes_30 : decode cX7_modTimes 30 = .ok (.iload 4, 2) := by decide +kernel
theorem dX7_modTimes_32 : decode cX7_modTimes 32 = .ok (.bipush 7, 2) := by decide +kernel
theorem dX7_modTimes_34 : decode cX7_modTimes 34 = .ok (.if_icmp .ge 82, 3) := by decide +kernel
theorem dX7_modTimes_37 : decode cX7_modTimes 37 = .ok (.iconst 0, 1) := by decide +kernel
theorem dX7_modTimes_38 : decode cX7_modTimes 38 = .ok (.istore 5, 2) := by decide +kernel
theorem dX7_modTimes_40 : decode cX7_modTimes 40 = .ok (.iload 5, 2) := by decide +kernel
theorem dX7_modTimes_42 : decode cX7_modTimes 42 = .ok (.bipush 7, 2) := by decide +kernel
theorem dX7_modTimes_44 : decode cX7_modTimes 44 = .ok (.if_icmp .ge 66, 3) := by decide +kernel
theorem dX7_modTimes_47 : decode cX7_modTimes 47 = .ok (.aload_n 0, 1) := by decide +kernel
theorem dX7_modTimes_48 : decode cX7_modTimes 48 = .ok (.getfield 32, 3) := by decide +kernel
theorem dX7_modTimes_51 : decode cX7_modTimes 51 = .ok (.bipush 80, 2) := by decide +kernel
theorem dX7_modTimes_53 : decode cX7_modTimes 53 = .ok (.iload 4, 2) := by decide +kernel
theorem dX7_modTimes_55 : decode cX7_modTimes 55 = .ok (.iadd, 1) := by decide +kernel
theorem dX7_modTimes_56 : decode cX7_modTimes 56 = .ok (.iload 5, 2) := by decide +kernel
theorem dX7_modTimes_58 : decode cX7_modTimes 58 = .ok (.iadd, 1) := by decide +kernel
theorem dX7_modTimes_59 : decode cX7_modTimes 59 = .ok (.aload_n 0, 1) := by decide +kernel
theorem dX7_modTimes_60 : decode cX7_modTimes 60 = .ok (.getfield 32, 3) := by decide +kernel
theorem dX7_modTimes_63 : decode cX7_modTimes 63 = .ok (.bipush 80, 2) := by decide +kernel
theorem dX7_modTimes_65 : decode cX7_modTimes 65 = .ok (.iload 4, 2) := by decide +kernel
theorem dX7_modTimes_67 : decode cX7_modTimes 67 = .ok (.iadd, 1) := by decide +kernel
theorem dX7_modTimes_68 : decode cX7_modTimes 68 = .ok (.iload 5, 2) := by decide +kernel
theorem dX7_modTimes_70 : decode cX7_modTimes 70 = .ok (.iadd, 1) := by decide +kernel
theorem dX7_modTimes_71 : decode cX7_modTimes 71 = .ok (.iaload, 1) := by decide +kernel
theorem dX7_modTimes_72 : decode cX7_modTimes 72 = .ok (.aload_n 0, 1) := by decide +kernel
theorem dX7_modTimes_73 : decode cX7_modTimes 73 = .ok (.getfield 32, 3) := by decide +kernel
theorem dX7_modTimes_76 : decode cX7_modTimes 76 = .ok (.bipush 16, 2) := by decide +kernel
theorem dX7_modTimes_78 : decode cX7_modTimes 78 = .ok (.iload_n 2, 1) := by decide +kernel
theorem dX7_modTimes_79 : decode cX7_modTimes 79 = .ok (.imul, 1) := by decide +kernel
theorem dX7_modTimes_80 : decode cX7_modTimes 80 = .ok (.iload 4, 2) := by decide +kernel
theorem dX7_modTimes_82 : decode cX7_modTimes 82 = .ok (.iadd, 1) := by decide +kernel
theorem dX7_modTimes_83 : decode cX7_modTimes 83 = .ok (.iaload, 1) := by decide +kernel
theorem dX7_modTimes_84 : decode cX7_modTimes 84 = .ok (.aload_n 0, 1) := by decide +kernel
theorem dX7_modTimes_85 : decode cX7_modTimes 85 = .ok (.getfield 32, 3) := by decide +kernel
theorem dX7_modTimes_88 : decode cX7_modTimes 88 = .ok (.bipush 16, 2) := by decide +kernel
theorem dX7_modTimes_90 : decode cX7_modTimes 90 = .ok (.iload_n 3, 1) := by decide +kernel
theorem dX7_modTimes_91 : decode cX7_modTimes 91 = .ok (.imul, 1) := by decide +kernel
theorem dX7_modTimes_92 : decode cX7_modTimes 92 = .ok (.iload 5, 2) := by decide +kernel
theorem dX7_modTimes_94 : decode cX7_modTimes 94 = .ok (.iadd, 1) := by decide +kernel
theorem dX7_modTimes_95 : decode cX7_modTimes 95 = .ok (.iaload, 1) := by decide +kernel
theorem dX7_modTimes_96 : decode cX7_modTimes 96 = .ok (.imul, 1) := by decide +kernel
theorem dX7_modTimes_97 : decode cX7_modTimes 97 = .ok (.iadd, 1) := by decide +kernel
theorem dX7_modTimes_98 : decode cX7_modTimes 98 = .ok (.aload_n 0, 1) := by decide +kernel
theorem dX7_modTimes_99 : decode cX7_modTimes 99 = .ok (.getfield 167, 3) := by decide +kernel
theorem dX7_modTimes_102 : decode cX7_modTimes 102 = .ok (.irem, 1) := by decide +kernel
theorem dX7_modTimes_103 : decode cX7_modTimes 103 = .ok (.iastore, 1) := by decide +kernel
theorem dX7_modTimes_104 : decode cX7_modTimes 104 = .ok (.iinc 5 1, 3) := by decide +kernel
theorem dX7_modTimes_107 : decode cX7_modTimes 107 = .ok (.goto (-67), 3) := by decide +kernel
theorem dX7_modTimes_110 : decode cX7_modTimes 110 = .ok (.iinc 4 1, 3) := by decide +kernel
theorem dX7_modTimes_113 : decode cX7_modTimes 113 = .ok (.goto (-83), 3) := by decide +kernel
theorem dX7_modTimes_116 : decode cX7_modTimes 116 = .ok (.aload_n 0, 1) := by decide +kernel
theorem dX7_modTimes_117 : decode cX7_modTimes 117 = .ok (.iconst 5, 1) := by decide +kernel
theorem dX7_modTimes_118 : decode cX7_modTimes 118 = .ok (.iconst 0, 1) := by decide +kernel
theorem dX7_modTimes_119 : decode cX7_modTimes 119 = .ok (.invokevirtual 176, 3) := by decide +kernel
theorem dX7_modTimes_122 : decode cX7_modTimes 122 = .ok (.aload_n 0, 1) := by decide +kernel
theorem dX7_modTimes_123 : decode cX7_modTimes 123 = .ok (.iload_n 1, 1) := by decide +kernel
theorem dX7_modTimes_124 : decode cX7_modTimes 124 = .ok (.iconst 5, 1) := by decide +kernel
theorem dX7_modTimes_125 : decode cX7_modTimes 125 = .ok (.invokevirtual 179, 3) := by decide +kernel
theorem dX7_modTimes_128 : decode cX7_modTimes 128 = .ok (.return_, 1) := by decide +kernel
set_option maxRecDepth 20000 in
theorem ggX7_raise_X7_modCopy : GoodIn wsX7_raise wsX7_modCopy := goodIn_r _ [7, 1, 24, 25, 26, 27, 28, 29, 30, 31, 32, 33, 34, 35, 36, 37, 38, 39, 40, 41, 42, 43, 44, 45, 46, 47, 48] (by decide +kernel) (by decide +kernel)
set_option maxRecDepth 20000 in
theorem gX7_raise_X7_modCopy : GoodIn wsX7_raise (wsV RX7 179 RX7 yX7_modCopy wsX7_modCopy) := goodIn_app (goodIn_of _ (by decide +kernel)) ggX7_raise_X7_modCopy
set_option maxRecDepth 20000 in
theorem ggX7_raise_X7_reduce : GoodIn wsX7_raise wsX7_reduce := goodIn_r _ [11, 1, 2, 12, 13, 14, 6, 15, 16, 17, 18, 19, 24, 25, 26, 27, 28, 29, 30, 31, 32, 33, 34, 35, 36, 37, 38, 39, 40, 41, 42, 43, 44, 45, 46, 47, 48] (by decide +kernel) (by decide +kernel)
set_option maxRecDepth 20000 in
theorem gX7_raise_X7_reduce : GoodIn wsX7_raise (wsV RX7 176 RX7 yX7_reduce wsX7_reduce) := goodIn_app (goodIn_of _ (by decide +kernel)) ggX7_raise_X7_reduce
set_option maxRecDepth 20000 in
theorem ggX7_raise_X7_modTimes : GoodIn wsX7_raise wsX7_modTimes := goodIn_r _ [23, 1, 2, 8, 9, 10, 6, 11, 12, 13, 14, 15, 16, 17, 18, 19, 3, 4, 5, 7, 24, 25, 26, 27, 28, 29, 30, 31, 32, 33, 34, 35, 36, 37, 38, 39, 40, 41, 42, 43, 44, 45, 46, 47, 48] (by decide +kernel) (by decide +kernel)
set_option maxRecDepth 20000 in
theorem gX7_raise_X7_modTimes : GoodIn wsX7_raise (wsV RX7 182 RX7 yX7_modTimes wsX7_modTimes) := goodIn_app (goodIn_of _ (by decide +kernel)) ggX7_raise_X7_modTimes
theorem dX7_raise_0 : decode cX7_raise 0 = .ok (.aload_n 0, 1) := by decide +kernel
theorem dX7_raise_1 : decode cX7_raise 1 = .ok (.bipush 6, 2) := by decide +kernel
theorem dX7_raise_3 : decode cX7_raise 3 = .ok (.iconst 4, 1) := by decide +kernel
theorem dX7_raise_4 : decode cX7_raise 4 = .ok (.invokevirtual 179, 3) := by decide +kernel
theorem dX7_raise_7 : decode cX7_raise 7 = .ok (.iconst 0, 1) := by decide +kernel
theorem dX7_raise_8 : decode cX7_raise 8 = .ok (.istore_n 1, 1) := by decide +kernel
theorem dX7_raise_9 : decode cX7_raise 9 = .ok (.iload_n 1, 1) := by decide +kernel
theorem dX7_raise_10 : decode cX7_raise 10 = .ok (.bipush 16, 2) := by decide +kernel
theorem dX7_raise_12 : decode cX7_raise 12 = .ok (.if_icmp .ge 19, 3) := by decide +kernel
theorem dX7_raise_15 : decode cX7_raise 15 = .ok (.aload_n 0, 1) := by decide +kernel
theorem dX7_raise_16 : decode cX7_raise 16 = .ok (.getfield 32, 3) := by decide +kernel
theorem dX7_raise_19 : decode cX7_raise 19 = .ok (.bipush 112, 2) := by decide +kernel
theorem dX7_raise_21 : decode cX7_raise 21 = .ok (.iload_n 1, 1) := by decide +kernel
theorem dX7_raise_22 : decode cX7_raise 22 = .ok (.iadd, 1) := by decide +kernel
theorem dX7_raise_23 : decode cX7_raise 23 = .ok (.iconst 0, 1) := by decide +kernel
theorem dX7_raise_24 : decode cX7_raise 24 = .ok (.iastore, 1) := by decide +kernel
theorem dX7_raise_25 : decode cX7_raise 25 = .ok (.iinc 1 1, 3) := by decide +kernel
theorem dX7_raise_28 : decode cX7_raise 28 = .ok (.goto (-19), 3) := by decide +kernel
theorem dX7_raise_31 : decode cX7_raise 31 = .ok (.aload_n 0, 1) := by decide +kernel
theorem dX7_raise_32 : decode cX7_raise 32 = .ok (.getfield 32, 3) := by decide +kernel
theorem dX7_raise_35 : decode cX7_raise 35 = .ok (.bipush 112, 2) := by decide +kernel
theorem dX7_raise_37 : decode cX7_raise 37 = .ok (.iconst 1, 1) := by decide +kernel
theorem dX7_raise_38 : decode cX7_raise 38 = .ok (.iastore, 1) := by decide +kernel
theorem dX7_raise_39 : decode cX7_raise 39 = .ok (.aload_n 0, 1) := by decide +kernel
theorem dX7_raise_40 : decode cX7_raise 40 = .ok (.bipush 7, 2) := by decide +kernel
theorem dX7_raise_42 : decode cX7_raise 42 = .ok (.iconst 0, 1) := by decide +kernel
theorem dX7_raise_43 : decode cX7_raise 43 = .ok (.invokevirtual 176, 3) := by decide +kernel
theorem dX7_raise_46 : decode cX7_raise 46 = .ok (.aload_n 0, 1) := by decide +kernel
theorem dX7_raise_47 : decode cX7_raise 47 = .ok (.getfield 167, 3) := by decide +kernel
theorem dX7_raise_50 : decode cX7_raise 50 = .ok (.istore_n 1, 1) := by decide +kernel
theorem dX7_raise_51 : decode cX7_raise 51 = .ok (.iload_n 1, 1) := by decide +kernel
theorem dX7_raise_52 : decode cX7_raise 52 = .ok (.ifCond .le 37, 3) := by decide +kernel
theorem dX7_raise_55 : decode cX7_raise 55 = .ok (.iload_n 1, 1) := by decide +kernel
theorem dX7_raise_56 : decode cX7_raise 56 = .ok (.iconst 2, 1) := by decide +kernel
theorem dX7_raise_57 : decode cX7_raise 57 = .ok (.irem, 1) := by decide +kernel
theorem dX7_raise_58 : decode cX7_raise 58 = .ok (.iconst 1, 1) := by decide +kernel
theorem dX7_raise_59 : decode cX7_raise 59 = .ok (.if_icmp .ne 13, 3) := by decide +kernel
theorem dX7_raise_62 : decode cX7_raise 62 = .ok (.aload_n 0, 1) := by decide +kernel
theorem dX7_raise_63 : decode cX7_raise 63 = .ok (.bipush 7, 2) := by decide +kernel
theorem dX7_raise_65 : decode cX7_raise 65 = .ok (.bipush 7, 2) := by decide +kernel
theorem dX7_raise_67 : decode cX7_raise 67 = .ok (.bipush 6, 2) := by decide +kernel
theorem dX7_raise_69 : decode cX7_raise 69 = .ok (.invokevirtual 182, 3) := by decide +kernel
theorem dX7_raise_72 : decode cX7_raise 72 = .ok (.aload_n 0, 1) := by decide +kernel
theorem dX7_raise_73 : decode cX7_raise 73 = .ok (.bipush 6, 2) := by decide +kernel
theorem dX7_raise_75 : decode cX7_raise 75 = .ok (.bipush 6, 2) := by decide +kernel
theorem dX7_raise_77 : decode cX7_raise 77 = .ok (.bipush 6, 2) := by decide +kernel
theorem dX7_raise_79 : decode cX7_raise 79 = .ok (.invokevirtual 182, 3) := by decide +kernel
theorem dX7_raise_82 : decode cX7_raise 82 = .ok (.iload_n 1, 1) := by decide +kernel
theorem dX7_raise_83 : decode cX7_raise 83 = .ok (.iconst 2, 1) := by decide +kernel
theorem dX7_raise_84 : decode cX7_raise 84 = .ok (.idiv, 1) := by decide +kernel
theorem dX7_raise_85 : decode cX7_raise 85 = .ok (.istore_n 1, 1) := by decide +kernel
theorem dX7_raise_86 : decode cX7_raise 86 = .ok (.goto (-35), 3) := by decide +kernel
theorem dX7_raise_89 : decode cX7_raise 89 = .ok (.aload_n 0, 1) := by decide +kernel
theorem dX7_raise_90 : decode cX7_raise 90 = .ok (.iconst 4, 1) := by decide +kernel
theorem dX7_raise_91 : decode cX7_raise 91 = .ok (.bipush 7, 2) := by decide +kernel
theorem dX7_raise_93 : decode cX7_raise 93 = .ok (.invokevirtual 179, 3) := by decide +kernel
theorem dX7_raise_96 : decode cX7_raise 96 = .ok (.return_, 1) := by decide +kernel
theorem dX7_isPrime_0 : decode cX7_isPrime 0 = .ok (.iload_n 0, 1) := by decide +kernel
theorem dX7_isPrime_1 : decode cX7_isPrime 1 = .ok (.iconst 2, 1) := by decide +kernel
theorem dX7_isPrime_2 : decode cX7_isPrime 2 = .ok (.if_icmp .lt 14, 3) := by decide +kernel
theorem dX7_isPrime_5 : decode cX7_isPrime 5 = .ok (.iload_n 0, 1) := by decide +kernel
theorem dX7_isPrime_6 : decode cX7_isPrime 6 = .ok (.sipush 997, 3) := by decide +kernel
