theorem dX7_isPrime_9 : decode cX7_isPrime 9 = .ok (.if_icmp .gt 7, 3) := by decide +kernel
theorem dX7_isPrime_12 : decode cX7_isPrime 12 = .ok (.iconst 1, 1) := by decide +kernel
theorem dX7_isPrime_13 : decode cX7_isPrime 13 = .ok (.goto 4, 3) := by decide +kernel
theorem dX7_isPrime_16 : decode cX7_isPrime 16 = .ok (.iconst 0, 1) := by decide +kernel
theorem dX7_isPrime_17 : decode cX7_isPrime 17 = .ok (.istore_n 1, 1) := by decide +kernel
theorem dX7_isPrime_18 : decode cX7_isPrime 18 = .ok (.iconst 2, 1) := by decide +kernel
theorem dX7_isPrime_19 : decode cX7_isPrime 19 = .ok (.istore_n 2, 1) := by decide +kernel
theorem dX7_isPrime_20 : decode cX7_isPrime 20 = .ok (.iload_n 2, 1) := by decide +kernel
theorem dX7_isPrime_21 : decode cX7_isPrime 21 = .ok (.iload_n 2, 1) := by decide +kernel
theorem dX7_isPrime_22 : decode cX7_isPrime 22 = .ok (.imul, 1) := by decide +kernel
theorem dX7_isPrime_23 : decode cX7_isPrime 23 = .ok (.iload_n 0, 1) := by decide +kernel
theorem dX7_isPrime_24 : decode cX7_isPrime 24 = .ok (.if_icmp .gt 25, 3) := by decide +kernel
theorem dX7_isPrime_27 : decode cX7_isPrime 27 = .ok (.iload_n 1, 1) := by decide +kernel
theorem dX7_isPrime_28 : decode cX7_isPrime 28 = .ok (.ifCond .eq 21, 3) := by decide +kernel
theorem dX7_isPrime_31 : decode cX7_isPrime 31 = .ok (.iload_n 0, 1) := by decide +kernel
theorem dX7_isPrime_32 : decode cX7_isPrime 32 = .ok (.iload_n 2, 1) := by decide +kernel
theorem dX7_isPrime_33 : decode cX7_isPrime 33 = .ok (.irem, 1) := by decide +kernel
theorem dX7_isPrime_34 : decode cX7_isPrime 34 = .ok (.ifCond .eq 7, 3) := by decide +kernel
theorem dX7_isPrime_37 : decode cX7_isPrime 37 = .ok (.iconst 1, 1) := by decide +kernel
theorem dX7_isPrime_38 : decode cX7_isPrime 38 = .ok (.goto 4, 3) := by decide +kernel
theorem dX7_isPrime_41 : decode cX7_isPrime 41 = .ok (.iconst 0, 1) := by decide +kernel
theorem dX7_isPrime_42 : decode cX7_isPrime 42 = .ok (.istore_n 1, 1) := by decide +kernel
theorem dX7_isPrime_43 : decode cX7_isPrime 43 = .ok (.iinc 2 1, 3) := by decide +kernel
theorem dX7_isPrime_46 : decode cX7_isPrime 46 = .ok (.goto (-26), 3) := by decide +kernel
theorem dX7_isPrime_49 : decode cX7_isPrime 49 = .ok (.iload_n 1, 1) := by decide +kernel
theorem dX7_isPrime_50 : decode cX7_isPrime 50 = .ok (.ireturn, 1) := by decide +kernel
set_option maxRecDepth 20000 in
theorem ggX7_pattern_X7_isSlot : GoodIn wsX7_pattern wsX7_isSlot := goodIn_r _ [9] (by decide +kernel) (by decide +kernel)
set_option maxRecDepth 20000 in
theorem gX7_pattern_X7_isSlot : GoodIn wsX7_pattern (va_wsS RX7 63 yX7_isSlot wsX7_isSlot) := goodIn_app (goodIn_of _ (by decide +kernel)) ggX7_pattern_X7_isSlot
set_option maxRecDepth 20000 in
theorem ggX7_pattern_X7_isPrime : GoodIn wsX7_pattern wsX7_isPrime := goodIn_r _ [12] (by decide +kernel) (by decide +kernel)
set_option maxRecDepth 20000 in
theorem gX7_pattern_X7_isPrime : GoodIn wsX7_pattern (va_wsS RX7 185 yX7_isPrime wsX7_isPrime) := goodIn_app (goodIn_of _ (by decide +kernel)) ggX7_pattern_X7_isPrime
set_option maxRecDepth 20000 in
theorem ggX7_pattern_X7_refused : GoodIn wsX7_pattern wsX7_refused := goodIn_r _ [16, 17, 50, 51, 52, 53, 54, 55, 56, 57, 58, 59, 60, 61, 62, 63, 64, 65, 66, 67, 68, 69, 70, 71, 72, 73, 74] (by decide +kernel) (by decide +kernel)
set_option maxRecDepth 20000 in
theorem gX7_pattern_X7_refused : GoodIn wsX7_pattern (wsV RX7 70 RX7 yX7_refused wsX7_refused) := goodIn_app (goodIn_of _ (by decide +kernel)) ggX7_pattern_X7_refused
set_option maxRecDepth 20000 in
theorem ggX7_pattern_X7_degreeOf : GoodIn wsX7_pattern wsX7_degreeOf := goodIn_r _ [21, 4, 50, 51, 52, 53, 54, 55, 56, 57, 58, 59, 60, 61, 62, 63, 64, 65, 66, 67, 68, 69, 70, 71, 72, 73, 74] (by decide +kernel) (by decide +kernel)
set_option maxRecDepth 20000 in
theorem gX7_pattern_X7_degreeOf : GoodIn wsX7_pattern (wsV RX7 39 RX7 yX7_degreeOf wsX7_degreeOf) := goodIn_app (goodIn_of _ (by decide +kernel)) ggX7_pattern_X7_degreeOf
set_option maxRecDepth 20000 in
theorem ggX7_pattern_X7_modCommon : GoodIn wsX7_pattern wsX7_modCommon := goodIn_r _ [25, 26, 27, 28, 8, 29, 3, 30, 31, 32, 33, 2, 34, 35, 36, 37, 38, 39, 40, 41, 50, 51, 52, 53, 54, 55, 56, 57, 58, 59, 60, 61, 62, 63, 64, 65, 66, 67, 68, 69, 70, 71, 72, 73, 74] (by decide +kernel) (by decide +kernel)
set_option maxRecDepth 20000 in
theorem gX7_pattern_X7_modCommon : GoodIn wsX7_pattern (wsV RX7 191 RX7 yX7_modCommon wsX7_modCommon) := goodIn_app (goodIn_of _ (by decide +kernel)) ggX7_pattern_X7_modCommon
set_option maxRecDepth 20000 in
theorem ggX7_pattern_X7_modDegree : GoodIn wsX7_pattern wsX7_modDegree := goodIn_r _ [29, 3, 50, 51, 52, 53, 54, 55, 56, 57, 58, 59, 60, 61, 62, 63, 64, 65, 66, 67, 68, 69, 70, 71, 72, 73, 74] (by decide +kernel) (by decide +kernel)
set_option maxRecDepth 20000 in
theorem gX7_pattern_X7_modDegree : GoodIn wsX7_pattern (wsV RX7 170 RX7 yX7_modDegree wsX7_modDegree) := goodIn_app (goodIn_of _ (by decide +kernel)) ggX7_pattern_X7_modDegree
set_option maxRecDepth 20000 in
theorem ggX7_pattern_X7_reduce : GoodIn wsX7_pattern wsX7_reduce := goodIn_r _ [33, 3, 2, 26, 27, 28, 8, 29, 34, 35, 36, 37, 50, 51, 52, 53, 54, 55, 56, 57, 58, 59, 60, 61, 62, 63, 64, 65, 66, 67, 68, 69, 70, 71, 72, 73, 74] (by decide +kernel) (by decide +kernel)
set_option maxRecDepth 20000 in
theorem gX7_pattern_X7_reduce : GoodIn wsX7_pattern (wsV RX7 176 RX7 yX7_reduce wsX7_reduce) := goodIn_app (goodIn_of _ (by decide +kernel)) ggX7_pattern_X7_reduce
set_option maxRecDepth 20000 in
theorem ggX7_pattern_X7_raise : GoodIn wsX7_pattern wsX7_raise := goodIn_r _ [45, 3, 2, 38, 39, 40, 8, 41, 30, 31, 32, 33, 26, 27, 28, 29, 34, 35, 36, 37, 46, 47, 48, 49, 50, 51, 52, 53, 54, 55, 56, 57, 58, 59, 60, 61, 62, 63, 64, 65, 66, 67, 68, 69, 70, 71, 72, 73, 74] (by decide +kernel) (by decide +kernel)
set_option maxRecDepth 20000 in
theorem gX7_pattern_X7_raise : GoodIn wsX7_pattern (wsV RX7 194 RX7 yX7_raise wsX7_raise) := goodIn_app (goodIn_of _ (by decide +kernel)) ggX7_pattern_X7_raise
set_option maxRecDepth 20000 in
theorem ggX7_pattern_X7_modCopy : GoodIn wsX7_pattern wsX7_modCopy := goodIn_r _ [41, 3, 50, 51, 52, 53, 54, 55, 56, 57, 58, 59, 60, 61, 62, 63, 64, 65, 66, 67, 68, 69, 70, 71, 72, 73, 74] (by decide +kernel) (by decide +kernel)
set_option maxRecDepth 20000 in
theorem gX7_pattern_X7_modCopy : GoodIn wsX7_pattern (wsV RX7 179 RX7 yX7_modCopy wsX7_modCopy) := goodIn_app (goodIn_of _ (by decide +kernel)) ggX7_pattern_X7_modCopy
theorem dX7_pattern_0 : decode cX7_pattern 0 = .ok (.aload_n 0, 1) := by decide +kernel
theorem dX7_pattern_1 : decode cX7_pattern 1 = .ok (.iload_n 1, 1) := by decide +kernel
theorem dX7_pattern_2 : decode cX7_pattern 2 = .ok (.invokestatic 63, 3) := by decide +kernel
theorem dX7_pattern_5 : decode cX7_pattern 5 = .ok (.ifCond .eq 14, 3) := by decide +kernel
theorem dX7_pattern_8 : decode cX7_pattern 8 = .ok (.iload_n 2, 1) := by decide +kernel
theorem dX7_pattern_9 : decode cX7_pattern 9 = .ok (.invokestatic 185, 3) := by decide +kernel
theorem dX7_pattern_12 : decode cX7_pattern 12 = .ok (.ifCond .eq 7, 3) := by decide +kernel
theorem dX7_pattern_15 : decode cX7_pattern 15 = .ok (.iconst 0, 1) := by decide +kernel
theorem dX7_pattern_16 : decode cX7_pattern 16 = .ok (.goto 4, 3) := by decide +kernel
theorem dX7_pattern_19 : decode cX7_pattern 19 = .ok (.iconst 1, 1) := by decide +kernel
theorem dX7_pattern_20 : decode cX7_pattern 20 = .ok (.invokevirtual 70, 3) := by decide +kernel
theorem dX7_pattern_23 : decode cX7_pattern 23 = .ok (.ifCond .eq 5, 3) := by decide +kernel
theorem dX7_pattern_26 : decode cX7_pattern 26 = .ok (.iconst 0, 1) := by decide +kernel
theorem dX7_pattern_27 : decode cX7_pattern 27 = .ok (.ireturn, 1) := by decide +kernel
theorem dX7_pattern_28 : decode cX7_pattern 28 = .ok (.aload_n 0, 1) := by decide +kernel
theorem dX7_pattern_29 : decode cX7_pattern 29 = .ok (.iconst 0, 1) := by decide +kernel
theorem dX7_pattern_30 : decode cX7_pattern 30 = .ok (.putfield 188, 3) := by decide +kernel
theorem dX7_pattern_33 : decode cX7_pattern 33 = .ok (.aload_n 0, 1) := by decide +kernel
theorem dX7_pattern_34 : decode cX7_pattern 34 = .ok (.iload_n 1, 1) := by decide +kernel
theorem dX7_pattern_35 : decode cX7_pattern 35 = .ok (.invokevirtual 39, 3) := by decide +kernel
theorem dX7_pattern_38 : decode cX7_pattern 38 = .ok (.istore_n 3, 1) := by decide +kernel
theorem dX7_pattern_39 : decode cX7_pattern 39 = .ok (.iload_n 3, 1) := by decide +kernel
theorem dX7_pattern_40 : decode cX7_pattern 40 = .ok (.iconst 1, 1) := by decide +kernel
theorem dX7_pattern_41 : decode cX7_pattern 41 = .ok (.if_icmp .ge 6, 3) := by decide +kernel
theorem dX7_pattern_44 : decode cX7_pattern 44 = .ok (.bipush (-3), 2) := by decide +kernel
theorem dX7_pattern_46 : decode cX7_pattern 46 = .ok (.ireturn, 1) := by decide +kernel
theorem dX7_pattern_47 : decode cX7_pattern 47 = .ok (.aload_n 0, 1) := by decide +kernel
theorem dX7_pattern_48 : decode cX7_pattern 48 = .ok (.iload_n 2, 1) := by decide +kernel
theorem dX7_pattern_49 : decode cX7_pattern 49 = .ok (.putfield 167, 3) := by decide +kernel
theorem dX7_pattern_52 : decode cX7_pattern 52 = .ok (.iconst 0, 1) := by decide +kernel
theorem dX7_pattern_53 : decode cX7_pattern 53 = .ok (.istore 4, 2) := by decide +kernel
theorem dX7_pattern_55 : decode cX7_pattern 55 = .ok (.iload 4, 2) := by decide +kernel
theorem dX7_pattern_57 : decode cX7_pattern 57 = .ok (.bipush 16, 2) := by decide +kernel
theorem dX7_pattern_59 : decode cX7_pattern 59 = .ok (.if_icmp .ge 65, 3) := by decide +kernel
theorem dX7_pattern_62 : decode cX7_pattern 62 = .ok (.aload_n 0, 1) := by decide +kernel
theorem dX7_pattern_63 : decode cX7_pattern 63 = .ok (.getfield 32, 3) := by decide +kernel
theorem dX7_pattern_66 : decode cX7_pattern 66 = .ok (.iload 4, 2) := by decide +kernel
theorem dX7_pattern_68 : decode cX7_pattern 68 = .ok (.iload 4, 2) := by decide +kernel
theorem dX7_pattern_70 : decode cX7_pattern 70 = .ok (.iload_n 3, 1) := by decide +kernel
theorem dX7_pattern_71 : decode cX7_pattern 71 = .ok (.if_icmp .gt 28, 3) := by decide +kernel
theorem dX7_pattern_74 : decode cX7_pattern 74 = .ok (.aload_n 0, 1) := by decide +kernel
theorem dX7_pattern_75 : decode cX7_pattern 75 = .ok (.getfield 7, 3) := by decide +kernel
theorem dX7_pattern_78 : decode cX7_pattern 78 = .ok (.bipush 8, 2) := by decide +kernel
theorem dX7_pattern_80 : decode cX7_pattern 80 = .ok (.iload_n 1, 1) := by decide +kernel
theorem dX7_pattern_81 : decode cX7_pattern 81 = .ok (.imul, 1) := by decide +kernel
theorem dX7_pattern_82 : decode cX7_pattern 82 = .ok (.iload 4, 2) := by decide +kernel
theorem dX7_pattern_84 : decode cX7_pattern 84 = .ok (.iadd, 1) := by decide +kernel
theorem dX7_pattern_85 : decode cX7_pattern 85 = .ok (.laload, 1) := by decide +kernel
theorem dX7_pattern_86 : decode cX7_pattern 86 = .ok (.iload_n 2, 1) := by decide +kernel
theorem dX7_pattern_87 : decode cX7_pattern 87 = .ok (.i2l, 1) := by decide +kernel
theorem dX7_pattern_88 : decode cX7_pattern 88 = .ok (.lrem, 1) := by decide +kernel
theorem dX7_pattern_89 : decode cX7_pattern 89 = .ok (.iload_n 2, 1) := by decide +kernel
theorem dX7_pattern_90 : decode cX7_pattern 90 = .ok (.i2l, 1) := by decide +kernel
theorem dX7_pattern_91 : decode cX7_pattern 91 = .ok (.ladd, 1) := by decide +kernel
theorem dX7_pattern_92 : decode cX7_pattern 92 = .ok (.iload_n 2, 1) := by decide +kernel
theorem dX7_pattern_93 : decode cX7_pattern 93 = .ok (.i2l, 1) := by decide +kernel
theorem dX7_pattern_94 : decode cX7_pattern 94 = .ok (.lrem, 1) := by decide +kernel
theorem dX7_pattern_95 : decode cX7_pattern 95 = .ok (.l2i, 1) := by decide +kernel
theorem dX7_pattern_96 : decode cX7_pattern 96 = .ok (.goto 4, 3) := by decide +kernel
theorem dX7_pattern_99 : decode cX7_pattern 99 = .ok (.iconst 0, 1) := by decide +kernel
theorem dX7_pattern_100 : decode cX7_pattern 100 = .ok (.iastore, 1) := by decide +kernel
theorem dX7_pattern_101 : decode cX7_pattern 101 = .ok (.aload_n 0, 1) := by decide +kernel
theorem dX7_pattern_102 : decode cX7_pattern 102 = .ok (.getfield 32, 3) := by decide +kernel
theorem dX7_pattern_105 : decode cX7_pattern 105 = .ok (.bipush 16, 2) := by decide +kernel
theorem dX7_pattern_107 : decode cX7_pattern 107 = .ok (.iload 4, 2) := by decide +kernel
theorem dX7_pattern_109 : decode cX7_pattern 109 = .ok (.iadd, 1) := by decide +kernel
theorem dX7_pattern_110 : decode cX7_pattern 110 = .ok (.aload_n 0, 1) := by decide +kernel
theorem dX7_pattern_111 : decode cX7_pattern 111 = .ok (.getfield 32, 3) := by decide +kernel
theorem dX7_pattern_114 : decode cX7_pattern 114 = .ok (.iload 4, 2) := by decide +kernel
theorem dX7_pattern_116 : decode cX7_pattern 116 = .ok (.iaload, 1) := by decide +kernel
theorem dX7_pattern_117 : decode cX7_pattern 117 = .ok (.iastore, 1) := by decide +kernel
theorem dX7_pattern_118 : decode cX7_pattern 118 = .ok (.iinc 4 1, 3) := by decide +kernel
theorem dX7_pattern_121 : decode cX7_pattern 121 = .ok (.goto (-66), 3) := by decide +kernel
theorem dX7_pattern_124 : decode cX7_pattern 124 = .ok (.iconst 0, 1) := by decide +kernel
theorem dX7_pattern_125 : decode cX7_pattern 125 = .ok (.istore 4, 2) := by decide +kernel
theorem dX7_pattern_127 : decode cX7_pattern 127 = .ok (.iload 4, 2) := by decide +kernel
theorem dX7_pattern_129 : decode cX7_pattern 129 = .ok (.bipush 16, 2) := by decide +kernel
theorem dX7_pattern_131 : decode cX7_pattern 131 = .ok (.if_icmp .ge 45, 3) := by decide +kernel
theorem dX7_pattern_134 : decode cX7_pattern 134 = .ok (.aload_n 0, 1) := by decide +kernel
theorem dX7_pattern_135 : decode cX7_pattern 135 = .ok (.getfield 32, 3) := by decide +kernel
theorem dX7_pattern_138 : decode cX7_pattern 138 = .ok (.bipush 32, 2) := by decide +kernel
theorem dX7_pattern_140 : decode cX7_pattern 140 = .ok (.iload 4, 2) := by decide +kernel
theorem dX7_pattern_142 : decode cX7_pattern 142 = .ok (.iadd, 1) := by decide +kernel
theorem dX7_pattern_143 : decode cX7_pattern 143 = .ok (.iload 4, 2) := by decide +kernel
theorem dX7_pattern_145 : decode cX7_pattern 145 = .ok (.iload_n 3, 1) := by decide +kernel
theorem dX7_pattern_146 : decode cX7_pattern 146 = .ok (.if_icmp .ge 22, 3) := by decide +kernel
theorem dX7_pattern_149 : decode cX7_pattern 149 = .ok (.aload_n 0, 1) := by decide +kernel
theorem dX7_pattern_150 : decode cX7_pattern 150 = .ok (.getfield 32, 3) := by decide +kernel
theorem dX7_pattern_153 : decode cX7_pattern 153 = .ok (.iload 4, 2) := by decide +kernel
theorem dX7_pattern_155 : decode cX7_pattern 155 = .ok (.iconst 1, 1) := by decide +kernel
theorem dX7_pattern_156 : decode cX7_pattern 156 = .ok (.iadd, 1) := by decide +kernel
theorem dX7_pattern_157 : decode cX7_pattern 157 = .ok (.iaload, 1) := by decide +kernel
theorem dX7_pattern_158 : decode cX7_pattern 158 = .ok (.iload 4, 2) := by decide +kernel
theorem dX7_pattern_160 : decode cX7_pattern 160 = .ok (.iconst 1, 1) := by decide +kernel
theorem dX7_pattern_161 : decode cX7_pattern 161 = .ok (.iadd, 1) := by decide +kernel
theorem dX7_pattern_162 : decode cX7_pattern 162 = .ok (.imul, 1) := by decide +kernel
theorem dX7_pattern_163 : decode cX7_pattern 163 = .ok (.iload_n 2, 1) := by decide +kernel
theorem dX7_pattern_164 : decode cX7_pattern 164 = .ok (.irem, 1) := by decide +kernel
theorem dX7_pattern_165 : decode cX7_pattern 165 = .ok (.goto 4, 3) := by decide +kernel
theorem dX7_pattern_168 : decode cX7_pattern 168 = .ok (.iconst 0, 1) := by decide +kernel
theorem dX7_pattern_169 : decode cX7_pattern 169 = .ok (.iastore, 1) := by decide +kernel
theorem dX7_pattern_170 : decode cX7_pattern 170 = .ok (.iinc 4 1, 3) := by decide +kernel
theorem dX7_pattern_173 : decode cX7_pattern 173 = .ok (.goto (-46), 3) := by decide +kernel
theorem dX7_pattern_176 : decode cX7_pattern 176 = .ok (.aload_n 0, 1) := by decide +kernel
theorem dX7_pattern_177 : decode cX7_pattern 177 = .ok (.getfield 32, 3) := by decide +kernel
theorem dX7_pattern_180 : decode cX7_pattern 180 = .ok (.iload_n 3, 1) := by decide +kernel
theorem dX7_pattern_181 : decode cX7_pattern 181 = .ok (.iaload, 1) := by decide +kernel
theorem dX7_pattern_182 : decode cX7_pattern 182 = .ok (.ifCond .ne 5, 3) := by decide +kernel
theorem dX7_pattern_185 : decode cX7_pattern 185 = .ok (.iconst (-1), 1) := by decide +kernel
theorem dX7_pattern_186 : decode cX7_pattern 186 = .ok (.ireturn, 1) := by decide +kernel
theorem dX7_pattern_187 : decode cX7_pattern 187 = .ok (.aload_n 0, 1) := by decide +kernel
theorem dX7_pattern_188 : decode cX7_pattern 188 = .ok (.invokevirtual 191, 3) := by decide +kernel
theorem dX7_pattern_191 : decode cX7_pattern 191 = .ok (.aload_n 0, 1) := by decide +kernel
theorem dX7_pattern_192 : decode cX7_pattern 192 = .ok (.iconst 3, 1) := by decide +kernel
theorem dX7_pattern_193 : decode cX7_pattern 193 = .ok (.invokevirtual 170, 3) := by decide +kernel
theorem dX7_pattern_196 : decode cX7_pattern 196 = .ok (.ifCond .le 5, 3) := by decide +kernel
theorem dX7_pattern_199 : decode cX7_pattern 199 = .ok (.iconst (-1), 1) := by decide +kernel
theorem dX7_pattern_200 : decode cX7_pattern 200 = .ok (.ireturn, 1) := by decide +kernel
theorem dX7_pattern_201 : decode cX7_pattern 201 = .ok (.iconst 0, 1) := by decide +kernel
theorem dX7_pattern_202 : decode cX7_pattern 202 = .ok (.istore 4, 2) := by decide +kernel
theorem dX7_pattern_204 : decode cX7_pattern 204 = .ok (.iload 4, 2) := by decide +kernel
theorem dX7_pattern_206 : decode cX7_pattern 206 = .ok (.bipush 16, 2) := by decide +kernel
theorem dX7_pattern_208 : decode cX7_pattern 208 = .ok (.if_icmp .ge 30, 3) := by decide +kernel
theorem dX7_pattern_211 : decode cX7_pattern 211 = .ok (.aload_n 0, 1) := by decide +kernel
theorem dX7_pattern_212 : decode cX7_pattern 212 = .ok (.getfield 32, 3) := by decide +kernel
theorem dX7_pattern_215 : decode cX7_pattern 215 = .ok (.bipush 64, 2) := by decide +kernel
theorem dX7_pattern_217 : decode cX7_pattern 217 = .ok (.iload 4, 2) := by decide +kernel
theorem dX7_pattern_219 : decode cX7_pattern 219 = .ok (.iadd, 1) := by decide +kernel
theorem dX7_pattern_220 : decode cX7_pattern 220 = .ok (.iload 4, 2) := by decide +kernel
theorem dX7_pattern_222 : decode cX7_pattern 222 = .ok (.iconst 1, 1) := by decide +kernel
theorem dX7_pattern_223 : decode cX7_pattern 223 = .ok (.if_icmp .ne 7, 3) := by decide +kernel
theorem dX7_pattern_226 : decode cX7_pattern 226 = .ok (.iconst 1, 1) := by decide +kernel
theorem dX7_pattern_227 : decode cX7_pattern 227 = .ok (.goto 4, 3) := by decide +kernel
theorem dX7_pattern_230 : decode cX7_pattern 230 = .ok (.iconst 0, 1) := by decide +kernel
theorem dX7_pattern_231 : decode cX7_pattern 231 = .ok (.iastore, 1) := by decide +kernel
theorem dX7_pattern_232 : decode cX7_pattern 232 = .ok (.iinc 4 1, 3) := by decide +kernel
theorem dX7_pattern_235 : decode cX7_pattern 235 = .ok (.goto (-31), 3) := by decide +kernel
theorem dX7_pattern_238 : decode cX7_pattern 238 = .ok (.iconst 1, 1) := by decide +kernel
theorem dX7_pattern_239 : decode cX7_pattern 239 = .ok (.istore 4, 2) := by decide +kernel
theorem dX7_pattern_241 : decode cX7_pattern 241 = .ok (.aload_n 0, 1) := by decide +kernel
theorem dX7_pattern_242 : decode cX7_pattern 242 = .ok (.iconst 0, 1) := by decide +kernel
theorem dX7_pattern_243 : decode cX7_pattern 243 = .ok (.invokevirtual 170, 3) := by decide +kernel
theorem dX7_pattern_246 : decode cX7_pattern 246 = .ok (.ifCond .le 128, 3) := by decide +kernel
theorem dX7_pattern_249 : decode cX7_pattern 249 = .ok (.aload_n 0, 1) := by decide +kernel
theorem dX7_pattern_250 : decode cX7_pattern 250 = .ok (.iconst 4, 1) := by decide +kernel
theorem dX7_pattern_251 : decode cX7_pattern 251 = .ok (.iconst 0, 1) := by decide +kernel
theorem dX7_pattern_252 : decode cX7_pattern 252 = .ok (.invokevirtual 176, 3) := by decide +kernel
theorem dX7_pattern_255 : decode cX7_pattern 255 = .ok (.aload_n 0, 1) := by decide +kernel
theorem dX7_pattern_256 : decode cX7_pattern 256 = .ok (.invokevirtual 194, 3) := by decide +kernel
theorem dX7_pattern_259 : decode cX7_pattern 259 = .ok (.aload_n 0, 1) := by decide +kernel
theorem dX7_pattern_260 : decode cX7_pattern 260 = .ok (.iconst 1, 1) := by decide +kernel
theorem dX7_pattern_261 : decode cX7_pattern 261 = .ok (.iconst 0, 1) := by decide +kernel
theorem dX7_pattern_262 : decode cX7_pattern 262 = .ok (.invokevirtual 179, 3) := by decide +kernel
theorem dX7_pattern_265 : decode cX7_pattern 265 = .ok (.aload_n 0, 1) := by decide +kernel
theorem dX7_pattern_266 : decode cX7_pattern 266 = .ok (.iconst 2, 1) := by decide +kernel
theorem dX7_pattern_267 : decode cX7_pattern 267 = .ok (.iconst 4, 1) := by decide +kernel
theorem dX7_pattern_268 : decode cX7_pattern 268 = .ok (.invokevirtual 179, 3) := by decide +kernel
theorem dX7_pattern_271 : decode cX7_pattern 271 = .ok (.aload_n 0, 1) := by decide +kernel
theorem dX7_pattern_272 : decode cX7_pattern 272 = .ok (.getfield 32, 3) := by decide +kernel
theorem dX7_pattern_275 : decode cX7_pattern 275 = .ok (.bipush 33, 2) := by decide +kernel
theorem dX7_pattern_277 : decode cX7_pattern 277 = .ok (.aload_n 0, 1) := by decide +kernel
theorem dX7_pattern_278 : decode cX7_pattern 278 = .ok (.getfield 32, 3) := by decide +kernel
theorem dX7_pattern_281 : decode cX7_pattern 281 = .ok (.bipush 33, 2) := by decide +kernel
theorem dX7_pattern_283 : decode cX7_pattern 283 = .ok (.iaload, 1) := by decide +kernel
theorem dX7_pattern_284 : decode cX7_pattern 284 = .ok (.iload_n 2, 1) := by decide +kernel
theorem dX7_pattern_285 : decode cX7_pattern 285 = .ok (.iadd, 1) := by decide +kernel
theorem dX7_pattern_286 : decode cX7_pattern 286 = .ok (.iconst 1, 1) := by decide +kernel
theorem dX7_pattern_287 : decode cX7_pattern 287 = .ok (.isub, 1) := by decide +kernel
theorem dX7_pattern_288 : decode cX7_pattern 288 = .ok (.iload_n 2, 1) := by decide +kernel
theorem dX7_pattern_289 : decode cX7_pattern 289 = .ok (.irem, 1) := by decide +kernel
theorem dX7_pattern_290 : decode cX7_pattern 290 = .ok (.iastore, 1) := by decide +kernel
theorem dX7_pattern_291 : decode cX7_pattern 291 = .ok (.aload_n 0, 1) := by decide +kernel
theorem dX7_pattern_292 : decode cX7_pattern 292 = .ok (.invokevirtual 191, 3) := by decide +kernel
theorem dX7_pattern_295 : decode cX7_pattern 295 = .ok (.aload_n 0, 1) := by decide +kernel
theorem dX7_pattern_296 : decode cX7_pattern 296 = .ok (.iconst 3, 1) := by decide +kernel
theorem dX7_pattern_297 : decode cX7_pattern 297 = .ok (.invokevirtual 170, 3) := by decide +kernel
theorem dX7_pattern_300 : decode cX7_pattern 300 = .ok (.istore 5, 2) := by decide +kernel
theorem dX7_pattern_302 : decode cX7_pattern 302 = .ok (.iconst 0, 1) := by decide +kernel
theorem dX7_pattern_303 : decode cX7_pattern 303 = .ok (.istore 6, 2) := by decide +kernel
theorem dX7_pattern_305 : decode cX7_pattern 305 = .ok (.iload 6, 2) := by decide +kernel
theorem dX7_pattern_307 : decode cX7_pattern 307 = .ok (.iload 5, 2) := by decide +kernel
theorem dX7_pattern_309 : decode cX7_pattern 309 = .ok (.iload 4, 2) := by decide +kernel
theorem dX7_pattern_311 : decode cX7_pattern 311 = .ok (.idiv, 1) := by decide +kernel
theorem dX7_pattern_312 : decode cX7_pattern 312 = .ok (.if_icmp .ge 30, 3) := by decide +kernel
theorem dX7_pattern_315 : decode cX7_pattern 315 = .ok (.aload_n 0, 1) := by decide +kernel
theorem dX7_pattern_316 : decode cX7_pattern 316 = .ok (.getfield 26, 3) := by decide +kernel
theorem dX7_pattern_319 : decode cX7_pattern 319 = .ok (.aload_n 0, 1) := by decide +kernel
theorem dX7_pattern_320 : decode cX7_pattern 320 = .ok (.getfield 188, 3) := by decide +kernel
theorem dX7_pattern_323 : decode cX7_pattern 323 = .ok (.iload 4, 2) := by decide +kernel
theorem dX7_pattern_325 : decode cX7_pattern 325 = .ok (.iastore, 1) := by decide +kernel
theorem dX7_pattern_326 : decode cX7_pattern 326 = .ok (.aload_n 0, 1) := by decide +kernel
theorem dX7_pattern_327 : decode cX7_pattern 327 = .ok (.dup, 1) := by decide +kernel
theorem dX7_pattern_328 : decode cX7_pattern 328 = .ok (.getfield 188, 3) := by decide +kernel
theorem dX7_pattern_331 : decode cX7_pattern 331 = .ok (.iconst 1, 1) := by decide +kernel
theorem dX7_pattern_332 : decode cX7_pattern 332 = .ok (.iadd, 1) := by decide +kernel
theorem dX7_pattern_333 : decode cX7_pattern 333 = .ok (.putfield 188, 3) := by decide +kernel
theorem dX7_pattern_336 : decode cX7_pattern 336 = .ok (.iinc 6 1, 3) := by decide +kernel
theorem dX7_pattern_339 : decode cX7_pattern 339 = .ok (.goto (-34), 3) := by decide +kernel
theorem dX7_pattern_342 : decode cX7_pattern 342 = .ok (.iload 5, 2) := by decide +kernel
theorem dX7_pattern_344 : decode cX7_pattern 344 = .ok (.ifCond .le 24, 3) := by decide +kernel
theorem dX7_pattern_347 : decode cX7_pattern 347 = .ok (.aload_n 0, 1) := by decide +kernel
theorem dX7_pattern_348 : decode cX7_pattern 348 = .ok (.bipush 8, 2) := by decide +kernel
theorem dX7_pattern_350 : decode cX7_pattern 350 = .ok (.iconst 0, 1) := by decide +kernel
theorem dX7_pattern_351 : decode cX7_pattern 351 = .ok (.invokevirtual 179, 3) := by decide +kernel
theorem dX7_pattern_354 : decode cX7_pattern 354 = .ok (.aload_n 0, 1) := by decide +kernel
theorem dX7_pattern_355 : decode cX7_pattern 355 = .ok (.bipush 8, 2) := by decide +kernel
theorem dX7_pattern_357 : decode cX7_pattern 357 = .ok (.iconst 3, 1) := by decide +kernel
theorem dX7_pattern_358 : decode cX7_pattern 358 = .ok (.invokevirtual 176, 3) := by decide +kernel
theorem dX7_pattern_361 : decode cX7_pattern 361 = .ok (.aload_n 0, 1) := by decide +kernel
theorem dX7_pattern_362 : decode cX7_pattern 362 = .ok (.iconst 0, 1) := by decide +kernel
theorem dX7_pattern_363 : decode cX7_pattern 363 = .ok (.bipush 9, 2) := by decide +kernel
theorem dX7_pattern_365 : decode cX7_pattern 365 = .ok (.invokevirtual 179, 3) := by decide +kernel
theorem dX7_pattern_368 : decode cX7_pattern 368 = .ok (.iinc 4 1, 3) := by decide +kernel
theorem dX7_pattern_371 : decode cX7_pattern 371 = .ok (.goto (-130), 3) := by decide +kernel
theorem dX7_pattern_374 : decode cX7_pattern 374 = .ok (.aload_n 0, 1) := by decide +kernel
theorem dX7_pattern_375 : decode cX7_pattern 375 = .ok (.getfield 188, 3) := by decide +kernel
theorem dX7_pattern_378 : decode cX7_pattern 378 = .ok (.ireturn, 1) := by decide +kernel
set_option maxRecDepth 20000 in
theorem ggX7_degree_X7_isIn : GoodIn wsX7_degree wsX7_isIn := goodIn_r _ [7] (by decide +kernel) (by decide +kernel)
set_option maxRecDepth 20000 in
theorem gX7_degree_X7_isIn : GoodIn wsX7_degree (va_wsS RX7 66 yX7_isIn wsX7_isIn) := goodIn_app (goodIn_of _ (by decide +kernel)) ggX7_degree_X7_isIn
theorem dX7_degree_0 : decode cX7_degree 0 = .ok (.aload_n 0, 1) := by decide +kernel
theorem dX7_degree_1 : decode cX7_degree 1 = .ok (.iconst 0, 1) := by decide +kernel
theorem dX7_degree_2 : decode cX7_degree 2 = .ok (.putfield 35, 3) := by decide +kernel
theorem dX7_degree_5 : decode cX7_degree 5 = .ok (.iload_n 1, 1) := by decide +kernel
theorem dX7_degree_6 : decode cX7_degree 6 = .ok (.iconst 0, 1) := by decide +kernel
theorem dX7_degree_7 : decode cX7_degree 7 = .ok (.aload_n 0, 1) := by decide +kernel
theorem dX7_degree_8 : decode cX7_degree 8 = .ok (.getfield 188, 3) := by decide +kernel
theorem dX7_degree_11 : decode cX7_degree 11 = .ok (.iconst 1, 1) := by decide +kernel
theorem dX7_degree_12 : decode cX7_degree 12 = .ok (.isub, 1) := by decide +kernel
theorem dX7_degree_13 : decode cX7_degree 13 = .ok (.invokestatic 66, 3) := by decide +kernel
theorem dX7_degree_16 : decode cX7_degree 16 = .ok (.ifCond .eq 12, 3) := by decide +kernel
theorem dX7_degree_19 : decode cX7_degree 19 = .ok (.aload_n 0, 1) := by decide +kernel
theorem dX7_degree_20 : decode cX7_degree 20 = .ok (.getfield 26, 3) := by decide +kernel
theorem dX7_degree_23 : decode cX7_degree 23 = .ok (.iload_n 1, 1) := by decide +kernel
theorem dX7_degree_24 : decode cX7_degree 24 = .ok (.iaload, 1) := by decide +kernel
theorem dX7_degree_25 : decode cX7_degree 25 = .ok (.goto 4, 3) := by decide +kernel
theorem dX7_degree_28 : decode cX7_degree 28 = .ok (.iconst 0, 1) := by decide +kernel
theorem dX7_degree_29 : decode cX7_degree 29 = .ok (.ireturn, 1) := by decide +kernel
theorem dX7_root_0 : decode cX7_root 0 = .ok (.lconst 0, 1) := by decide +kernel
theorem dX7_root_1 : decode cX7_root 1 = .ok (.lstore_n 2, 1) := by decide +kernel
theorem dX7_root_2 : decode cX7_root 2 = .ok (.ldc2_w 197, 3) := by decide +kernel
theorem dX7_root_5 : decode cX7_root 5 = .ok (.lstore 4, 2) := by decide +kernel
theorem dX7_root_7 : decode cX7_root 7 = .ok (.lload_n 2, 1) := by decide +kernel
theorem dX7_root_8 : decode cX7_root 8 = .ok (.lload 4, 2) := by decide +kernel
theorem dX7_root_10 : decode cX7_root 10 = .ok (.lcmp, 1) := by decide +kernel
theorem dX7_root_11 : decode cX7_root 11 = .ok (.ifCond .ge 40, 3) := by decide +kernel
theorem dX7_root_14 : decode cX7_root 14 = .ok (.lload_n 2, 1) := by decide +kernel
theorem dX7_root_15 : decode cX7_root 15 = .ok (.lload 4, 2) := by decide +kernel
theorem dX7_root_17 : decode cX7_root 17 = .ok (.ladd, 1) := by decide +kernel
theorem dX7_root_18 : decode cX7_root 18 = .ok (.lconst 1, 1) := by decide +kernel
theorem dX7_root_19 : decode cX7_root 19 = .ok (.ladd, 1) := by decide +kernel
theorem dX7_root_20 : decode cX7_root 20 = .ok (.ldc2_w 199, 3) := by decide +kernel
theorem dX7_root_23 : decode cX7_root 23 = .ok (.ldiv, 1) := by decide +kernel
theorem dX7_root_24 : decode cX7_root 24 = .ok (.lstore 6, 2) := by decide +kernel
theorem dX7_root_26 : decode cX7_root 26 = .ok (.lload 6, 2) := by decide +kernel
theorem dX7_root_28 : decode cX7_root 28 = .ok (.lload 6, 2) := by decide +kernel
theorem dX7_root_30 : decode cX7_root 30 = .ok (.lmul, 1) := by decide +kernel
theorem dX7_root_31 : decode cX7_root 31 = .ok (.lload_n 0, 1) := by decide +kernel
theorem dX7_root_32 : decode cX7_root 32 = .ok (.lcmp, 1) := by decide +kernel
theorem dX7_root_33 : decode cX7_root 33 = .ok (.ifCond .gt 9, 3) := by decide +kernel
theorem dX7_root_36 : decode cX7_root 36 = .ok (.lload 6, 2) := by decide +kernel
theorem dX7_root_38 : decode cX7_root 38 = .ok (.lstore_n 2, 1) := by decide +kernel
theorem dX7_root_39 : decode cX7_root 39 = .ok (.goto 9, 3) := by decide +kernel
theorem dX7_root_42 : decode cX7_root 42 = .ok (.lload 6, 2) := by decide +kernel
theorem dX7_root_44 : decode cX7_root 44 = .ok (.lconst 1, 1) := by decide +kernel
theorem dX7_root_45 : decode cX7_root 45 = .ok (.lsub, 1) := by decide +kernel
theorem dX7_root_46 : decode cX7_root 46 = .ok (.lstore 4, 2) := by decide +kernel
theorem dX7_root_48 : decode cX7_root 48 = .ok (.goto (-41), 3) := by decide +kernel
theorem dX7_root_51 : decode cX7_root 51 = .ok (.lload_n 2, 1) := by decide +kernel
theorem dX7_root_52 : decode cX7_root 52 = .ok (.lreturn, 1) := by decide +kernel
set_option maxRecDepth 20000 in
theorem ggX7_isSquare_X7_root : GoodIn wsX7_isSquare wsX7_root := goodIn_r _ [4, 5, 6] (by decide +kernel) (by decide +kernel)
set_option maxRecDepth 20000 in
theorem gX7_isSquare_X7_root : GoodIn wsX7_isSquare (va_wsS RX7 201 yX7_root wsX7_root) := goodIn_app (goodIn_of _ (by decide +kernel)) ggX7_isSquare_X7_root
theorem dX7_isSquare_0 : decode cX7_isSquare 0 = .ok (.lload_n 0, 1) := by decide +kernel
theorem dX7_isSquare_1 : decode cX7_isSquare 1 = .ok (.lconst 0, 1) := by decide +kernel
theorem dX7_isSquare_2 : decode cX7_isSquare 2 = .ok (.lcmp, 1) := by decide +kernel
theorem dX7_isSquare_3 : decode cX7_isSquare 3 = .ok (.ifCond .lt 21, 3) := by decide +kernel
theorem dX7_isSquare_6 : decode cX7_isSquare 6 = .ok (.lload_n 0, 1) := by decide +kernel
theorem dX7_isSquare_7 : decode cX7_isSquare 7 = .ok (.invokestatic 201, 3) := by decide +kernel
theorem dX7_isSquare_10 : decode cX7_isSquare 10 = .ok (.lload_n 0, 1) := by decide +kernel
theorem dX7_isSquare_11 : decode cX7_isSquare 11 = .ok (.invokestatic 201, 3) := by decide +kernel
theorem dX7_isSquare_14 : decode cX7_isSquare 14 = .ok (.lmul, 1) := by decide +kernel
theorem dX7_isSquare_15 : decode cX7_isSquare 15 = .ok (.lload_n 0, 1) := by decide +kernel
theorem dX7_isSquare_16 : decode cX7_isSquare 16 = .ok (.lcmp, 1) := by decide +kernel
theorem dX7_isSquare_17 : decode cX7_isSquare 17 = .ok (.ifCond .ne 7, 3) := by decide +kernel
theorem dX7_isSquare_20 : decode cX7_isSquare 20 = .ok (.iconst 1, 1) := by decide +kernel
theorem dX7_isSquare_21 : decode cX7_isSquare 21 = .ok (.goto 4, 3) := by decide +kernel
theorem dX7_isSquare_24 : decode cX7_isSquare 24 = .ok (.iconst 0, 1) := by decide +kernel
theorem dX7_isSquare_25 : decode cX7_isSquare 25 = .ok (.ireturn, 1) := by decide +kernel
set_option maxRecDepth 20000 in
theorem ggX7_isSquareBeside_X7_isSquare : GoodIn wsX7_isSquareBeside wsX7_isSquare := goodIn_r _ [4, 5, 6, 3, 7, 8, 9] (by decide +kernel) (by decide +kernel)
set_option maxRecDepth 20000 in
theorem gX7_isSquareBeside_X7_isSquare : GoodIn wsX7_isSquareBeside (va_wsS RX7 205 yX7_isSquare wsX7_isSquare) := goodIn_app (goodIn_of _ (by decide +kernel)) ggX7_isSquareBeside_X7_isSquare
set_option maxRecDepth 20000 in
theorem ggX7_isSquareBeside_X7_gcd : GoodIn wsX7_isSquareBeside wsX7_gcd := goodIn_r _ [12] (by decide +kernel) (by decide +kernel)
set_option maxRecDepth 20000 in
theorem gX7_isSquareBeside_X7_gcd : GoodIn wsX7_isSquareBeside (va_wsS RX7 51 yX7_gcd wsX7_gcd) := goodIn_app (goodIn_of _ (by decide +kernel)) ggX7_isSquareBeside_X7_gcd
theorem dX7_isSquareBeside_0 : decode cX7_isSquareBeside 0 = .ok (.lload_n 0, 1) := by decide +kernel
theorem dX7_isSquareBeside_1 : decode cX7_isSquareBeside 1 = .ok (.lconst 0, 1) := by decide +kernel
theorem dX7_isSquareBeside_2 : decode cX7_isSquareBeside 2 = .ok (.lcmp, 1) := by decide +kernel
theorem dX7_isSquareBeside_3 : decode cX7_isSquareBeside 3 = .ok (.ifCond .eq 10, 3) := by decide +kernel
theorem dX7_isSquareBeside_6 : decode cX7_isSquareBeside 6 = .ok (.lload_n 0, 1) := by decide +kernel
theorem dX7_isSquareBeside_7 : decode cX7_isSquareBeside 7 = .ok (.invokestatic 205, 3) := by decide +kernel
theorem dX7_isSquareBeside_10 : decode cX7_isSquareBeside 10 = .ok (.ifCond .eq 5, 3) := by decide +kernel
theorem dX7_isSquareBeside_13 : decode cX7_isSquareBeside 13 = .ok (.iconst 1, 1) := by decide +kernel
theorem dX7_isSquareBeside_14 : decode cX7_isSquareBeside 14 = .ok (.ireturn, 1) := by decide +kernel
theorem dX7_isSquareBeside_15 : decode cX7_isSquareBeside 15 = .ok (.lload_n 0, 1) := by decide +kernel
theorem dX7_isSquareBeside_16 : decode cX7_isSquareBeside 16 = .ok (.lload_n 2, 1) := by decide +kernel
theorem dX7_isSquareBeside_17 : decode cX7_isSquareBeside 17 = .ok (.invokestatic 51, 3) := by decide +kernel
theorem dX7_isSquareBeside_20 : decode cX7_isSquareBeside 20 = .ok (.lstore 4, 2) := by decide +kernel
theorem dX7_isSquareBeside_22 : decode cX7_isSquareBeside 22 = .ok (.lload_n 0, 1) := by decide +kernel
theorem dX7_isSquareBeside_23 : decode cX7_isSquareBeside 23 = .ok (.lconst 0, 1) := by decide +kernel
