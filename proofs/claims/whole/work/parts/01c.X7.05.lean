theorem dX7_common_52 : decode cX7_common 52 = .ok (.bipush 8, 2) := by decide +kernel
theorem dX7_common_54 : decode cX7_common 54 = .ok (.aload_n 0, 1) := by decide +kernel
theorem dX7_common_55 : decode cX7_common 55 = .ok (.iload_n 2, 1) := by decide +kernel
theorem dX7_common_56 : decode cX7_common 56 = .ok (.invokevirtual 59, 3) := by decide +kernel
theorem dX7_common_59 : decode cX7_common 59 = .ok (.ifCond .eq 7, 3) := by decide +kernel
theorem dX7_common_62 : decode cX7_common 62 = .ok (.iload_n 3, 1) := by decide +kernel
theorem dX7_common_63 : decode cX7_common 63 = .ok (.goto 4, 3) := by decide +kernel
theorem dX7_common_66 : decode cX7_common 66 = .ok (.iload_n 2, 1) := by decide +kernel
theorem dX7_common_67 : decode cX7_common 67 = .ok (.invokevirtual 47, 3) := by decide +kernel
theorem dX7_common_70 : decode cX7_common 70 = .ok (.aload_n 0, 1) := by decide +kernel
theorem dX7_common_71 : decode cX7_common 71 = .ok (.aload_n 0, 1) := by decide +kernel
theorem dX7_common_72 : decode cX7_common 72 = .ok (.bipush 8, 2) := by decide +kernel
theorem dX7_common_74 : decode cX7_common 74 = .ok (.invokevirtual 130, 3) := by decide +kernel
theorem dX7_common_77 : decode cX7_common 77 = .ok (.l2i, 1) := by decide +kernel
theorem dX7_common_78 : decode cX7_common 78 = .ok (.putfield 134, 3) := by decide +kernel
theorem dX7_common_81 : decode cX7_common 81 = .ok (.aload_n 0, 1) := by decide +kernel
theorem dX7_common_82 : decode cX7_common 82 = .ok (.iload_n 1, 1) := by decide +kernel
theorem dX7_common_83 : decode cX7_common 83 = .ok (.invokevirtual 73, 3) := by decide +kernel
theorem dX7_common_86 : decode cX7_common 86 = .ok (.ireturn, 1) := by decide +kernel
theorem dX7_common_87 : decode cX7_common 87 = .ok (.aload_n 0, 1) := by decide +kernel
theorem dX7_common_88 : decode cX7_common 88 = .ok (.iload_n 2, 1) := by decide +kernel
theorem dX7_common_89 : decode cX7_common 89 = .ok (.invokevirtual 152, 3) := by decide +kernel
theorem dX7_common_92 : decode cX7_common 92 = .ok (.aload_n 0, 1) := by decide +kernel
theorem dX7_common_93 : decode cX7_common 93 = .ok (.aload_n 0, 1) := by decide +kernel
theorem dX7_common_94 : decode cX7_common 94 = .ok (.getfield 83, 3) := by decide +kernel
theorem dX7_common_97 : decode cX7_common 97 = .ok (.putfield 155, 3) := by decide +kernel
theorem dX7_common_100 : decode cX7_common 100 = .ok (.iconst 0, 1) := by decide +kernel
theorem dX7_common_101 : decode cX7_common 101 = .ok (.istore 4, 2) := by decide +kernel
theorem dX7_common_103 : decode cX7_common 103 = .ok (.iload 4, 2) := by decide +kernel
theorem dX7_common_105 : decode cX7_common 105 = .ok (.aload_n 0, 1) := by decide +kernel
theorem dX7_common_106 : decode cX7_common 106 = .ok (.getfield 83, 3) := by decide +kernel
theorem dX7_common_109 : decode cX7_common 109 = .ok (.if_icmp .ge 37, 3) := by decide +kernel
theorem dX7_common_112 : decode cX7_common 112 = .ok (.aload_n 0, 1) := by decide +kernel
theorem dX7_common_113 : decode cX7_common 113 = .ok (.bipush 20, 2) := by decide +kernel
theorem dX7_common_115 : decode cX7_common 115 = .ok (.iload 4, 2) := by decide +kernel
theorem dX7_common_117 : decode cX7_common 117 = .ok (.iadd, 1) := by decide +kernel
theorem dX7_common_118 : decode cX7_common 118 = .ok (.bipush 12, 2) := by decide +kernel
theorem dX7_common_120 : decode cX7_common 120 = .ok (.iload 4, 2) := by decide +kernel
theorem dX7_common_122 : decode cX7_common 122 = .ok (.iadd, 1) := by decide +kernel
theorem dX7_common_123 : decode cX7_common 123 = .ok (.invokevirtual 47, 3) := by decide +kernel
theorem dX7_common_126 : decode cX7_common 126 = .ok (.aload_n 0, 1) := by decide +kernel
theorem dX7_common_127 : decode cX7_common 127 = .ok (.getfield 17, 3) := by decide +kernel
theorem dX7_common_130 : decode cX7_common 130 = .ok (.iload 4, 2) := by decide +kernel
theorem dX7_common_132 : decode cX7_common 132 = .ok (.aload_n 0, 1) := by decide +kernel
theorem dX7_common_133 : decode cX7_common 133 = .ok (.getfield 13, 3) := by decide +kernel
theorem dX7_common_136 : decode cX7_common 136 = .ok (.iload 4, 2) := by decide +kernel
theorem dX7_common_138 : decode cX7_common 138 = .ok (.iaload, 1) := by decide +kernel
theorem dX7_common_139 : decode cX7_common 139 = .ok (.iastore, 1) := by decide +kernel
theorem dX7_common_140 : decode cX7_common 140 = .ok (.iinc 4 1, 3) := by decide +kernel
theorem dX7_common_143 : decode cX7_common 143 = .ok (.goto (-40), 3) := by decide +kernel
theorem dX7_common_146 : decode cX7_common 146 = .ok (.aload_n 0, 1) := by decide +kernel
theorem dX7_common_147 : decode cX7_common 147 = .ok (.iload_n 3, 1) := by decide +kernel
theorem dX7_common_148 : decode cX7_common 148 = .ok (.invokevirtual 152, 3) := by decide +kernel
theorem dX7_common_151 : decode cX7_common 151 = .ok (.aload_n 0, 1) := by decide +kernel
theorem dX7_common_152 : decode cX7_common 152 = .ok (.bipush 8, 2) := by decide +kernel
theorem dX7_common_154 : decode cX7_common 154 = .ok (.invokevirtual 55, 3) := by decide +kernel
theorem dX7_common_157 : decode cX7_common 157 = .ok (.aload_n 0, 1) := by decide +kernel
theorem dX7_common_158 : decode cX7_common 158 = .ok (.getfield 7, 3) := by decide +kernel
theorem dX7_common_161 : decode cX7_common 161 = .ok (.bipush 64, 2) := by decide +kernel
theorem dX7_common_163 : decode cX7_common 163 = .ok (.lconst 1, 1) := by decide +kernel
theorem dX7_common_164 : decode cX7_common 164 = .ok (.lastore, 1) := by decide +kernel
theorem dX7_common_165 : decode cX7_common 165 = .ok (.iconst 0, 1) := by decide +kernel
theorem dX7_common_166 : decode cX7_common 166 = .ok (.istore 4, 2) := by decide +kernel
theorem dX7_common_168 : decode cX7_common 168 = .ok (.iload 4, 2) := by decide +kernel
theorem dX7_common_170 : decode cX7_common 170 = .ok (.aload_n 0, 1) := by decide +kernel
theorem dX7_common_171 : decode cX7_common 171 = .ok (.getfield 83, 3) := by decide +kernel
theorem dX7_common_174 : decode cX7_common 174 = .ok (.if_icmp .ge 134, 3) := by decide +kernel
theorem dX7_common_177 : decode cX7_common 177 = .ok (.iconst 0, 1) := by decide +kernel
theorem dX7_common_178 : decode cX7_common 178 = .ok (.istore 5, 2) := by decide +kernel
theorem dX7_common_180 : decode cX7_common 180 = .ok (.iload 5, 2) := by decide +kernel
theorem dX7_common_182 : decode cX7_common 182 = .ok (.aload_n 0, 1) := by decide +kernel
theorem dX7_common_183 : decode cX7_common 183 = .ok (.getfield 155, 3) := by decide +kernel
theorem dX7_common_186 : decode cX7_common 186 = .ok (.if_icmp .ge 116, 3) := by decide +kernel
theorem dX7_common_189 : decode cX7_common 189 = .ok (.aload_n 0, 1) := by decide +kernel
theorem dX7_common_190 : decode cX7_common 190 = .ok (.bipush 12, 2) := by decide +kernel
theorem dX7_common_192 : decode cX7_common 192 = .ok (.iload 4, 2) := by decide +kernel
theorem dX7_common_194 : decode cX7_common 194 = .ok (.iadd, 1) := by decide +kernel
theorem dX7_common_195 : decode cX7_common 195 = .ok (.bipush 20, 2) := by decide +kernel
theorem dX7_common_197 : decode cX7_common 197 = .ok (.iload 5, 2) := by decide +kernel
theorem dX7_common_199 : decode cX7_common 199 = .ok (.iadd, 1) := by decide +kernel
theorem dX7_common_200 : decode cX7_common 200 = .ok (.invokevirtual 127, 3) := by decide +kernel
theorem dX7_common_203 : decode cX7_common 203 = .ok (.ifCond .ne 24, 3) := by decide +kernel
theorem dX7_common_206 : decode cX7_common 206 = .ok (.aload_n 0, 1) := by decide +kernel
theorem dX7_common_207 : decode cX7_common 207 = .ok (.bipush 20, 2) := by decide +kernel
theorem dX7_common_209 : decode cX7_common 209 = .ok (.iload 5, 2) := by decide +kernel
theorem dX7_common_211 : decode cX7_common 211 = .ok (.iadd, 1) := by decide +kernel
theorem dX7_common_212 : decode cX7_common 212 = .ok (.bipush 12, 2) := by decide +kernel
theorem dX7_common_214 : decode cX7_common 214 = .ok (.iload 4, 2) := by decide +kernel
theorem dX7_common_216 : decode cX7_common 216 = .ok (.iadd, 1) := by decide +kernel
theorem dX7_common_217 : decode cX7_common 217 = .ok (.invokevirtual 127, 3) := by decide +kernel
theorem dX7_common_220 : decode cX7_common 220 = .ok (.ifCond .ne 7, 3) := by decide +kernel
theorem dX7_common_223 : decode cX7_common 223 = .ok (.iconst 1, 1) := by decide +kernel
theorem dX7_common_224 : decode cX7_common 224 = .ok (.goto 4, 3) := by decide +kernel
theorem dX7_common_227 : decode cX7_common 227 = .ok (.iconst 0, 1) := by decide +kernel
theorem dX7_common_228 : decode cX7_common 228 = .ok (.istore 6, 2) := by decide +kernel
theorem dX7_common_230 : decode cX7_common 230 = .ok (.aload_n 0, 1) := by decide +kernel
theorem dX7_common_231 : decode cX7_common 231 = .ok (.getfield 13, 3) := by decide +kernel
theorem dX7_common_234 : decode cX7_common 234 = .ok (.iload 4, 2) := by decide +kernel
theorem dX7_common_236 : decode cX7_common 236 = .ok (.iaload, 1) := by decide +kernel
theorem dX7_common_237 : decode cX7_common 237 = .ok (.aload_n 0, 1) := by decide +kernel
theorem dX7_common_238 : decode cX7_common 238 = .ok (.getfield 17, 3) := by decide +kernel
theorem dX7_common_241 : decode cX7_common 241 = .ok (.iload 5, 2) := by decide +kernel
theorem dX7_common_243 : decode cX7_common 243 = .ok (.iaload, 1) := by decide +kernel
theorem dX7_common_244 : decode cX7_common 244 = .ok (.if_icmp .ge 13, 3) := by decide +kernel
theorem dX7_common_247 : decode cX7_common 247 = .ok (.aload_n 0, 1) := by decide +kernel
theorem dX7_common_248 : decode cX7_common 248 = .ok (.getfield 13, 3) := by decide +kernel
theorem dX7_common_251 : decode cX7_common 251 = .ok (.iload 4, 2) := by decide +kernel
theorem dX7_common_253 : decode cX7_common 253 = .ok (.iaload, 1) := by decide +kernel
theorem dX7_common_254 : decode cX7_common 254 = .ok (.goto 10, 3) := by decide +kernel
theorem dX7_common_257 : decode cX7_common 257 = .ok (.aload_n 0, 1) := by decide +kernel
theorem dX7_common_258 : decode cX7_common 258 = .ok (.getfield 17, 3) := by decide +kernel
theorem dX7_common_261 : decode cX7_common 261 = .ok (.iload 5, 2) := by decide +kernel
theorem dX7_common_263 : decode cX7_common 263 = .ok (.iaload, 1) := by decide +kernel
theorem dX7_common_264 : decode cX7_common 264 = .ok (.istore 7, 2) := by decide +kernel
theorem dX7_common_266 : decode cX7_common 266 = .ok (.iconst 0, 1) := by decide +kernel
theorem dX7_common_267 : decode cX7_common 267 = .ok (.istore 8, 2) := by decide +kernel
theorem dX7_common_269 : decode cX7_common 269 = .ok (.iload 8, 2) := by decide +kernel
theorem dX7_common_271 : decode cX7_common 271 = .ok (.iload 7, 2) := by decide +kernel
theorem dX7_common_273 : decode cX7_common 273 = .ok (.if_icmp .ge 23, 3) := by decide +kernel
theorem dX7_common_276 : decode cX7_common 276 = .ok (.iload 6, 2) := by decide +kernel
theorem dX7_common_278 : decode cX7_common 278 = .ok (.ifCond .eq 18, 3) := by decide +kernel
theorem dX7_common_281 : decode cX7_common 281 = .ok (.aload_n 0, 1) := by decide +kernel
theorem dX7_common_282 : decode cX7_common 282 = .ok (.bipush 12, 2) := by decide +kernel
theorem dX7_common_284 : decode cX7_common 284 = .ok (.iload 4, 2) := by decide +kernel
theorem dX7_common_286 : decode cX7_common 286 = .ok (.iadd, 1) := by decide +kernel
theorem dX7_common_287 : decode cX7_common 287 = .ok (.invokevirtual 158, 3) := by decide +kernel
theorem dX7_common_290 : decode cX7_common 290 = .ok (.iinc 8 1, 3) := by decide +kernel
theorem dX7_common_293 : decode cX7_common 293 = .ok (.goto (-24), 3) := by decide +kernel
theorem dX7_common_296 : decode cX7_common 296 = .ok (.iinc 5 1, 3) := by decide +kernel
theorem dX7_common_299 : decode cX7_common 299 = .ok (.goto (-119), 3) := by decide +kernel
theorem dX7_common_302 : decode cX7_common 302 = .ok (.iinc 4 1, 3) := by decide +kernel
theorem dX7_common_305 : decode cX7_common 305 = .ok (.goto (-137), 3) := by decide +kernel
theorem dX7_common_308 : decode cX7_common 308 = .ok (.aload_n 0, 1) := by decide +kernel
theorem dX7_common_309 : decode cX7_common 309 = .ok (.iload_n 1, 1) := by decide +kernel
theorem dX7_common_310 : decode cX7_common 310 = .ok (.invokevirtual 73, 3) := by decide +kernel
theorem dX7_common_313 : decode cX7_common 313 = .ok (.ireturn, 1) := by decide +kernel
set_option maxRecDepth 20000 in
theorem ggX7_timesPart_X7_copy : GoodIn wsX7_timesPart wsX7_copy := goodIn_r _ [6, 1, 11, 12, 13, 14, 15, 16, 17, 18, 19, 20, 21, 22, 23, 24, 25, 26, 27, 28, 29, 30, 31, 32, 33, 34, 35] (by decide +kernel) (by decide +kernel)
set_option maxRecDepth 20000 in
theorem gX7_timesPart_X7_copy : GoodIn wsX7_timesPart (wsV RX7 47 RX7 yX7_copy wsX7_copy) := goodIn_app (goodIn_of _ (by decide +kernel)) ggX7_timesPart_X7_copy
set_option maxRecDepth 20000 in
theorem ggX7_timesPart_X7_clear : GoodIn wsX7_timesPart wsX7_clear := goodIn_r _ [10, 1, 11, 12, 13, 14, 15, 16, 17, 18, 19, 20, 21, 22, 23, 24, 25, 26, 27, 28, 29, 30, 31, 32, 33, 34, 35] (by decide +kernel) (by decide +kernel)
set_option maxRecDepth 20000 in
theorem gX7_timesPart_X7_clear : GoodIn wsX7_timesPart (wsV RX7 55 RX7 yX7_clear wsX7_clear) := goodIn_app (goodIn_of _ (by decide +kernel)) ggX7_timesPart_X7_clear
theorem dX7_timesPart_0 : decode cX7_timesPart 0 = .ok (.aload_n 0, 1) := by decide +kernel
theorem dX7_timesPart_1 : decode cX7_timesPart 1 = .ok (.bipush 9, 2) := by decide +kernel
theorem dX7_timesPart_3 : decode cX7_timesPart 3 = .ok (.bipush 8, 2) := by decide +kernel
theorem dX7_timesPart_5 : decode cX7_timesPart 5 = .ok (.invokevirtual 47, 3) := by decide +kernel
theorem dX7_timesPart_8 : decode cX7_timesPart 8 = .ok (.aload_n 0, 1) := by decide +kernel
theorem dX7_timesPart_9 : decode cX7_timesPart 9 = .ok (.bipush 8, 2) := by decide +kernel
theorem dX7_timesPart_11 : decode cX7_timesPart 11 = .ok (.invokevirtual 55, 3) := by decide +kernel
theorem dX7_timesPart_14 : decode cX7_timesPart 14 = .ok (.iconst 0, 1) := by decide +kernel
theorem dX7_timesPart_15 : decode cX7_timesPart 15 = .ok (.istore_n 2, 1) := by decide +kernel
theorem dX7_timesPart_16 : decode cX7_timesPart 16 = .ok (.iload_n 2, 1) := by decide +kernel
theorem dX7_timesPart_17 : decode cX7_timesPart 17 = .ok (.bipush 8, 2) := by decide +kernel
theorem dX7_timesPart_19 : decode cX7_timesPart 19 = .ok (.if_icmp .ge 69, 3) := by decide +kernel
theorem dX7_timesPart_22 : decode cX7_timesPart 22 = .ok (.iconst 0, 1) := by decide +kernel
theorem dX7_timesPart_23 : decode cX7_timesPart 23 = .ok (.istore_n 3, 1) := by decide +kernel
theorem dX7_timesPart_24 : decode cX7_timesPart 24 = .ok (.iload_n 2, 1) := by decide +kernel
theorem dX7_timesPart_25 : decode cX7_timesPart 25 = .ok (.iload_n 3, 1) := by decide +kernel
theorem dX7_timesPart_26 : decode cX7_timesPart 26 = .ok (.iadd, 1) := by decide +kernel
theorem dX7_timesPart_27 : decode cX7_timesPart 27 = .ok (.bipush 8, 2) := by decide +kernel
theorem dX7_timesPart_29 : decode cX7_timesPart 29 = .ok (.if_icmp .ge 53, 3) := by decide +kernel
theorem dX7_timesPart_32 : decode cX7_timesPart 32 = .ok (.aload_n 0, 1) := by decide +kernel
theorem dX7_timesPart_33 : decode cX7_timesPart 33 = .ok (.getfield 7, 3) := by decide +kernel
theorem dX7_timesPart_36 : decode cX7_timesPart 36 = .ok (.bipush 64, 2) := by decide +kernel
theorem dX7_timesPart_38 : decode cX7_timesPart 38 = .ok (.iload_n 2, 1) := by decide +kernel
theorem dX7_timesPart_39 : decode cX7_timesPart 39 = .ok (.iadd, 1) := by decide +kernel
theorem dX7_timesPart_40 : decode cX7_timesPart 40 = .ok (.iload_n 3, 1) := by decide +kernel
theorem dX7_timesPart_41 : decode cX7_timesPart 41 = .ok (.iadd, 1) := by decide +kernel
theorem dX7_timesPart_42 : decode cX7_timesPart 42 = .ok (.aload_n 0, 1) := by decide +kernel
theorem dX7_timesPart_43 : decode cX7_timesPart 43 = .ok (.getfield 7, 3) := by decide +kernel
theorem dX7_timesPart_46 : decode cX7_timesPart 46 = .ok (.bipush 64, 2) := by decide +kernel
theorem dX7_timesPart_48 : decode cX7_timesPart 48 = .ok (.iload_n 2, 1) := by decide +kernel
theorem dX7_timesPart_49 : decode cX7_timesPart 49 = .ok (.iadd, 1) := by decide +kernel
theorem dX7_timesPart_50 : decode cX7_timesPart 50 = .ok (.iload_n 3, 1) := by decide +kernel
theorem dX7_timesPart_51 : decode cX7_timesPart 51 = .ok (.iadd, 1) := by decide +kernel
theorem dX7_timesPart_52 : decode cX7_timesPart 52 = .ok (.laload, 1) := by decide +kernel
theorem dX7_timesPart_53 : decode cX7_timesPart 53 = .ok (.aload_n 0, 1) := by decide +kernel
theorem dX7_timesPart_54 : decode cX7_timesPart 54 = .ok (.getfield 7, 3) := by decide +kernel
theorem dX7_timesPart_57 : decode cX7_timesPart 57 = .ok (.bipush 72, 2) := by decide +kernel
theorem dX7_timesPart_59 : decode cX7_timesPart 59 = .ok (.iload_n 2, 1) := by decide +kernel
theorem dX7_timesPart_60 : decode cX7_timesPart 60 = .ok (.iadd, 1) := by decide +kernel
theorem dX7_timesPart_61 : decode cX7_timesPart 61 = .ok (.laload, 1) := by decide +kernel
theorem dX7_timesPart_62 : decode cX7_timesPart 62 = .ok (.aload_n 0, 1) := by decide +kernel
theorem dX7_timesPart_63 : decode cX7_timesPart 63 = .ok (.getfield 7, 3) := by decide +kernel
theorem dX7_timesPart_66 : decode cX7_timesPart 66 = .ok (.bipush 8, 2) := by decide +kernel
theorem dX7_timesPart_68 : decode cX7_timesPart 68 = .ok (.iload_n 1, 1) := by decide +kernel
theorem dX7_timesPart_69 : decode cX7_timesPart 69 = .ok (.imul, 1) := by decide +kernel
theorem dX7_timesPart_70 : decode cX7_timesPart 70 = .ok (.iload_n 3, 1) := by decide +kernel
theorem dX7_timesPart_71 : decode cX7_timesPart 71 = .ok (.iadd, 1) := by decide +kernel
theorem dX7_timesPart_72 : decode cX7_timesPart 72 = .ok (.laload, 1) := by decide +kernel
theorem dX7_timesPart_73 : decode cX7_timesPart 73 = .ok (.lmul, 1) := by decide +kernel
theorem dX7_timesPart_74 : decode cX7_timesPart 74 = .ok (.ladd, 1) := by decide +kernel
theorem dX7_timesPart_75 : decode cX7_timesPart 75 = .ok (.lastore, 1) := by decide +kernel
theorem dX7_timesPart_76 : decode cX7_timesPart 76 = .ok (.iinc 3 1, 3) := by decide +kernel
theorem dX7_timesPart_79 : decode cX7_timesPart 79 = .ok (.goto (-55), 3) := by decide +kernel
theorem dX7_timesPart_82 : decode cX7_timesPart 82 = .ok (.iinc 2 1, 3) := by decide +kernel
theorem dX7_timesPart_85 : decode cX7_timesPart 85 = .ok (.goto (-69), 3) := by decide +kernel
theorem dX7_timesPart_88 : decode cX7_timesPart 88 = .ok (.return_, 1) := by decide +kernel
set_option maxRecDepth 20000 in
theorem ggX7_parts_X7_isSlot : GoodIn wsX7_parts wsX7_isSlot := goodIn_r _ [12] (by decide +kernel) (by decide +kernel)
set_option maxRecDepth 20000 in
theorem gX7_parts_X7_isSlot : GoodIn wsX7_parts (va_wsS RX7 63 yX7_isSlot wsX7_isSlot) := goodIn_app (goodIn_of _ (by decide +kernel)) ggX7_parts_X7_isSlot
set_option maxRecDepth 20000 in
theorem ggX7_parts_X7_refused : GoodIn wsX7_parts wsX7_refused := goodIn_r _ [16, 17, 113, 114, 115, 116, 117, 118, 119, 120, 121, 122, 123, 124, 125, 126, 127, 128, 129, 130, 131, 132, 133, 134, 135, 136, 137] (by decide +kernel) (by decide +kernel)
set_option maxRecDepth 20000 in
theorem gX7_parts_X7_refused : GoodIn wsX7_parts (wsV RX7 70 RX7 yX7_refused wsX7_refused) := goodIn_app (goodIn_of _ (by decide +kernel)) ggX7_parts_X7_refused
set_option maxRecDepth 20000 in
theorem ggX7_parts_X7_isZero : GoodIn wsX7_parts wsX7_isZero := goodIn_r _ [21, 22, 23, 24, 11, 25, 8, 113, 114, 115, 116, 117, 118, 119, 120, 121, 122, 123, 124, 125, 126, 127, 128, 129, 130, 131, 132, 133, 134, 135, 136, 137] (by decide +kernel) (by decide +kernel)
set_option maxRecDepth 20000 in
theorem gX7_parts_X7_isZero : GoodIn wsX7_parts (wsV RX7 59 RX7 yX7_isZero wsX7_isZero) := goodIn_app (goodIn_of _ (by decide +kernel)) ggX7_parts_X7_isZero
set_option maxRecDepth 20000 in
theorem ggX7_parts_X7_takeApart : GoodIn wsX7_parts wsX7_takeApart := goodIn_k _ [[29], [3], [1, 28, 0, 0], [11, 21], [8, 25, 0, 0, 0, 0, 0, 0], [22, 0, 0, 0, 15, 0, 0, 0, 0, 0, 0, 0, 0, 0, 0, 0, 0, 0, 0, 0, 0, 0, 0], [18, 0, 0, 0, 38, 0, 0, 0], [6, 57, 0, 0, 0, 0, 0, 0, 0, 0, 0, 0, 0, 0, 0, 0, 0, 0, 0, 0, 0, 0, 0, 0, 0, 0, 0, 0, 0, 0, 0, 0, 0, 0, 0, 0, 0, 0, 0, 0, 0, 0, 0, 0, 0, 0, 0, 0, 0, 0, 0, 0, 0, 0, 0, 0, 0, 0, 0, 0, 0, 0, 0, 0, 0, 0, 0, 0, 0, 0, 0, 0, 0, 0, 0]] rfl (by decide +kernel)
set_option maxRecDepth 20000 in
theorem gX7_parts_X7_takeApart : GoodIn wsX7_parts (wsV RX7 152 RX7 yX7_takeApart wsX7_takeApart) := goodIn_app (goodIn_of _ (by decide +kernel)) ggX7_parts_X7_takeApart
theorem dX7_parts_0 : decode cX7_parts 0 = .ok (.aload_n 0, 1) := by decide +kernel
theorem dX7_parts_1 : decode cX7_parts 1 = .ok (.iload_n 1, 1) := by decide +kernel
theorem dX7_parts_2 : decode cX7_parts 2 = .ok (.invokestatic 63, 3) := by decide +kernel
theorem dX7_parts_5 : decode cX7_parts 5 = .ok (.ifCond .eq 7, 3) := by decide +kernel
theorem dX7_parts_8 : decode cX7_parts 8 = .ok (.iconst 0, 1) := by decide +kernel
theorem dX7_parts_9 : decode cX7_parts 9 = .ok (.goto 4, 3) := by decide +kernel
theorem dX7_parts_12 : decode cX7_parts 12 = .ok (.iconst 1, 1) := by decide +kernel
theorem dX7_parts_13 : decode cX7_parts 13 = .ok (.invokevirtual 70, 3) := by decide +kernel
theorem dX7_parts_16 : decode cX7_parts 16 = .ok (.ifCond .eq 5, 3) := by decide +kernel
theorem dX7_parts_19 : decode cX7_parts 19 = .ok (.iconst 0, 1) := by decide +kernel
theorem dX7_parts_20 : decode cX7_parts 20 = .ok (.ireturn, 1) := by decide +kernel
theorem dX7_parts_21 : decode cX7_parts 21 = .ok (.aload_n 0, 1) := by decide +kernel
theorem dX7_parts_22 : decode cX7_parts 22 = .ok (.iload_n 1, 1) := by decide +kernel
theorem dX7_parts_23 : decode cX7_parts 23 = .ok (.invokevirtual 59, 3) := by decide +kernel
theorem dX7_parts_26 : decode cX7_parts 26 = .ok (.ifCond .eq 6, 3) := by decide +kernel
theorem dX7_parts_29 : decode cX7_parts 29 = .ok (.bipush (-3), 2) := by decide +kernel
theorem dX7_parts_31 : decode cX7_parts 31 = .ok (.ireturn, 1) := by decide +kernel
theorem dX7_parts_32 : decode cX7_parts 32 = .ok (.aload_n 0, 1) := by decide +kernel
theorem dX7_parts_33 : decode cX7_parts 33 = .ok (.iload_n 1, 1) := by decide +kernel
theorem dX7_parts_34 : decode cX7_parts 34 = .ok (.invokevirtual 152, 3) := by decide +kernel
theorem dX7_parts_37 : decode cX7_parts 37 = .ok (.aload_n 0, 1) := by decide +kernel
theorem dX7_parts_38 : decode cX7_parts 38 = .ok (.aload_n 0, 1) := by decide +kernel
theorem dX7_parts_39 : decode cX7_parts 39 = .ok (.getfield 83, 3) := by decide +kernel
theorem dX7_parts_42 : decode cX7_parts 42 = .ok (.putfield 161, 3) := by decide +kernel
theorem dX7_parts_45 : decode cX7_parts 45 = .ok (.aload_n 0, 1) := by decide +kernel
theorem dX7_parts_46 : decode cX7_parts 46 = .ok (.aload_n 0, 1) := by decide +kernel
theorem dX7_parts_47 : decode cX7_parts 47 = .ok (.getfield 134, 3) := by decide +kernel
theorem dX7_parts_50 : decode cX7_parts 50 = .ok (.putfield 164, 3) := by decide +kernel
theorem dX7_parts_53 : decode cX7_parts 53 = .ok (.iconst 0, 1) := by decide +kernel
theorem dX7_parts_54 : decode cX7_parts 54 = .ok (.istore_n 2, 1) := by decide +kernel
theorem dX7_parts_55 : decode cX7_parts 55 = .ok (.iload_n 2, 1) := by decide +kernel
theorem dX7_parts_56 : decode cX7_parts 56 = .ok (.aload_n 0, 1) := by decide +kernel
theorem dX7_parts_57 : decode cX7_parts 57 = .ok (.getfield 83, 3) := by decide +kernel
theorem dX7_parts_60 : decode cX7_parts 60 = .ok (.if_icmp .ge 60, 3) := by decide +kernel
theorem dX7_parts_63 : decode cX7_parts 63 = .ok (.aload_n 0, 1) := by decide +kernel
theorem dX7_parts_64 : decode cX7_parts 64 = .ok (.getfield 23, 3) := by decide +kernel
theorem dX7_parts_67 : decode cX7_parts 67 = .ok (.iload_n 2, 1) := by decide +kernel
theorem dX7_parts_68 : decode cX7_parts 68 = .ok (.aload_n 0, 1) := by decide +kernel
theorem dX7_parts_69 : decode cX7_parts 69 = .ok (.getfield 13, 3) := by decide +kernel
theorem dX7_parts_72 : decode cX7_parts 72 = .ok (.iload_n 2, 1) := by decide +kernel
theorem dX7_parts_73 : decode cX7_parts 73 = .ok (.iaload, 1) := by decide +kernel
theorem dX7_parts_74 : decode cX7_parts 74 = .ok (.iastore, 1) := by decide +kernel
theorem dX7_parts_75 : decode cX7_parts 75 = .ok (.iconst 0, 1) := by decide +kernel
theorem dX7_parts_76 : decode cX7_parts 76 = .ok (.istore_n 3, 1) := by decide +kernel
theorem dX7_parts_77 : decode cX7_parts 77 = .ok (.iload_n 3, 1) := by decide +kernel
theorem dX7_parts_78 : decode cX7_parts 78 = .ok (.bipush 8, 2) := by decide +kernel
theorem dX7_parts_80 : decode cX7_parts 80 = .ok (.if_icmp .ge 34, 3) := by decide +kernel
theorem dX7_parts_83 : decode cX7_parts 83 = .ok (.aload_n 0, 1) := by decide +kernel
theorem dX7_parts_84 : decode cX7_parts 84 = .ok (.getfield 20, 3) := by decide +kernel
theorem dX7_parts_87 : decode cX7_parts 87 = .ok (.bipush 8, 2) := by decide +kernel
theorem dX7_parts_89 : decode cX7_parts 89 = .ok (.iload_n 2, 1) := by decide +kernel
theorem dX7_parts_90 : decode cX7_parts 90 = .ok (.imul, 1) := by decide +kernel
theorem dX7_parts_91 : decode cX7_parts 91 = .ok (.iload_n 3, 1) := by decide +kernel
theorem dX7_parts_92 : decode cX7_parts 92 = .ok (.iadd, 1) := by decide +kernel
theorem dX7_parts_93 : decode cX7_parts 93 = .ok (.aload_n 0, 1) := by decide +kernel
theorem dX7_parts_94 : decode cX7_parts 94 = .ok (.getfield 7, 3) := by decide +kernel
theorem dX7_parts_97 : decode cX7_parts 97 = .ok (.bipush 8, 2) := by decide +kernel
theorem dX7_parts_99 : decode cX7_parts 99 = .ok (.bipush 12, 2) := by decide +kernel
theorem dX7_parts_101 : decode cX7_parts 101 = .ok (.iload_n 2, 1) := by decide +kernel
theorem dX7_parts_102 : decode cX7_parts 102 = .ok (.iadd, 1) := by decide +kernel
theorem dX7_parts_103 : decode cX7_parts 103 = .ok (.imul, 1) := by decide +kernel
theorem dX7_parts_104 : decode cX7_parts 104 = .ok (.iload_n 3, 1) := by decide +kernel
theorem dX7_parts_105 : decode cX7_parts 105 = .ok (.iadd, 1) := by decide +kernel
theorem dX7_parts_106 : decode cX7_parts 106 = .ok (.laload, 1) := by decide +kernel
theorem dX7_parts_107 : decode cX7_parts 107 = .ok (.lastore, 1) := by decide +kernel
theorem dX7_parts_108 : decode cX7_parts 108 = .ok (.iinc 3 1, 3) := by decide +kernel
theorem dX7_parts_111 : decode cX7_parts 111 = .ok (.goto (-34), 3) := by decide +kernel
theorem dX7_parts_114 : decode cX7_parts 114 = .ok (.iinc 2 1, 3) := by decide +kernel
theorem dX7_parts_117 : decode cX7_parts 117 = .ok (.goto (-62), 3) := by decide +kernel
theorem dX7_parts_120 : decode cX7_parts 120 = .ok (.aload_n 0, 1) := by decide +kernel
theorem dX7_parts_121 : decode cX7_parts 121 = .ok (.getfield 83, 3) := by decide +kernel
theorem dX7_parts_124 : decode cX7_parts 124 = .ok (.ireturn, 1) := by decide +kernel
set_option maxRecDepth 20000 in
theorem ggX7_part_X7_isIn : GoodIn wsX7_part wsX7_isIn := goodIn_r _ [7] (by decide +kernel) (by decide +kernel)
set_option maxRecDepth 20000 in
theorem gX7_part_X7_isIn : GoodIn wsX7_part (va_wsS RX7 66 yX7_isIn wsX7_isIn) := goodIn_app (goodIn_of _ (by decide +kernel)) ggX7_part_X7_isIn
theorem dX7_part_0 : decode cX7_part 0 = .ok (.aload_n 0, 1) := by decide +kernel
theorem dX7_part_1 : decode cX7_part 1 = .ok (.iconst 0, 1) := by decide +kernel
theorem dX7_part_2 : decode cX7_part 2 = .ok (.putfield 35, 3) := by decide +kernel
theorem dX7_part_5 : decode cX7_part 5 = .ok (.iload_n 1, 1) := by decide +kernel
theorem dX7_part_6 : decode cX7_part 6 = .ok (.iconst 0, 1) := by decide +kernel
theorem dX7_part_7 : decode cX7_part 7 = .ok (.aload_n 0, 1) := by decide +kernel
theorem dX7_part_8 : decode cX7_part 8 = .ok (.getfield 161, 3) := by decide +kernel
theorem dX7_part_11 : decode cX7_part 11 = .ok (.iconst 1, 1) := by decide +kernel
theorem dX7_part_12 : decode cX7_part 12 = .ok (.isub, 1) := by decide +kernel
theorem dX7_part_13 : decode cX7_part 13 = .ok (.invokestatic 66, 3) := by decide +kernel
theorem dX7_part_16 : decode cX7_part 16 = .ok (.ifCond .eq 27, 3) := by decide +kernel
theorem dX7_part_19 : decode cX7_part 19 = .ok (.iload_n 2, 1) := by decide +kernel
theorem dX7_part_20 : decode cX7_part 20 = .ok (.iconst 0, 1) := by decide +kernel
theorem dX7_part_21 : decode cX7_part 21 = .ok (.bipush 6, 2) := by decide +kernel
theorem dX7_part_23 : decode cX7_part 23 = .ok (.invokestatic 66, 3) := by decide +kernel
theorem dX7_part_26 : decode cX7_part 26 = .ok (.ifCond .eq 17, 3) := by decide +kernel
theorem dX7_part_29 : decode cX7_part 29 = .ok (.aload_n 0, 1) := by decide +kernel
theorem dX7_part_30 : decode cX7_part 30 = .ok (.getfield 20, 3) := by decide +kernel
theorem dX7_part_33 : decode cX7_part 33 = .ok (.bipush 8, 2) := by decide +kernel
theorem dX7_part_35 : decode cX7_part 35 = .ok (.iload_n 1, 1) := by decide +kernel
theorem dX7_part_36 : decode cX7_part 36 = .ok (.imul, 1) := by decide +kernel
theorem dX7_part_37 : decode cX7_part 37 = .ok (.iload_n 2, 1) := by decide +kernel
theorem dX7_part_38 : decode cX7_part 38 = .ok (.iadd, 1) := by decide +kernel
theorem dX7_part_39 : decode cX7_part 39 = .ok (.laload, 1) := by decide +kernel
theorem dX7_part_40 : decode cX7_part 40 = .ok (.goto 4, 3) := by decide +kernel
theorem dX7_part_43 : decode cX7_part 43 = .ok (.lconst 0, 1) := by decide +kernel
theorem dX7_part_44 : decode cX7_part 44 = .ok (.lreturn, 1) := by decide +kernel
set_option maxRecDepth 20000 in
theorem ggX7_times_X7_isIn : GoodIn wsX7_times wsX7_isIn := goodIn_r _ [7] (by decide +kernel) (by decide +kernel)
set_option maxRecDepth 20000 in
theorem gX7_times_X7_isIn : GoodIn wsX7_times (va_wsS RX7 66 yX7_isIn wsX7_isIn) := goodIn_app (goodIn_of _ (by decide +kernel)) ggX7_times_X7_isIn
theorem dX7_times_0 : decode cX7_times 0 = .ok (.aload_n 0, 1) := by decide +kernel
theorem dX7_times_1 : decode cX7_times 1 = .ok (.iconst 0, 1) := by decide +kernel
theorem dX7_times_2 : decode cX7_times 2 = .ok (.putfield 35, 3) := by decide +kernel
theorem dX7_times_5 : decode cX7_times 5 = .ok (.iload_n 1, 1) := by decide +kernel
theorem dX7_times_6 : decode cX7_times 6 = .ok (.iconst 0, 1) := by decide +kernel
theorem dX7_times_7 : decode cX7_times 7 = .ok (.aload_n 0, 1) := by decide +kernel
theorem dX7_times_8 : decode cX7_times 8 = .ok (.getfield 161, 3) := by decide +kernel
theorem dX7_times_11 : decode cX7_times 11 = .ok (.iconst 1, 1) := by decide +kernel
theorem dX7_times_12 : decode cX7_times 12 = .ok (.isub, 1) := by decide +kernel
theorem dX7_times_13 : decode cX7_times 13 = .ok (.invokestatic 66, 3) := by decide +kernel
theorem dX7_times_16 : decode cX7_times 16 = .ok (.ifCond .eq 12, 3) := by decide +kernel
theorem dX7_times_19 : decode cX7_times 19 = .ok (.aload_n 0, 1) := by decide +kernel
theorem dX7_times_20 : decode cX7_times 20 = .ok (.getfield 23, 3) := by decide +kernel
theorem dX7_times_23 : decode cX7_times 23 = .ok (.iload_n 1, 1) := by decide +kernel
theorem dX7_times_24 : decode cX7_times 24 = .ok (.iaload, 1) := by decide +kernel
theorem dX7_times_25 : decode cX7_times 25 = .ok (.goto 4, 3) := by decide +kernel
theorem dX7_times_28 : decode cX7_times 28 = .ok (.iconst 0, 1) := by decide +kernel
theorem dX7_times_29 : decode cX7_times 29 = .ok (.ireturn, 1) := by decide +kernel
theorem dX7_content_0 : decode cX7_content 0 = .ok (.aload_n 0, 1) := by decide +kernel
theorem dX7_content_1 : decode cX7_content 1 = .ok (.iconst 0, 1) := by decide +kernel
theorem dX7_content_2 : decode cX7_content 2 = .ok (.putfield 35, 3) := by decide +kernel
theorem dX7_content_5 : decode cX7_content 5 = .ok (.aload_n 0, 1) := by decide +kernel
theorem dX7_content_6 : decode cX7_content 6 = .ok (.getfield 164, 3) := by decide +kernel
theorem dX7_content_9 : decode cX7_content 9 = .ok (.ireturn, 1) := by decide +kernel
theorem dX7_modDegree_0 : decode cX7_modDegree 0 = .ok (.bipush 15, 2) := by decide +kernel
theorem dX7_modDegree_2 : decode cX7_modDegree 2 = .ok (.istore_n 2, 1) := by decide +kernel
theorem dX7_modDegree_3 : decode cX7_modDegree 3 = .ok (.iload_n 2, 1) := by decide +kernel
theorem dX7_modDegree_4 : decode cX7_modDegree 4 = .ok (.ifCond .lt 23, 3) := by decide +kernel
theorem dX7_modDegree_7 : decode cX7_modDegree 7 = .ok (.aload_n 0, 1) := by decide +kernel
theorem dX7_modDegree_8 : decode cX7_modDegree 8 = .ok (.getfield 32, 3) := by decide +kernel
theorem dX7_modDegree_11 : decode cX7_modDegree 11 = .ok (.bipush 16, 2) := by decide +kernel
theorem dX7_modDegree_13 : decode cX7_modDegree 13 = .ok (.iload_n 1, 1) := by decide +kernel
theorem dX7_modDegree_14 : decode cX7_modDegree 14 = .ok (.imul, 1) := by decide +kernel
theorem dX7_modDegree_15 : decode cX7_modDegree 15 = .ok (.iload_n 2, 1) := by decide +kernel
theorem dX7_modDegree_16 : decode cX7_modDegree 16 = .ok (.iadd, 1) := by decide +kernel
theorem dX7_modDegree_17 : decode cX7_modDegree 17 = .ok (.iaload, 1) := by decide +kernel
theorem dX7_modDegree_18 : decode cX7_modDegree 18 = .ok (.ifCond .ne 9, 3) := by decide +kernel
theorem dX7_modDegree_21 : decode cX7_modDegree 21 = .ok (.iinc 2 (-1), 3) := by decide +kernel
theorem dX7_modDegree_24 : decode cX7_modDegree 24 = .ok (.goto (-21), 3) := by decide +kernel
theorem dX7_modDegree_27 : decode cX7_modDegree 27 = .ok (.iload_n 2, 1) := by decide +kernel
theorem dX7_modDegree_28 : decode cX7_modDegree 28 = .ok (.ireturn, 1) := by decide +kernel
theorem dX7_modCopy_0 : decode cX7_modCopy 0 = .ok (.iconst 0, 1) := by decide +kernel
theorem dX7_modCopy_1 : decode cX7_modCopy 1 = .ok (.istore_n 3, 1) := by decide +kernel
