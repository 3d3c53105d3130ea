theorem dX7_pattern_62 : decode cX7_pattern 62 = .ok (.aload_n 0, 1) := by decide +kernel
theorem dX7_pattern_63 : decode cX7_pattern 63 = .ok (.getfield 32, 3) := by decide +kernel
theorem dX7_pattern_66 : decode cX7_pattern 66 = .ok (.iload 4, 2) := by decide +kernel
theorem dX7_pattern_68 : decode cX7_pattern 68 = .ok (.iload 4, 2) := by decide +kernel
theorem dX7_pattern_70 : decode cX7_pattern 70 = .ok (.iload_n 3, 1) := by decide +kernel
theorem dX7_pattern_71 : decode cX7_pattern 71 = .ok (.if_icmp .gt 28, 3) := by decide +kernel
theorem dX7_pattern_74 : decode cX7_pattern 74 = .ok (.aload_n 0, 1) := by decide +kernel
theorem dX7_pattern_75 : decode cX7_pattern 75 = .ok (.getfield 7, 3) := by decide +kernel
theorem dX7_pattern_78 : decode cX7_pattern 78 = .ok (.bipush 8, 2) := by decide +kernel
theorem dX7_pattern_80 : decode cX7_pattern 80 = .ok (.iload_n 1, 1) := by decide +kernel
theorem dX7_pattern_81 : decode cX7_pattern 81 = .ok (.imul, 1) := by decide +kernel
theorem dX7_pattern_82 : decode cX7_pattern 82 = .ok (.iload 4, 2) := by decide +kernel
theorem dX7_pattern_84 : decode cX7_pattern 84 = .ok (.iadd, 1) := by decide +kernel
theorem dX7_pattern_85 : decode cX7_pattern 85 = .ok (.laload, 1) := by decide +kernel
theorem dX7_pattern_86 : decode cX7_pattern 86 = .ok (.iload_n 2, 1) := by decide +kernel
theorem dX7_pattern_87 : decode cX7_pattern 87 = .ok (.i2l, 1) := by decide +kernel
theorem dX7_pattern_88 : decode cX7_pattern 88 = .ok (.lrem, 1) := by decide +kernel
theorem dX7_pattern_89 : decode cX7_pattern 89 = .ok (.iload_n 2, 1) := by decide +kernel
theorem dX7_pattern_90 : decode cX7_pattern 90 = .ok (.i2l, 1) := by decide +kernel
theorem dX7_pattern_91 : decode cX7_pattern 91 = .ok (.ladd, 1) := by decide +kernel
theorem dX7_pattern_92 : decode cX7_pattern 92 = .ok (.iload_n 2, 1) := by decide +kernel
theorem dX7_pattern_93 : decode cX7_pattern 93 = .ok (.i2l, 1) := by decide +kernel
theorem dX7_pattern_94 : decode cX7_pattern 94 = .ok (.lrem, 1) := by decide +kernel
theorem dX7_pattern_95 : decode cX7_pattern 95 = .ok (.l2i, 1) := by decide +kernel
theorem dX7_pattern_96 : decode cX7_pattern 96 = .ok (.goto 4, 3) := by decide +kernel
theorem dX7_pattern_99 : decode cX7_pattern 99 = .ok (.iconst 0, 1) := by decide +kernel
theorem dX7_pattern_100 : decode cX7_pattern 100 = .ok (.iastore, 1) := by decide +kernel
theorem dX7_pattern_101 : decode cX7_pattern 101 = .ok (.aload_n 0, 1) := by decide +kernel
theorem dX7_pattern_102 : decode cX7_pattern 102 = .ok (.getfield 32, 3) := by decide +kernel
theorem dX7_pattern_105 : decode cX7_pattern 105 = .ok (.bipush 16, 2) := by decide +kernel
theorem dX7_pattern_107 : decode cX7_pattern 107 = .ok (.iload 4, 2) := by decide +kernel
theorem dX7_pattern_109 : decode cX7_pattern 109 = .ok (.iadd, 1) := by decide +kernel
theorem dX7_pattern_110 : decode cX7_pattern 110 = .ok (.aload_n 0, 1) := by decide +kernel
theorem dX7_pattern_111 : decode cX7_pattern 111 = .ok (.getfield 32, 3) := by decide +kernel
theorem dX7_pattern_114 : decode cX7_pattern 114 = .ok (.iload 4, 2) := by decide +kernel
theorem dX7_pattern_116 : decode cX7_pattern 116 = .ok (.iaload, 1) := by decide +kernel
theorem dX7_pattern_117 : decode cX7_pattern 117 = .ok (.iastore, 1) := by decide +kernel
theorem dX7_pattern_118 : decode cX7_pattern 118 = .ok (.iinc 4 1, 3) := by decide +kernel
theorem dX7_pattern_121 : decode cX7_pattern 121 = .ok (.goto (-66), 3) := by decide +kernel
theorem dX7_pattern_124 : decode cX7_pattern 124 = .ok (.iconst 0, 1) := by decide +kernel
theorem dX7_pattern_125 : decode cX7_pattern 125 = .ok (.istore 4, 2) := by decide +kernel
theorem dX7_pattern_127 : decode cX7_pattern 127 = .ok (.iload 4, 2) := by decide +kernel
theorem dX7_pattern_129 : decode cX7_pattern 129 = .ok (.bipush 16, 2) := by decide +kernel
theorem dX7_pattern_131 : decode cX7_pattern 131 = .ok (.if_icmp .ge 45, 3) := by decide +kernel
theorem dX7_pattern_134 : decode cX7_pattern 134 = .ok (.aload_n 0, 1) := by decide +kernel
theorem dX7_pattern_135 : decode cX7_pattern 135 = .ok (.getfield 32, 3) := by decide +kernel
theorem dX7_pattern_138 : decode cX7_pattern 138 = .ok (.bipush 32, 2) := by decide +kernel
theorem dX7_pattern_140 : decode cX7_pattern 140 = .ok (.iload 4, 2) := by decide +kernel
theorem dX7_pattern_142 : decode cX7_pattern 142 = .ok (.iadd, 1) := by decide +kernel
theorem dX7_pattern_143 : decode cX7_pattern 143 = .ok (.iload 4, 2) := by decide +kernel
theorem dX7_pattern_145 : decode cX7_pattern 145 = .ok (.iload_n 3, 1) := by decide +kernel
theorem dX7_pattern_146 : decode cX7_pattern 146 = .ok (.if_icmp .ge 22, 3) := by decide +kernel
theorem dX7_pattern_149 : decode cX7_pattern 149 = .ok (.aload_n 0, 1) := by decide +kernel
theorem dX7_pattern_150 : decode cX7_pattern 150 = .ok (.getfield 32, 3) := by decide +kernel
theorem dX7_pattern_153 : decode cX7_pattern 153 = .ok (.iload 4, 2) := by decide +kernel
theorem dX7_pattern_155 : decode cX7_pattern 155 = .ok (.iconst 1, 1) := by decide +kernel
theorem dX7_pattern_156 : decode cX7_pattern 156 = .ok (.iadd, 1) := by decide +kernel
theorem dX7_pattern_157 : decode cX7_pattern 157 = .ok (.iaload, 1) := by decide +kernel
theorem dX7_pattern_158 : decode cX7_pattern 158 = .ok (.iload 4, 2) := by decide +kernel
theorem dX7_pattern_160 : decode cX7_pattern 160 = .ok (.iconst 1, 1) := by decide +kernel
theorem dX7_pattern_161 : decode cX7_pattern 161 = .ok (.iadd, 1) := by decide +kernel
theorem dX7_pattern_162 : decode cX7_pattern 162 = .ok (.imul, 1) := by decide +kernel
theorem dX7_pattern_163 : decode cX7_pattern 163 = .ok (.iload_n 2, 1) := by decide +kernel
theorem dX7_pattern_164 : decode cX7_pattern 164 = .ok (.irem, 1) := by decide +kernel
theorem dX7_pattern_165 : decode cX7_pattern 165 = .ok (.goto 4, 3) := by decide +kernel
theorem dX7_pattern_168 : decode cX7_pattern 168 = .ok (.iconst 0, 1) := by decide +kernel
theorem dX7_pattern_169 : decode cX7_pattern 169 = .ok (.iastore, 1) := by decide +kernel
theorem dX7_pattern_170 : decode cX7_pattern 170 = .ok (.iinc 4 1, 3) := by decide +kernel
theorem dX7_pattern_173 : decode cX7_pattern 173 = .ok (.goto (-46), 3) := by decide +kernel
theorem dX7_pattern_176 : decode cX7_pattern 176 = .ok (.aload_n 0, 1) := by decide +kernel
theorem dX7_pattern_177 : decode cX7_pattern 177 = .ok (.getfield 32, 3) := by decide +kernel
theorem dX7_pattern_180 : decode cX7_pattern 180 = .ok (.iload_n 3, 1) := by decide +kernel
theorem dX7_pattern_181 : decode cX7_pattern 181 = .ok (.iaload, 1) := by decide +kernel
theorem dX7_pattern_182 : decode cX7_pattern 182 = .ok (.ifCond .ne 5, 3) := by decide +kernel
theorem dX7_pattern_185 : decode cX7_pattern 185 = .ok (.iconst (-1), 1) := by decide +kernel
theorem dX7_pattern_186 : decode cX7_pattern 186 = .ok (.ireturn, 1) := by decide +kernel
theorem dX7_pattern_187 : decode cX7_pattern 187 = .ok (.aload_n 0, 1) := by decide +kernel
theorem dX7_pattern_188 : decode cX7_pattern 188 = .ok (.invokevirtual 191, 3) := by decide +kernel
theorem dX7_pattern_191 : decode cX7_pattern 191 = .ok (.aload_n 0, 1) := by decide +kernel
theorem dX7_pattern_192 : decode cX7_pattern 192 = .ok (.iconst 3, 1) := by decide +kernel
theorem dX7_pattern_193 : decode cX7_pattern 193 = .ok (.invokevirtual 170, 3) := by decide +kernel
theorem dX7_pattern_196 : decode cX7_pattern 196 = .ok (.ifCond .le 5, 3) := by decide +kernel
theorem dX7_pattern_199 : decode cX7_pattern 199 = .ok (.iconst (-1), 1) := by decide +kernel
theorem dX7_pattern_200 : decode cX7_pattern 200 = .ok (.ireturn, 1) := by decide +kernel
theorem dX7_pattern_201 : decode cX7_pattern 201 = .ok (.iconst 0, 1) := by decide +kernel
theorem dX7_pattern_202 : decode cX7_pattern 202 = .ok (.istore 4, 2) := by decide +kernel
theorem dX7_pattern_204 : decode cX7_pattern 204 = .ok (.iload 4, 2) := by decide +kernel
theorem dX7_pattern_206 : decode cX7_pattern 206 = .ok (.bipush 16, 2) := by decide +kernel
theorem dX7_pattern_208 : decode cX7_pattern 208 = .ok (.if_icmp .ge 30, 3) := by decide +kernel
theorem dX7_pattern_211 : decode cX7_pattern 211 = .ok (.aload_n 0, 1) := by decide +kernel
theorem dX7_pattern_212 : decode cX7_pattern 212 = .ok (.getfield 32, 3) := by decide +kernel
theorem dX7_pattern_215 : decode cX7_pattern 215 = .ok (.bipush 64, 2) := by decide +kernel
theorem dX7_pattern_217 : decode cX7_pattern 217 = .ok (.iload 4, 2) := by decide +kernel
theorem dX7_pattern_219 : decode cX7_pattern 219 = .ok (.iadd, 1) := by decide +kernel
theorem dX7_pattern_220 : decode cX7_pattern 220 = .ok (.iload 4, 2) := by decide +kernel
theorem dX7_pattern_222 : decode cX7_pattern 222 = .ok (.iconst 1, 1) := by decide +kernel
theorem dX7_pattern_223 : decode cX7_pattern 223 = .ok (.if_icmp .ne 7, 3) := by decide +kernel
theorem dX7_pattern_226 : decode cX7_pattern 226 = .ok (.iconst 1, 1) := by decide +kernel
theorem dX7_pattern_227 : decode cX7_pattern 227 = .ok (.goto 4, 3) := by decide +kernel
theorem dX7_pattern_230 : decode cX7_pattern 230 = .ok (.iconst 0, 1) := by decide +kernel
theorem dX7_pattern_231 : decode cX7_pattern 231 = .ok (.iastore, 1) := by decide +kernel
theorem dX7_pattern_232 : decode cX7_pattern 232 = .ok (.iinc 4 1, 3) := by decide +kernel
theorem dX7_pattern_235 : decode cX7_pattern 235 = .ok (.goto (-31), 3) := by decide +kernel
theorem dX7_pattern_238 : decode cX7_pattern 238 = .ok (.iconst 1, 1) := by decide +kernel
theorem dX7_pattern_239 : decode cX7_pattern 239 = .ok (.istore 4, 2) := by decide +kernel
theorem dX7_pattern_241 : decode cX7_pattern 241 = .ok (.aload_n 0, 1) := by decide +kernel
theorem dX7_pattern_242 : decode cX7_pattern 242 = .ok (.iconst 0, 1) := by decide +kernel
theorem dX7_pattern_243 : decode cX7_pattern 243 = .ok (.invokevirtual 170, 3) := by decide +kernel
theorem dX7_pattern_246 : decode cX7_pattern 246 = .ok (.ifCond .le 128, 3) := by decide +kernel
theorem dX7_pattern_249 : decode cX7_pattern 249 = .ok (.aload_n 0, 1) := by decide +kernel
theorem dX7_pattern_250 : decode cX7_pattern 250 = .ok (.iconst 4, 1) := by decide +kernel
theorem dX7_pattern_251 : decode cX7_pattern 251 = .ok (.iconst 0, 1) := by decide +kernel
theorem dX7_pattern_252 : decode cX7_pattern 252 = .ok (.invokevirtual 176, 3) := by decide +kernel
theorem dX7_pattern_255 : decode cX7_pattern 255 = .ok (.aload_n 0, 1) := by decide +kernel
theorem dX7_pattern_256 : decode cX7_pattern 256 = .ok (.invokevirtual 194, 3) := by decide +kernel
theorem dX7_pattern_259 : decode cX7_pattern 259 = .ok (.aload_n 0, 1) := by decide +kernel
theorem dX7_pattern_260 : decode cX7_pattern 260 = .ok (.iconst 1, 1) := by decide +kernel
theorem dX7_pattern_261 : decode cX7_pattern 261 = .ok (.iconst 0, 1) := by decide +kernel
theorem dX7_pattern_262 : decode cX7_pattern 262 = .ok (.invokevirtual 179, 3) := by decide +kernel
theorem dX7_pattern_265 : decode cX7_pattern 265 = .ok (.aload_n 0, 1) := by decide +kernel
theorem dX7_pattern_266 : decode cX7_pattern 266 = .ok (.iconst 2, 1) := by decide +kernel
theorem dX7_pattern_267 : decode cX7_pattern 267 = .ok (.iconst 4, 1) := by decide +kernel
theorem dX7_pattern_268 : decode cX7_pattern 268 = .ok (.invokevirtual 179, 3) := by decide +kernel
theorem dX7_pattern_271 : decode cX7_pattern 271 = .ok (.aload_n 0, 1) := by decide +kernel
theorem dX7_pattern_272 : decode cX7_pattern 272 = .ok (.getfield 32, 3) := by decide +kernel
theorem dX7_pattern_275 : decode cX7_pattern 275 = .ok (.bipush 33, 2) := by decide +kernel
theorem dX7_pattern_277 : decode cX7_pattern 277 = .ok (.aload_n 0, 1) := by decide +kernel
theorem dX7_pattern_278 : decode cX7_pattern 278 = .ok (.getfield 32, 3) := by decide +kernel
theorem dX7_pattern_281 : decode cX7_pattern 281 = .ok (.bipush 33, 2) := by decide +kernel
theorem dX7_pattern_283 : decode cX7_pattern 283 = .ok (.iaload, 1) := by decide +kernel
theorem dX7_pattern_284 : decode cX7_pattern 284 = .ok (.iload_n 2, 1) := by decide +kernel
theorem dX7_pattern_285 : decode cX7_pattern 285 = .ok (.iadd, 1) := by decide +kernel
theorem dX7_pattern_286 : decode cX7_pattern 286 = .ok (.iconst 1, 1) := by decide +kernel
theorem dX7_pattern_287 : decode cX7_pattern 287 = .ok (.isub, 1) := by decide +kernel
theorem dX7_pattern_288 : decode cX7_pattern 288 = .ok (.iload_n 2, 1) := by decide +kernel
theorem dX7_pattern_289 : decode cX7_pattern 289 = .ok (.irem, 1) := by decide +kernel
theorem dX7_pattern_290 : decode cX7_pattern 290 = .ok (.iastore, 1) := by decide +kernel
theorem dX7_pattern_291 : decode cX7_pattern 291 = .ok (.aload_n 0, 1) := by decide +kernel
theorem dX7_pattern_292 : decode cX7_pattern 292 = .ok (.invokevirtual 191, 3) := by decide +kernel
theorem dX7_pattern_295 : decode cX7_pattern 295 = .ok (.aload_n 0, 1) := by decide +kernel
theorem dX7_pattern_296 : decode cX7_pattern 296 = .ok (.iconst 3, 1) := by decide +kernel
theorem dX7_pattern_297 : decode cX7_pattern 297 = .ok (.invokevirtual 170, 3) := by decide +kernel
theorem dX7_pattern_300 : decode cX7_pattern 300 = .ok (.istore 5, 2) := by decide +kernel
theorem dX7_pattern_302 : decode cX7_pattern 302 = .ok (.iconst 0, 1) := by decide +kernel
theorem dX7_pattern_303 : decode cX7_pattern 303 = .ok (.istore 6, 2) := by decide +kernel
theorem dX7_pattern_305 : decode cX7_pattern 305 = .ok (.iload 6, 2) := by decide +kernel
theorem dX7_pattern_307 : decode cX7_pattern 307 = .ok (.iload 5, 2) := by decide +kernel
theorem dX7_pattern_309 : decode cX7_pattern 309 = .ok (.iload 4, 2) := by decide +kernel
theorem dX7_pattern_311 : decode cX7_pattern 311 = .ok (.idiv, 1) := by decide +kernel
theorem dX7_pattern_312 : decode cX7_pattern 312 = .ok (.if_icmp .ge 30, 3) := by decide +kernel
theorem dX7_pattern_315 : decode cX7_pattern 315 = .ok (.aload_n 0, 1) := by decide +kernel
theorem dX7_pattern_316 : decode cX7_pattern 316 = .ok (.getfield 26, 3) := by decide +kernel
theorem dX7_pattern_319 : decode cX7_pattern 319 = .ok (.aload_n 0, 1) := by decide +kernel
theorem dX7_pattern_320 : decode cX7_pattern 320 = .ok (.getfield 188, 3) := by decide +kernel
theorem dX7_pattern_323 : decode cX7_pattern 323 = .ok (.iload 4, 2) := by decide +kernel
theorem dX7_pattern_325 : decode cX7_pattern 325 = .ok (.iastore, 1) := by decide +kernel
theorem dX7_pattern_326 : decode cX7_pattern 326 = .ok (.aload_n 0, 1) := by decide +kernel
theorem dX7_pattern_327 : decode cX7_pattern 327 = .ok (.dup, 1) := by decide +kernel
theorem dX7_pattern_328 : decode cX7_pattern 328 = .ok (.getfield 188, 3) := by decide +kernel
theorem dX7_pattern_331 : decode cX7_pattern 331 = .ok (.iconst 1, 1) := by decide +kernel
theorem dX7_pattern_332 : decode cX7_pattern 332 = .ok (.iadd, 1) := by decide +kernel
theorem dX7_pattern_333 : decode cX7_pattern 333 = .ok (.putfield 188, 3) := by decide +kernel
theorem dX7_pattern_336 : decode cX7_pattern 336 = .ok (.iinc 6 1, 3) := by decide +kernel
theorem dX7_pattern_339 : decode cX7_pattern 339 = .ok (.goto (-34), 3) := by decide +kernel
theorem dX7_pattern_342 : decode cX7_pattern 342 = .ok (.iload 5, 2) := by decide +kernel
theorem dX7_pattern_344 : decode cX7_pattern 344 = .ok (.ifCond .le 24, 3) := by decide +kernel
theorem dX7_pattern_347 : decode cX7_pattern 347 = .ok (.aload_n 0, 1) := by decide +kernel
theorem dX7_pattern_348 : decode cX7_pattern 348 = .ok (.bipush 8, 2) := by decide +kernel
theorem dX7_pattern_350 : decode cX7_pattern 350 = .ok (.iconst 0, 1) := by decide +kernel
theorem dX7_pattern_351 : decode cX7_pattern 351 = .ok (.invokevirtual 179, 3) := by decide +kernel
theorem dX7_pattern_354 : decode cX7_pattern 354 = .ok (.aload_n 0, 1) := by decide +kernel
theorem dX7_pattern_355 : decode cX7_pattern 355 = .ok (.bipush 8, 2) := by decide +kernel
theorem dX7_pattern_357 : decode cX7_pattern 357 = .ok (.iconst 3, 1) := by decide +kernel
theorem dX7_pattern_358 : decode cX7_pattern 358 = .ok (.invokevirtual 176, 3) := by decide +kernel
theorem dX7_pattern_361 : decode cX7_pattern 361 = .ok (.aload_n 0, 1) := by decide +kernel
theorem dX7_pattern_362 : decode cX7_pattern 362 = .ok (.iconst 0, 1) := by decide +kernel
theorem dX7_pattern_363 : decode cX7_pattern 363 = .ok (.bipush 9, 2) := by decide +kernel
theorem dX7_pattern_365 : decode cX7_pattern 365 = .ok (.invokevirtual 179, 3) := by decide +kernel
theorem dX7_pattern_368 : decode cX7_pattern 368 = .ok (.iinc 4 1, 3) := by decide +kernel
theorem dX7_pattern_371 : decode cX7_pattern 371 = .ok (.goto (-130), 3) := by decide +kernel
theorem dX7_pattern_374 : decode cX7_pattern 374 = .ok (.aload_n 0, 1) := by decide +kernel
theorem dX7_pattern_375 : decode cX7_pattern 375 = .ok (.getfield 188, 3) := by decide +kernel
theorem dX7_pattern_378 : decode cX7_pattern 378 = .ok (.ireturn, 1) := by decide +kernel
set_option maxRecDepth 20000 in
theorem ggX7_degree_X7_isIn : GoodIn wsX7_degree wsX7_isIn := goodIn_r _ [7] (by decide +kernel) (by decide +kernel)
set_option maxRecDepth 20000 in
theorem gX7_degree_X7_isIn : GoodIn wsX7_degree (va_wsS RX7 66 yX7_isIn wsX7_isIn) := goodIn_app (goodIn_of _ (by decide +kernel)) ggX7_degree_X7_isIn
theorem dX7_degree_0 : decode cX7_degree 0 = .ok (.aload_n 0, 1) := by decide +kernel
theorem dX7_degree_1 : decode cX7_degree 1 = .ok (.iconst 0, 1) := by decide +kernel
theorem dX7_degree_2 : decode cX7_degree 2 = .ok (.putfield 35, 3) := by decide +kernel
theorem dX7_degree_5 : decode cX7_degree 5 = .ok (.iload_n 1, 1) := by decide +kernel
theorem dX7_degree_6 : decode cX7_degree 6 = .ok (.iconst 0, 1) := by decide +kernel
theorem dX7_degree_7 : decode cX7_degree 7 = .ok (.aload_n 0, 1) := by decide +kernel
theorem dX7_degree_8 : decode cX7_degree 8 = .ok (.getfield 188, 3) := by decide +kernel
theorem dX7_degree_11 : decode cX7_degree 11 = .ok (.iconst 1, 1) := by decide +kernel
theorem dX7_degree_12 : decode cX7_degree 12 = .ok (.isub, 1) := by decide +kernel
theorem dX7_degree_13 : decode cX7_degree 13 = .ok (.invokestatic 66, 3) := by decide +kernel
theorem dX7_degree_16 : decode cX7_degree 16 = .ok (.ifCond .eq 12, 3) := by decide +kernel
theorem dX7_degree_19 : decode cX7_degree 19 = .ok (.aload_n 0, 1) := by decide +kernel
theorem dX7_degree_20 : decode cX7_degree 20 = .ok (.getfield 26, 3) := by decide +kernel
theorem dX7_degree_23 : decode cX7_degree 23 = .ok (.iload_n 1, 1) := by decide +kernel
theorem dX7_degree_24 : decode cX7_degree 24 = .ok (.iaload, 1) := by decide +kernel
theorem dX7_degree_25 : decode cX7_degree 25 = .ok (.goto 4, 3) := by decide +kernel
theorem dX7_degree_28 : decode cX7_degree 28 = .ok (.iconst 0, 1) := by decide +kernel
theorem dX7_degree_29 : decode cX7_degree 29 = .ok (.ireturn, 1) := by decide +kernel
set_option maxRecDepth 20000 in
theorem ggX7_galois_X7_isSlot : GoodIn wsX7_galois wsX7_isSlot := goodIn_r _ [7] (by decide +kernel) (by decide +kernel)
set_option maxRecDepth 20000 in
theorem gX7_galois_X7_isSlot : GoodIn wsX7_galois (va_wsS RX7 63 yX7_isSlot wsX7_isSlot) := goodIn_app (goodIn_of _ (by decide +kernel)) ggX7_galois_X7_isSlot
set_option maxRecDepth 20000 in
theorem ggX7_galois_X7_refused : GoodIn wsX7_galois wsX7_refused := goodIn_r _ [11, 12, 160, 161, 162, 163, 164, 165, 166, 167, 168, 169, 170, 171, 172, 173, 174, 175, 176, 177, 178, 179, 180, 181, 182, 183, 184] (by decide +kernel) (by decide +kernel)
set_option maxRecDepth 20000 in
theorem gX7_galois_X7_refused : GoodIn wsX7_galois (wsV RX7 70 RX7 yX7_refused wsX7_refused) := goodIn_app (goodIn_of _ (by decide +kernel)) ggX7_galois_X7_refused
set_option maxRecDepth 20000 in
theorem ggX7_galois_X7_degreeOf : GoodIn wsX7_galois wsX7_degreeOf := goodIn_r _ [16, 3, 160, 161, 162, 163, 164, 165, 166, 167, 168, 169, 170, 171, 172, 173, 174, 175, 176, 177, 178, 179, 180, 181, 182, 183, 184] (by decide +kernel) (by decide +kernel)
set_option maxRecDepth 20000 in
theorem gX7_galois_X7_degreeOf : GoodIn wsX7_galois (wsV RX7 39 RX7 yX7_degreeOf wsX7_degreeOf) := goodIn_app (goodIn_of _ (by decide +kernel)) ggX7_galois_X7_degreeOf
theorem dX7_galois_0 : decode cX7_galois 0 = .ok (.aload_n 0, 1) := by decide +kernel
theorem dX7_galois_1 : decode cX7_galois 1 = .ok (.iload_n 1, 1) := by decide +kernel
theorem dX7_galois_2 : decode cX7_galois 2 = .ok (.invokestatic 63, 3) := by decide +kernel
theorem dX7_galois_5 : decode cX7_galois 5 = .ok (.ifCond .eq 7, 3) := by decide +kernel
theorem dX7_galois_8 : decode cX7_galois 8 = .ok (.iconst 0, 1) := by decide +kernel
theorem dX7_galois_9 : decode cX7_galois 9 = .ok (.goto 4, 3) := by decide +kernel
theorem dX7_galois_12 : decode cX7_galois 12 = .ok (.iconst 1, 1) := by decide +kernel
theorem dX7_galois_13 : decode cX7_galois 13 = .ok (.invokevirtual 70, 3) := by decide +kernel
theorem dX7_galois_16 : decode cX7_galois 16 = .ok (.ifCond .eq 5, 3) := by decide +kernel
theorem dX7_galois_19 : decode cX7_galois 19 = .ok (.iconst 0, 1) := by decide +kernel
theorem dX7_galois_20 : decode cX7_galois 20 = .ok (.ireturn, 1) := by decide +kernel
theorem dX7_galois_21 : decode cX7_galois 21 = .ok (.aload_n 0, 1) := by decide +kernel
theorem dX7_galois_22 : decode cX7_galois 22 = .ok (.iload_n 1, 1) := by decide +kernel
theorem dX7_galois_23 : decode cX7_galois 23 = .ok (.invokevirtual 39, 3) := by decide +kernel
theorem dX7_galois_26 : decode cX7_galois 26 = .ok (.istore_n 2, 1) := by decide +kernel
theorem dX7_galois_27 : decode cX7_galois 27 = .ok (.iload_n 2, 1) := by decide +kernel
theorem dX7_galois_28 : decode cX7_galois 28 = .ok (.iconst 1, 1) := by decide +kernel
theorem dX7_galois_29 : decode cX7_galois 29 = .ok (.if_icmp .lt 8, 3) := by decide +kernel
theorem dX7_galois_32 : decode cX7_galois 32 = .ok (.iload_n 2, 1) := by decide +kernel
theorem dX7_galois_33 : decode cX7_galois 33 = .ok (.iconst 4, 1) := by decide +kernel
theorem dX7_galois_34 : decode cX7_galois 34 = .ok (.if_icmp .le 5, 3) := by decide +kernel
theorem dX7_galois_37 : decode cX7_galois 37 = .ok (.iconst 0, 1) := by decide +kernel
theorem dX7_galois_38 : decode cX7_galois 38 = .ok (.ireturn, 1) := by decide +kernel
theorem dX7_galois_39 : decode cX7_galois 39 = .ok (.aload_n 0, 1) := by decide +kernel
theorem dX7_galois_40 : decode cX7_galois 40 = .ok (.iload_n 1, 1) := by decide +kernel
theorem dX7_galois_41 : decode cX7_galois 41 = .ok (.invokevirtual 152, 3) := by decide +kernel
theorem dX7_galois_44 : decode cX7_galois 44 = .ok (.aload_n 0, 1) := by decide +kernel
theorem dX7_galois_45 : decode cX7_galois 45 = .ok (.getfield 83, 3) := by decide +kernel
theorem dX7_galois_48 : decode cX7_galois 48 = .ok (.iconst 1, 1) := by decide +kernel
theorem dX7_galois_49 : decode cX7_galois 49 = .ok (.if_icmp .ne 13, 3) := by decide +kernel
theorem dX7_galois_52 : decode cX7_galois 52 = .ok (.aload_n 0, 1) := by decide +kernel
theorem dX7_galois_53 : decode cX7_galois 53 = .ok (.getfield 13, 3) := by decide +kernel
theorem dX7_galois_56 : decode cX7_galois 56 = .ok (.iconst 0, 1) := by decide +kernel
theorem dX7_galois_57 : decode cX7_galois 57 = .ok (.iaload, 1) := by decide +kernel
theorem dX7_galois_58 : decode cX7_galois 58 = .ok (.iconst 1, 1) := by decide +kernel
theorem dX7_galois_59 : decode cX7_galois 59 = .ok (.if_icmp .eq 5, 3) := by decide +kernel
theorem dX7_galois_62 : decode cX7_galois 62 = .ok (.iconst 0, 1) := by decide +kernel
theorem dX7_galois_63 : decode cX7_galois 63 = .ok (.ireturn, 1) := by decide +kernel
theorem dX7_galois_64 : decode cX7_galois 64 = .ok (.bipush 96, 2) := by decide +kernel
theorem dX7_galois_66 : decode cX7_galois 66 = .ok (.istore_n 3, 1) := by decide +kernel
theorem dX7_galois_67 : decode cX7_galois 67 = .ok (.iload_n 2, 1) := by decide +kernel
theorem dX7_galois_68 : decode cX7_galois 68 = .ok (.iconst 3, 1) := by decide +kernel
theorem dX7_galois_69 : decode cX7_galois 69 = .ok (.if_icmp .ge 5, 3) := by decide +kernel
theorem dX7_galois_72 : decode cX7_galois 72 = .ok (.iload_n 2, 1) := by decide +kernel
theorem dX7_galois_73 : decode cX7_galois 73 = .ok (.ireturn, 1) := by decide +kernel
theorem dX7_galois_74 : decode cX7_galois 74 = .ok (.iload_n 2, 1) := by decide +kernel
theorem dX7_galois_75 : decode cX7_galois 75 = .ok (.iconst 3, 1) := by decide +kernel
theorem dX7_galois_76 : decode cX7_galois 76 = .ok (.if_icmp .ne 40, 3) := by decide +kernel
theorem dX7_galois_79 : decode cX7_galois 79 = .ok (.aload_n 0, 1) := by decide +kernel
theorem dX7_galois_80 : decode cX7_galois 80 = .ok (.aload_n 0, 1) := by decide +kernel
theorem dX7_galois_81 : decode cX7_galois 81 = .ok (.getfield 7, 3) := by decide +kernel
theorem dX7_galois_84 : decode cX7_galois 84 = .ok (.iload_n 3, 1) := by decide +kernel
theorem dX7_galois_85 : decode cX7_galois 85 = .ok (.iconst 3, 1) := by decide +kernel
theorem dX7_galois_86 : decode cX7_galois 86 = .ok (.iadd, 1) := by decide +kernel
theorem dX7_galois_87 : decode cX7_galois 87 = .ok (.laload, 1) := by decide +kernel
theorem dX7_galois_88 : decode cX7_galois 88 = .ok (.aload_n 0, 1) := by decide +kernel
theorem dX7_galois_89 : decode cX7_galois 89 = .ok (.getfield 7, 3) := by decide +kernel
theorem dX7_galois_92 : decode cX7_galois 92 = .ok (.iload_n 3, 1) := by decide +kernel
theorem dX7_galois_93 : decode cX7_galois 93 = .ok (.iconst 2, 1) := by decide +kernel
theorem dX7_galois_94 : decode cX7_galois 94 = .ok (.iadd, 1) := by decide +kernel
theorem dX7_galois_95 : decode cX7_galois 95 = .ok (.laload, 1) := by decide +kernel
theorem dX7_galois_96 : decode cX7_galois 96 = .ok (.aload_n 0, 1) := by decide +kernel
theorem dX7_galois_97 : decode cX7_galois 97 = .ok (.getfield 7, 3) := by decide +kernel
theorem dX7_galois_100 : decode cX7_galois 100 = .ok (.iload_n 3, 1) := by decide +kernel
theorem dX7_galois_101 : decode cX7_galois 101 = .ok (.iconst 1, 1) := by decide +kernel
theorem dX7_galois_102 : decode cX7_galois 102 = .ok (.iadd, 1) := by decide +kernel
theorem dX7_galois_103 : decode cX7_galois 103 = .ok (.laload, 1) := by decide +kernel
theorem dX7_galois_104 : decode cX7_galois 104 = .ok (.aload_n 0, 1) := by decide +kernel
theorem dX7_galois_105 : decode cX7_galois 105 = .ok (.getfield 7, 3) := by decide +kernel
theorem dX7_galois_108 : decode cX7_galois 108 = .ok (.iload_n 3, 1) := by decide +kernel
theorem dX7_galois_109 : decode cX7_galois 109 = .ok (.laload, 1) := by decide +kernel
theorem dX7_galois_110 : decode cX7_galois 110 = .ok (.invokevirtual 266, 3) := by decide +kernel
theorem dX7_galois_113 : decode cX7_galois 113 = .ok (.goto 45, 3) := by decide +kernel
theorem dX7_galois_116 : decode cX7_galois 116 = .ok (.aload_n 0, 1) := by decide +kernel
theorem dX7_galois_117 : decode cX7_galois 117 = .ok (.aload_n 0, 1) := by decide +kernel
theorem dX7_galois_118 : decode cX7_galois 118 = .ok (.getfield 7, 3) := by decide +kernel
theorem dX7_galois_121 : decode cX7_galois 121 = .ok (.iload_n 3, 1) := by decide +kernel
theorem dX7_galois_122 : decode cX7_galois 122 = .ok (.iconst 4, 1) := by decide +kernel
theorem dX7_galois_123 : decode cX7_galois 123 = .ok (.iadd, 1) := by decide +kernel
theorem dX7_galois_124 : decode cX7_galois 124 = .ok (.laload, 1) := by decide +kernel
theorem dX7_galois_125 : decode cX7_galois 125 = .ok (.aload_n 0, 1) := by decide +kernel
theorem dX7_galois_126 : decode cX7_galois 126 = .ok (.getfield 7, 3) := by decide +kernel
theorem dX7_galois_129 : decode cX7_galois 129 = .ok (.iload_n 3, 1) := by decide +kernel
theorem dX7_galois_130 : decode cX7_galois 130 = .ok (.iconst 3, 1) := by decide +kernel
theorem dX7_galois_131 : decode cX7_galois 131 = .ok (.iadd, 1) := by decide +kernel
theorem dX7_galois_132 : decode cX7_galois 132 = .ok (.laload, 1) := by decide +kernel
theorem dX7_galois_133 : decode cX7_galois 133 = .ok (.aload_n 0, 1) := by decide +kernel
theorem dX7_galois_134 : decode cX7_galois 134 = .ok (.getfield 7, 3) := by decide +kernel
theorem dX7_galois_137 : decode cX7_galois 137 = .ok (.iload_n 3, 1) := by decide +kernel
theorem dX7_galois_138 : decode cX7_galois 138 = .ok (.iconst 2, 1) := by decide +kernel
theorem dX7_galois_139 : decode cX7_galois 139 = .ok (.iadd, 1) := by decide +kernel
theorem dX7_galois_140 : decode cX7_galois 140 = .ok (.laload, 1) := by decide +kernel
theorem dX7_galois_141 : decode cX7_galois 141 = .ok (.aload_n 0, 1) := by decide +kernel
theorem dX7_galois_142 : decode cX7_galois 142 = .ok (.getfield 7, 3) := by decide +kernel
theorem dX7_galois_145 : decode cX7_galois 145 = .ok (.iload_n 3, 1) := by decide +kernel
theorem dX7_galois_146 : decode cX7_galois 146 = .ok (.iconst 1, 1) := by decide +kernel
theorem dX7_galois_147 : decode cX7_galois 147 = .ok (.iadd, 1) := by decide +kernel
theorem dX7_galois_148 : decode cX7_galois 148 = .ok (.laload, 1) := by decide +kernel
theorem dX7_galois_149 : decode cX7_galois 149 = .ok (.aload_n 0, 1) := by decide +kernel
theorem dX7_galois_150 : decode cX7_galois 150 = .ok (.getfield 7, 3) := by decide +kernel
theorem dX7_galois_153 : decode cX7_galois 153 = .ok (.iload_n 3, 1) := by decide +kernel
theorem dX7_galois_154 : decode cX7_galois 154 = .ok (.laload, 1) := by decide +kernel
theorem dX7_galois_155 : decode cX7_galois 155 = .ok (.invokevirtual 270, 3) := by decide +kernel
theorem dX7_galois_158 : decode cX7_galois 158 = .ok (.ireturn, 1) := by decide +kernel
