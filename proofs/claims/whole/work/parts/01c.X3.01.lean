theorem dX3_findCommon_66 : decode cX3_findCommon 66 = .ok (.astore 5, 2) := by decide +kernel
theorem dX3_findCommon_68 : decode cX3_findCommon 68 = .ok (.iinc 6 1, 3) := by decide +kernel
theorem dX3_findCommon_71 : decode cX3_findCommon 71 = .ok (.goto (-44), 3) := by decide +kernel
theorem dX3_findCommon_74 : decode cX3_findCommon 74 = .ok (.aload_n 0, 1) := by decide +kernel
theorem dX3_findCommon_75 : decode cX3_findCommon 75 = .ok (.aload 4, 2) := by decide +kernel
theorem dX3_findCommon_77 : decode cX3_findCommon 77 = .ok (.invokevirtual 70, 3) := by decide +kernel
theorem dX3_findCommon_80 : decode cX3_findCommon 80 = .ok (.aload_n 1, 1) := by decide +kernel
theorem dX3_findCommon_81 : decode cX3_findCommon 81 = .ok (.aload 4, 2) := by decide +kernel
theorem dX3_findCommon_83 : decode cX3_findCommon 83 = .ok (.invokevirtual 66, 3) := by decide +kernel
theorem dX3_findCommon_86 : decode cX3_findCommon 86 = .ok (.return_, 1) := by decide +kernel
set_option maxRecDepth 20000 in
theorem ggX3_multiplyModulo_J7_fill_d0a16 : GoodIn wsX3_multiplyModulo wsJ7_fill_d0a16 := goodIn_r _ [12] (by decide +kernel) (by decide +kernel)
set_option maxRecDepth 20000 in
theorem gX3_multiplyModulo_J7_fill_d0a16 : GoodIn wsX3_multiplyModulo (va_wsS RX3 76 yJ7_fill_d0a16 wsJ7_fill_d0a16) := goodIn_app (goodIn_of _ (by decide +kernel)) ggX3_multiplyModulo_J7_fill_d0a16
set_option maxRecDepth 20000 in
theorem ggX3_multiplyModulo_J9_floorMod_f86c9 : GoodIn wsX3_multiplyModulo wsJ9_floorMod_f86c9 := goodIn_r _ [16] (by decide +kernel) (by decide +kernel)
set_option maxRecDepth 20000 in
theorem gX3_multiplyModulo_J9_floorMod_f86c9 : GoodIn wsX3_multiplyModulo (va_wsS RX3 34 yJ9_floorMod_f86c9 wsJ9_floorMod_f86c9) := goodIn_app (goodIn_of _ (by decide +kernel)) ggX3_multiplyModulo_J9_floorMod_f86c9
set_option maxRecDepth 20000 in
theorem ggX3_multiplyModulo_X4_settle : GoodIn wsX3_multiplyModulo wsX4_settle := goodIn_r _ [21, 22, 23, 28, 29] (by decide +kernel) (by decide +kernel)
set_option maxRecDepth 20000 in
theorem gX3_multiplyModulo_X4_settle : GoodIn wsX3_multiplyModulo (wsV RX3 40 RX4 yX4_settle wsX4_settle) := goodIn_app (goodIn_of _ (by decide +kernel)) ggX3_multiplyModulo_X4_settle
theorem dX3_multiplyModulo_0 : decode cX3_multiplyModulo 0 = .ok (.aload_n 0, 1) := by decide +kernel
theorem dX3_multiplyModulo_1 : decode cX3_multiplyModulo 1 = .ok (.getfield 17, 3) := by decide +kernel
theorem dX3_multiplyModulo_4 : decode cX3_multiplyModulo 4 = .ok (.lconst 0, 1) := by decide +kernel
theorem dX3_multiplyModulo_5 : decode cX3_multiplyModulo 5 = .ok (.invokestatic 76, 3) := by decide +kernel
theorem dX3_multiplyModulo_8 : decode cX3_multiplyModulo 8 = .ok (.iconst 0, 1) := by decide +kernel
theorem dX3_multiplyModulo_9 : decode cX3_multiplyModulo 9 = .ok (.istore 5, 2) := by decide +kernel
theorem dX3_multiplyModulo_11 : decode cX3_multiplyModulo 11 = .ok (.iload 5, 2) := by decide +kernel
theorem dX3_multiplyModulo_13 : decode cX3_multiplyModulo 13 = .ok (.aload_n 2, 1) := by decide +kernel
theorem dX3_multiplyModulo_14 : decode cX3_multiplyModulo 14 = .ok (.getfield 47, 3) := by decide +kernel
theorem dX3_multiplyModulo_17 : decode cX3_multiplyModulo 17 = .ok (.if_icmp .gt 65, 3) := by decide +kernel
theorem dX3_multiplyModulo_20 : decode cX3_multiplyModulo 20 = .ok (.iconst 0, 1) := by decide +kernel
theorem dX3_multiplyModulo_21 : decode cX3_multiplyModulo 21 = .ok (.istore 6, 2) := by decide +kernel
theorem dX3_multiplyModulo_23 : decode cX3_multiplyModulo 23 = .ok (.iload 6, 2) := by decide +kernel
theorem dX3_multiplyModulo_25 : decode cX3_multiplyModulo 25 = .ok (.aload_n 3, 1) := by decide +kernel
theorem dX3_multiplyModulo_26 : decode cX3_multiplyModulo 26 = .ok (.getfield 47, 3) := by decide +kernel
theorem dX3_multiplyModulo_29 : decode cX3_multiplyModulo 29 = .ok (.if_icmp .gt 47, 3) := by decide +kernel
theorem dX3_multiplyModulo_32 : decode cX3_multiplyModulo 32 = .ok (.iload 5, 2) := by decide +kernel
theorem dX3_multiplyModulo_34 : decode cX3_multiplyModulo 34 = .ok (.iload 6, 2) := by decide +kernel
theorem dX3_multiplyModulo_36 : decode cX3_multiplyModulo 36 = .ok (.iadd, 1) := by decide +kernel
theorem dX3_multiplyModulo_37 : decode cX3_multiplyModulo 37 = .ok (.bipush 13, 2) := by decide +kernel
theorem dX3_multiplyModulo_39 : decode cX3_multiplyModulo 39 = .ok (.if_icmp .ge 37, 3) := by decide +kernel
theorem dX3_multiplyModulo_42 : decode cX3_multiplyModulo 42 = .ok (.aload_n 0, 1) := by decide +kernel
theorem dX3_multiplyModulo_43 : decode cX3_multiplyModulo 43 = .ok (.getfield 17, 3) := by decide +kernel
theorem dX3_multiplyModulo_46 : decode cX3_multiplyModulo 46 = .ok (.iload 5, 2) := by decide +kernel
theorem dX3_multiplyModulo_48 : decode cX3_multiplyModulo 48 = .ok (.iload 6, 2) := by decide +kernel
theorem dX3_multiplyModulo_50 : decode cX3_multiplyModulo 50 = .ok (.iadd, 1) := by decide +kernel
theorem dX3_multiplyModulo_51 : decode cX3_multiplyModulo 51 = .ok (.dup2, 1) := by decide +kernel
theorem dX3_multiplyModulo_52 : decode cX3_multiplyModulo 52 = .ok (.laload, 1) := by decide +kernel
theorem dX3_multiplyModulo_53 : decode cX3_multiplyModulo 53 = .ok (.aload_n 2, 1) := by decide +kernel
theorem dX3_multiplyModulo_54 : decode cX3_multiplyModulo 54 = .ok (.getfield 31, 3) := by decide +kernel
theorem dX3_multiplyModulo_57 : decode cX3_multiplyModulo 57 = .ok (.iload 5, 2) := by decide +kernel
theorem dX3_multiplyModulo_59 : decode cX3_multiplyModulo 59 = .ok (.laload, 1) := by decide +kernel
theorem dX3_multiplyModulo_60 : decode cX3_multiplyModulo 60 = .ok (.aload_n 3, 1) := by decide +kernel
theorem dX3_multiplyModulo_61 : decode cX3_multiplyModulo 61 = .ok (.getfield 31, 3) := by decide +kernel
theorem dX3_multiplyModulo_64 : decode cX3_multiplyModulo 64 = .ok (.iload 6, 2) := by decide +kernel
theorem dX3_multiplyModulo_66 : decode cX3_multiplyModulo 66 = .ok (.laload, 1) := by decide +kernel
theorem dX3_multiplyModulo_67 : decode cX3_multiplyModulo 67 = .ok (.lmul, 1) := by decide +kernel
theorem dX3_multiplyModulo_68 : decode cX3_multiplyModulo 68 = .ok (.ladd, 1) := by decide +kernel
theorem dX3_multiplyModulo_69 : decode cX3_multiplyModulo 69 = .ok (.lastore, 1) := by decide +kernel
theorem dX3_multiplyModulo_70 : decode cX3_multiplyModulo 70 = .ok (.iinc 6 1, 3) := by decide +kernel
theorem dX3_multiplyModulo_73 : decode cX3_multiplyModulo 73 = .ok (.goto (-50), 3) := by decide +kernel
theorem dX3_multiplyModulo_76 : decode cX3_multiplyModulo 76 = .ok (.iinc 5 1, 3) := by decide +kernel
theorem dX3_multiplyModulo_79 : decode cX3_multiplyModulo 79 = .ok (.goto (-68), 3) := by decide +kernel
theorem dX3_multiplyModulo_82 : decode cX3_multiplyModulo 82 = .ok (.aload_n 2, 1) := by decide +kernel
theorem dX3_multiplyModulo_83 : decode cX3_multiplyModulo 83 = .ok (.getfield 47, 3) := by decide +kernel
theorem dX3_multiplyModulo_86 : decode cX3_multiplyModulo 86 = .ok (.aload_n 3, 1) := by decide +kernel
theorem dX3_multiplyModulo_87 : decode cX3_multiplyModulo 87 = .ok (.getfield 47, 3) := by decide +kernel
theorem dX3_multiplyModulo_90 : decode cX3_multiplyModulo 90 = .ok (.iadd, 1) := by decide +kernel
theorem dX3_multiplyModulo_91 : decode cX3_multiplyModulo 91 = .ok (.bipush 12, 2) := by decide +kernel
theorem dX3_multiplyModulo_93 : decode cX3_multiplyModulo 93 = .ok (.invokestatic 82, 3) := by decide +kernel
theorem dX3_multiplyModulo_96 : decode cX3_multiplyModulo 96 = .ok (.istore 5, 2) := by decide +kernel
theorem dX3_multiplyModulo_98 : decode cX3_multiplyModulo 98 = .ok (.iload 5, 2) := by decide +kernel
theorem dX3_multiplyModulo_100 : decode cX3_multiplyModulo 100 = .ok (.aload 4, 2) := by decide +kernel
theorem dX3_multiplyModulo_102 : decode cX3_multiplyModulo 102 = .ok (.getfield 47, 3) := by decide +kernel
theorem dX3_multiplyModulo_105 : decode cX3_multiplyModulo 105 = .ok (.if_icmp .lt 92, 3) := by decide +kernel
theorem dX3_multiplyModulo_108 : decode cX3_multiplyModulo 108 = .ok (.iload 5, 2) := by decide +kernel
theorem dX3_multiplyModulo_110 : decode cX3_multiplyModulo 110 = .ok (.ifCond .lt 87, 3) := by decide +kernel
theorem dX3_multiplyModulo_113 : decode cX3_multiplyModulo 113 = .ok (.aload_n 0, 1) := by decide +kernel
theorem dX3_multiplyModulo_114 : decode cX3_multiplyModulo 114 = .ok (.getfield 17, 3) := by decide +kernel
theorem dX3_multiplyModulo_117 : decode cX3_multiplyModulo 117 = .ok (.iload 5, 2) := by decide +kernel
theorem dX3_multiplyModulo_119 : decode cX3_multiplyModulo 119 = .ok (.laload, 1) := by decide +kernel
theorem dX3_multiplyModulo_120 : decode cX3_multiplyModulo 120 = .ok (.aload_n 0, 1) := by decide +kernel
theorem dX3_multiplyModulo_121 : decode cX3_multiplyModulo 121 = .ok (.getfield 11, 3) := by decide +kernel
theorem dX3_multiplyModulo_124 : decode cX3_multiplyModulo 124 = .ok (.lrem, 1) := by decide +kernel
theorem dX3_multiplyModulo_125 : decode cX3_multiplyModulo 125 = .ok (.lstore 6, 2) := by decide +kernel
theorem dX3_multiplyModulo_127 : decode cX3_multiplyModulo 127 = .ok (.aload_n 0, 1) := by decide +kernel
theorem dX3_multiplyModulo_128 : decode cX3_multiplyModulo 128 = .ok (.getfield 17, 3) := by decide +kernel
theorem dX3_multiplyModulo_131 : decode cX3_multiplyModulo 131 = .ok (.iload 5, 2) := by decide +kernel
theorem dX3_multiplyModulo_133 : decode cX3_multiplyModulo 133 = .ok (.lconst 0, 1) := by decide +kernel
theorem dX3_multiplyModulo_134 : decode cX3_multiplyModulo 134 = .ok (.lastore, 1) := by decide +kernel
theorem dX3_multiplyModulo_135 : decode cX3_multiplyModulo 135 = .ok (.iconst 0, 1) := by decide +kernel
theorem dX3_multiplyModulo_136 : decode cX3_multiplyModulo 136 = .ok (.istore 8, 2) := by decide +kernel
theorem dX3_multiplyModulo_138 : decode cX3_multiplyModulo 138 = .ok (.iload 8, 2) := by decide +kernel
theorem dX3_multiplyModulo_140 : decode cX3_multiplyModulo 140 = .ok (.aload 4, 2) := by decide +kernel
theorem dX3_multiplyModulo_142 : decode cX3_multiplyModulo 142 = .ok (.getfield 47, 3) := by decide +kernel
theorem dX3_multiplyModulo_145 : decode cX3_multiplyModulo 145 = .ok (.if_icmp .ge 46, 3) := by decide +kernel
theorem dX3_multiplyModulo_148 : decode cX3_multiplyModulo 148 = .ok (.lload 6, 2) := by decide +kernel
theorem dX3_multiplyModulo_150 : decode cX3_multiplyModulo 150 = .ok (.lconst 0, 1) := by decide +kernel
theorem dX3_multiplyModulo_151 : decode cX3_multiplyModulo 151 = .ok (.lcmp, 1) := by decide +kernel
theorem dX3_multiplyModulo_152 : decode cX3_multiplyModulo 152 = .ok (.ifCond .eq 39, 3) := by decide +kernel
theorem dX3_multiplyModulo_155 : decode cX3_multiplyModulo 155 = .ok (.aload_n 0, 1) := by decide +kernel
theorem dX3_multiplyModulo_156 : decode cX3_multiplyModulo 156 = .ok (.getfield 17, 3) := by decide +kernel
theorem dX3_multiplyModulo_159 : decode cX3_multiplyModulo 159 = .ok (.iload 5, 2) := by decide +kernel
theorem dX3_multiplyModulo_161 : decode cX3_multiplyModulo 161 = .ok (.aload 4, 2) := by decide +kernel
theorem dX3_multiplyModulo_163 : decode cX3_multiplyModulo 163 = .ok (.getfield 47, 3) := by decide +kernel
theorem dX3_multiplyModulo_166 : decode cX3_multiplyModulo 166 = .ok (.isub, 1) := by decide +kernel
theorem dX3_multiplyModulo_167 : decode cX3_multiplyModulo 167 = .ok (.iload 8, 2) := by decide +kernel
theorem dX3_multiplyModulo_169 : decode cX3_multiplyModulo 169 = .ok (.iadd, 1) := by decide +kernel
theorem dX3_multiplyModulo_170 : decode cX3_multiplyModulo 170 = .ok (.dup2, 1) := by decide +kernel
theorem dX3_multiplyModulo_171 : decode cX3_multiplyModulo 171 = .ok (.laload, 1) := by decide +kernel
theorem dX3_multiplyModulo_172 : decode cX3_multiplyModulo 172 = .ok (.lload 6, 2) := by decide +kernel
theorem dX3_multiplyModulo_174 : decode cX3_multiplyModulo 174 = .ok (.aload 4, 2) := by decide +kernel
theorem dX3_multiplyModulo_176 : decode cX3_multiplyModulo 176 = .ok (.getfield 31, 3) := by decide +kernel
theorem dX3_multiplyModulo_179 : decode cX3_multiplyModulo 179 = .ok (.iload 8, 2) := by decide +kernel
theorem dX3_multiplyModulo_181 : decode cX3_multiplyModulo 181 = .ok (.laload, 1) := by decide +kernel
theorem dX3_multiplyModulo_182 : decode cX3_multiplyModulo 182 = .ok (.lmul, 1) := by decide +kernel
theorem dX3_multiplyModulo_183 : decode cX3_multiplyModulo 183 = .ok (.lsub, 1) := by decide +kernel
theorem dX3_multiplyModulo_184 : decode cX3_multiplyModulo 184 = .ok (.lastore, 1) := by decide +kernel
theorem dX3_multiplyModulo_185 : decode cX3_multiplyModulo 185 = .ok (.iinc 8 1, 3) := by decide +kernel
theorem dX3_multiplyModulo_188 : decode cX3_multiplyModulo 188 = .ok (.goto (-50), 3) := by decide +kernel
theorem dX3_multiplyModulo_191 : decode cX3_multiplyModulo 191 = .ok (.iinc 5 (-1), 3) := by decide +kernel
theorem dX3_multiplyModulo_194 : decode cX3_multiplyModulo 194 = .ok (.goto (-96), 3) := by decide +kernel
theorem dX3_multiplyModulo_197 : decode cX3_multiplyModulo 197 = .ok (.iconst 0, 1) := by decide +kernel
theorem dX3_multiplyModulo_198 : decode cX3_multiplyModulo 198 = .ok (.istore 5, 2) := by decide +kernel
theorem dX3_multiplyModulo_200 : decode cX3_multiplyModulo 200 = .ok (.iload 5, 2) := by decide +kernel
theorem dX3_multiplyModulo_202 : decode cX3_multiplyModulo 202 = .ok (.bipush 13, 2) := by decide +kernel
theorem dX3_multiplyModulo_204 : decode cX3_multiplyModulo 204 = .ok (.if_icmp .ge 30, 3) := by decide +kernel
theorem dX3_multiplyModulo_207 : decode cX3_multiplyModulo 207 = .ok (.aload_n 1, 1) := by decide +kernel
theorem dX3_multiplyModulo_208 : decode cX3_multiplyModulo 208 = .ok (.getfield 31, 3) := by decide +kernel
theorem dX3_multiplyModulo_211 : decode cX3_multiplyModulo 211 = .ok (.iload 5, 2) := by decide +kernel
theorem dX3_multiplyModulo_213 : decode cX3_multiplyModulo 213 = .ok (.aload_n 0, 1) := by decide +kernel
theorem dX3_multiplyModulo_214 : decode cX3_multiplyModulo 214 = .ok (.getfield 17, 3) := by decide +kernel
theorem dX3_multiplyModulo_217 : decode cX3_multiplyModulo 217 = .ok (.iload 5, 2) := by decide +kernel
theorem dX3_multiplyModulo_219 : decode cX3_multiplyModulo 219 = .ok (.laload, 1) := by decide +kernel
theorem dX3_multiplyModulo_220 : decode cX3_multiplyModulo 220 = .ok (.aload_n 0, 1) := by decide +kernel
theorem dX3_multiplyModulo_221 : decode cX3_multiplyModulo 221 = .ok (.getfield 11, 3) := by decide +kernel
theorem dX3_multiplyModulo_224 : decode cX3_multiplyModulo 224 = .ok (.invokestatic 34, 3) := by decide +kernel
theorem dX3_multiplyModulo_227 : decode cX3_multiplyModulo 227 = .ok (.lastore, 1) := by decide +kernel
theorem dX3_multiplyModulo_228 : decode cX3_multiplyModulo 228 = .ok (.iinc 5 1, 3) := by decide +kernel
theorem dX3_multiplyModulo_231 : decode cX3_multiplyModulo 231 = .ok (.goto (-31), 3) := by decide +kernel
theorem dX3_multiplyModulo_234 : decode cX3_multiplyModulo 234 = .ok (.aload_n 1, 1) := by decide +kernel
theorem dX3_multiplyModulo_235 : decode cX3_multiplyModulo 235 = .ok (.invokevirtual 40, 3) := by decide +kernel
theorem dX3_multiplyModulo_238 : decode cX3_multiplyModulo 238 = .ok (.return_, 1) := by decide +kernel
set_option maxRecDepth 20000 in
theorem ggX3_raise_X4_becomeNumber : GoodIn wsX3_raise wsX4_becomeNumber := goodIn_r _ [5, 6, 7, 8, 9, 10, 4, 11, 37, 38] (by decide +kernel) (by decide +kernel)
set_option maxRecDepth 20000 in
theorem gX3_raise_X4_becomeNumber : GoodIn wsX3_raise (wsV RX3 86 RX4 yX4_becomeNumber wsX4_becomeNumber) := goodIn_app (goodIn_of _ (by decide +kernel)) ggX3_raise_X4_becomeNumber
set_option maxRecDepth 20000 in
theorem ggX3_raise_X3_multiplyModulo : GoodIn wsX3_raise wsX3_multiplyModulo := goodIn_r _ [16, 17, 18, 19, 20, 21, 22, 23, 24, 25, 26, 27, 28, 29, 30, 31, 32, 33, 34, 35, 4, 36, 7, 6, 39, 40, 41, 42, 37, 38] (by decide +kernel) (by decide +kernel)
set_option maxRecDepth 20000 in
theorem gX3_raise_X3_multiplyModulo : GoodIn wsX3_raise (wsV RX3 90 RX3 yX3_multiplyModulo wsX3_multiplyModulo) := goodIn_app (goodIn_of _ (by decide +kernel)) ggX3_raise_X3_multiplyModulo
theorem dX3_raise_0 : decode cX3_raise 0 = .ok (.aload_n 1, 1) := by decide +kernel
theorem dX3_raise_1 : decode cX3_raise 1 = .ok (.lconst 1, 1) := by decide +kernel
theorem dX3_raise_2 : decode cX3_raise 2 = .ok (.invokevirtual 86, 3) := by decide +kernel
theorem dX3_raise_5 : decode cX3_raise 5 = .ok (.bipush 30, 2) := by decide +kernel
theorem dX3_raise_7 : decode cX3_raise 7 = .ok (.istore 6, 2) := by decide +kernel
theorem dX3_raise_9 : decode cX3_raise 9 = .ok (.iload 6, 2) := by decide +kernel
theorem dX3_raise_11 : decode cX3_raise 11 = .ok (.ifCond .lt 38, 3) := by decide +kernel
theorem dX3_raise_14 : decode cX3_raise 14 = .ok (.aload_n 0, 1) := by decide +kernel
theorem dX3_raise_15 : decode cX3_raise 15 = .ok (.aload_n 1, 1) := by decide +kernel
theorem dX3_raise_16 : decode cX3_raise 16 = .ok (.aload_n 1, 1) := by decide +kernel
theorem dX3_raise_17 : decode cX3_raise 17 = .ok (.aload_n 1, 1) := by decide +kernel
theorem dX3_raise_18 : decode cX3_raise 18 = .ok (.aload 5, 2) := by decide +kernel
theorem dX3_raise_20 : decode cX3_raise 20 = .ok (.invokevirtual 90, 3) := by decide +kernel
theorem dX3_raise_23 : decode cX3_raise 23 = .ok (.lload_n 3, 1) := by decide +kernel
theorem dX3_raise_24 : decode cX3_raise 24 = .ok (.iload 6, 2) := by decide +kernel
theorem dX3_raise_26 : decode cX3_raise 26 = .ok (.lshr, 1) := by decide +kernel
theorem dX3_raise_27 : decode cX3_raise 27 = .ok (.lconst 1, 1) := by decide +kernel
theorem dX3_raise_28 : decode cX3_raise 28 = .ok (.land, 1) := by decide +kernel
theorem dX3_raise_29 : decode cX3_raise 29 = .ok (.lconst 1, 1) := by decide +kernel
theorem dX3_raise_30 : decode cX3_raise 30 = .ok (.lcmp, 1) := by decide +kernel
theorem dX3_raise_31 : decode cX3_raise 31 = .ok (.ifCond .ne 12, 3) := by decide +kernel
theorem dX3_raise_34 : decode cX3_raise 34 = .ok (.aload_n 0, 1) := by decide +kernel
theorem dX3_raise_35 : decode cX3_raise 35 = .ok (.aload_n 1, 1) := by decide +kernel
theorem dX3_raise_36 : decode cX3_raise 36 = .ok (.aload_n 1, 1) := by decide +kernel
theorem dX3_raise_37 : decode cX3_raise 37 = .ok (.aload_n 2, 1) := by decide +kernel
theorem dX3_raise_38 : decode cX3_raise 38 = .ok (.aload 5, 2) := by decide +kernel
theorem dX3_raise_40 : decode cX3_raise 40 = .ok (.invokevirtual 90, 3) := by decide +kernel
theorem dX3_raise_43 : decode cX3_raise 43 = .ok (.iinc 6 (-1), 3) := by decide +kernel
theorem dX3_raise_46 : decode cX3_raise 46 = .ok (.goto (-37), 3) := by decide +kernel
theorem dX3_raise_49 : decode cX3_raise 49 = .ok (.return_, 1) := by decide +kernel
set_option maxRecDepth 20000 in
theorem ggX3_compose_X4_clear : GoodIn wsX3_compose wsX4_clear := goodIn_r _ [7, 8, 9, 37, 38] (by decide +kernel) (by decide +kernel)
set_option maxRecDepth 20000 in
theorem gX3_compose_X4_clear : GoodIn wsX3_compose (wsV RX3 63 RX4 yX4_clear wsX4_clear) := goodIn_app (goodIn_of _ (by decide +kernel)) ggX3_compose_X4_clear
set_option maxRecDepth 20000 in
theorem ggX3_compose_X3_multiplyModulo : GoodIn wsX3_compose wsX3_multiplyModulo := goodIn_r _ [14, 15, 1, 2, 16, 17, 18, 19, 20, 21, 22, 23, 24, 25, 26, 27, 28, 29, 30, 31, 6, 32, 9, 8, 39, 40, 41, 42, 37, 38] (by decide +kernel) (by decide +kernel)
set_option maxRecDepth 20000 in
theorem gX3_compose_X3_multiplyModulo : GoodIn wsX3_compose (wsV RX3 90 RX3 yX3_multiplyModulo wsX3_multiplyModulo) := goodIn_app (goodIn_of _ (by decide +kernel)) ggX3_compose_X3_multiplyModulo
set_option maxRecDepth 20000 in
theorem ggX3_compose_X3_addAt : GoodIn wsX3_compose wsX3_addAt := goodIn_r _ [36, 2, 20, 25, 26, 27, 28, 29, 30, 31, 6, 32, 9, 8, 37, 38, 39, 40, 41, 42] (by decide +kernel) (by decide +kernel)
set_option maxRecDepth 20000 in
theorem gX3_compose_X3_addAt : GoodIn wsX3_compose (wsV RX3 94 RX3 yX3_addAt wsX3_addAt) := goodIn_app (goodIn_of _ (by decide +kernel)) ggX3_compose_X3_addAt
theorem dX3_compose_0 : decode cX3_compose 0 = .ok (.aload_n 1, 1) := by decide +kernel
theorem dX3_compose_1 : decode cX3_compose 1 = .ok (.invokevirtual 63, 3) := by decide +kernel
theorem dX3_compose_4 : decode cX3_compose 4 = .ok (.aload_n 2, 1) := by decide +kernel
theorem dX3_compose_5 : decode cX3_compose 5 = .ok (.getfield 47, 3) := by decide +kernel
theorem dX3_compose_8 : decode cX3_compose 8 = .ok (.istore 5, 2) := by decide +kernel
theorem dX3_compose_10 : decode cX3_compose 10 = .ok (.iload 5, 2) := by decide +kernel
theorem dX3_compose_12 : decode cX3_compose 12 = .ok (.ifCond .lt 31, 3) := by decide +kernel
theorem dX3_compose_15 : decode cX3_compose 15 = .ok (.aload_n 0, 1) := by decide +kernel
theorem dX3_compose_16 : decode cX3_compose 16 = .ok (.aload_n 1, 1) := by decide +kernel
theorem dX3_compose_17 : decode cX3_compose 17 = .ok (.aload_n 1, 1) := by decide +kernel
theorem dX3_compose_18 : decode cX3_compose 18 = .ok (.aload_n 3, 1) := by decide +kernel
theorem dX3_compose_19 : decode cX3_compose 19 = .ok (.aload 4, 2) := by decide +kernel
theorem dX3_compose_21 : decode cX3_compose 21 = .ok (.invokevirtual 90, 3) := by decide +kernel
theorem dX3_compose_24 : decode cX3_compose 24 = .ok (.aload_n 0, 1) := by decide +kernel
theorem dX3_compose_25 : decode cX3_compose 25 = .ok (.aload_n 1, 1) := by decide +kernel
theorem dX3_compose_26 : decode cX3_compose 26 = .ok (.iconst 0, 1) := by decide +kernel
theorem dX3_compose_27 : decode cX3_compose 27 = .ok (.aload_n 2, 1) := by decide +kernel
theorem dX3_compose_28 : decode cX3_compose 28 = .ok (.getfield 31, 3) := by decide +kernel
theorem dX3_compose_31 : decode cX3_compose 31 = .ok (.iload 5, 2) := by decide +kernel
theorem dX3_compose_33 : decode cX3_compose 33 = .ok (.laload, 1) := by decide +kernel
theorem dX3_compose_34 : decode cX3_compose 34 = .ok (.invokevirtual 94, 3) := by decide +kernel
theorem dX3_compose_37 : decode cX3_compose 37 = .ok (.iinc 5 (-1), 3) := by decide +kernel
theorem dX3_compose_40 : decode cX3_compose 40 = .ok (.goto (-30), 3) := by decide +kernel
theorem dX3_compose_43 : decode cX3_compose 43 = .ok (.return_, 1) := by decide +kernel
