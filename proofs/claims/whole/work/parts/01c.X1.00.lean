set_option maxRecDepth 20000 in
theorem ggX1_of_X1_ofQuartic : GoodIn wsX1_of wsX1_ofQuartic := goodIn_r _ [5, 6, 7, 8, 9, 10, 11, 12, 13, 14, 15, 16, 4, 17, 18, 19, 20, 21, 22, 23, 24, 25, 26, 27, 28, 29, 30, 31, 32, 33, 34, 35, 36, 40, 41] (by decide +kernel) (by decide +kernel)
set_option maxRecDepth 20000 in
theorem gX1_of_X1_ofQuartic : GoodIn wsX1_of (va_wsS RX1 13 yX1_ofQuartic wsX1_ofQuartic) := goodIn_app (goodIn_of _ (by decide +kernel)) ggX1_of_X1_ofQuartic
set_option maxRecDepth 20000 in
theorem ggX1_of_X1_ofCubic : GoodIn wsX1_of wsX1_ofCubic := goodIn_r _ [39, 9, 10, 11, 12, 13, 14, 15, 16, 4, 17, 6, 18, 19, 20, 21, 22, 40, 41] (by decide +kernel) (by decide +kernel)
set_option maxRecDepth 20000 in
theorem gX1_of_X1_ofCubic : GoodIn wsX1_of (va_wsS RX1 19 yX1_ofCubic wsX1_ofCubic) := goodIn_app (goodIn_of _ (by decide +kernel)) ggX1_of_X1_ofCubic
theorem dX1_of_0 : decode cX1_of 0 = .ok (.aload_n 0, 1) := by decide +kernel
theorem dX1_of_1 : decode cX1_of 1 = .ok (.getfield 7, 3) := by decide +kernel
theorem dX1_of_4 : decode cX1_of 4 = .ok (.iconst 4, 1) := by decide +kernel
theorem dX1_of_5 : decode cX1_of 5 = .ok (.if_icmp .ne 8, 3) := by decide +kernel
theorem dX1_of_8 : decode cX1_of 8 = .ok (.aload_n 0, 1) := by decide +kernel
theorem dX1_of_9 : decode cX1_of 9 = .ok (.invokestatic 13, 3) := by decide +kernel
theorem dX1_of_12 : decode cX1_of 12 = .ok (.ireturn, 1) := by decide +kernel
theorem dX1_of_13 : decode cX1_of 13 = .ok (.aload_n 0, 1) := by decide +kernel
theorem dX1_of_14 : decode cX1_of 14 = .ok (.getfield 7, 3) := by decide +kernel
theorem dX1_of_17 : decode cX1_of 17 = .ok (.iconst 3, 1) := by decide +kernel
theorem dX1_of_18 : decode cX1_of 18 = .ok (.if_icmp .ne 10, 3) := by decide +kernel
theorem dX1_of_21 : decode cX1_of 21 = .ok (.aload_n 0, 1) := by decide +kernel
theorem dX1_of_22 : decode cX1_of 22 = .ok (.invokestatic 19, 3) := by decide +kernel
theorem dX1_of_25 : decode cX1_of 25 = .ok (.goto 7, 3) := by decide +kernel
theorem dX1_of_28 : decode cX1_of 28 = .ok (.aload_n 0, 1) := by decide +kernel
theorem dX1_of_29 : decode cX1_of 29 = .ok (.getfield 7, 3) := by decide +kernel
theorem dX1_of_32 : decode cX1_of 32 = .ok (.ireturn, 1) := by decide +kernel
set_option maxRecDepth 20000 in
theorem ggX1_ofCubic_X4_at : GoodIn wsX1_ofCubic wsX4_at := goodIn_r _ [5, 6, 17, 18] (by decide +kernel) (by decide +kernel)
set_option maxRecDepth 20000 in
theorem gX1_ofCubic_X4_at : GoodIn wsX1_ofCubic (wsV RX1 22 RX4 yX4_at wsX4_at) := goodIn_app (goodIn_of _ (by decide +kernel)) ggX1_ofCubic_X4_at
set_option maxRecDepth 20000 in
theorem ggX1_ofCubic_X1_discriminantOf : GoodIn wsX1_ofCubic wsX1_discriminantOf := goodIn_r _ [10, 11, 12, 13] (by decide +kernel) (by decide +kernel)
set_option maxRecDepth 20000 in
theorem gX1_ofCubic_X1_discriminantOf : GoodIn wsX1_ofCubic (va_wsS RX1 26 yX1_discriminantOf wsX1_discriminantOf) := goodIn_app (goodIn_of _ (by decide +kernel)) ggX1_ofCubic_X1_discriminantOf
set_option maxRecDepth 20000 in
theorem ggX1_ofCubic_X1_isSquare : GoodIn wsX1_ofCubic wsX1_isSquare := goodIn_r _ [16] (by decide +kernel) (by decide +kernel)
set_option maxRecDepth 20000 in
theorem gX1_ofCubic_X1_isSquare : GoodIn wsX1_ofCubic (va_wsS RX1 30 yX1_isSquare wsX1_isSquare) := goodIn_app (goodIn_of _ (by decide +kernel)) ggX1_ofCubic_X1_isSquare
theorem dX1_ofCubic_0 : decode cX1_ofCubic 0 = .ok (.aload_n 0, 1) := by decide +kernel
theorem dX1_ofCubic_1 : decode cX1_ofCubic 1 = .ok (.iconst 3, 1) := by decide +kernel
theorem dX1_ofCubic_2 : decode cX1_ofCubic 2 = .ok (.invokevirtual 22, 3) := by decide +kernel
theorem dX1_ofCubic_5 : decode cX1_ofCubic 5 = .ok (.aload_n 0, 1) := by decide +kernel
theorem dX1_ofCubic_6 : decode cX1_ofCubic 6 = .ok (.iconst 2, 1) := by decide +kernel
theorem dX1_ofCubic_7 : decode cX1_ofCubic 7 = .ok (.invokevirtual 22, 3) := by decide +kernel
theorem dX1_ofCubic_10 : decode cX1_ofCubic 10 = .ok (.aload_n 0, 1) := by decide +kernel
theorem dX1_ofCubic_11 : decode cX1_ofCubic 11 = .ok (.iconst 1, 1) := by decide +kernel
theorem dX1_ofCubic_12 : decode cX1_ofCubic 12 = .ok (.invokevirtual 22, 3) := by decide +kernel
theorem dX1_ofCubic_15 : decode cX1_ofCubic 15 = .ok (.aload_n 0, 1) := by decide +kernel
theorem dX1_ofCubic_16 : decode cX1_ofCubic 16 = .ok (.iconst 0, 1) := by decide +kernel
theorem dX1_ofCubic_17 : decode cX1_ofCubic 17 = .ok (.invokevirtual 22, 3) := by decide +kernel
theorem dX1_ofCubic_20 : decode cX1_ofCubic 20 = .ok (.invokestatic 26, 3) := by decide +kernel
theorem dX1_ofCubic_23 : decode cX1_ofCubic 23 = .ok (.invokestatic 30, 3) := by decide +kernel
theorem dX1_ofCubic_26 : decode cX1_ofCubic 26 = .ok (.ifCond .eq 7, 3) := by decide +kernel
theorem dX1_ofCubic_29 : decode cX1_ofCubic 29 = .ok (.iconst 3, 1) := by decide +kernel
theorem dX1_ofCubic_30 : decode cX1_ofCubic 30 = .ok (.goto 4, 3) := by decide +kernel
theorem dX1_ofCubic_33 : decode cX1_ofCubic 33 = .ok (.iconst 4, 1) := by decide +kernel
theorem dX1_ofCubic_34 : decode cX1_ofCubic 34 = .ok (.ireturn, 1) := by decide +kernel
set_option maxRecDepth 20000 in
theorem ggX1_ofQuartic_X4_at : GoodIn wsX1_ofQuartic wsX4_at := goodIn_r _ [8, 9, 33, 34] (by decide +kernel) (by decide +kernel)
set_option maxRecDepth 20000 in
theorem gX1_ofQuartic_X4_at : GoodIn wsX1_ofQuartic (wsV RX1 22 RX4 yX4_at wsX4_at) := goodIn_app (goodIn_of _ (by decide +kernel)) ggX1_ofQuartic_X4_at
set_option maxRecDepth 20000 in
theorem ggX1_ofQuartic_X1_discriminantOf : GoodIn wsX1_ofQuartic wsX1_discriminantOf := goodIn_r _ [13, 1, 14, 15] (by decide +kernel) (by decide +kernel)
set_option maxRecDepth 20000 in
theorem gX1_ofQuartic_X1_discriminantOf : GoodIn wsX1_ofQuartic (va_wsS RX1 26 yX1_discriminantOf wsX1_discriminantOf) := goodIn_app (goodIn_of _ (by decide +kernel)) ggX1_ofQuartic_X1_discriminantOf
set_option maxRecDepth 20000 in
theorem ggX1_ofQuartic_X1_isSquare : GoodIn wsX1_ofQuartic wsX1_isSquare := goodIn_r _ [18] (by decide +kernel) (by decide +kernel)
set_option maxRecDepth 20000 in
theorem gX1_ofQuartic_X1_isSquare : GoodIn wsX1_ofQuartic (va_wsS RX1 30 yX1_isSquare wsX1_isSquare) := goodIn_app (goodIn_of _ (by decide +kernel)) ggX1_ofQuartic_X1_isSquare
set_option maxRecDepth 20000 in
theorem ggX1_ofQuartic_X1_isCycle : GoodIn wsX1_ofQuartic wsX1_isCycle := goodIn_r _ [21, 1, 4, 5, 6, 7, 8, 9, 22, 23, 12, 24, 25, 26, 27, 28, 29, 30, 31, 32, 16, 17, 18, 33, 34] (by decide +kernel) (by decide +kernel)
set_option maxRecDepth 20000 in
theorem gX1_ofQuartic_X1_isCycle : GoodIn wsX1_ofQuartic (va_wsS RX1 40 yX1_isCycle wsX1_isCycle) := goodIn_app (goodIn_of _ (by decide +kernel)) ggX1_ofQuartic_X1_isCycle
theorem dX1_ofQuartic_0 : decode cX1_ofQuartic 0 = .ok (.aload_n 0, 1) := by decide +kernel
theorem dX1_ofQuartic_1 : decode cX1_ofQuartic 1 = .ok (.iconst 4, 1) := by decide +kernel
theorem dX1_ofQuartic_2 : decode cX1_ofQuartic 2 = .ok (.invokevirtual 22, 3) := by decide +kernel
theorem dX1_ofQuartic_5 : decode cX1_ofQuartic 5 = .ok (.lstore_n 1, 1) := by decide +kernel
theorem dX1_ofQuartic_6 : decode cX1_ofQuartic 6 = .ok (.aload_n 0, 1) := by decide +kernel
theorem dX1_ofQuartic_7 : decode cX1_ofQuartic 7 = .ok (.iconst 2, 1) := by decide +kernel
theorem dX1_ofQuartic_8 : decode cX1_ofQuartic 8 = .ok (.invokevirtual 22, 3) := by decide +kernel
theorem dX1_ofQuartic_11 : decode cX1_ofQuartic 11 = .ok (.lneg, 1) := by decide +kernel
theorem dX1_ofQuartic_12 : decode cX1_ofQuartic 12 = .ok (.lstore_n 3, 1) := by decide +kernel
theorem dX1_ofQuartic_13 : decode cX1_ofQuartic 13 = .ok (.aload_n 0, 1) := by decide +kernel
theorem dX1_ofQuartic_14 : decode cX1_ofQuartic 14 = .ok (.iconst 3, 1) := by decide +kernel
theorem dX1_ofQuartic_15 : decode cX1_ofQuartic 15 = .ok (.invokevirtual 22, 3) := by decide +kernel
theorem dX1_ofQuartic_18 : decode cX1_ofQuartic 18 = .ok (.aload_n 0, 1) := by decide +kernel
theorem dX1_ofQuartic_19 : decode cX1_ofQuartic 19 = .ok (.iconst 1, 1) := by decide +kernel
theorem dX1_ofQuartic_20 : decode cX1_ofQuartic 20 = .ok (.invokevirtual 22, 3) := by decide +kernel
theorem dX1_ofQuartic_23 : decode cX1_ofQuartic 23 = .ok (.lmul, 1) := by decide +kernel
theorem dX1_ofQuartic_24 : decode cX1_ofQuartic 24 = .ok (.ldc2_w 34, 3) := by decide +kernel
theorem dX1_ofQuartic_27 : decode cX1_ofQuartic 27 = .ok (.lload_n 1, 1) := by decide +kernel
theorem dX1_ofQuartic_28 : decode cX1_ofQuartic 28 = .ok (.lmul, 1) := by decide +kernel
theorem dX1_ofQuartic_29 : decode cX1_ofQuartic 29 = .ok (.aload_n 0, 1) := by decide +kernel
theorem dX1_ofQuartic_30 : decode cX1_ofQuartic 30 = .ok (.iconst 0, 1) := by decide +kernel
theorem dX1_ofQuartic_31 : decode cX1_ofQuartic 31 = .ok (.invokevirtual 22, 3) := by decide +kernel
theorem dX1_ofQuartic_34 : decode cX1_ofQuartic 34 = .ok (.lmul, 1) := by decide +kernel
theorem dX1_ofQuartic_35 : decode cX1_ofQuartic 35 = .ok (.lsub, 1) := by decide +kernel
theorem dX1_ofQuartic_36 : decode cX1_ofQuartic 36 = .ok (.lstore 5, 2) := by decide +kernel
theorem dX1_ofQuartic_38 : decode cX1_ofQuartic 38 = .ok (.ldc2_w 34, 3) := by decide +kernel
theorem dX1_ofQuartic_41 : decode cX1_ofQuartic 41 = .ok (.lload_n 1, 1) := by decide +kernel
theorem dX1_ofQuartic_42 : decode cX1_ofQuartic 42 = .ok (.lmul, 1) := by decide +kernel
theorem dX1_ofQuartic_43 : decode cX1_ofQuartic 43 = .ok (.aload_n 0, 1) := by decide +kernel
theorem dX1_ofQuartic_44 : decode cX1_ofQuartic 44 = .ok (.iconst 2, 1) := by decide +kernel
theorem dX1_ofQuartic_45 : decode cX1_ofQuartic 45 = .ok (.invokevirtual 22, 3) := by decide +kernel
theorem dX1_ofQuartic_48 : decode cX1_ofQuartic 48 = .ok (.lmul, 1) := by decide +kernel
theorem dX1_ofQuartic_49 : decode cX1_ofQuartic 49 = .ok (.aload_n 0, 1) := by decide +kernel
theorem dX1_ofQuartic_50 : decode cX1_ofQuartic 50 = .ok (.iconst 3, 1) := by decide +kernel
theorem dX1_ofQuartic_51 : decode cX1_ofQuartic 51 = .ok (.invokevirtual 22, 3) := by decide +kernel
theorem dX1_ofQuartic_54 : decode cX1_ofQuartic 54 = .ok (.aload_n 0, 1) := by decide +kernel
theorem dX1_ofQuartic_55 : decode cX1_ofQuartic 55 = .ok (.iconst 3, 1) := by decide +kernel
theorem dX1_ofQuartic_56 : decode cX1_ofQuartic 56 = .ok (.invokevirtual 22, 3) := by decide +kernel
theorem dX1_ofQuartic_59 : decode cX1_ofQuartic 59 = .ok (.lmul, 1) := by decide +kernel
theorem dX1_ofQuartic_60 : decode cX1_ofQuartic 60 = .ok (.lsub, 1) := by decide +kernel
theorem dX1_ofQuartic_61 : decode cX1_ofQuartic 61 = .ok (.aload_n 0, 1) := by decide +kernel
theorem dX1_ofQuartic_62 : decode cX1_ofQuartic 62 = .ok (.iconst 0, 1) := by decide +kernel
theorem dX1_ofQuartic_63 : decode cX1_ofQuartic 63 = .ok (.invokevirtual 22, 3) := by decide +kernel
theorem dX1_ofQuartic_66 : decode cX1_ofQuartic 66 = .ok (.lmul, 1) := by decide +kernel
theorem dX1_ofQuartic_67 : decode cX1_ofQuartic 67 = .ok (.lload_n 1, 1) := by decide +kernel
theorem dX1_ofQuartic_68 : decode cX1_ofQuartic 68 = .ok (.aload_n 0, 1) := by decide +kernel
theorem dX1_ofQuartic_69 : decode cX1_ofQuartic 69 = .ok (.iconst 1, 1) := by decide +kernel
theorem dX1_ofQuartic_70 : decode cX1_ofQuartic 70 = .ok (.invokevirtual 22, 3) := by decide +kernel
theorem dX1_ofQuartic_73 : decode cX1_ofQuartic 73 = .ok (.lmul, 1) := by decide +kernel
theorem dX1_ofQuartic_74 : decode cX1_ofQuartic 74 = .ok (.aload_n 0, 1) := by decide +kernel
theorem dX1_ofQuartic_75 : decode cX1_ofQuartic 75 = .ok (.iconst 1, 1) := by decide +kernel
theorem dX1_ofQuartic_76 : decode cX1_ofQuartic 76 = .ok (.invokevirtual 22, 3) := by decide +kernel
theorem dX1_ofQuartic_79 : decode cX1_ofQuartic 79 = .ok (.lmul, 1) := by decide +kernel
theorem dX1_ofQuartic_80 : decode cX1_ofQuartic 80 = .ok (.lsub, 1) := by decide +kernel
theorem dX1_ofQuartic_81 : decode cX1_ofQuartic 81 = .ok (.lstore 7, 2) := by decide +kernel
theorem dX1_ofQuartic_83 : decode cX1_ofQuartic 83 = .ok (.lconst 1, 1) := by decide +kernel
theorem dX1_ofQuartic_84 : decode cX1_ofQuartic 84 = .ok (.lload_n 3, 1) := by decide +kernel
theorem dX1_ofQuartic_85 : decode cX1_ofQuartic 85 = .ok (.lload 5, 2) := by decide +kernel
theorem dX1_ofQuartic_87 : decode cX1_ofQuartic 87 = .ok (.lload 7, 2) := by decide +kernel
theorem dX1_ofQuartic_89 : decode cX1_ofQuartic 89 = .ok (.invokestatic 26, 3) := by decide +kernel
theorem dX1_ofQuartic_92 : decode cX1_ofQuartic 92 = .ok (.lstore 9, 2) := by decide +kernel
theorem dX1_ofQuartic_94 : decode cX1_ofQuartic 94 = .ok (.iconst 0, 1) := by decide +kernel
theorem dX1_ofQuartic_95 : decode cX1_ofQuartic 95 = .ok (.istore 11, 2) := by decide +kernel
theorem dX1_ofQuartic_97 : decode cX1_ofQuartic 97 = .ok (.lconst 0, 1) := by decide +kernel
theorem dX1_ofQuartic_98 : decode cX1_ofQuartic 98 = .ok (.lstore 12, 2) := by decide +kernel
theorem dX1_ofQuartic_100 : decode cX1_ofQuartic 100 = .ok (.ldc2_w 36, 3) := by decide +kernel
theorem dX1_ofQuartic_103 : decode cX1_ofQuartic 103 = .ok (.lstore 14, 2) := by decide +kernel
theorem dX1_ofQuartic_105 : decode cX1_ofQuartic 105 = .ok (.lload 14, 2) := by decide +kernel
theorem dX1_ofQuartic_107 : decode cX1_ofQuartic 107 = .ok (.ldc2_w 38, 3) := by decide +kernel
theorem dX1_ofQuartic_110 : decode cX1_ofQuartic 110 = .ok (.lcmp, 1) := by decide +kernel
theorem dX1_ofQuartic_111 : decode cX1_ofQuartic 111 = .ok (.ifCond .gt 40, 3) := by decide +kernel
theorem dX1_ofQuartic_114 : decode cX1_ofQuartic 114 = .ok (.lload 14, 2) := by decide +kernel
theorem dX1_ofQuartic_116 : decode cX1_ofQuartic 116 = .ok (.lload_n 3, 1) := by decide +kernel
theorem dX1_ofQuartic_117 : decode cX1_ofQuartic 117 = .ok (.ladd, 1) := by decide +kernel
theorem dX1_ofQuartic_118 : decode cX1_ofQuartic 118 = .ok (.lload 14, 2) := by decide +kernel
theorem dX1_ofQuartic_120 : decode cX1_ofQuartic 120 = .ok (.lmul, 1) := by decide +kernel
theorem dX1_ofQuartic_121 : decode cX1_ofQuartic 121 = .ok (.lload 5, 2) := by decide +kernel
theorem dX1_ofQuartic_123 : decode cX1_ofQuartic 123 = .ok (.ladd, 1) := by decide +kernel
theorem dX1_ofQuartic_124 : decode cX1_ofQuartic 124 = .ok (.lload 14, 2) := by decide +kernel
theorem dX1_ofQuartic_126 : decode cX1_ofQuartic 126 = .ok (.lmul, 1) := by decide +kernel
theorem dX1_ofQuartic_127 : decode cX1_ofQuartic 127 = .ok (.lload 7, 2) := by decide +kernel
theorem dX1_ofQuartic_129 : decode cX1_ofQuartic 129 = .ok (.ladd, 1) := by decide +kernel
theorem dX1_ofQuartic_130 : decode cX1_ofQuartic 130 = .ok (.lconst 0, 1) := by decide +kernel
theorem dX1_ofQuartic_131 : decode cX1_ofQuartic 131 = .ok (.lcmp, 1) := by decide +kernel
theorem dX1_ofQuartic_132 : decode cX1_ofQuartic 132 = .ok (.ifCond .ne 10, 3) := by decide +kernel
theorem dX1_ofQuartic_135 : decode cX1_ofQuartic 135 = .ok (.iinc 11 1, 3) := by decide +kernel
theorem dX1_ofQuartic_138 : decode cX1_ofQuartic 138 = .ok (.lload 14, 2) := by decide +kernel
theorem dX1_ofQuartic_140 : decode cX1_ofQuartic 140 = .ok (.lstore 12, 2) := by decide +kernel
theorem dX1_ofQuartic_142 : decode cX1_ofQuartic 142 = .ok (.lload 14, 2) := by decide +kernel
theorem dX1_ofQuartic_144 : decode cX1_ofQuartic 144 = .ok (.lconst 1, 1) := by decide +kernel
theorem dX1_ofQuartic_145 : decode cX1_ofQuartic 145 = .ok (.ladd, 1) := by decide +kernel
theorem dX1_ofQuartic_146 : decode cX1_ofQuartic 146 = .ok (.lstore 14, 2) := by decide +kernel
theorem dX1_ofQuartic_148 : decode cX1_ofQuartic 148 = .ok (.goto (-43), 3) := by decide +kernel
theorem dX1_ofQuartic_151 : decode cX1_ofQuartic 151 = .ok (.iload 11, 2) := by decide +kernel
theorem dX1_ofQuartic_153 : decode cX1_ofQuartic 153 = .ok (.ifCond .ne 19, 3) := by decide +kernel
theorem dX1_ofQuartic_156 : decode cX1_ofQuartic 156 = .ok (.lload 9, 2) := by decide +kernel
theorem dX1_ofQuartic_158 : decode cX1_ofQuartic 158 = .ok (.invokestatic 30, 3) := by decide +kernel
theorem dX1_ofQuartic_161 : decode cX1_ofQuartic 161 = .ok (.ifCond .eq 8, 3) := by decide +kernel
theorem dX1_ofQuartic_164 : decode cX1_ofQuartic 164 = .ok (.bipush 8, 2) := by decide +kernel
theorem dX1_ofQuartic_166 : decode cX1_ofQuartic 166 = .ok (.goto 5, 3) := by decide +kernel
theorem dX1_ofQuartic_169 : decode cX1_ofQuartic 169 = .ok (.bipush 9, 2) := by decide +kernel
theorem dX1_ofQuartic_171 : decode cX1_ofQuartic 171 = .ok (.ireturn, 1) := by decide +kernel
theorem dX1_ofQuartic_172 : decode cX1_ofQuartic 172 = .ok (.iload 11, 2) := by decide +kernel
theorem dX1_ofQuartic_174 : decode cX1_ofQuartic 174 = .ok (.iconst 1, 1) := by decide +kernel
theorem dX1_ofQuartic_175 : decode cX1_ofQuartic 175 = .ok (.if_icmp .le 5, 3) := by decide +kernel
theorem dX1_ofQuartic_178 : decode cX1_ofQuartic 178 = .ok (.iconst 5, 1) := by decide +kernel
theorem dX1_ofQuartic_179 : decode cX1_ofQuartic 179 = .ok (.ireturn, 1) := by decide +kernel
theorem dX1_ofQuartic_180 : decode cX1_ofQuartic 180 = .ok (.aload_n 0, 1) := by decide +kernel
theorem dX1_ofQuartic_181 : decode cX1_ofQuartic 181 = .ok (.lload 12, 2) := by decide +kernel
theorem dX1_ofQuartic_183 : decode cX1_ofQuartic 183 = .ok (.lload 9, 2) := by decide +kernel
theorem dX1_ofQuartic_185 : decode cX1_ofQuartic 185 = .ok (.invokestatic 40, 3) := by decide +kernel
theorem dX1_ofQuartic_188 : decode cX1_ofQuartic 188 = .ok (.ifCond .eq 8, 3) := by decide +kernel
theorem dX1_ofQuartic_191 : decode cX1_ofQuartic 191 = .ok (.bipush 6, 2) := by decide +kernel
theorem dX1_ofQuartic_193 : decode cX1_ofQuartic 193 = .ok (.goto 5, 3) := by decide +kernel
theorem dX1_ofQuartic_196 : decode cX1_ofQuartic 196 = .ok (.bipush 7, 2) := by decide +kernel
theorem dX1_ofQuartic_198 : decode cX1_ofQuartic 198 = .ok (.ireturn, 1) := by decide +kernel
set_option maxRecDepth 20000 in
theorem ggX1_isCycle_X4_at : GoodIn wsX1_isCycle wsX4_at := goodIn_r _ [6, 7, 23, 24] (by decide +kernel) (by decide +kernel)
set_option maxRecDepth 20000 in
theorem gX1_isCycle_X4_at : GoodIn wsX1_isCycle (wsV RX1 22 RX4 yX4_at wsX4_at) := goodIn_app (goodIn_of _ (by decide +kernel)) ggX1_isCycle_X4_at
set_option maxRecDepth 20000 in
theorem ggX1_isCycle_X1_isSquareProduct : GoodIn wsX1_isCycle wsX1_isSquareProduct := goodIn_r _ [11, 12, 13, 14, 15, 16, 17, 18, 19, 20, 21, 10, 22] (by decide +kernel) (by decide +kernel)
set_option maxRecDepth 20000 in
theorem gX1_isCycle_X1_isSquareProduct : GoodIn wsX1_isCycle (va_wsS RX1 44 yX1_isSquareProduct wsX1_isSquareProduct) := goodIn_app (goodIn_of _ (by decide +kernel)) ggX1_isCycle_X1_isSquareProduct
theorem dX1_isCycle_0 : decode cX1_isCycle 0 = .ok (.aload_n 0, 1) := by decide +kernel
theorem dX1_isCycle_1 : decode cX1_isCycle 1 = .ok (.iconst 3, 1) := by decide +kernel
theorem dX1_isCycle_2 : decode cX1_isCycle 2 = .ok (.invokevirtual 22, 3) := by decide +kernel
theorem dX1_isCycle_5 : decode cX1_isCycle 5 = .ok (.aload_n 0, 1) := by decide +kernel
theorem dX1_isCycle_6 : decode cX1_isCycle 6 = .ok (.iconst 3, 1) := by decide +kernel
theorem dX1_isCycle_7 : decode cX1_isCycle 7 = .ok (.invokevirtual 22, 3) := by decide +kernel
theorem dX1_isCycle_10 : decode cX1_isCycle 10 = .ok (.lmul, 1) := by decide +kernel
theorem dX1_isCycle_11 : decode cX1_isCycle 11 = .ok (.ldc2_w 34, 3) := by decide +kernel
theorem dX1_isCycle_14 : decode cX1_isCycle 14 = .ok (.aload_n 0, 1) := by decide +kernel
theorem dX1_isCycle_15 : decode cX1_isCycle 15 = .ok (.iconst 4, 1) := by decide +kernel
theorem dX1_isCycle_16 : decode cX1_isCycle 16 = .ok (.invokevirtual 22, 3) := by decide +kernel
theorem dX1_isCycle_19 : decode cX1_isCycle 19 = .ok (.lmul, 1) := by decide +kernel
theorem dX1_isCycle_20 : decode cX1_isCycle 20 = .ok (.aload_n 0, 1) := by decide +kernel
theorem dX1_isCycle_21 : decode cX1_isCycle 21 = .ok (.iconst 2, 1) := by decide +kernel
theorem dX1_isCycle_22 : decode cX1_isCycle 22 = .ok (.invokevirtual 22, 3) := by decide +kernel
theorem dX1_isCycle_25 : decode cX1_isCycle 25 = .ok (.lload_n 1, 1) := by decide +kernel
theorem dX1_isCycle_26 : decode cX1_isCycle 26 = .ok (.lsub, 1) := by decide +kernel
theorem dX1_isCycle_27 : decode cX1_isCycle 27 = .ok (.lmul, 1) := by decide +kernel
theorem dX1_isCycle_28 : decode cX1_isCycle 28 = .ok (.lsub, 1) := by decide +kernel
theorem dX1_isCycle_29 : decode cX1_isCycle 29 = .ok (.lstore 5, 2) := by decide +kernel
theorem dX1_isCycle_31 : decode cX1_isCycle 31 = .ok (.lload_n 1, 1) := by decide +kernel
theorem dX1_isCycle_32 : decode cX1_isCycle 32 = .ok (.lload_n 1, 1) := by decide +kernel
theorem dX1_isCycle_33 : decode cX1_isCycle 33 = .ok (.lmul, 1) := by decide +kernel
theorem dX1_isCycle_34 : decode cX1_isCycle 34 = .ok (.ldc2_w 34, 3) := by decide +kernel
theorem dX1_isCycle_37 : decode cX1_isCycle 37 = .ok (.aload_n 0, 1) := by decide +kernel
theorem dX1_isCycle_38 : decode cX1_isCycle 38 = .ok (.iconst 4, 1) := by decide +kernel
theorem dX1_isCycle_39 : decode cX1_isCycle 39 = .ok (.invokevirtual 22, 3) := by decide +kernel
theorem dX1_isCycle_42 : decode cX1_isCycle 42 = .ok (.lmul, 1) := by decide +kernel
theorem dX1_isCycle_43 : decode cX1_isCycle 43 = .ok (.aload_n 0, 1) := by decide +kernel
theorem dX1_isCycle_44 : decode cX1_isCycle 44 = .ok (.iconst 0, 1) := by decide +kernel
theorem dX1_isCycle_45 : decode cX1_isCycle 45 = .ok (.invokevirtual 22, 3) := by decide +kernel
theorem dX1_isCycle_48 : decode cX1_isCycle 48 = .ok (.lmul, 1) := by decide +kernel
theorem dX1_isCycle_49 : decode cX1_isCycle 49 = .ok (.lsub, 1) := by decide +kernel
theorem dX1_isCycle_50 : decode cX1_isCycle 50 = .ok (.lstore 7, 2) := by decide +kernel
theorem dX1_isCycle_52 : decode cX1_isCycle 52 = .ok (.lload 5, 2) := by decide +kernel
theorem dX1_isCycle_54 : decode cX1_isCycle 54 = .ok (.lload_n 3, 1) := by decide +kernel
theorem dX1_isCycle_55 : decode cX1_isCycle 55 = .ok (.invokestatic 44, 3) := by decide +kernel
theorem dX1_isCycle_58 : decode cX1_isCycle 58 = .ok (.ifCond .eq 16, 3) := by decide +kernel
theorem dX1_isCycle_61 : decode cX1_isCycle 61 = .ok (.lload 7, 2) := by decide +kernel
theorem dX1_isCycle_63 : decode cX1_isCycle 63 = .ok (.lload_n 3, 1) := by decide +kernel
theorem dX1_isCycle_64 : decode cX1_isCycle 64 = .ok (.invokestatic 44, 3) := by decide +kernel
theorem dX1_isCycle_67 : decode cX1_isCycle 67 = .ok (.ifCond .eq 7, 3) := by decide +kernel
theorem dX1_isCycle_70 : decode cX1_isCycle 70 = .ok (.iconst 1, 1) := by decide +kernel
theorem dX1_isCycle_71 : decode cX1_isCycle 71 = .ok (.goto 4, 3) := by decide +kernel
theorem dX1_isCycle_74 : decode cX1_isCycle 74 = .ok (.iconst 0, 1) := by decide +kernel
theorem dX1_isCycle_75 : decode cX1_isCycle 75 = .ok (.ireturn, 1) := by decide +kernel
theorem dX1_discriminantOf_0 : decode cX1_discriminantOf 0 = .ok (.lload_n 2, 1) := by decide +kernel
theorem dX1_discriminantOf_1 : decode cX1_discriminantOf 1 = .ok (.lload_n 2, 1) := by decide +kernel
theorem dX1_discriminantOf_2 : decode cX1_discriminantOf 2 = .ok (.lmul, 1) := by decide +kernel
theorem dX1_discriminantOf_3 : decode cX1_discriminantOf 3 = .ok (.lload 4, 2) := by decide +kernel
theorem dX1_discriminantOf_5 : decode cX1_discriminantOf 5 = .ok (.lmul, 1) := by decide +kernel
theorem dX1_discriminantOf_6 : decode cX1_discriminantOf 6 = .ok (.lload 4, 2) := by decide +kernel
theorem dX1_discriminantOf_8 : decode cX1_discriminantOf 8 = .ok (.lmul, 1) := by decide +kernel
theorem dX1_discriminantOf_9 : decode cX1_discriminantOf 9 = .ok (.ldc2_w 34, 3) := by decide +kernel
theorem dX1_discriminantOf_12 : decode cX1_discriminantOf 12 = .ok (.lload_n 0, 1) := by decide +kernel
theorem dX1_discriminantOf_13 : decode cX1_discriminantOf 13 = .ok (.lmul, 1) := by decide +kernel
theorem dX1_discriminantOf_14 : decode cX1_discriminantOf 14 = .ok (.lload 4, 2) := by decide +kernel
theorem dX1_discriminantOf_16 : decode cX1_discriminantOf 16 = .ok (.lmul, 1) := by decide +kernel
theorem dX1_discriminantOf_17 : decode cX1_discriminantOf 17 = .ok (.lload 4, 2) := by decide +kernel
theorem dX1_discriminantOf_19 : decode cX1_discriminantOf 19 = .ok (.lmul, 1) := by decide +kernel
theorem dX1_discriminantOf_20 : decode cX1_discriminantOf 20 = .ok (.lload 4, 2) := by decide +kernel
theorem dX1_discriminantOf_22 : decode cX1_discriminantOf 22 = .ok (.lmul, 1) := by decide +kernel
theorem dX1_discriminantOf_23 : decode cX1_discriminantOf 23 = .ok (.lsub, 1) := by decide +kernel
theorem dX1_discriminantOf_24 : decode cX1_discriminantOf 24 = .ok (.ldc2_w 34, 3) := by decide +kernel
theorem dX1_discriminantOf_27 : decode cX1_discriminantOf 27 = .ok (.lload_n 2, 1) := by decide +kernel
theorem dX1_discriminantOf_28 : decode cX1_discriminantOf 28 = .ok (.lmul, 1) := by decide +kernel
theorem dX1_discriminantOf_29 : decode cX1_discriminantOf 29 = .ok (.lload_n 2, 1) := by decide +kernel
theorem dX1_discriminantOf_30 : decode cX1_discriminantOf 30 = .ok (.lmul, 1) := by decide +kernel
theorem dX1_discriminantOf_31 : decode cX1_discriminantOf 31 = .ok (.lload_n 2, 1) := by decide +kernel
theorem dX1_discriminantOf_32 : decode cX1_discriminantOf 32 = .ok (.lmul, 1) := by decide +kernel
theorem dX1_discriminantOf_33 : decode cX1_discriminantOf 33 = .ok (.lload 6, 2) := by decide +kernel
theorem dX1_discriminantOf_35 : decode cX1_discriminantOf 35 = .ok (.lmul, 1) := by decide +kernel
theorem dX1_discriminantOf_36 : decode cX1_discriminantOf 36 = .ok (.lsub, 1) := by decide +kernel
theorem dX1_discriminantOf_37 : decode cX1_discriminantOf 37 = .ok (.ldc2_w 48, 3) := by decide +kernel
theorem dX1_discriminantOf_40 : decode cX1_discriminantOf 40 = .ok (.lload_n 0, 1) := by decide +kernel
theorem dX1_discriminantOf_41 : decode cX1_discriminantOf 41 = .ok (.lmul, 1) := by decide +kernel
theorem dX1_discriminantOf_42 : decode cX1_discriminantOf 42 = .ok (.lload_n 0, 1) := by decide +kernel
theorem dX1_discriminantOf_43 : decode cX1_discriminantOf 43 = .ok (.lmul, 1) := by decide +kernel
theorem dX1_discriminantOf_44 : decode cX1_discriminantOf 44 = .ok (.lload 6, 2) := by decide +kernel
theorem dX1_discriminantOf_46 : decode cX1_discriminantOf 46 = .ok (.lmul, 1) := by decide +kernel
theorem dX1_discriminantOf_47 : decode cX1_discriminantOf 47 = .ok (.lload 6, 2) := by decide +kernel
theorem dX1_discriminantOf_49 : decode cX1_discriminantOf 49 = .ok (.lmul, 1) := by decide +kernel
theorem dX1_discriminantOf_50 : decode cX1_discriminantOf 50 = .ok (.lsub, 1) := by decide +kernel
theorem dX1_discriminantOf_51 : decode cX1_discriminantOf 51 = .ok (.ldc2_w 50, 3) := by decide +kernel
theorem dX1_discriminantOf_54 : decode cX1_discriminantOf 54 = .ok (.lload_n 0, 1) := by decide +kernel
theorem dX1_discriminantOf_55 : decode cX1_discriminantOf 55 = .ok (.lmul, 1) := by decide +kernel
theorem dX1_discriminantOf_56 : decode cX1_discriminantOf 56 = .ok (.lload_n 2, 1) := by decide +kernel
theorem dX1_discriminantOf_57 : decode cX1_discriminantOf 57 = .ok (.lmul, 1) := by decide +kernel
theorem dX1_discriminantOf_58 : decode cX1_discriminantOf 58 = .ok (.lload 4, 2) := by decide +kernel
theorem dX1_discriminantOf_60 : decode cX1_discriminantOf 60 = .ok (.lmul, 1) := by decide +kernel
theorem dX1_discriminantOf_61 : decode cX1_discriminantOf 61 = .ok (.lload 6, 2) := by decide +kernel
theorem dX1_discriminantOf_63 : decode cX1_discriminantOf 63 = .ok (.lmul, 1) := by decide +kernel
theorem dX1_discriminantOf_64 : decode cX1_discriminantOf 64 = .ok (.ladd, 1) := by decide +kernel
theorem dX1_discriminantOf_65 : decode cX1_discriminantOf 65 = .ok (.lreturn, 1) := by decide +kernel
set_option maxRecDepth 20000 in
theorem ggX1_isSquareProduct_X6_greatestDivisor : GoodIn wsX1_isSquareProduct wsX6_greatestDivisor := goodIn_r _ [7, 8, 2, 3, 4] (by decide +kernel) (by decide +kernel)
set_option maxRecDepth 20000 in
theorem gX1_isSquareProduct_X6_greatestDivisor_n52 : GoodIn wsX1_isSquareProduct (wsX6_greatestDivisor) := ggX1_isSquareProduct_X6_greatestDivisor
set_option maxRecDepth 20000 in
theorem ggX1_isSquareProduct_X1_isSquare : GoodIn wsX1_isSquareProduct wsX1_isSquare := goodIn_r _ [12] (by decide +kernel) (by decide +kernel)
set_option maxRecDepth 20000 in
theorem gX1_isSquareProduct_X1_isSquare : GoodIn wsX1_isSquareProduct (va_wsS RX1 30 yX1_isSquare wsX1_isSquare) := goodIn_app (goodIn_of _ (by decide +kernel)) ggX1_isSquareProduct_X1_isSquare
theorem dX1_isSquareProduct_0 : decode cX1_isSquareProduct 0 = .ok (.lload_n 0, 1) := by decide +kernel
theorem dX1_isSquareProduct_1 : decode cX1_isSquareProduct 1 = .ok (.lload_n 2, 1) := by decide +kernel
theorem dX1_isSquareProduct_2 : decode cX1_isSquareProduct 2 = .ok (.invokestatic 52, 3) := by decide +kernel
theorem dX1_isSquareProduct_5 : decode cX1_isSquareProduct 5 = .ok (.lstore 4, 2) := by decide +kernel
theorem dX1_isSquareProduct_7 : decode cX1_isSquareProduct 7 = .ok (.lload_n 0, 1) := by decide +kernel
theorem dX1_isSquareProduct_8 : decode cX1_isSquareProduct 8 = .ok (.lconst 0, 1) := by decide +kernel
theorem dX1_isSquareProduct_9 : decode cX1_isSquareProduct 9 = .ok (.lcmp, 1) := by decide +kernel
theorem dX1_isSquareProduct_10 : decode cX1_isSquareProduct 10 = .ok (.ifCond .eq 16, 3) := by decide +kernel
theorem dX1_isSquareProduct_13 : decode cX1_isSquareProduct 13 = .ok (.lload_n 2, 1) := by decide +kernel
theorem dX1_isSquareProduct_14 : decode cX1_isSquareProduct 14 = .ok (.lconst 0, 1) := by decide +kernel
theorem dX1_isSquareProduct_15 : decode cX1_isSquareProduct 15 = .ok (.lcmp, 1) := by decide +kernel
theorem dX1_isSquareProduct_16 : decode cX1_isSquareProduct 16 = .ok (.ifCond .eq 10, 3) := by decide +kernel
theorem dX1_isSquareProduct_19 : decode cX1_isSquareProduct 19 = .ok (.lload 4, 2) := by decide +kernel
theorem dX1_isSquareProduct_21 : decode cX1_isSquareProduct 21 = .ok (.lconst 0, 1) := by decide +kernel
theorem dX1_isSquareProduct_22 : decode cX1_isSquareProduct 22 = .ok (.lcmp, 1) := by decide +kernel
theorem dX1_isSquareProduct_23 : decode cX1_isSquareProduct 23 = .ok (.ifCond .ne 5, 3) := by decide +kernel
theorem dX1_isSquareProduct_26 : decode cX1_isSquareProduct 26 = .ok (.iconst 1, 1) := by decide +kernel
theorem dX1_isSquareProduct_27 : decode cX1_isSquareProduct 27 = .ok (.ireturn, 1) := by decide +kernel
theorem dX1_isSquareProduct_28 : decode cX1_isSquareProduct 28 = .ok (.lload_n 0, 1) := by decide +kernel
theorem dX1_isSquareProduct_29 : decode cX1_isSquareProduct 29 = .ok (.lconst 0, 1) := by decide +kernel
theorem dX1_isSquareProduct_30 : decode cX1_isSquareProduct 30 = .ok (.lcmp, 1) := by decide +kernel
theorem dX1_isSquareProduct_31 : decode cX1_isSquareProduct 31 = .ok (.ifCond .ge 7, 3) := by decide +kernel
theorem dX1_isSquareProduct_34 : decode cX1_isSquareProduct 34 = .ok (.iconst 1, 1) := by decide +kernel
theorem dX1_isSquareProduct_35 : decode cX1_isSquareProduct 35 = .ok (.goto 4, 3) := by decide +kernel
theorem dX1_isSquareProduct_38 : decode cX1_isSquareProduct 38 = .ok (.iconst 0, 1) := by decide +kernel
theorem dX1_isSquareProduct_39 : decode cX1_isSquareProduct 39 = .ok (.lload_n 2, 1) := by decide +kernel
theorem dX1_isSquareProduct_40 : decode cX1_isSquareProduct 40 = .ok (.lconst 0, 1) := by decide +kernel
theorem dX1_isSquareProduct_41 : decode cX1_isSquareProduct 41 = .ok (.lcmp, 1) := by decide +kernel
theorem dX1_isSquareProduct_42 : decode cX1_isSquareProduct 42 = .ok (.ifCond .ge 7, 3) := by decide +kernel
theorem dX1_isSquareProduct_45 : decode cX1_isSquareProduct 45 = .ok (.iconst 1, 1) := by decide +kernel
theorem dX1_isSquareProduct_46 : decode cX1_isSquareProduct 46 = .ok (.goto 4, 3) := by decide +kernel
theorem dX1_isSquareProduct_49 : decode cX1_isSquareProduct 49 = .ok (.iconst 0, 1) := by decide +kernel
theorem dX1_isSquareProduct_50 : decode cX1_isSquareProduct 50 = .ok (.if_icmp .ne 33, 3) := by decide +kernel
theorem dX1_isSquareProduct_53 : decode cX1_isSquareProduct 53 = .ok (.lload_n 0, 1) := by decide +kernel
theorem dX1_isSquareProduct_54 : decode cX1_isSquareProduct 54 = .ok (.lload 4, 2) := by decide +kernel
theorem dX1_isSquareProduct_56 : decode cX1_isSquareProduct 56 = .ok (.ldiv, 1) := by decide +kernel
theorem dX1_isSquareProduct_57 : decode cX1_isSquareProduct 57 = .ok (.invokestatic 58, 3) := by decide +kernel
theorem dX1_isSquareProduct_60 : decode cX1_isSquareProduct 60 = .ok (.invokestatic 30, 3) := by decide +kernel
theorem dX1_isSquareProduct_63 : decode cX1_isSquareProduct 63 = .ok (.ifCond .eq 20, 3) := by decide +kernel
theorem dX1_isSquareProduct_66 : decode cX1_isSquareProduct 66 = .ok (.lload_n 2, 1) := by decide +kernel
theorem dX1_isSquareProduct_67 : decode cX1_isSquareProduct 67 = .ok (.lload 4, 2) := by decide +kernel
theorem dX1_isSquareProduct_69 : decode cX1_isSquareProduct 69 = .ok (.ldiv, 1) := by decide +kernel
theorem dX1_isSquareProduct_70 : decode cX1_isSquareProduct 70 = .ok (.invokestatic 58, 3) := by decide +kernel
theorem dX1_isSquareProduct_73 : decode cX1_isSquareProduct 73 = .ok (.invokestatic 30, 3) := by decide +kernel
theorem dX1_isSquareProduct_76 : decode cX1_isSquareProduct 76 = .ok (.ifCond .eq 7, 3) := by decide +kernel
theorem dX1_isSquareProduct_79 : decode cX1_isSquareProduct 79 = .ok (.iconst 1, 1) := by decide +kernel
theorem dX1_isSquareProduct_80 : decode cX1_isSquareProduct 80 = .ok (.goto 4, 3) := by decide +kernel
theorem dX1_isSquareProduct_83 : decode cX1_isSquareProduct 83 = .ok (.iconst 0, 1) := by decide +kernel
theorem dX1_isSquareProduct_84 : decode cX1_isSquareProduct 84 = .ok (.ireturn, 1) := by decide +kernel
theorem dX1_isSquare_0 : decode cX1_isSquare 0 = .ok (.lconst 0, 1) := by decide +kernel
theorem dX1_isSquare_1 : decode cX1_isSquare 1 = .ok (.lstore_n 2, 1) := by decide +kernel
theorem dX1_isSquare_2 : decode cX1_isSquare 2 = .ok (.bipush 30, 2) := by decide +kernel
theorem dX1_isSquare_4 : decode cX1_isSquare 4 = .ok (.istore 4, 2) := by decide +kernel
theorem dX1_isSquare_6 : decode cX1_isSquare 6 = .ok (.iload 4, 2) := by decide +kernel
theorem dX1_isSquare_8 : decode cX1_isSquare 8 = .ok (.ifCond .lt 30, 3) := by decide +kernel
theorem dX1_isSquare_11 : decode cX1_isSquare 11 = .ok (.lload_n 2, 1) := by decide +kernel
theorem dX1_isSquare_12 : decode cX1_isSquare 12 = .ok (.lconst 1, 1) := by decide +kernel
theorem dX1_isSquare_13 : decode cX1_isSquare 13 = .ok (.iload 4, 2) := by decide +kernel
theorem dX1_isSquare_15 : decode cX1_isSquare 15 = .ok (.lshl, 1) := by decide +kernel
theorem dX1_isSquare_16 : decode cX1_isSquare 16 = .ok (.lor, 1) := by decide +kernel
theorem dX1_isSquare_17 : decode cX1_isSquare 17 = .ok (.lstore 5, 2) := by decide +kernel
theorem dX1_isSquare_19 : decode cX1_isSquare 19 = .ok (.lload 5, 2) := by decide +kernel
theorem dX1_isSquare_21 : decode cX1_isSquare 21 = .ok (.lload 5, 2) := by decide +kernel
theorem dX1_isSquare_23 : decode cX1_isSquare 23 = .ok (.lmul, 1) := by decide +kernel
theorem dX1_isSquare_24 : decode cX1_isSquare 24 = .ok (.lload_n 0, 1) := by decide +kernel
theorem dX1_isSquare_25 : decode cX1_isSquare 25 = .ok (.lcmp, 1) := by decide +kernel
theorem dX1_isSquare_26 : decode cX1_isSquare 26 = .ok (.ifCond .gt 6, 3) := by decide +kernel
theorem dX1_isSquare_29 : decode cX1_isSquare 29 = .ok (.lload 5, 2) := by decide +kernel
theorem dX1_isSquare_31 : decode cX1_isSquare 31 = .ok (.lstore_n 2, 1) := by decide +kernel
theorem dX1_isSquare_32 : decode cX1_isSquare 32 = .ok (.iinc 4 (-1), 3) := by decide +kernel
theorem dX1_isSquare_35 : decode cX1_isSquare 35 = .ok (.goto (-29), 3) := by decide +kernel
theorem dX1_isSquare_38 : decode cX1_isSquare 38 = .ok (.lload_n 2, 1) := by decide +kernel
theorem dX1_isSquare_39 : decode cX1_isSquare 39 = .ok (.lload_n 2, 1) := by decide +kernel
theorem dX1_isSquare_40 : decode cX1_isSquare 40 = .ok (.lmul, 1) := by decide +kernel
theorem dX1_isSquare_41 : decode cX1_isSquare 41 = .ok (.lload_n 0, 1) := by decide +kernel
theorem dX1_isSquare_42 : decode cX1_isSquare 42 = .ok (.lcmp, 1) := by decide +kernel
theorem dX1_isSquare_43 : decode cX1_isSquare 43 = .ok (.ifCond .ne 7, 3) := by decide +kernel
theorem dX1_isSquare_46 : decode cX1_isSquare 46 = .ok (.iconst 1, 1) := by decide +kernel
