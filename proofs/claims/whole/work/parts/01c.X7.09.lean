theorem dX7_quartic_8 : decode cX7_quartic 8 = .ok (.lmul, 1) := by decide +kernel
theorem dX7_quartic_9 : decode cX7_quartic 9 = .ok (.lload 9, 2) := by decide +kernel
theorem dX7_quartic_11 : decode cX7_quartic 11 = .ok (.lmul, 1) := by decide +kernel
theorem dX7_quartic_12 : decode cX7_quartic 12 = .ok (.lload 9, 2) := by decide +kernel
theorem dX7_quartic_14 : decode cX7_quartic 14 = .ok (.lmul, 1) := by decide +kernel
theorem dX7_quartic_15 : decode cX7_quartic 15 = .ok (.lload 9, 2) := by decide +kernel
theorem dX7_quartic_17 : decode cX7_quartic 17 = .ok (.lmul, 1) := by decide +kernel
theorem dX7_quartic_18 : decode cX7_quartic 18 = .ok (.ldc2_w 247, 3) := by decide +kernel
theorem dX7_quartic_21 : decode cX7_quartic 21 = .ok (.lload_n 1, 1) := by decide +kernel
theorem dX7_quartic_22 : decode cX7_quartic 22 = .ok (.lmul, 1) := by decide +kernel
theorem dX7_quartic_23 : decode cX7_quartic 23 = .ok (.lload_n 1, 1) := by decide +kernel
theorem dX7_quartic_24 : decode cX7_quartic 24 = .ok (.lmul, 1) := by decide +kernel
theorem dX7_quartic_25 : decode cX7_quartic 25 = .ok (.lload_n 3, 1) := by decide +kernel
theorem dX7_quartic_26 : decode cX7_quartic 26 = .ok (.lmul, 1) := by decide +kernel
theorem dX7_quartic_27 : decode cX7_quartic 27 = .ok (.lload 7, 2) := by decide +kernel
theorem dX7_quartic_29 : decode cX7_quartic 29 = .ok (.lmul, 1) := by decide +kernel
theorem dX7_quartic_30 : decode cX7_quartic 30 = .ok (.lload 9, 2) := by decide +kernel
theorem dX7_quartic_32 : decode cX7_quartic 32 = .ok (.lmul, 1) := by decide +kernel
theorem dX7_quartic_33 : decode cX7_quartic 33 = .ok (.lload 9, 2) := by decide +kernel
theorem dX7_quartic_35 : decode cX7_quartic 35 = .ok (.lmul, 1) := by decide +kernel
theorem dX7_quartic_36 : decode cX7_quartic 36 = .ok (.lsub, 1) := by decide +kernel
theorem dX7_quartic_37 : decode cX7_quartic 37 = .ok (.ldc2_w 249, 3) := by decide +kernel
theorem dX7_quartic_40 : decode cX7_quartic 40 = .ok (.lload_n 1, 1) := by decide +kernel
theorem dX7_quartic_41 : decode cX7_quartic 41 = .ok (.lmul, 1) := by decide +kernel
theorem dX7_quartic_42 : decode cX7_quartic 42 = .ok (.lload_n 1, 1) := by decide +kernel
theorem dX7_quartic_43 : decode cX7_quartic 43 = .ok (.lmul, 1) := by decide +kernel
theorem dX7_quartic_44 : decode cX7_quartic 44 = .ok (.lload 5, 2) := by decide +kernel
theorem dX7_quartic_46 : decode cX7_quartic 46 = .ok (.lmul, 1) := by decide +kernel
theorem dX7_quartic_47 : decode cX7_quartic 47 = .ok (.lload 5, 2) := by decide +kernel
theorem dX7_quartic_49 : decode cX7_quartic 49 = .ok (.lmul, 1) := by decide +kernel
theorem dX7_quartic_50 : decode cX7_quartic 50 = .ok (.lload 9, 2) := by decide +kernel
theorem dX7_quartic_52 : decode cX7_quartic 52 = .ok (.lmul, 1) := by decide +kernel
theorem dX7_quartic_53 : decode cX7_quartic 53 = .ok (.lload 9, 2) := by decide +kernel
theorem dX7_quartic_55 : decode cX7_quartic 55 = .ok (.lmul, 1) := by decide +kernel
theorem dX7_quartic_56 : decode cX7_quartic 56 = .ok (.lsub, 1) := by decide +kernel
theorem dX7_quartic_57 : decode cX7_quartic 57 = .ok (.ldc2_w 251, 3) := by decide +kernel
theorem dX7_quartic_60 : decode cX7_quartic 60 = .ok (.lload_n 1, 1) := by decide +kernel
theorem dX7_quartic_61 : decode cX7_quartic 61 = .ok (.lmul, 1) := by decide +kernel
theorem dX7_quartic_62 : decode cX7_quartic 62 = .ok (.lload_n 1, 1) := by decide +kernel
theorem dX7_quartic_63 : decode cX7_quartic 63 = .ok (.lmul, 1) := by decide +kernel
theorem dX7_quartic_64 : decode cX7_quartic 64 = .ok (.lload 5, 2) := by decide +kernel
theorem dX7_quartic_66 : decode cX7_quartic 66 = .ok (.lmul, 1) := by decide +kernel
theorem dX7_quartic_67 : decode cX7_quartic 67 = .ok (.lload 7, 2) := by decide +kernel
theorem dX7_quartic_69 : decode cX7_quartic 69 = .ok (.lmul, 1) := by decide +kernel
theorem dX7_quartic_70 : decode cX7_quartic 70 = .ok (.lload 7, 2) := by decide +kernel
theorem dX7_quartic_72 : decode cX7_quartic 72 = .ok (.lmul, 1) := by decide +kernel
theorem dX7_quartic_73 : decode cX7_quartic 73 = .ok (.lload 9, 2) := by decide +kernel
theorem dX7_quartic_75 : decode cX7_quartic 75 = .ok (.lmul, 1) := by decide +kernel
theorem dX7_quartic_76 : decode cX7_quartic 76 = .ok (.ladd, 1) := by decide +kernel
theorem dX7_quartic_77 : decode cX7_quartic 77 = .ok (.lstore 11, 2) := by decide +kernel
theorem dX7_quartic_79 : decode cX7_quartic 79 = .ok (.lload 11, 2) := by decide +kernel
theorem dX7_quartic_81 : decode cX7_quartic 81 = .ok (.ldc2_w 243, 3) := by decide +kernel
theorem dX7_quartic_84 : decode cX7_quartic 84 = .ok (.lload_n 1, 1) := by decide +kernel
theorem dX7_quartic_85 : decode cX7_quartic 85 = .ok (.lmul, 1) := by decide +kernel
theorem dX7_quartic_86 : decode cX7_quartic 86 = .ok (.lload_n 1, 1) := by decide +kernel
theorem dX7_quartic_87 : decode cX7_quartic 87 = .ok (.lmul, 1) := by decide +kernel
theorem dX7_quartic_88 : decode cX7_quartic 88 = .ok (.lload 7, 2) := by decide +kernel
theorem dX7_quartic_90 : decode cX7_quartic 90 = .ok (.lmul, 1) := by decide +kernel
theorem dX7_quartic_91 : decode cX7_quartic 91 = .ok (.lload 7, 2) := by decide +kernel
theorem dX7_quartic_93 : decode cX7_quartic 93 = .ok (.lmul, 1) := by decide +kernel
theorem dX7_quartic_94 : decode cX7_quartic 94 = .ok (.lload 7, 2) := by decide +kernel
theorem dX7_quartic_96 : decode cX7_quartic 96 = .ok (.lmul, 1) := by decide +kernel
theorem dX7_quartic_97 : decode cX7_quartic 97 = .ok (.lload 7, 2) := by decide +kernel
theorem dX7_quartic_99 : decode cX7_quartic 99 = .ok (.lmul, 1) := by decide +kernel
theorem dX7_quartic_100 : decode cX7_quartic 100 = .ok (.lsub, 1) := by decide +kernel
theorem dX7_quartic_101 : decode cX7_quartic 101 = .ok (.ldc2_w 251, 3) := by decide +kernel
theorem dX7_quartic_104 : decode cX7_quartic 104 = .ok (.lload_n 1, 1) := by decide +kernel
theorem dX7_quartic_105 : decode cX7_quartic 105 = .ok (.lmul, 1) := by decide +kernel
theorem dX7_quartic_106 : decode cX7_quartic 106 = .ok (.lload_n 3, 1) := by decide +kernel
theorem dX7_quartic_107 : decode cX7_quartic 107 = .ok (.lmul, 1) := by decide +kernel
theorem dX7_quartic_108 : decode cX7_quartic 108 = .ok (.lload_n 3, 1) := by decide +kernel
theorem dX7_quartic_109 : decode cX7_quartic 109 = .ok (.lmul, 1) := by decide +kernel
theorem dX7_quartic_110 : decode cX7_quartic 110 = .ok (.lload 5, 2) := by decide +kernel
theorem dX7_quartic_112 : decode cX7_quartic 112 = .ok (.lmul, 1) := by decide +kernel
theorem dX7_quartic_113 : decode cX7_quartic 113 = .ok (.lload 9, 2) := by decide +kernel
theorem dX7_quartic_115 : decode cX7_quartic 115 = .ok (.lmul, 1) := by decide +kernel
theorem dX7_quartic_116 : decode cX7_quartic 116 = .ok (.lload 9, 2) := by decide +kernel
theorem dX7_quartic_118 : decode cX7_quartic 118 = .ok (.lmul, 1) := by decide +kernel
theorem dX7_quartic_119 : decode cX7_quartic 119 = .ok (.ladd, 1) := by decide +kernel
theorem dX7_quartic_120 : decode cX7_quartic 120 = .ok (.ldc2_w 253, 3) := by decide +kernel
theorem dX7_quartic_123 : decode cX7_quartic 123 = .ok (.lload_n 1, 1) := by decide +kernel
theorem dX7_quartic_124 : decode cX7_quartic 124 = .ok (.lmul, 1) := by decide +kernel
theorem dX7_quartic_125 : decode cX7_quartic 125 = .ok (.lload_n 3, 1) := by decide +kernel
theorem dX7_quartic_126 : decode cX7_quartic 126 = .ok (.lmul, 1) := by decide +kernel
theorem dX7_quartic_127 : decode cX7_quartic 127 = .ok (.lload_n 3, 1) := by decide +kernel
theorem dX7_quartic_128 : decode cX7_quartic 128 = .ok (.lmul, 1) := by decide +kernel
theorem dX7_quartic_129 : decode cX7_quartic 129 = .ok (.lload 7, 2) := by decide +kernel
theorem dX7_quartic_131 : decode cX7_quartic 131 = .ok (.lmul, 1) := by decide +kernel
theorem dX7_quartic_132 : decode cX7_quartic 132 = .ok (.lload 7, 2) := by decide +kernel
theorem dX7_quartic_134 : decode cX7_quartic 134 = .ok (.lmul, 1) := by decide +kernel
theorem dX7_quartic_135 : decode cX7_quartic 135 = .ok (.lload 9, 2) := by decide +kernel
theorem dX7_quartic_137 : decode cX7_quartic 137 = .ok (.lmul, 1) := by decide +kernel
theorem dX7_quartic_138 : decode cX7_quartic 138 = .ok (.lsub, 1) := by decide +kernel
theorem dX7_quartic_139 : decode cX7_quartic 139 = .ok (.ldc2_w 255, 3) := by decide +kernel
theorem dX7_quartic_142 : decode cX7_quartic 142 = .ok (.lload_n 1, 1) := by decide +kernel
theorem dX7_quartic_143 : decode cX7_quartic 143 = .ok (.lmul, 1) := by decide +kernel
theorem dX7_quartic_144 : decode cX7_quartic 144 = .ok (.lload_n 3, 1) := by decide +kernel
theorem dX7_quartic_145 : decode cX7_quartic 145 = .ok (.lmul, 1) := by decide +kernel
theorem dX7_quartic_146 : decode cX7_quartic 146 = .ok (.lload 5, 2) := by decide +kernel
theorem dX7_quartic_148 : decode cX7_quartic 148 = .ok (.lmul, 1) := by decide +kernel
theorem dX7_quartic_149 : decode cX7_quartic 149 = .ok (.lload 5, 2) := by decide +kernel
theorem dX7_quartic_151 : decode cX7_quartic 151 = .ok (.lmul, 1) := by decide +kernel
theorem dX7_quartic_152 : decode cX7_quartic 152 = .ok (.lload 7, 2) := by decide +kernel
theorem dX7_quartic_154 : decode cX7_quartic 154 = .ok (.lmul, 1) := by decide +kernel
theorem dX7_quartic_155 : decode cX7_quartic 155 = .ok (.lload 9, 2) := by decide +kernel
theorem dX7_quartic_157 : decode cX7_quartic 157 = .ok (.lmul, 1) := by decide +kernel
theorem dX7_quartic_158 : decode cX7_quartic 158 = .ok (.lsub, 1) := by decide +kernel
theorem dX7_quartic_159 : decode cX7_quartic 159 = .ok (.lstore 11, 2) := by decide +kernel
theorem dX7_quartic_161 : decode cX7_quartic 161 = .ok (.lload 11, 2) := by decide +kernel
theorem dX7_quartic_163 : decode cX7_quartic 163 = .ok (.ldc2_w 239, 3) := by decide +kernel
theorem dX7_quartic_166 : decode cX7_quartic 166 = .ok (.lload_n 1, 1) := by decide +kernel
theorem dX7_quartic_167 : decode cX7_quartic 167 = .ok (.lmul, 1) := by decide +kernel
theorem dX7_quartic_168 : decode cX7_quartic 168 = .ok (.lload_n 3, 1) := by decide +kernel
theorem dX7_quartic_169 : decode cX7_quartic 169 = .ok (.lmul, 1) := by decide +kernel
theorem dX7_quartic_170 : decode cX7_quartic 170 = .ok (.lload 5, 2) := by decide +kernel
theorem dX7_quartic_172 : decode cX7_quartic 172 = .ok (.lmul, 1) := by decide +kernel
theorem dX7_quartic_173 : decode cX7_quartic 173 = .ok (.lload 7, 2) := by decide +kernel
theorem dX7_quartic_175 : decode cX7_quartic 175 = .ok (.lmul, 1) := by decide +kernel
theorem dX7_quartic_176 : decode cX7_quartic 176 = .ok (.lload 7, 2) := by decide +kernel
theorem dX7_quartic_178 : decode cX7_quartic 178 = .ok (.lmul, 1) := by decide +kernel
theorem dX7_quartic_179 : decode cX7_quartic 179 = .ok (.lload 7, 2) := by decide +kernel
theorem dX7_quartic_181 : decode cX7_quartic 181 = .ok (.lmul, 1) := by decide +kernel
theorem dX7_quartic_182 : decode cX7_quartic 182 = .ok (.ladd, 1) := by decide +kernel
theorem dX7_quartic_183 : decode cX7_quartic 183 = .ok (.ldc2_w 257, 3) := by decide +kernel
theorem dX7_quartic_186 : decode cX7_quartic 186 = .ok (.lload_n 1, 1) := by decide +kernel
theorem dX7_quartic_187 : decode cX7_quartic 187 = .ok (.lmul, 1) := by decide +kernel
theorem dX7_quartic_188 : decode cX7_quartic 188 = .ok (.lload 5, 2) := by decide +kernel
theorem dX7_quartic_190 : decode cX7_quartic 190 = .ok (.lmul, 1) := by decide +kernel
theorem dX7_quartic_191 : decode cX7_quartic 191 = .ok (.lload 5, 2) := by decide +kernel
theorem dX7_quartic_193 : decode cX7_quartic 193 = .ok (.lmul, 1) := by decide +kernel
theorem dX7_quartic_194 : decode cX7_quartic 194 = .ok (.lload 5, 2) := by decide +kernel
theorem dX7_quartic_196 : decode cX7_quartic 196 = .ok (.lmul, 1) := by decide +kernel
theorem dX7_quartic_197 : decode cX7_quartic 197 = .ok (.lload 5, 2) := by decide +kernel
theorem dX7_quartic_199 : decode cX7_quartic 199 = .ok (.lmul, 1) := by decide +kernel
theorem dX7_quartic_200 : decode cX7_quartic 200 = .ok (.lload 9, 2) := by decide +kernel
theorem dX7_quartic_202 : decode cX7_quartic 202 = .ok (.lmul, 1) := by decide +kernel
theorem dX7_quartic_203 : decode cX7_quartic 203 = .ok (.ladd, 1) := by decide +kernel
theorem dX7_quartic_204 : decode cX7_quartic 204 = .ok (.ldc2_w 241, 3) := by decide +kernel
theorem dX7_quartic_207 : decode cX7_quartic 207 = .ok (.lload_n 1, 1) := by decide +kernel
theorem dX7_quartic_208 : decode cX7_quartic 208 = .ok (.lmul, 1) := by decide +kernel
theorem dX7_quartic_209 : decode cX7_quartic 209 = .ok (.lload 5, 2) := by decide +kernel
theorem dX7_quartic_211 : decode cX7_quartic 211 = .ok (.lmul, 1) := by decide +kernel
theorem dX7_quartic_212 : decode cX7_quartic 212 = .ok (.lload 5, 2) := by decide +kernel
theorem dX7_quartic_214 : decode cX7_quartic 214 = .ok (.lmul, 1) := by decide +kernel
theorem dX7_quartic_215 : decode cX7_quartic 215 = .ok (.lload 5, 2) := by decide +kernel
theorem dX7_quartic_217 : decode cX7_quartic 217 = .ok (.lmul, 1) := by decide +kernel
theorem dX7_quartic_218 : decode cX7_quartic 218 = .ok (.lload 7, 2) := by decide +kernel
theorem dX7_quartic_220 : decode cX7_quartic 220 = .ok (.lmul, 1) := by decide +kernel
theorem dX7_quartic_221 : decode cX7_quartic 221 = .ok (.lload 7, 2) := by decide +kernel
theorem dX7_quartic_223 : decode cX7_quartic 223 = .ok (.lmul, 1) := by decide +kernel
theorem dX7_quartic_224 : decode cX7_quartic 224 = .ok (.lsub, 1) := by decide +kernel
theorem dX7_quartic_225 : decode cX7_quartic 225 = .ok (.ldc2_w 243, 3) := by decide +kernel
theorem dX7_quartic_228 : decode cX7_quartic 228 = .ok (.lload_n 3, 1) := by decide +kernel
theorem dX7_quartic_229 : decode cX7_quartic 229 = .ok (.lmul, 1) := by decide +kernel
theorem dX7_quartic_230 : decode cX7_quartic 230 = .ok (.lload_n 3, 1) := by decide +kernel
theorem dX7_quartic_231 : decode cX7_quartic 231 = .ok (.lmul, 1) := by decide +kernel
theorem dX7_quartic_232 : decode cX7_quartic 232 = .ok (.lload_n 3, 1) := by decide +kernel
theorem dX7_quartic_233 : decode cX7_quartic 233 = .ok (.lmul, 1) := by decide +kernel
theorem dX7_quartic_234 : decode cX7_quartic 234 = .ok (.lload_n 3, 1) := by decide +kernel
theorem dX7_quartic_235 : decode cX7_quartic 235 = .ok (.lmul, 1) := by decide +kernel
