def wp_X7_quartic (K : Cx) (I : TI) (L : TL) (A : TA) (o0 : Nat) (j1 : Int64) (j3 : Int64) (j5 : Int64) (j7 : Int64) (j9 : Int64) (Q : Int32 → TI → TL → TA → Prop) : Prop := ∀ v1 : Int64, v1 = (((((((((256 * j1) * j1) * j1) * j9) * j9) * j9) - ((((((192 * j1) * j1) * j3) * j7) * j9) * j9)) - ((((((128 * j1) * j1) * j5) * j5) * j9) * j9)) + ((((((144 * j1) * j1) * j5) * j7) * j7) * j9)) → ∀ v2 : Int64, v2 = ((((v1 - ((((((27 * j1) * j1) * j7) * j7) * j7) * j7)) + ((((((144 * j1) * j3) * j3) * j5) * j9) * j9)) - ((((((6 * j1) * j3) * j3) * j7) * j7) * j9)) - ((((((80 * j1) * j3) * j5) * j5) * j7) * j9)) → ∀ v3 : Int64, v3 = ((((v2 + ((((((18 * j1) * j3) * j5) * j7) * j7) * j7)) + ((((((16 * j1) * j5) * j5) * j5) * j5) * j9)) - ((((((4 * j1) * j5) * j5) * j5) * j7) * j7)) - ((((((27 * j3) * j3) * j3) * j3) * j9) * j9)) → ∀ v4 : Int64, v4 = ((((v3 + ((((((18 * j3) * j3) * j3) * j5) * j7) * j9)) - ((((((4 * j3) * j3) * j3) * j7) * j7) * j7)) - ((((((4 * j3) * j3) * j5) * j5) * j5) * j9)) + (((((j3 * j3) * j5) * j5) * j7) * j7)) → ∀ v5 : Int64, v5 = (j1 * j5) → ∀ v6 : Int64, v6 = ((j1 * j1) * j7) → ∀ v7 : Int64, v7 = (((j1 * j1) * j1) * j9) → cxS K o0 = shX7 o0 ∧ ∀ L9 : TL, L9 = u2 L o0 20 (-v5) → ∀ L10 : TL, L10 = u2 L9 o0 21 ((j3 * v6) - (4 * v7)) → ∀ L11 : TL, L11 = u2 L10 o0 22 ((((4 * v5) * v7) - ((j3 * j3) * v7)) - (v6 * v6)) → ∃ P12 : TI → TL → TA → Prop, ConV K yX7_findRoots wsX7_findRoots 2 55 I L11 A [.ref o0] P12 ∧ ∀ (I14 : TI) (L15 : TL) (A16 : TA), P12 I14 L15 A16 → (((I14 o0 23) = 0 → ∃ P30 : Int32 → TI → TL → TA → Prop, ConI K yX7_isSquare wsX7_isSquare 1 27 I14 L15 A16 [.long v4] P30 ∧ ∀ (r35 : Int32) (I32 : TI) (L33 : TL) (A34 : TA), P30 r35 I32 L33 A34 → ((r35 = 0 → Q 9 I32 L33 A34) ∧ (¬ r35 = 0 → Q 8 I32 L33 A34))) ∧ (¬ (I14 o0 23) = 0 → (((I14 o0 23) ≤ 1 → ∀ v17 : Int64, v17 = (L15 o0 24) → ∃ P18 : Int32 → TI → TL → TA → Prop, ConI K yX7_isSquareBeside wsX7_isSquareBeside 2 48 I14 L15 A16 [.long ((j3 * j3) - (4 * (v5 - v17))), .long v4] P18 ∧ ∀ (r23 : Int32) (I20 : TI) (L21 : TL) (A22 : TA), P18 r23 I20 L21 A22 → ((r23 = 0 → Q 7 I20 L21 A22) ∧ (¬ r23 = 0 → ∃ P24 : Int32 → TI → TL → TA → Prop, ConI K yX7_isSquareBeside wsX7_isSquareBeside 2 48 I20 L21 A22 [.long ((v17 * v17) - (4 * v7)), .long v4] P24 ∧ ∀ (r29 : Int32) (I26 : TI) (L27 : TL) (A28 : TA), P24 r29 I26 L27 A28 → ((r29 = 0 → Q 7 I26 L27 A28) ∧ (¬ r29 = 0 → Q 6 I26 L27 A28))))) ∧ (¬ (I14 o0 23) ≤ 1 → Q 5 I14 L15 A16))))
set_option maxHeartbeats 1000000 in
set_option maxRecDepth 100000 in
theorem w_X7_quartic (K : Cx) (I : TI) (L : TL) (A : TA) (o0 : Nat) (j1 : Int64) (j3 : Int64) (j5 : Int64) (j7 : Int64) (j9 : Int64) (Q : Int32 → TI → TL → TA → Prop) (hwp : wp_X7_quartic K I L A o0 j1 j3 j5 j7 j9 Q) : ConI K yX7_quartic wsX7_quartic 3 87 I L A [.ref o0, .long j1, .long j3, .long j5, .long j7, .long j9] Q := by
  intro hK sz
  refine Met.ofW (cc := cX7_quartic) (maxL := 21) (ret := (some .int)) (by decide) rfl ?_
  intro p e s m args below meth c s₁ B hml hv
  obtain ⟨rfl, hsz, hB⟩ := hv
  have hx := B.exec
  have hb := B.bytes
  have hret := B.returns
  have hts := atoms_spec (ws := wsX7_quartic) B.pre
  have hown : s.vm.findClass RX7 = some m.cls := findClass_of_methodNamed B.named
  have hlocks := B.notSynchronized
  subst hsz
  have hz : SS K s I L A s.heap [] := PS.start hB
  have hl := lv_entry ([.ref o0, .long j1, .long j3, .long j5, .long j7, .long j9]) (n := 21) (Nat.le_of_ble_eq_true rfl)
  rw [lg_entry_eq]
  generalize (lg_sl ([.ref o0, .long j1, .long j3, .long j5, .long j7, .long j9]) ++ List.replicate (21 - (lg_sl ([.ref o0, .long j1, .long j3, .long j5, .long j7, .long j9])).length) Slot.unset).toArray = ls at hl ⊢
  have hl : lv_has ls 21 [(0, .ref o0), (1, .long j1), (3, .long j3), (5, .long j5), (7, .long j7), (9, .long j9)] := hl
  have hw0 := hts (.constantLong RX7 245 (256)) (by decide +kernel)
  have hw1 := hts (.constantLong RX7 247 (192)) (by decide +kernel)
  have hw2 := hts (.constantLong RX7 249 (128)) (by decide +kernel)
  have hw3 := hts (.constantLong RX7 251 (144)) (by decide +kernel)
  have hw4 := hts (.constantLong RX7 243 (27)) (by decide +kernel)
  have hw5 := hts (.constantLong RX7 253 (6)) (by decide +kernel)
  have hw6 := hts (.constantLong RX7 255 (80)) (by decide +kernel)
  have hw7 := hts (.constantLong RX7 239 (18)) (by decide +kernel)
  have hw8 := hts (.constantLong RX7 257 (16)) (by decide +kernel)
  have hw9 := hts (.constantLong RX7 241 (4)) (by decide +kernel)
  have hw10 : ∀ w ∈ u_ws RX7 TX7 25, w ∈ wsX7_quartic := by decide +kernel
  have hw11 := hts (.fieldLink RX7 209 "GaloisDeskModel" "cubeB" "J") (by decide +kernel)
  have hw12 := hts (.fieldLink RX7 213 "GaloisDeskModel" "cubeC" "J") (by decide +kernel)
  have hw13 := hts (.fieldLink RX7 216 "GaloisDeskModel" "cubeD" "J") (by decide +kernel)
  have hw14 := hts (.fieldLink RX7 222 "GaloisDeskModel" "roots" "I") (by decide +kernel)
  have hw15 := hts (.fieldLink RX7 225 "GaloisDeskModel" "lastRoot" "J") (by decide +kernel)
  clear hB B
  refine lv_ldc2 hx hb hown hw0 dX7_quartic_0 ?_
  refine lv_lload_n hx hb dX7_quartic_3 rfl (lv_at hl 1 rfl) ?_
  refine lv_lmul hx hb dX7_quartic_4 ?_
  refine lv_lload_n hx hb dX7_quartic_5 rfl (lv_at hl 1 rfl) ?_
  refine lv_lmul hx hb dX7_quartic_6 ?_
  refine lv_lload_n hx hb dX7_quartic_7 rfl (lv_at hl 1 rfl) ?_
  refine lv_lmul hx hb dX7_quartic_8 ?_
  refine lv_lload hx hb dX7_quartic_9 (lv_at hl 5 rfl) ?_
  refine lv_lmul hx hb dX7_quartic_11 ?_
  refine lv_lload hx hb dX7_quartic_12 (lv_at hl 5 rfl) ?_
  refine lv_lmul hx hb dX7_quartic_14 ?_
  refine lv_lload hx hb dX7_quartic_15 (lv_at hl 5 rfl) ?_
  refine lv_lmul hx hb dX7_quartic_17 ?_
  refine lv_ldc2 hx hb hown hw1 dX7_quartic_18 ?_
  refine lv_lload_n hx hb dX7_quartic_21 rfl (lv_at hl 1 rfl) ?_
  refine lv_lmul hx hb dX7_quartic_22 ?_
  refine lv_lload_n hx hb dX7_quartic_23 rfl (lv_at hl 1 rfl) ?_
  refine lv_lmul hx hb dX7_quartic_24 ?_
  refine lv_lload_n hx hb dX7_quartic_25 rfl (lv_at hl 2 rfl) ?_
  refine lv_lmul hx hb dX7_quartic_26 ?_
  refine lv_lload hx hb dX7_quartic_27 (lv_at hl 4 rfl) ?_
  refine lv_lmul hx hb dX7_quartic_29 ?_
  refine lv_lload hx hb dX7_quartic_30 (lv_at hl 5 rfl) ?_
  refine lv_lmul hx hb dX7_quartic_32 ?_
  refine lv_lload hx hb dX7_quartic_33 (lv_at hl 5 rfl) ?_
  refine lv_lmul hx hb dX7_quartic_35 ?_
  refine lv_lsub hx hb dX7_quartic_36 ?_
  refine lv_ldc2 hx hb hown hw2 dX7_quartic_37 ?_
  refine lv_lload_n hx hb dX7_quartic_40 rfl (lv_at hl 1 rfl) ?_
  refine lv_lmul hx hb dX7_quartic_41 ?_
  refine lv_lload_n hx hb dX7_quartic_42 rfl (lv_at hl 1 rfl) ?_
  refine lv_lmul hx hb dX7_quartic_43 ?_
  refine lv_lload hx hb dX7_quartic_44 (lv_at hl 3 rfl) ?_
  refine lv_lmul hx hb dX7_quartic_46 ?_
  refine lv_lload hx hb dX7_quartic_47 (lv_at hl 3 rfl) ?_
  refine lv_lmul hx hb dX7_quartic_49 ?_
  refine lv_lload hx hb dX7_quartic_50 (lv_at hl 5 rfl) ?_
  refine lv_lmul hx hb dX7_quartic_52 ?_
  refine lv_lload hx hb dX7_quartic_53 (lv_at hl 5 rfl) ?_
  refine lv_lmul hx hb dX7_quartic_55 ?_
  refine lv_lsub hx hb dX7_quartic_56 ?_
  refine lv_ldc2 hx hb hown hw3 dX7_quartic_57 ?_
  refine lv_lload_n hx hb dX7_quartic_60 rfl (lv_at hl 1 rfl) ?_
  refine lv_lmul hx hb dX7_quartic_61 ?_
  refine lv_lload_n hx hb dX7_quartic_62 rfl (lv_at hl 1 rfl) ?_
  refine lv_lmul hx hb dX7_quartic_63 ?_
  refine lv_lload hx hb dX7_quartic_64 (lv_at hl 3 rfl) ?_
  refine lv_lmul hx hb dX7_quartic_66 ?_
  refine lv_lload hx hb dX7_quartic_67 (lv_at hl 4 rfl) ?_
  refine lv_lmul hx hb dX7_quartic_69 ?_
  refine lv_lload hx hb dX7_quartic_70 (lv_at hl 4 rfl) ?_
  refine lv_lmul hx hb dX7_quartic_72 ?_
  refine lv_lload hx hb dX7_quartic_73 (lv_at hl 5 rfl) ?_
  refine lv_lmul hx hb dX7_quartic_75 ?_
  refine lv_ladd hx hb dX7_quartic_76 ?_
  refine lv_topl (fun v1 q_v1 => ?_)
  have hwp := hwp v1 q_v1
  refine lv_lstore (lv' := [(11, .long v1), (0, .ref o0), (1, .long j1), (3, .long j3), (5, .long j5), (7, .long j7), (9, .long j9)]) hx hb dX7_quartic_77 hl (by decide) rfl (fun ls hl => ?_)
  refine lv_lload hx hb dX7_quartic_79 (lv_at hl 0 rfl) ?_
  refine lv_ldc2 hx hb hown hw4 dX7_quartic_81 ?_
  refine lv_lload_n hx hb dX7_quartic_84 rfl (lv_at hl 2 rfl) ?_
  refine lv_lmul hx hb dX7_quartic_85 ?_
  refine lv_lload_n hx hb dX7_quartic_86 rfl (lv_at hl 2 rfl) ?_
  refine lv_lmul hx hb dX7_quartic_87 ?_
  refine lv_lload hx hb dX7_quartic_88 (lv_at hl 5 rfl) ?_
  refine lv_lmul hx hb dX7_quartic_90 ?_
  refine lv_lload hx hb dX7_quartic_91 (lv_at hl 5 rfl) ?_
  refine lv_lmul hx hb dX7_quartic_93 ?_
  refine lv_lload hx hb dX7_quartic_94 (lv_at hl 5 rfl) ?_
  refine lv_lmul hx hb dX7_quartic_96 ?_
  refine lv_lload hx hb dX7_quartic_97 (lv_at hl 5 rfl) ?_
  refine lv_lmul hx hb dX7_quartic_99 ?_
  refine lv_lsub hx hb dX7_quartic_100 ?_
  refine lv_ldc2 hx hb hown hw3 dX7_quartic_101 ?_
  refine lv_lload_n hx hb dX7_quartic_104 rfl (lv_at hl 2 rfl) ?_
  refine lv_lmul hx hb dX7_quartic_105 ?_
  refine lv_lload_n hx hb dX7_quartic_106 rfl (lv_at hl 3 rfl) ?_
  refine lv_lmul hx hb dX7_quartic_107 ?_
  refine lv_lload_n hx hb dX7_quartic_108 rfl (lv_at hl 3 rfl) ?_
  refine lv_lmul hx hb dX7_quartic_109 ?_
  refine lv_lload hx hb dX7_quartic_110 (lv_at hl 4 rfl) ?_
  refine lv_lmul hx hb dX7_quartic_112 ?_
  refine lv_lload hx hb dX7_quartic_113 (lv_at hl 6 rfl) ?_
  refine lv_lmul hx hb dX7_quartic_115 ?_
  refine lv_lload hx hb dX7_quartic_116 (lv_at hl 6 rfl) ?_
  refine lv_lmul hx hb dX7_quartic_118 ?_
  refine lv_ladd hx hb dX7_quartic_119 ?_
  refine lv_ldc2 hx hb hown hw5 dX7_quartic_120 ?_
  refine lv_lload_n hx hb dX7_quartic_123 rfl (lv_at hl 2 rfl) ?_
  refine lv_lmul hx hb dX7_quartic_124 ?_
  refine lv_lload_n hx hb dX7_quartic_125 rfl (lv_at hl 3 rfl) ?_
  refine lv_lmul hx hb dX7_quartic_126 ?_
  refine lv_lload_n hx hb dX7_quartic_127 rfl (lv_at hl 3 rfl) ?_
  refine lv_lmul hx hb dX7_quartic_128 ?_
  refine lv_lload hx hb dX7_quartic_129 (lv_at hl 5 rfl) ?_
  refine lv_lmul hx hb dX7_quartic_131 ?_
  refine lv_lload hx hb dX7_quartic_132 (lv_at hl 5 rfl) ?_
  refine lv_lmul hx hb dX7_quartic_134 ?_
  refine lv_lload hx hb dX7_quartic_135 (lv_at hl 6 rfl) ?_
  refine lv_lmul hx hb dX7_quartic_137 ?_
  refine lv_lsub hx hb dX7_quartic_138 ?_
  refine lv_ldc2 hx hb hown hw6 dX7_quartic_139 ?_
  refine lv_lload_n hx hb dX7_quartic_142 rfl (lv_at hl 2 rfl) ?_
  refine lv_lmul hx hb dX7_quartic_143 ?_
  refine lv_lload_n hx hb dX7_quartic_144 rfl (lv_at hl 3 rfl) ?_
  refine lv_lmul hx hb dX7_quartic_145 ?_
  refine lv_lload hx hb dX7_quartic_146 (lv_at hl 4 rfl) ?_
  refine lv_lmul hx hb dX7_quartic_148 ?_
  refine lv_lload hx hb dX7_quartic_149 (lv_at hl 4 rfl) ?_
  refine lv_lmul hx hb dX7_quartic_151 ?_
  refine lv_lload hx hb dX7_quartic_152 (lv_at hl 5 rfl) ?_
  refine lv_lmul hx hb dX7_quartic_154 ?_
  refine lv_lload hx hb dX7_quartic_155 (lv_at hl 6 rfl) ?_
  refine lv_lmul hx hb dX7_quartic_157 ?_
  refine lv_lsub hx hb dX7_quartic_158 ?_
  refine lv_topl (fun v2 q_v2 => ?_)
  have hwp := hwp v2 q_v2
  refine lv_lstore (lv' := [(11, .long v2), (0, .ref o0), (1, .long j1), (3, .long j3), (5, .long j5), (7, .long j7), (9, .long j9)]) hx hb dX7_quartic_159 hl (by decide) rfl (fun ls hl => ?_)
  refine lv_lload hx hb dX7_quartic_161 (lv_at hl 0 rfl) ?_
  refine lv_ldc2 hx hb hown hw7 dX7_quartic_163 ?_
  refine lv_lload_n hx hb dX7_quartic_166 rfl (lv_at hl 2 rfl) ?_
  refine lv_lmul hx hb dX7_quartic_167 ?_
  refine lv_lload_n hx hb dX7_quartic_168 rfl (lv_at hl 3 rfl) ?_
  refine lv_lmul hx hb dX7_quartic_169 ?_
  refine lv_lload hx hb dX7_quartic_170 (lv_at hl 4 rfl) ?_
  refine lv_lmul hx hb dX7_quartic_172 ?_
  refine lv_lload hx hb dX7_quartic_173 (lv_at hl 5 rfl) ?_
  refine lv_lmul hx hb dX7_quartic_175 ?_
  refine lv_lload hx hb dX7_quartic_176 (lv_at hl 5 rfl) ?_
  refine lv_lmul hx hb dX7_quartic_178 ?_
  refine lv_lload hx hb dX7_quartic_179 (lv_at hl 5 rfl) ?_
  refine lv_lmul hx hb dX7_quartic_181 ?_
  refine lv_ladd hx hb dX7_quartic_182 ?_
  refine lv_ldc2 hx hb hown hw8 dX7_quartic_183 ?_
  refine lv_lload_n hx hb dX7_quartic_186 rfl (lv_at hl 2 rfl) ?_
  refine lv_lmul hx hb dX7_quartic_187 ?_
  refine lv_lload hx hb dX7_quartic_188 (lv_at hl 4 rfl) ?_
  refine lv_lmul hx hb dX7_quartic_190 ?_
  refine lv_lload hx hb dX7_quartic_191 (lv_at hl 4 rfl) ?_
  refine lv_lmul hx hb dX7_quartic_193 ?_
  refine lv_lload hx hb dX7_quartic_194 (lv_at hl 4 rfl) ?_
  refine lv_lmul hx hb dX7_quartic_196 ?_
  refine lv_lload hx hb dX7_quartic_197 (lv_at hl 4 rfl) ?_
  refine lv_lmul hx hb dX7_quartic_199 ?_
  refine lv_lload hx hb dX7_quartic_200 (lv_at hl 6 rfl) ?_
  refine lv_lmul hx hb dX7_quartic_202 ?_
  refine lv_ladd hx hb dX7_quartic_203 ?_
  refine lv_ldc2 hx hb hown hw9 dX7_quartic_204 ?_
  refine lv_lload_n hx hb dX7_quartic_207 rfl (lv_at hl 2 rfl) ?_
  refine lv_lmul hx hb dX7_quartic_208 ?_
  refine lv_lload hx hb dX7_quartic_209 (lv_at hl 4 rfl) ?_
  refine lv_lmul hx hb dX7_quartic_211 ?_
  refine lv_lload hx hb dX7_quartic_212 (lv_at hl 4 rfl) ?_
  refine lv_lmul hx hb dX7_quartic_214 ?_
  refine lv_lload hx hb dX7_quartic_215 (lv_at hl 4 rfl) ?_
  refine lv_lmul hx hb dX7_quartic_217 ?_
  refine lv_lload hx hb dX7_quartic_218 (lv_at hl 5 rfl) ?_
  refine lv_lmul hx hb dX7_quartic_220 ?_
  refine lv_lload hx hb dX7_quartic_221 (lv_at hl 5 rfl) ?_
  refine lv_lmul hx hb dX7_quartic_223 ?_
  refine lv_lsub hx hb dX7_quartic_224 ?_
  refine lv_ldc2 hx hb hown hw4 dX7_quartic_225 ?_
  refine lv_lload_n hx hb dX7_quartic_228 rfl (lv_at hl 3 rfl) ?_
  refine lv_lmul hx hb dX7_quartic_229 ?_
  refine lv_lload_n hx hb dX7_quartic_230 rfl (lv_at hl 3 rfl) ?_
  refine lv_lmul hx hb dX7_quartic_231 ?_
  refine lv_lload_n hx hb dX7_quartic_232 rfl (lv_at hl 3 rfl) ?_
  refine lv_lmul hx hb dX7_quartic_233 ?_
  refine lv_lload_n hx hb dX7_quartic_234 rfl (lv_at hl 3 rfl) ?_
  refine lv_lmul hx hb dX7_quartic_235 ?_
  refine lv_lload hx hb dX7_quartic_236 (lv_at hl 6 rfl) ?_
  refine lv_lmul hx hb dX7_quartic_238 ?_
  refine lv_lload hx hb dX7_quartic_239 (lv_at hl 6 rfl) ?_
  refine lv_lmul hx hb dX7_quartic_241 ?_
  refine lv_lsub hx hb dX7_quartic_242 ?_
  refine lv_topl (fun v3 q_v3 => ?_)
  have hwp := hwp v3 q_v3
  refine lv_lstore (lv' := [(11, .long v3), (0, .ref o0), (1, .long j1), (3, .long j3), (5, .long j5), (7, .long j7), (9, .long j9)]) hx hb dX7_quartic_243 hl (by decide) rfl (fun ls hl => ?_)
  refine lv_lload hx hb dX7_quartic_245 (lv_at hl 0 rfl) ?_
  refine lv_ldc2 hx hb hown hw7 dX7_quartic_247 ?_
  refine lv_lload_n hx hb dX7_quartic_250 rfl (lv_at hl 3 rfl) ?_
  refine lv_lmul hx hb dX7_quartic_251 ?_
  refine lv_lload_n hx hb dX7_quartic_252 rfl (lv_at hl 3 rfl) ?_
  refine lv_lmul hx hb dX7_quartic_253 ?_
  refine lv_lload_n hx hb dX7_quartic_254 rfl (lv_at hl 3 rfl) ?_
  refine lv_lmul hx hb dX7_quartic_255 ?_
  refine lv_lload hx hb dX7_quartic_256 (lv_at hl 4 rfl) ?_
  refine lv_lmul hx hb dX7_quartic_258 ?_
  refine lv_lload hx hb dX7_quartic_259 (lv_at hl 5 rfl) ?_
  refine lv_lmul hx hb dX7_quartic_261 ?_
  refine lv_lload hx hb dX7_quartic_262 (lv_at hl 6 rfl) ?_
  refine lv_lmul hx hb dX7_quartic_264 ?_
  refine lv_ladd hx hb dX7_quartic_265 ?_
  refine lv_ldc2 hx hb hown hw9 dX7_quartic_266 ?_
  refine lv_lload_n hx hb dX7_quartic_269 rfl (lv_at hl 3 rfl) ?_
  refine lv_lmul hx hb dX7_quartic_270 ?_
  refine lv_lload_n hx hb dX7_quartic_271 rfl (lv_at hl 3 rfl) ?_
  refine lv_lmul hx hb dX7_quartic_272 ?_
  refine lv_lload_n hx hb dX7_quartic_273 rfl (lv_at hl 3 rfl) ?_
  refine lv_lmul hx hb dX7_quartic_274 ?_
  refine lv_lload hx hb dX7_quartic_275 (lv_at hl 5 rfl) ?_
  refine lv_lmul hx hb dX7_quartic_277 ?_
  refine lv_lload hx hb dX7_quartic_278 (lv_at hl 5 rfl) ?_
  refine lv_lmul hx hb dX7_quartic_280 ?_
  refine lv_lload hx hb dX7_quartic_281 (lv_at hl 5 rfl) ?_
  refine lv_lmul hx hb dX7_quartic_283 ?_
  refine lv_lsub hx hb dX7_quartic_284 ?_
  refine lv_ldc2 hx hb hown hw9 dX7_quartic_285 ?_
  refine lv_lload_n hx hb dX7_quartic_288 rfl (lv_at hl 3 rfl) ?_
  refine lv_lmul hx hb dX7_quartic_289 ?_
  refine lv_lload_n hx hb dX7_quartic_290 rfl (lv_at hl 3 rfl) ?_
  refine lv_lmul hx hb dX7_quartic_291 ?_
  refine lv_lload hx hb dX7_quartic_292 (lv_at hl 4 rfl) ?_
  refine lv_lmul hx hb dX7_quartic_294 ?_
  refine lv_lload hx hb dX7_quartic_295 (lv_at hl 4 rfl) ?_
  refine lv_lmul hx hb dX7_quartic_297 ?_
  refine lv_lload hx hb dX7_quartic_298 (lv_at hl 4 rfl) ?_
  refine lv_lmul hx hb dX7_quartic_300 ?_
  refine lv_lload hx hb dX7_quartic_301 (lv_at hl 6 rfl) ?_
  refine lv_lmul hx hb dX7_quartic_303 ?_
  refine lv_lsub hx hb dX7_quartic_304 ?_
  refine lv_lload_n hx hb dX7_quartic_305 rfl (lv_at hl 3 rfl) ?_
  refine lv_lload_n hx hb dX7_quartic_306 rfl (lv_at hl 3 rfl) ?_
  refine lv_lmul hx hb dX7_quartic_307 ?_
  refine lv_lload hx hb dX7_quartic_308 (lv_at hl 4 rfl) ?_
  refine lv_lmul hx hb dX7_quartic_310 ?_
  refine lv_lload hx hb dX7_quartic_311 (lv_at hl 4 rfl) ?_
  refine lv_lmul hx hb dX7_quartic_313 ?_
  refine lv_lload hx hb dX7_quartic_314 (lv_at hl 5 rfl) ?_
  refine lv_lmul hx hb dX7_quartic_316 ?_
  refine lv_lload hx hb dX7_quartic_317 (lv_at hl 5 rfl) ?_
  refine lv_lmul hx hb dX7_quartic_319 ?_
  refine lv_ladd hx hb dX7_quartic_320 ?_
  refine lv_topl (fun v4 q_v4 => ?_)
  have hwp := hwp v4 q_v4
  refine lv_lstore (lv' := [(11, .long v4), (0, .ref o0), (1, .long j1), (3, .long j3), (5, .long j5), (7, .long j7), (9, .long j9)]) hx hb dX7_quartic_321 hl (by decide) rfl (fun ls hl => ?_)
  refine lv_lload_n hx hb dX7_quartic_323 rfl (lv_at hl 2 rfl) ?_
  refine lv_lload hx hb dX7_quartic_324 (lv_at hl 4 rfl) ?_
  refine lv_lmul hx hb dX7_quartic_326 ?_
  refine lv_topl (fun v5 q_v5 => ?_)
  have hwp := hwp v5 q_v5
  refine lv_lstore (lv' := [(13, .long v5), (11, .long v4), (0, .ref o0), (1, .long j1), (3, .long j3), (5, .long j5), (7, .long j7), (9, .long j9)]) hx hb dX7_quartic_327 hl (by decide) rfl (fun ls hl => ?_)
  refine lv_lload_n hx hb dX7_quartic_329 rfl (lv_at hl 3 rfl) ?_
  refine lv_lload_n hx hb dX7_quartic_330 rfl (lv_at hl 3 rfl) ?_
  refine lv_lmul hx hb dX7_quartic_331 ?_
  refine lv_lload hx hb dX7_quartic_332 (lv_at hl 6 rfl) ?_
  refine lv_lmul hx hb dX7_quartic_334 ?_
  refine lv_topl (fun v6 q_v6 => ?_)
  have hwp := hwp v6 q_v6
  refine lv_lstore (lv' := [(15, .long v6), (13, .long v5), (11, .long v4), (0, .ref o0), (1, .long j1), (3, .long j3), (5, .long j5), (7, .long j7), (9, .long j9)]) hx hb dX7_quartic_335 hl (by decide) rfl (fun ls hl => ?_)
  refine lv_lload_n hx hb dX7_quartic_337 rfl (lv_at hl 4 rfl) ?_
  refine lv_lload_n hx hb dX7_quartic_338 rfl (lv_at hl 4 rfl) ?_
  refine lv_lmul hx hb dX7_quartic_339 ?_
  refine lv_lload_n hx hb dX7_quartic_340 rfl (lv_at hl 4 rfl) ?_
  refine lv_lmul hx hb dX7_quartic_341 ?_
  refine lv_lload hx hb dX7_quartic_342 (lv_at hl 8 rfl) ?_
  refine lv_lmul hx hb dX7_quartic_344 ?_
  refine lv_topl (fun v7 q_v7 => ?_)
  have hwp := hwp v7 q_v7
  refine lv_lstore (lv' := [(17, .long v7), (15, .long v6), (13, .long v5), (11, .long v4), (0, .ref o0), (1, .long j1), (3, .long j3), (5, .long j5), (7, .long j7), (9, .long j9)]) hx hb dX7_quartic_345 hl (by decide) rfl (fun ls hl => ?_)
  refine lv_aload_n hx hb dX7_quartic_347 rfl (lv_at hl 4 rfl) ?_
  refine lv_lload hx hb dX7_quartic_348 (lv_at hl 2 rfl) ?_
  refine lv_lneg hx hb dX7_quartic_350 ?_
  obtain ⟨hs8, hwp⟩ := hwp
  refine sw_putL (C := RX7) (T := TX7) (N := 25) hx hb hts hw10 tyX7 tyX7_ok nmX7 hown hK hz hs8 rfl 20 (by decide) hw11 (fun _ h9 => h9) rfl (by decide +kernel) rfl dX7_quartic_351 (fun H locs L9 e_L9 hz => ?_)
  have hwp := hwp L9 e_L9
  refine lv_aload_n hx hb dX7_quartic_354 rfl (lv_at hl 4 rfl) ?_
  refine lv_lload_n hx hb dX7_quartic_355 rfl (lv_at hl 6 rfl) ?_
  refine lv_lload hx hb dX7_quartic_356 (lv_at hl 1 rfl) ?_
  refine lv_lmul hx hb dX7_quartic_358 ?_
  refine lv_ldc2 hx hb hown hw9 dX7_quartic_359 ?_
  refine lv_lload hx hb dX7_quartic_362 (lv_at hl 0 rfl) ?_
  refine lv_lmul hx hb dX7_quartic_364 ?_
  refine lv_lsub hx hb dX7_quartic_365 ?_
  refine sw_putL (C := RX7) (T := TX7) (N := 25) hx hb hts hw10 tyX7 tyX7_ok nmX7 hown hK hz hs8 rfl 21 (by decide) hw12 (fun _ h9 => h9) rfl (by decide +kernel) rfl dX7_quartic_366 (fun H locs L10 e_L10 hz => ?_)
  have hwp := hwp L10 e_L10
  refine lv_aload_n hx hb dX7_quartic_369 rfl (lv_at hl 4 rfl) ?_
  refine lv_ldc2 hx hb hown hw9 dX7_quartic_370 ?_
  refine lv_lload hx hb dX7_quartic_373 (lv_at hl 2 rfl) ?_
  refine lv_lmul hx hb dX7_quartic_375 ?_
  refine lv_lload hx hb dX7_quartic_376 (lv_at hl 0 rfl) ?_
  refine lv_lmul hx hb dX7_quartic_378 ?_
  refine lv_lload_n hx hb dX7_quartic_379 rfl (lv_at hl 6 rfl) ?_
  refine lv_lload_n hx hb dX7_quartic_380 rfl (lv_at hl 6 rfl) ?_
  refine lv_lmul hx hb dX7_quartic_381 ?_
  refine lv_lload hx hb dX7_quartic_382 (lv_at hl 0 rfl) ?_
  refine lv_lmul hx hb dX7_quartic_384 ?_
  refine lv_lsub hx hb dX7_quartic_385 ?_
  refine lv_lload hx hb dX7_quartic_386 (lv_at hl 1 rfl) ?_
  refine lv_lload hx hb dX7_quartic_388 (lv_at hl 1 rfl) ?_
  refine lv_lmul hx hb dX7_quartic_390 ?_
  refine lv_lsub hx hb dX7_quartic_391 ?_
  refine sw_putL (C := RX7) (T := TX7) (N := 25) hx hb hts hw10 tyX7 tyX7_ok nmX7 hown hK hz hs8 rfl 22 (by decide) hw13 (fun _ h9 => h9) rfl (by decide +kernel) rfl dX7_quartic_392 (fun H locs L11 e_L11 hz => ?_)
  have hwp := hwp L11 e_L11
  refine lv_aload_n hx hb dX7_quartic_395 rfl (lv_at hl 4 rfl) ?_
  obtain ⟨P12, hc13, hwp⟩ := hwp
  refine sw_callv hz (va_runV (As := []) (rest := []) ⟨hx, hb, hml, hown, hts⟩ (hc13 hK _) (cwV 0 hts gX7_quartic_X7_findRoots rfl rfl rfl (by decide +kernel) ⟨Nat.le_of_ble_eq_true rfl, Nat.le_of_ble_eq_true rfl⟩) (hz.preV hK hs8 rfl) rfl rfl hl.1 rfl (lv_room (Nat.le_of_ble_eq_true rfl)) dX7_quartic_396 ⟨Nat.le_of_ble_eq_true rfl, Nat.le_of_ble_eq_true rfl⟩) (fun I14 L15 A16 H locs hp hz => ?_)
  have hwp := hwp I14 L15 A16 hp
  refine lv_aload_n hx hb dX7_quartic_399 rfl (lv_at hl 4 rfl) ?_
  refine sw_get (C := RX7) (T := TX7) (N := 25) (v := .int (I14 o0 23)) hx hb hts hw10 hown hK hz hs8 rfl 23 (by decide) hw14 (fun _ h9 => h9) rfl dX7_quartic_400 ?_
  refine lv_if_ne (tgt := 422) hx hb dX7_quartic_403 (by decide) (fun q => ?_) (fun q => ?_)
  · have hwp := hwp.2 q
    refine lv_aload_n hx hb dX7_quartic_422 rfl (lv_at hl 4 rfl) ?_
    refine sw_get (C := RX7) (T := TX7) (N := 25) (v := .int (I14 o0 23)) hx hb hts hw10 hown hK hz hs8 rfl 23 (by decide) hw14 (fun _ h9 => h9) rfl dX7_quartic_423 ?_
    refine lv_iconst (v := 1) hx hb dX7_quartic_426 (by decide) ?_
    refine lv_icmp_le (tgt := 432) hx hb dX7_quartic_427 (by decide) (fun q => ?_) (fun q => ?_)
    · have hwp := hwp.1 q
      refine lv_aload_n hx hb dX7_quartic_432 rfl (lv_at hl 4 rfl) ?_
      refine sw_get (C := RX7) (T := TX7) (N := 25) (v := .long (L15 o0 24)) hx hb hts hw10 hown hK hz hs8 rfl 24 (by decide) hw15 (fun _ h9 => h9) rfl dX7_quartic_433 ?_
      refine lv_topl (fun v17 q_v17 => ?_)
      have hwp := hwp v17 q_v17
      refine lv_lstore (lv' := [(19, .long v17), (17, .long v7), (15, .long v6), (13, .long v5), (11, .long v4), (0, .ref o0), (1, .long j1), (3, .long j3), (5, .long j5), (7, .long j7), (9, .long j9)]) hx hb dX7_quartic_436 hl (by decide) rfl (fun ls hl => ?_)
      refine lv_lload_n hx hb dX7_quartic_438 rfl (lv_at hl 7 rfl) ?_
      refine lv_lload_n hx hb dX7_quartic_439 rfl (lv_at hl 7 rfl) ?_
      refine lv_lmul hx hb dX7_quartic_440 ?_
      refine lv_ldc2 hx hb hown hw9 dX7_quartic_441 ?_
      refine lv_lload hx hb dX7_quartic_444 (lv_at hl 3 rfl) ?_
      refine lv_lload hx hb dX7_quartic_446 (lv_at hl 0 rfl) ?_
      refine lv_lsub hx hb dX7_quartic_448 ?_
      refine lv_lmul hx hb dX7_quartic_449 ?_
      refine lv_lsub hx hb dX7_quartic_450 ?_
      refine lv_lload hx hb dX7_quartic_451 (lv_at hl 4 rfl) ?_
      obtain ⟨P18, hc19, hwp⟩ := hwp
      refine sw_calli hz (va_runS (As := [.long ((j3 * j3) - (4 * (v5 - v17))), .long v4]) (rest := []) ⟨hx, hb, hml, hown, hts⟩ (hc19 hK _) (va_cwS 2 hts gX7_quartic_X7_isSquareBeside rfl rfl rfl (by decide +kernel) ⟨Nat.le_of_ble_eq_true rfl, Nat.le_of_ble_eq_true rfl⟩) hz.preS rfl rfl hl.1 rfl (lv_room (Nat.le_of_ble_eq_true rfl)) dX7_quartic_453 ⟨Nat.le_of_ble_eq_true rfl, Nat.le_of_ble_eq_true rfl⟩) (fun r23 I20 L21 A22 H locs hp hz => ?_)
      have hwp := hwp r23 I20 L21 A22 hp
      refine lv_if_eq (tgt := 484) hx hb dX7_quartic_456 (by decide) (fun q => ?_) (fun q => ?_)
      · have hwp := hwp.1 q
        refine lv_bipush (v := 7) hx hb dX7_quartic_484 (by decide) ?_
        exact sw_iret hx hb hret hlocks hz hwp dX7_quartic_486
      · have hwp := hwp.2 q
        refine lv_lload hx hb dX7_quartic_459 (lv_at hl 0 rfl) ?_
        refine lv_lload hx hb dX7_quartic_461 (lv_at hl 0 rfl) ?_
        refine lv_lmul hx hb dX7_quartic_463 ?_
        refine lv_ldc2 hx hb hown hw9 dX7_quartic_464 ?_
        refine lv_lload hx hb dX7_quartic_467 (lv_at hl 1 rfl) ?_
        refine lv_lmul hx hb dX7_quartic_469 ?_
        refine lv_lsub hx hb dX7_quartic_470 ?_
        refine lv_lload hx hb dX7_quartic_471 (lv_at hl 4 rfl) ?_
        obtain ⟨P24, hc25, hwp⟩ := hwp
        refine sw_calli hz (va_runS (As := [.long ((v17 * v17) - (4 * v7)), .long v4]) (rest := []) ⟨hx, hb, hml, hown, hts⟩ (hc25 hK _) (va_cwS 2 hts gX7_quartic_X7_isSquareBeside rfl rfl rfl (by decide +kernel) ⟨Nat.le_of_ble_eq_true rfl, Nat.le_of_ble_eq_true rfl⟩) hz.preS rfl rfl hl.1 rfl (lv_room (Nat.le_of_ble_eq_true rfl)) dX7_quartic_473 ⟨Nat.le_of_ble_eq_true rfl, Nat.le_of_ble_eq_true rfl⟩) (fun r29 I26 L27 A28 H locs hp hz => ?_)
        have hwp := hwp r29 I26 L27 A28 hp
        refine lv_if_eq (tgt := 484) hx hb dX7_quartic_476 (by decide) (fun q => ?_) (fun q => ?_)
        · have hwp := hwp.1 q
          refine lv_bipush (v := 7) hx hb dX7_quartic_484 (by decide) ?_
          exact sw_iret hx hb hret hlocks hz hwp dX7_quartic_486
        · have hwp := hwp.2 q
          refine lv_bipush (v := 6) hx hb dX7_quartic_479 (by decide) ?_
          refine lv_goto (tgt := 486) hx hb dX7_quartic_481 (by decide) ?_
          exact sw_iret hx hb hret hlocks hz hwp dX7_quartic_486
    · have hwp := hwp.2 q
      refine lv_iconst (v := 5) hx hb dX7_quartic_430 (by decide) ?_
      exact sw_iret hx hb hret hlocks hz hwp dX7_quartic_431
  · have hwp := hwp.1 q
    refine lv_lload hx hb dX7_quartic_406 (lv_at hl 3 rfl) ?_
    obtain ⟨P30, hc31, hwp⟩ := hwp
    refine sw_calli hz (va_runS (As := [.long v4]) (rest := []) ⟨hx, hb, hml, hown, hts⟩ (hc31 hK _) (va_cwS 1 hts gX7_quartic_X7_isSquare rfl rfl rfl (by decide +kernel) ⟨Nat.le_of_ble_eq_true rfl, Nat.le_of_ble_eq_true rfl⟩) hz.preS rfl rfl hl.1 rfl (lv_room (Nat.le_of_ble_eq_true rfl)) dX7_quartic_408 ⟨Nat.le_of_ble_eq_true rfl, Nat.le_of_ble_eq_true rfl⟩) (fun r35 I32 L33 A34 H locs hp hz => ?_)
    have hwp := hwp r35 I32 L33 A34 hp
    refine lv_if_eq (tgt := 419) hx hb dX7_quartic_411 (by decide) (fun q => ?_) (fun q => ?_)
    · have hwp := hwp.1 q
      refine lv_bipush (v := 9) hx hb dX7_quartic_419 (by decide) ?_
      exact sw_iret hx hb hret hlocks hz hwp dX7_quartic_421
    · have hwp := hwp.2 q
      refine lv_bipush (v := 8) hx hb dX7_quartic_414 (by decide) ?_
      refine lv_goto (tgt := 421) hx hb dX7_quartic_416 (by decide) ?_
      exact sw_iret hx hb hret hlocks hz hwp dX7_quartic_421

def wp_X7_galois_13 (K : Cx) (o0 : Nat) (i1 : Int32) (I : TI) (L : TL) (A : TA) (y0 : Int32) (y1 : Nat) (Q : Int32 → TI → TL → TA → Prop) : Prop := cxS K y1 = shX7 y1 ∧ ∃ P2 : Int32 → TI → TL → TA → Prop, ConI K yX7_refused wsX7_refused 0 0 I L A [.ref y1, .int y0] P2 ∧ ∀ (r7 : Int32) (I4 : TI) (L5 : TL) (A6 : TA), P2 r7 I4 L5 A6 → ((r7 = 0 → cxS K o0 = shX7 o0 ∧ ∃ P9 : Int32 → TI → TL → TA → Prop, ConI K yX7_degreeOf wsX7_degreeOf 0 0 I4 L5 A6 [.ref o0, .int i1] P9 ∧ ∀ (r14 : Int32) (I11 : TI) (L12 : TL) (A13 : TA), P9 r14 I11 L12 A13 → ((r14 < 1 → Q 0 I11 L12 A13) ∧ (¬ r14 < 1 → ((r14 ≤ 4 → ∃ P15 : TI → TL → TA → Prop, ConV K yX7_takeApart wsX7_takeApart 6 149 I11 L12 A13 [.ref o0, .int i1] P15 ∧ ∀ (I17 : TI) (L18 : TL) (A19 : TA), P15 I17 L18 A19 → (((I17 o0 2) = 1 → aok (cxS K) (o0 + 2) 0 0 ∧ (((I17 (o0 + 2) (ix 0)) = 1 → ((3 ≤ r14 → ((r14 = 3 → aok (cxS K) (o0 + 1) 1 (96 + 3) ∧ aok (cxS K) (o0 + 1) 1 (96 + 2) ∧ aok (cxS K) (o0 + 1) 1 (96 + 1) ∧ aok (cxS K) (o0 + 1) 1 96 ∧ ∃ P36 : Int32 → TI → TL → TA → Prop, ConI K yX7_cubic wsX7_cubic 2 48 I17 L18 A19 [.ref o0, .long (L18 (o0 + 1) (ix (96 + 3))), .long (L18 (o0 + 1) (ix (96 + 2))), .long (L18 (o0 + 1) (ix (96 + 1))), .long (L18 (o0 + 1) (ix 96))] P36 ∧ ∀ (r41 : Int32) (I38 : TI) (L39 : TL) (A40 : TA), P36 r41 I38 L39 A40 → Q r41 I38 L39 A40) ∧ (¬ r14 = 3 → aok (cxS K) (o0 + 1) 1 (96 + 4) ∧ aok (cxS K) (o0 + 1) 1 (96 + 3) ∧ aok (cxS K) (o0 + 1) 1 (96 + 2) ∧ aok (cxS K) (o0 + 1) 1 (96 + 1) ∧ aok (cxS K) (o0 + 1) 1 96 ∧ ∃ P26 : Int32 → TI → TL → TA → Prop, ConI K yX7_quartic wsX7_quartic 3 87 I17 L18 A19 [.ref o0, .long (L18 (o0 + 1) (ix (96 + 4))), .long (L18 (o0 + 1) (ix (96 + 3))), .long (L18 (o0 + 1) (ix (96 + 2))), .long (L18 (o0 + 1) (ix (96 + 1))), .long (L18 (o0 + 1) (ix 96))] P26 ∧ ∀ (r31 : Int32) (I28 : TI) (L29 : TL) (A30 : TA), P26 r31 I28 L29 A30 → Q r31 I28 L29 A30))) ∧ (¬ 3 ≤ r14 → Q r14 I17 L18 A19))) ∧ (¬ (I17 (o0 + 2) (ix 0)) = 1 → Q 0 I17 L18 A19))) ∧ (¬ (I17 o0 2) = 1 → Q 0 I17 L18 A19))) ∧ (¬ r14 ≤ 4 → Q 0 I11 L12 A13))))) ∧ (¬ r7 = 0 → Q 0 I4 L5 A6))
def wp_X7_galois (K : Cx) (I : TI) (L : TL) (A : TA) (o0 : Nat) (i1 : Int32) (Q : Int32 → TI → TL → TA → Prop) : Prop := ∃ P42 : Int32 → TI → TL → TA → Prop, ConI K yX7_isSlot wsX7_isSlot 0 0 I L A [.int i1] P42 ∧ ∀ (r47 : Int32) (I44 : TI) (L45 : TL) (A46 : TA), P42 r47 I44 L45 A46 → ((r47 = 0 → wp_X7_galois_13 K o0 i1 I44 L45 A46 1 o0 Q) ∧ (¬ r47 = 0 → wp_X7_galois_13 K o0 i1 I44 L45 A46 0 o0 Q))
set_option maxHeartbeats 1000000 in
set_option maxRecDepth 100000 in
theorem w_X7_galois (K : Cx) (I : TI) (L : TL) (A : TA) (o0 : Nat) (i1 : Int32) (Q : Int32 → TI → TL → TA → Prop) (hwp : wp_X7_galois K I L A o0 i1 Q) : ConI K yX7_galois wsX7_galois 7 170 I L A [.ref o0, .int i1] Q := by
  intro hK sz
  refine Met.ofW (cc := cX7_galois) (maxL := 4) (ret := (some .int)) (by decide) rfl ?_
  intro p e s m args below meth c s₁ B hml hv
  obtain ⟨rfl, hsz, hB⟩ := hv
  have hx := B.exec
  have hb := B.bytes
  have hret := B.returns
  have hts := atoms_spec (ws := wsX7_galois) B.pre
  have hown : s.vm.findClass RX7 = some m.cls := findClass_of_methodNamed B.named
  have hlocks := B.notSynchronized
  subst hsz
  have hz : SS K s I L A s.heap [] := PS.start hB
  have hl := lv_entry ([.ref o0, .int i1]) (n := 4) (Nat.le_of_ble_eq_true rfl)
  rw [lg_entry_eq]
  generalize (lg_sl ([.ref o0, .int i1]) ++ List.replicate (4 - (lg_sl ([.ref o0, .int i1])).length) Slot.unset).toArray = ls at hl ⊢
  have hl : lv_has ls 4 [(0, .ref o0), (1, .int i1)] := hl
  have hw0 : ∀ w ∈ u_ws RX7 TX7 25, w ∈ wsX7_galois := by decide +kernel
  have hw1 := hts (.fieldLink RX7 83 "GaloisDeskModel" "many" "I") (by decide +kernel)
  have hw2 := hts (.fieldLink RX7 13 "GaloisDeskModel" "often" "[I") (by decide +kernel)
  have hw3 := hts (.fieldLink RX7 7 "GaloisDeskModel" "row" "[J") (by decide +kernel)
  clear hB B
  have wL13 : ∀ (I : TI) (L : TL) (A : TA) (y0 : Int32) (y1 : Nat) (H : Heap) (locs : List Loc) (ls : Array Slot), wp_X7_galois_13 K o0 i1 I L A y0 y1 Q → SS K s I L A H locs → lv_has ls 4 [(0, .ref o0), (1, .int i1)] → W p (cxl K) e (headSpec wsX7_galois (rmF 7 170)).room s m ([.ref o0, .int i1] : List Value).toArray below meth c H locs 0 0 (MQ below (cxQi K Q) ([.ref o0, .int i1] : List Value).toArray s 0 0 (PA (cxb K))) (F0 m 13 ls [.int y0, .ref y1]) := by
    intro I L A y0 y1 H locs ls hwp hz hl
    obtain ⟨hs1, hwp⟩ := hwp
    obtain ⟨P2, hc3, hwp⟩ := hwp
    refine sw_calli hz (va_runV (As := [.int y0]) (rest := []) ⟨hx, hb, hml, hown, hts⟩ (hc3 hK _) (cwV 1 hts gX7_galois_X7_refused rfl rfl rfl (by decide +kernel) ⟨Nat.le_of_ble_eq_true rfl, Nat.le_of_ble_eq_true rfl⟩) (hz.preV hK hs1 rfl) rfl rfl hl.1 rfl (lv_room (Nat.le_of_ble_eq_true rfl)) dX7_galois_13 ⟨Nat.le_of_ble_eq_true rfl, Nat.le_of_ble_eq_true rfl⟩) (fun r7 I4 L5 A6 H locs hp hz => ?_)
    have hwp := hwp r7 I4 L5 A6 hp
    refine lv_if_eq (tgt := 21) hx hb dX7_galois_16 (by decide) (fun q => ?_) (fun q => ?_)
    · have hwp := hwp.1 q
      refine lv_aload_n hx hb dX7_galois_21 rfl (lv_at hl 0 rfl) ?_
      refine lv_iload_n hx hb dX7_galois_22 rfl (lv_at hl 1 rfl) ?_
      obtain ⟨hs8, hwp⟩ := hwp
      obtain ⟨P9, hc10, hwp⟩ := hwp
      refine sw_calli hz (va_runV (As := [.int i1]) (rest := []) ⟨hx, hb, hml, hown, hts⟩ (hc10 hK _) (cwV 1 hts gX7_galois_X7_degreeOf rfl rfl rfl (by decide +kernel) ⟨Nat.le_of_ble_eq_true rfl, Nat.le_of_ble_eq_true rfl⟩) (hz.preV hK hs8 rfl) rfl rfl hl.1 rfl (lv_room (Nat.le_of_ble_eq_true rfl)) dX7_galois_23 ⟨Nat.le_of_ble_eq_true rfl, Nat.le_of_ble_eq_true rfl⟩) (fun r14 I11 L12 A13 H locs hp hz => ?_)
      have hwp := hwp r14 I11 L12 A13 hp
      refine lv_istore_n (lv' := [(2, .int r14), (0, .ref o0), (1, .int i1)]) hx hb dX7_galois_26 rfl hl (by decide) rfl (fun ls hl => ?_)
      refine lv_iload_n hx hb dX7_galois_27 rfl (lv_at hl 0 rfl) ?_
      refine lv_iconst (v := 1) hx hb dX7_galois_28 (by decide) ?_
      refine lv_icmp_lt (tgt := 37) hx hb dX7_galois_29 (by decide) (fun q => ?_) (fun q => ?_)
      · have hwp := hwp.1 q
        refine lv_iconst (v := 0) hx hb dX7_galois_37 (by decide) ?_
        exact sw_iret hx hb hret hlocks hz hwp dX7_galois_38
      · have hwp := hwp.2 q
        refine lv_iload_n hx hb dX7_galois_32 rfl (lv_at hl 0 rfl) ?_
        refine lv_iconst (v := 4) hx hb dX7_galois_33 (by decide) ?_
        refine lv_icmp_le (tgt := 39) hx hb dX7_galois_34 (by decide) (fun q => ?_) (fun q => ?_)
        · have hwp := hwp.1 q
          refine lv_aload_n hx hb dX7_galois_39 rfl (lv_at hl 1 rfl) ?_
          refine lv_iload_n hx hb dX7_galois_40 rfl (lv_at hl 2 rfl) ?_
          obtain ⟨P15, hc16, hwp⟩ := hwp
          refine sw_callv hz (va_runV (As := [.int i1]) (rest := []) ⟨hx, hb, hml, hown, hts⟩ (hc16 hK _) (cwV 1 hts gX7_galois_X7_takeApart rfl rfl rfl (by decide +kernel) ⟨Nat.le_of_ble_eq_true rfl, Nat.le_of_ble_eq_true rfl⟩) (hz.preV hK hs8 rfl) rfl rfl hl.1 rfl (lv_room (Nat.le_of_ble_eq_true rfl)) dX7_galois_41 ⟨Nat.le_of_ble_eq_true rfl, Nat.le_of_ble_eq_true rfl⟩) (fun I17 L18 A19 H locs hp hz => ?_)
          have hwp := hwp I17 L18 A19 hp
          refine lv_aload_n hx hb dX7_galois_44 rfl (lv_at hl 1 rfl) ?_
          refine sw_get (C := RX7) (T := TX7) (N := 25) (v := .int (I17 o0 2)) hx hb hts hw0 hown hK hz hs8 rfl 2 (by decide) hw1 (fun _ h9 => h9) rfl dX7_galois_45 ?_
          refine lv_iconst (v := 1) hx hb dX7_galois_48 (by decide) ?_
          refine lv_icmp_ne (tgt := 62) hx hb dX7_galois_49 (by decide) (fun q => ?_) (fun q => ?_)
          · have hwp := hwp.2 q
            refine lv_iconst (v := 0) hx hb dX7_galois_62 (by decide) ?_
            exact sw_iret hx hb hret hlocks hz hwp dX7_galois_63
          · have hwp := hwp.1 q
            refine lv_aload_n hx hb dX7_galois_52 rfl (lv_at hl 1 rfl) ?_
            refine sw_get (C := RX7) (T := TX7) (N := 25) (v := .ref (o0 + 2)) hx hb hts hw0 hown hK hz hs8 rfl 4 (by decide) hw2 (fun _ h9 => h9) rfl dX7_galois_53 ?_
            refine lv_iconst (v := 0) hx hb dX7_galois_56 (by decide) ?_
            obtain ⟨ho20, hwp⟩ := hwp
            refine sw_iald hx hb hK hz ho20 dX7_galois_57 ?_
            refine lv_iconst (v := 1) hx hb dX7_galois_58 (by decide) ?_
            refine lv_icmp_eq (tgt := 64) hx hb dX7_galois_59 (by decide) (fun q => ?_) (fun q => ?_)
            · have hwp := hwp.1 q
              refine lv_bipush (v := 96) hx hb dX7_galois_64 (by decide) ?_
              refine lv_istore_n (lv' := [(3, .int 96), (2, .int r14), (0, .ref o0), (1, .int i1)]) hx hb dX7_galois_66 rfl hl (by decide) rfl (fun ls hl => ?_)
              refine lv_iload_n hx hb dX7_galois_67 rfl (lv_at hl 1 rfl) ?_
              refine lv_iconst (v := 3) hx hb dX7_galois_68 (by decide) ?_
              refine lv_icmp_ge (tgt := 74) hx hb dX7_galois_69 (by decide) (fun q => ?_) (fun q => ?_)
              · have hwp := hwp.1 q
                refine lv_iload_n hx hb dX7_galois_74 rfl (lv_at hl 1 rfl) ?_
                refine lv_iconst (v := 3) hx hb dX7_galois_75 (by decide) ?_
                refine lv_icmp_ne (tgt := 116) hx hb dX7_galois_76 (by decide) (fun q => ?_) (fun q => ?_)
                · have hwp := hwp.2 q
                  refine lv_aload_n hx hb dX7_galois_116 rfl (lv_at hl 2 rfl) ?_
                  refine lv_aload_n hx hb dX7_galois_117 rfl (lv_at hl 2 rfl) ?_
                  refine sw_get (C := RX7) (T := TX7) (N := 25) (v := .ref (o0 + 1)) hx hb hts hw0 hown hK hz hs8 rfl 1 (by decide) hw3 (fun _ h9 => h9) rfl dX7_galois_118 ?_
                  refine lv_iload_n hx hb dX7_galois_121 rfl (lv_at hl 0 rfl) ?_
                  refine lv_iconst (v := 4) hx hb dX7_galois_122 (by decide) ?_
                  refine lv_iadd hx hb dX7_galois_123 ?_
                  obtain ⟨ho21, hwp⟩ := hwp
                  refine sw_lald hx hb hK hz ho21 dX7_galois_124 ?_
                  refine lv_aload_n hx hb dX7_galois_125 rfl (lv_at hl 2 rfl) ?_
                  refine sw_get (C := RX7) (T := TX7) (N := 25) (v := .ref (o0 + 1)) hx hb hts hw0 hown hK hz hs8 rfl 1 (by decide) hw3 (fun _ h9 => h9) rfl dX7_galois_126 ?_
                  refine lv_iload_n hx hb dX7_galois_129 rfl (lv_at hl 0 rfl) ?_
                  refine lv_iconst (v := 3) hx hb dX7_galois_130 (by decide) ?_
                  refine lv_iadd hx hb dX7_galois_131 ?_
                  obtain ⟨ho22, hwp⟩ := hwp
                  refine sw_lald hx hb hK hz ho22 dX7_galois_132 ?_
                  refine lv_aload_n hx hb dX7_galois_133 rfl (lv_at hl 2 rfl) ?_
                  refine sw_get (C := RX7) (T := TX7) (N := 25) (v := .ref (o0 + 1)) hx hb hts hw0 hown hK hz hs8 rfl 1 (by decide) hw3 (fun _ h9 => h9) rfl dX7_galois_134 ?_
                  refine lv_iload_n hx hb dX7_galois_137 rfl (lv_at hl 0 rfl) ?_
                  refine lv_iconst (v := 2) hx hb dX7_galois_138 (by decide) ?_
                  refine lv_iadd hx hb dX7_galois_139 ?_
                  obtain ⟨ho23, hwp⟩ := hwp
                  refine sw_lald hx hb hK hz ho23 dX7_galois_140 ?_
                  refine lv_aload_n hx hb dX7_galois_141 rfl (lv_at hl 2 rfl) ?_
                  refine sw_get (C := RX7) (T := TX7) (N := 25) (v := .ref (o0 + 1)) hx hb hts hw0 hown hK hz hs8 rfl 1 (by decide) hw3 (fun _ h9 => h9) rfl dX7_galois_142 ?_
                  refine lv_iload_n hx hb dX7_galois_145 rfl (lv_at hl 0 rfl) ?_
                  refine lv_iconst (v := 1) hx hb dX7_galois_146 (by decide) ?_
                  refine lv_iadd hx hb dX7_galois_147 ?_
                  obtain ⟨ho24, hwp⟩ := hwp
                  refine sw_lald hx hb hK hz ho24 dX7_galois_148 ?_
                  refine lv_aload_n hx hb dX7_galois_149 rfl (lv_at hl 2 rfl) ?_
                  refine sw_get (C := RX7) (T := TX7) (N := 25) (v := .ref (o0 + 1)) hx hb hts hw0 hown hK hz hs8 rfl 1 (by decide) hw3 (fun _ h9 => h9) rfl dX7_galois_150 ?_
                  refine lv_iload_n hx hb dX7_galois_153 rfl (lv_at hl 0 rfl) ?_
                  obtain ⟨ho25, hwp⟩ := hwp
                  refine sw_lald hx hb hK hz ho25 dX7_galois_154 ?_
                  obtain ⟨P26, hc27, hwp⟩ := hwp
                  refine sw_calli hz (va_runV (As := [.long (L18 (o0 + 1) (ix (96 + 4))), .long (L18 (o0 + 1) (ix (96 + 3))), .long (L18 (o0 + 1) (ix (96 + 2))), .long (L18 (o0 + 1) (ix (96 + 1))), .long (L18 (o0 + 1) (ix 96))]) (rest := []) ⟨hx, hb, hml, hown, hts⟩ (hc27 hK _) (cwV 5 hts gX7_galois_X7_quartic rfl rfl rfl (by decide +kernel) ⟨Nat.le_of_ble_eq_true rfl, Nat.le_of_ble_eq_true rfl⟩) (hz.preV hK hs8 rfl) rfl rfl hl.1 rfl (lv_room (Nat.le_of_ble_eq_true rfl)) dX7_galois_155 ⟨Nat.le_of_ble_eq_true rfl, Nat.le_of_ble_eq_true rfl⟩) (fun r31 I28 L29 A30 H locs hp hz => ?_)
                  have hwp := hwp r31 I28 L29 A30 hp
                  exact sw_iret hx hb hret hlocks hz hwp dX7_galois_158
                · have hwp := hwp.1 q
                  refine lv_aload_n hx hb dX7_galois_79 rfl (lv_at hl 2 rfl) ?_
                  refine lv_aload_n hx hb dX7_galois_80 rfl (lv_at hl 2 rfl) ?_
                  refine sw_get (C := RX7) (T := TX7) (N := 25) (v := .ref (o0 + 1)) hx hb hts hw0 hown hK hz hs8 rfl 1 (by decide) hw3 (fun _ h9 => h9) rfl dX7_galois_81 ?_
                  refine lv_iload_n hx hb dX7_galois_84 rfl (lv_at hl 0 rfl) ?_
                  refine lv_iconst (v := 3) hx hb dX7_galois_85 (by decide) ?_
                  refine lv_iadd hx hb dX7_galois_86 ?_
                  obtain ⟨ho32, hwp⟩ := hwp
                  refine sw_lald hx hb hK hz ho32 dX7_galois_87 ?_
                  refine lv_aload_n hx hb dX7_galois_88 rfl (lv_at hl 2 rfl) ?_
                  refine sw_get (C := RX7) (T := TX7) (N := 25) (v := .ref (o0 + 1)) hx hb hts hw0 hown hK hz hs8 rfl 1 (by decide) hw3 (fun _ h9 => h9) rfl dX7_galois_89 ?_
                  refine lv_iload_n hx hb dX7_galois_92 rfl (lv_at hl 0 rfl) ?_
                  refine lv_iconst (v := 2) hx hb dX7_galois_93 (by decide) ?_
                  refine lv_iadd hx hb dX7_galois_94 ?_
                  obtain ⟨ho33, hwp⟩ := hwp
                  refine sw_lald hx hb hK hz ho33 dX7_galois_95 ?_
                  refine lv_aload_n hx hb dX7_galois_96 rfl (lv_at hl 2 rfl) ?_
                  refine sw_get (C := RX7) (T := TX7) (N := 25) (v := .ref (o0 + 1)) hx hb hts hw0 hown hK hz hs8 rfl 1 (by decide) hw3 (fun _ h9 => h9) rfl dX7_galois_97 ?_
                  refine lv_iload_n hx hb dX7_galois_100 rfl (lv_at hl 0 rfl) ?_
                  refine lv_iconst (v := 1) hx hb dX7_galois_101 (by decide) ?_
                  refine lv_iadd hx hb dX7_galois_102 ?_
                  obtain ⟨ho34, hwp⟩ := hwp
                  refine sw_lald hx hb hK hz ho34 dX7_galois_103 ?_
                  refine lv_aload_n hx hb dX7_galois_104 rfl (lv_at hl 2 rfl) ?_
                  refine sw_get (C := RX7) (T := TX7) (N := 25) (v := .ref (o0 + 1)) hx hb hts hw0 hown hK hz hs8 rfl 1 (by decide) hw3 (fun _ h9 => h9) rfl dX7_galois_105 ?_
                  refine lv_iload_n hx hb dX7_galois_108 rfl (lv_at hl 0 rfl) ?_
                  obtain ⟨ho35, hwp⟩ := hwp
                  refine sw_lald hx hb hK hz ho35 dX7_galois_109 ?_
                  obtain ⟨P36, hc37, hwp⟩ := hwp
                  refine sw_calli hz (va_runV (As := [.long (L18 (o0 + 1) (ix (96 + 3))), .long (L18 (o0 + 1) (ix (96 + 2))), .long (L18 (o0 + 1) (ix (96 + 1))), .long (L18 (o0 + 1) (ix 96))]) (rest := []) ⟨hx, hb, hml, hown, hts⟩ (hc37 hK _) (cwV 4 hts gX7_galois_X7_cubic rfl rfl rfl (by decide +kernel) ⟨Nat.le_of_ble_eq_true rfl, Nat.le_of_ble_eq_true rfl⟩) (hz.preV hK hs8 rfl) rfl rfl hl.1 rfl (lv_room (Nat.le_of_ble_eq_true rfl)) dX7_galois_110 ⟨Nat.le_of_ble_eq_true rfl, Nat.le_of_ble_eq_true rfl⟩) (fun r41 I38 L39 A40 H locs hp hz => ?_)
                  have hwp := hwp r41 I38 L39 A40 hp
                  refine lv_goto (tgt := 158) hx hb dX7_galois_113 (by decide) ?_
                  exact sw_iret hx hb hret hlocks hz hwp dX7_galois_158
              · have hwp := hwp.2 q
                refine lv_iload_n hx hb dX7_galois_72 rfl (lv_at hl 1 rfl) ?_
                exact sw_iret hx hb hret hlocks hz hwp dX7_galois_73
            · have hwp := hwp.2 q
              refine lv_iconst (v := 0) hx hb dX7_galois_62 (by decide) ?_
              exact sw_iret hx hb hret hlocks hz hwp dX7_galois_63
        · have hwp := hwp.2 q
          refine lv_iconst (v := 0) hx hb dX7_galois_37 (by decide) ?_
          exact sw_iret hx hb hret hlocks hz hwp dX7_galois_38
    · have hwp := hwp.2 q
      refine lv_iconst (v := 0) hx hb dX7_galois_19 (by decide) ?_
      exact sw_iret hx hb hret hlocks hz hwp dX7_galois_20
  refine lv_aload_n hx hb dX7_galois_0 rfl (lv_at hl 0 rfl) ?_
  refine lv_iload_n hx hb dX7_galois_1 rfl (lv_at hl 1 rfl) ?_
  obtain ⟨P42, hc43, hwp⟩ := hwp
  refine sw_calli hz (va_runS (As := [.int i1]) (rest := [.ref o0]) ⟨hx, hb, hml, hown, hts⟩ (hc43 hK _) (va_cwS 1 hts gX7_galois_X7_isSlot rfl rfl rfl (by decide +kernel) ⟨Nat.le_of_ble_eq_true rfl, Nat.le_of_ble_eq_true rfl⟩) hz.preS rfl rfl hl.1 rfl (lv_room (Nat.le_of_ble_eq_true rfl)) dX7_galois_2 ⟨Nat.le_of_ble_eq_true rfl, Nat.le_of_ble_eq_true rfl⟩) (fun r47 I44 L45 A46 H locs hp hz => ?_)
  have hwp := hwp r47 I44 L45 A46 hp
  refine lv_if_eq (tgt := 12) hx hb dX7_galois_5 (by decide) (fun q => ?_) (fun q => ?_)
  · have hwp := hwp.1 q
    refine lv_iconst (v := 1) hx hb dX7_galois_12 (by decide) ?_
    exact wL13 _ _ _ _ _ _ _ _ hwp hz (lv_sub hl [0, 1] rfl)
  · have hwp := hwp.2 q
    refine lv_iconst (v := 0) hx hb dX7_galois_8 (by decide) ?_
    refine lv_goto (tgt := 13) hx hb dX7_galois_9 (by decide) ?_
    exact wL13 _ _ _ _ _ _ _ _ hwp hz (lv_sub hl [0, 1] rfl)

def wp_X7_get_23 (K : Cx) (o0 : Nat) (i1 : Int32) (i2 : Int32) (I : TI) (L : TL) (A : TA) (y0 : Int32) (y1 : Nat) (Q : Int32 → TI → TL → TA → Prop) : Prop := cxS K y1 = shX7 y1 ∧ ∃ P2 : Int32 → TI → TL → TA → Prop, ConI K yX7_refused wsX7_refused 0 0 I L A [.ref y1, .int y0] P2 ∧ ∀ (r7 : Int32) (I4 : TI) (L5 : TL) (A6 : TA), P2 r7 I4 L5 A6 → ((r7 = 0 → cxS K o0 = shX7 o0 ∧ aok (cxS K) (o0 + 1) 1 ((8 * i1) + i2) ∧ Q (Int64.toInt32 (L5 (o0 + 1) (ix ((8 * i1) + i2)))) I4 L5 A6) ∧ (¬ r7 = 0 → Q 0 I4 L5 A6))
def wp_X7_get_22 (K : Cx) (o0 : Nat) (i1 : Int32) (i2 : Int32) (I : TI) (L : TL) (A : TA) (y0 : Nat) (Q : Int32 → TI → TL → TA → Prop) : Prop := wp_X7_get_23 K o0 i1 i2 I L A 1 y0 Q
def wp_X7_get (K : Cx) (I : TI) (L : TL) (A : TA) (o0 : Nat) (i1 : Int32) (i2 : Int32) (Q : Int32 → TI → TL → TA → Prop) : Prop := ∃ P10 : Int32 → TI → TL → TA → Prop, ConI K yX7_isSlot wsX7_isSlot 0 0 I L A [.int i1] P10 ∧ ∀ (r15 : Int32) (I12 : TI) (L13 : TL) (A14 : TA), P10 r15 I12 L13 A14 → ((r15 = 0 → wp_X7_get_22 K o0 i1 i2 I12 L13 A14 o0 Q) ∧ (¬ r15 = 0 → ∃ P16 : Int32 → TI → TL → TA → Prop, ConI K yX7_isIn wsX7_isIn 0 0 I12 L13 A14 [.int i2, .int 0, .int 6] P16 ∧ ∀ (r21 : Int32) (I18 : TI) (L19 : TL) (A20 : TA), P16 r21 I18 L19 A20 → ((r21 = 0 → wp_X7_get_22 K o0 i1 i2 I18 L19 A20 o0 Q) ∧ (¬ r21 = 0 → wp_X7_get_23 K o0 i1 i2 I18 L19 A20 0 o0 Q))))
set_option maxHeartbeats 1000000 in
set_option maxRecDepth 100000 in
theorem w_X7_get (K : Cx) (I : TI) (L : TL) (A : TA) (o0 : Nat) (i1 : Int32) (i2 : Int32) (Q : Int32 → TI → TL → TA → Prop) (hwp : wp_X7_get K I L A o0 i1 i2 Q) : ConI K yX7_get wsX7_get 1 22 I L A [.ref o0, .int i1, .int i2] Q := by
  intro hK sz
  refine Met.ofW (cc := cX7_get) (maxL := 3) (ret := (some .int)) (by decide) rfl ?_
  intro p e s m args below meth c s₁ B hml hv
  obtain ⟨rfl, hsz, hB⟩ := hv
  have hx := B.exec
  have hb := B.bytes
  have hret := B.returns
  have hts := atoms_spec (ws := wsX7_get) B.pre
  have hown : s.vm.findClass RX7 = some m.cls := findClass_of_methodNamed B.named
  have hlocks := B.notSynchronized
  subst hsz
  have hz : SS K s I L A s.heap [] := PS.start hB
  have hl := lv_entry ([.ref o0, .int i1, .int i2]) (n := 3) (Nat.le_of_ble_eq_true rfl)
  rw [lg_entry_eq]
  generalize (lg_sl ([.ref o0, .int i1, .int i2]) ++ List.replicate (3 - (lg_sl ([.ref o0, .int i1, .int i2])).length) Slot.unset).toArray = ls at hl ⊢
  have hl : lv_has ls 3 [(0, .ref o0), (1, .int i1), (2, .int i2)] := hl
  have hw0 : ∀ w ∈ u_ws RX7 TX7 25, w ∈ wsX7_get := by decide +kernel
  have hw1 := hts (.fieldLink RX7 7 "GaloisDeskModel" "row" "[J") (by decide +kernel)
  clear hB B
  have wL23 : ∀ (I : TI) (L : TL) (A : TA) (y0 : Int32) (y1 : Nat) (H : Heap) (locs : List Loc) (ls : Array Slot), wp_X7_get_23 K o0 i1 i2 I L A y0 y1 Q → SS K s I L A H locs → lv_has ls 3 [(0, .ref o0), (1, .int i1), (2, .int i2)] → W p (cxl K) e (headSpec wsX7_get (rmF 1 22)).room s m ([.ref o0, .int i1, .int i2] : List Value).toArray below meth c H locs 0 0 (MQ below (cxQi K Q) ([.ref o0, .int i1, .int i2] : List Value).toArray s 0 0 (PA (cxb K))) (F0 m 23 ls [.int y0, .ref y1]) := by
    intro I L A y0 y1 H locs ls hwp hz hl
    obtain ⟨hs1, hwp⟩ := hwp
    obtain ⟨P2, hc3, hwp⟩ := hwp
    refine sw_calli hz (va_runV (As := [.int y0]) (rest := []) ⟨hx, hb, hml, hown, hts⟩ (hc3 hK _) (cwV 1 hts gX7_get_X7_refused rfl rfl rfl (by decide +kernel) ⟨Nat.le_of_ble_eq_true rfl, Nat.le_of_ble_eq_true rfl⟩) (hz.preV hK hs1 rfl) rfl rfl hl.1 rfl (lv_room (Nat.le_of_ble_eq_true rfl)) dX7_get_23 ⟨Nat.le_of_ble_eq_true rfl, Nat.le_of_ble_eq_true rfl⟩) (fun r7 I4 L5 A6 H locs hp hz => ?_)
    have hwp := hwp r7 I4 L5 A6 hp
    refine lv_if_eq (tgt := 31) hx hb dX7_get_26 (by decide) (fun q => ?_) (fun q => ?_)
    · have hwp := hwp.1 q
      refine lv_aload_n hx hb dX7_get_31 rfl (lv_at hl 0 rfl) ?_
      obtain ⟨hs8, hwp⟩ := hwp
      refine sw_get (C := RX7) (T := TX7) (N := 25) (v := .ref (o0 + 1)) hx hb hts hw0 hown hK hz hs8 rfl 1 (by decide) hw1 (fun _ h9 => h9) rfl dX7_get_32 ?_
      refine lv_bipush (v := 8) hx hb dX7_get_35 (by decide) ?_
      refine lv_iload_n hx hb dX7_get_37 rfl (lv_at hl 1 rfl) ?_
      refine lv_imul hx hb dX7_get_38 ?_
      refine lv_iload_n hx hb dX7_get_39 rfl (lv_at hl 2 rfl) ?_
      refine lv_iadd hx hb dX7_get_40 ?_
      obtain ⟨ho9, hwp⟩ := hwp
      refine sw_lald hx hb hK hz ho9 dX7_get_41 ?_
      refine lv_l2i hx hb dX7_get_42 rfl ?_
      exact sw_iret hx hb hret hlocks hz hwp dX7_get_43
    · have hwp := hwp.2 q
      refine lv_iconst (v := 0) hx hb dX7_get_29 (by decide) ?_
      exact sw_iret hx hb hret hlocks hz hwp dX7_get_30
  have wL22 : ∀ (I : TI) (L : TL) (A : TA) (y0 : Nat) (H : Heap) (locs : List Loc) (ls : Array Slot), wp_X7_get_22 K o0 i1 i2 I L A y0 Q → SS K s I L A H locs → lv_has ls 3 [(0, .ref o0), (1, .int i1), (2, .int i2)] → W p (cxl K) e (headSpec wsX7_get (rmF 1 22)).room s m ([.ref o0, .int i1, .int i2] : List Value).toArray below meth c H locs 0 0 (MQ below (cxQi K Q) ([.ref o0, .int i1, .int i2] : List Value).toArray s 0 0 (PA (cxb K))) (F0 m 22 ls [.ref y0]) := by
    intro I L A y0 H locs ls hwp hz hl
    refine lv_iconst (v := 1) hx hb dX7_get_22 (by decide) ?_
    exact wL23 _ _ _ _ _ _ _ _ hwp hz (lv_sub hl [0, 1, 2] rfl)
  refine lv_aload_n hx hb dX7_get_0 rfl (lv_at hl 0 rfl) ?_
  refine lv_iload_n hx hb dX7_get_1 rfl (lv_at hl 1 rfl) ?_
  obtain ⟨P10, hc11, hwp⟩ := hwp
  refine sw_calli hz (va_runS (As := [.int i1]) (rest := [.ref o0]) ⟨hx, hb, hml, hown, hts⟩ (hc11 hK _) (va_cwS 1 hts gX7_get_X7_isSlot rfl rfl rfl (by decide +kernel) ⟨Nat.le_of_ble_eq_true rfl, Nat.le_of_ble_eq_true rfl⟩) hz.preS rfl rfl hl.1 rfl (lv_room (Nat.le_of_ble_eq_true rfl)) dX7_get_2 ⟨Nat.le_of_ble_eq_true rfl, Nat.le_of_ble_eq_true rfl⟩) (fun r15 I12 L13 A14 H locs hp hz => ?_)
  have hwp := hwp r15 I12 L13 A14 hp
  refine lv_if_eq (tgt := 22) hx hb dX7_get_5 (by decide) (fun q => ?_) (fun q => ?_)
  · have hwp := hwp.1 q
    exact wL22 _ _ _ _ _ _ _ hwp hz (lv_sub hl [0, 1, 2] rfl)
  · have hwp := hwp.2 q
    refine lv_iload_n hx hb dX7_get_8 rfl (lv_at hl 2 rfl) ?_
    refine lv_iconst (v := 0) hx hb dX7_get_9 (by decide) ?_
    refine lv_bipush (v := 6) hx hb dX7_get_10 (by decide) ?_
    obtain ⟨P16, hc17, hwp⟩ := hwp
    refine sw_calli hz (va_runS (As := [.int i2, .int 0, .int 6]) (rest := [.ref o0]) ⟨hx, hb, hml, hown, hts⟩ (hc17 hK _) (va_cwS 3 hts gX7_get_X7_isIn rfl rfl rfl (by decide +kernel) ⟨Nat.le_of_ble_eq_true rfl, Nat.le_of_ble_eq_true rfl⟩) hz.preS rfl rfl hl.1 rfl (lv_room (Nat.le_of_ble_eq_true rfl)) dX7_get_12 ⟨Nat.le_of_ble_eq_true rfl, Nat.le_of_ble_eq_true rfl⟩) (fun r21 I18 L19 A20 H locs hp hz => ?_)
    have hwp := hwp r21 I18 L19 A20 hp
    refine lv_if_eq (tgt := 22) hx hb dX7_get_15 (by decide) (fun q => ?_) (fun q => ?_)
    · have hwp := hwp.1 q
      exact wL22 _ _ _ _ _ _ _ hwp hz (lv_sub hl [0, 1, 2] rfl)
    · have hwp := hwp.2 q
      refine lv_iconst (v := 0) hx hb dX7_get_18 (by decide) ?_
      refine lv_goto (tgt := 23) hx hb dX7_get_19 (by decide) ?_
      exact wL23 _ _ _ _ _ _ _ _ hwp hz (lv_sub hl [0, 1, 2] rfl)

