theorem dX5_separate_104 : decode cX5_separate 104 = .ok (.aaload, 1) := by decide +kernel
theorem dX5_separate_105 : decode cX5_separate 105 = .ok (.getfield 63, 3) := by decide +kernel
theorem dX5_separate_108 : decode cX5_separate 108 = .ok (.iload_n 1, 1) := by decide +kernel
theorem dX5_separate_109 : decode cX5_separate 109 = .ok (.if_icmp .le 12, 3) := by decide +kernel
theorem dX5_separate_112 : decode cX5_separate 112 = .ok (.aload_n 0, 1) := by decide +kernel
theorem dX5_separate_113 : decode cX5_separate 113 = .ok (.iload 6, 2) := by decide +kernel
theorem dX5_separate_115 : decode cX5_separate 115 = .ok (.iload_n 1, 1) := by decide +kernel
theorem dX5_separate_116 : decode cX5_separate 116 = .ok (.iload 4, 2) := by decide +kernel
theorem dX5_separate_118 : decode cX5_separate 118 = .ok (.invokevirtual 112, 3) := by decide +kernel
theorem dX5_separate_121 : decode cX5_separate 121 = .ok (.iinc 6 1, 3) := by decide +kernel
theorem dX5_separate_124 : decode cX5_separate 124 = .ok (.goto (-33), 3) := by decide +kernel
theorem dX5_separate_127 : decode cX5_separate 127 = .ok (.iinc 4 1, 3) := by decide +kernel
theorem dX5_separate_130 : decode cX5_separate 130 = .ok (.goto (-63), 3) := by decide +kernel
theorem dX5_separate_133 : decode cX5_separate 133 = .ok (.return_, 1) := by decide +kernel
set_option maxRecDepth 20000 in
theorem ggX5_trySplit_X5_findNorm : GoodIn wsX5_trySplit wsX5_findNorm := goodIn_r _ [15, 4, 3, 16, 2, 17, 18, 19, 20, 21, 22, 23, 24, 25, 26, 27, 28, 29, 30, 31, 32, 33, 34, 35, 36, 37, 38, 39, 40, 41, 42, 43, 44, 45, 46, 47, 48, 49, 50, 51, 52, 53, 54, 55, 56, 57, 58, 59, 60, 61, 62, 63, 64, 110, 111, 112, 113, 114, 115, 116, 117, 118, 119, 124, 125, 120, 121, 122, 123] (by decide +kernel) (by decide +kernel)
set_option maxRecDepth 20000 in
theorem gX5_trySplit_X5_findNorm : GoodIn wsX5_trySplit (wsV RX5 116 RX5 yX5_findNorm wsX5_findNorm) := goodIn_app (goodIn_of _ (by decide +kernel)) ggX5_trySplit_X5_findNorm
set_option maxRecDepth 20000 in
theorem ggX5_trySplit_X3_raise : GoodIn wsX5_trySplit wsX3_raise := goodIn_r _ [68, 69, 70, 71, 20, 72, 22, 23, 24, 25, 26, 27, 73, 52, 53, 39, 54, 55, 56, 41, 57, 58, 59, 60, 42, 61, 62, 63, 64, 43, 44, 45, 46, 47, 48, 49, 50, 124, 125, 120, 121, 122, 123] (by decide +kernel) (by decide +kernel)
set_option maxRecDepth 20000 in
theorem gX5_trySplit_X3_raise : GoodIn wsX5_trySplit (wsV RX5 107 RX3 yX3_raise wsX3_raise) := goodIn_app (goodIn_of _ (by decide +kernel)) ggX5_trySplit_X3_raise
set_option maxRecDepth 20000 in
theorem ggX5_trySplit_X3_addAt : GoodIn wsX5_trySplit wsX3_addAt := goodIn_r _ [40, 41, 42, 43, 44, 45, 46, 47, 48, 49, 20, 50, 23, 22, 124, 125, 120, 121, 122, 123] (by decide +kernel) (by decide +kernel)
set_option maxRecDepth 20000 in
theorem gX5_trySplit_X3_addAt : GoodIn wsX5_trySplit (wsV RX5 89 RX3 yX3_addAt wsX3_addAt) := goodIn_app (goodIn_of _ (by decide +kernel)) ggX5_trySplit_X3_addAt
set_option maxRecDepth 20000 in
theorem ggX5_trySplit_X3_findCommon : GoodIn wsX5_trySplit wsX3_findCommon := goodIn_r _ [77, 78, 79, 56, 80, 29, 30, 20, 31, 22, 32, 33, 34, 35, 23, 81, 82, 83, 39, 84, 41, 42, 85, 86, 87, 88, 89, 90, 91, 92, 93, 94, 95, 96, 97, 98, 99, 100, 101, 102, 103, 104, 47, 48, 49, 50, 120, 121, 122, 123, 124, 125] (by decide +kernel) (by decide +kernel)
set_option maxRecDepth 20000 in
theorem gX5_trySplit_X3_findCommon : GoodIn wsX5_trySplit (wsV RX5 73 RX3 yX3_findCommon wsX3_findCommon) := goodIn_app (goodIn_of _ (by decide +kernel)) ggX5_trySplit_X3_findCommon
set_option maxRecDepth 20000 in
theorem ggX5_trySplit_X3_findQuotient : GoodIn wsX5_trySplit wsX3_findQuotient := goodIn_r _ [108, 78, 56, 41, 109, 25, 26, 20, 27, 22, 23, 80, 29, 30, 31, 32, 33, 34, 35, 101, 102, 103, 39, 104, 42, 47, 48, 49, 50, 120, 121, 122, 123, 124, 125] (by decide +kernel) (by decide +kernel)
set_option maxRecDepth 20000 in
theorem gX5_trySplit_X3_findQuotient : GoodIn wsX5_trySplit (wsV RX5 93 RX3 yX3_findQuotient wsX3_findQuotient) := goodIn_app (goodIn_of _ (by decide +kernel)) ggX5_trySplit_X3_findQuotient
set_option maxRecDepth 20000 in
theorem ggX5_trySplit_X4_become : GoodIn wsX5_trySplit wsX4_become := goodIn_r _ [31, 22, 32, 33, 34, 35, 23, 124, 125] (by decide +kernel) (by decide +kernel)
set_option maxRecDepth 20000 in
theorem gX5_trySplit_X4_become : GoodIn wsX5_trySplit (wsV RX5 80 RX4 yX4_become wsX4_become) := goodIn_app (goodIn_of _ (by decide +kernel)) ggX5_trySplit_X4_become
theorem dX5_trySplit_0 : decode cX5_trySplit 0 = .ok (.aload_n 0, 1) := by decide +kernel
theorem dX5_trySplit_1 : decode cX5_trySplit 1 = .ok (.getfield 48, 3) := by decide +kernel
theorem dX5_trySplit_4 : decode cX5_trySplit 4 = .ok (.iload_n 1, 1) := by decide +kernel
theorem dX5_trySplit_5 : decode cX5_trySplit 5 = .ok (.aaload, 1) := by decide +kernel
theorem dX5_trySplit_6 : decode cX5_trySplit 6 = .ok (.astore 4, 2) := by decide +kernel
theorem dX5_trySplit_8 : decode cX5_trySplit 8 = .ok (.aload_n 0, 1) := by decide +kernel
theorem dX5_trySplit_9 : decode cX5_trySplit 9 = .ok (.aload 4, 2) := by decide +kernel
theorem dX5_trySplit_11 : decode cX5_trySplit 11 = .ok (.iload_n 2, 1) := by decide +kernel
theorem dX5_trySplit_12 : decode cX5_trySplit 12 = .ok (.iload_n 3, 1) := by decide +kernel
theorem dX5_trySplit_13 : decode cX5_trySplit 13 = .ok (.invokevirtual 116, 3) := by decide +kernel
theorem dX5_trySplit_16 : decode cX5_trySplit 16 = .ok (.aload_n 0, 1) := by decide +kernel
theorem dX5_trySplit_17 : decode cX5_trySplit 17 = .ok (.getfield 12, 3) := by decide +kernel
theorem dX5_trySplit_20 : decode cX5_trySplit 20 = .ok (.aload_n 0, 1) := by decide +kernel
theorem dX5_trySplit_21 : decode cX5_trySplit 21 = .ok (.getfield 31, 3) := by decide +kernel
theorem dX5_trySplit_24 : decode cX5_trySplit 24 = .ok (.aload_n 0, 1) := by decide +kernel
theorem dX5_trySplit_25 : decode cX5_trySplit 25 = .ok (.getfield 28, 3) := by decide +kernel
theorem dX5_trySplit_28 : decode cX5_trySplit 28 = .ok (.aload_n 0, 1) := by decide +kernel
theorem dX5_trySplit_29 : decode cX5_trySplit 29 = .ok (.getfield 12, 3) := by decide +kernel
theorem dX5_trySplit_32 : decode cX5_trySplit 32 = .ok (.getfield 103, 3) := by decide +kernel
theorem dX5_trySplit_35 : decode cX5_trySplit 35 = .ok (.lconst 1, 1) := by decide +kernel
theorem dX5_trySplit_36 : decode cX5_trySplit 36 = .ok (.lsub, 1) := by decide +kernel
theorem dX5_trySplit_37 : decode cX5_trySplit 37 = .ok (.ldc2_w 120, 3) := by decide +kernel
theorem dX5_trySplit_40 : decode cX5_trySplit 40 = .ok (.ldiv, 1) := by decide +kernel
theorem dX5_trySplit_41 : decode cX5_trySplit 41 = .ok (.aload 4, 2) := by decide +kernel
theorem dX5_trySplit_43 : decode cX5_trySplit 43 = .ok (.invokevirtual 107, 3) := by decide +kernel
theorem dX5_trySplit_46 : decode cX5_trySplit 46 = .ok (.aload_n 0, 1) := by decide +kernel
theorem dX5_trySplit_47 : decode cX5_trySplit 47 = .ok (.getfield 12, 3) := by decide +kernel
theorem dX5_trySplit_50 : decode cX5_trySplit 50 = .ok (.aload_n 0, 1) := by decide +kernel
theorem dX5_trySplit_51 : decode cX5_trySplit 51 = .ok (.getfield 31, 3) := by decide +kernel
theorem dX5_trySplit_54 : decode cX5_trySplit 54 = .ok (.iconst 0, 1) := by decide +kernel
theorem dX5_trySplit_55 : decode cX5_trySplit 55 = .ok (.ldc2_w 87, 3) := by decide +kernel
theorem dX5_trySplit_58 : decode cX5_trySplit 58 = .ok (.invokevirtual 89, 3) := by decide +kernel
theorem dX5_trySplit_61 : decode cX5_trySplit 61 = .ok (.aload_n 0, 1) := by decide +kernel
theorem dX5_trySplit_62 : decode cX5_trySplit 62 = .ok (.getfield 12, 3) := by decide +kernel
theorem dX5_trySplit_65 : decode cX5_trySplit 65 = .ok (.aload_n 0, 1) := by decide +kernel
theorem dX5_trySplit_66 : decode cX5_trySplit 66 = .ok (.getfield 34, 3) := by decide +kernel
theorem dX5_trySplit_69 : decode cX5_trySplit 69 = .ok (.aload_n 0, 1) := by decide +kernel
theorem dX5_trySplit_70 : decode cX5_trySplit 70 = .ok (.getfield 31, 3) := by decide +kernel
theorem dX5_trySplit_73 : decode cX5_trySplit 73 = .ok (.aload 4, 2) := by decide +kernel
theorem dX5_trySplit_75 : decode cX5_trySplit 75 = .ok (.invokevirtual 73, 3) := by decide +kernel
theorem dX5_trySplit_78 : decode cX5_trySplit 78 = .ok (.aload_n 0, 1) := by decide +kernel
theorem dX5_trySplit_79 : decode cX5_trySplit 79 = .ok (.getfield 34, 3) := by decide +kernel
theorem dX5_trySplit_82 : decode cX5_trySplit 82 = .ok (.getfield 63, 3) := by decide +kernel
theorem dX5_trySplit_85 : decode cX5_trySplit 85 = .ok (.ifCond .le 68, 3) := by decide +kernel
theorem dX5_trySplit_88 : decode cX5_trySplit 88 = .ok (.aload_n 0, 1) := by decide +kernel
theorem dX5_trySplit_89 : decode cX5_trySplit 89 = .ok (.getfield 34, 3) := by decide +kernel
theorem dX5_trySplit_92 : decode cX5_trySplit 92 = .ok (.getfield 63, 3) := by decide +kernel
theorem dX5_trySplit_95 : decode cX5_trySplit 95 = .ok (.aload 4, 2) := by decide +kernel
theorem dX5_trySplit_97 : decode cX5_trySplit 97 = .ok (.getfield 63, 3) := by decide +kernel
theorem dX5_trySplit_100 : decode cX5_trySplit 100 = .ok (.if_icmp .ge 53, 3) := by decide +kernel
theorem dX5_trySplit_103 : decode cX5_trySplit 103 = .ok (.aload_n 0, 1) := by decide +kernel
theorem dX5_trySplit_104 : decode cX5_trySplit 104 = .ok (.getfield 51, 3) := by decide +kernel
theorem dX5_trySplit_107 : decode cX5_trySplit 107 = .ok (.bipush 6, 2) := by decide +kernel
theorem dX5_trySplit_109 : decode cX5_trySplit 109 = .ok (.if_icmp .ge 44, 3) := by decide +kernel
theorem dX5_trySplit_112 : decode cX5_trySplit 112 = .ok (.aload_n 0, 1) := by decide +kernel
theorem dX5_trySplit_113 : decode cX5_trySplit 113 = .ok (.getfield 12, 3) := by decide +kernel
theorem dX5_trySplit_116 : decode cX5_trySplit 116 = .ok (.aload_n 0, 1) := by decide +kernel
theorem dX5_trySplit_117 : decode cX5_trySplit 117 = .ok (.getfield 48, 3) := by decide +kernel
theorem dX5_trySplit_120 : decode cX5_trySplit 120 = .ok (.aload_n 0, 1) := by decide +kernel
theorem dX5_trySplit_121 : decode cX5_trySplit 121 = .ok (.getfield 51, 3) := by decide +kernel
theorem dX5_trySplit_124 : decode cX5_trySplit 124 = .ok (.aaload, 1) := by decide +kernel
theorem dX5_trySplit_125 : decode cX5_trySplit 125 = .ok (.aload 4, 2) := by decide +kernel
theorem dX5_trySplit_127 : decode cX5_trySplit 127 = .ok (.aload_n 0, 1) := by decide +kernel
theorem dX5_trySplit_128 : decode cX5_trySplit 128 = .ok (.getfield 34, 3) := by decide +kernel
theorem dX5_trySplit_131 : decode cX5_trySplit 131 = .ok (.invokevirtual 93, 3) := by decide +kernel
theorem dX5_trySplit_134 : decode cX5_trySplit 134 = .ok (.aload_n 0, 1) := by decide +kernel
theorem dX5_trySplit_135 : decode cX5_trySplit 135 = .ok (.dup, 1) := by decide +kernel
theorem dX5_trySplit_136 : decode cX5_trySplit 136 = .ok (.getfield 51, 3) := by decide +kernel
theorem dX5_trySplit_139 : decode cX5_trySplit 139 = .ok (.iconst 1, 1) := by decide +kernel
theorem dX5_trySplit_140 : decode cX5_trySplit 140 = .ok (.iadd, 1) := by decide +kernel
theorem dX5_trySplit_141 : decode cX5_trySplit 141 = .ok (.putfield 51, 3) := by decide +kernel
theorem dX5_trySplit_144 : decode cX5_trySplit 144 = .ok (.aload 4, 2) := by decide +kernel
theorem dX5_trySplit_146 : decode cX5_trySplit 146 = .ok (.aload_n 0, 1) := by decide +kernel
theorem dX5_trySplit_147 : decode cX5_trySplit 147 = .ok (.getfield 34, 3) := by decide +kernel
theorem dX5_trySplit_150 : decode cX5_trySplit 150 = .ok (.invokevirtual 80, 3) := by decide +kernel
theorem dX5_trySplit_153 : decode cX5_trySplit 153 = .ok (.return_, 1) := by decide +kernel
set_option maxRecDepth 20000 in
theorem ggX5_findNorm_X4_becomeLine : GoodIn wsX5_findNorm wsX4_becomeLine := goodIn_r _ [9, 10, 11, 12, 13, 14, 8, 15, 63, 64] (by decide +kernel) (by decide +kernel)
set_option maxRecDepth 20000 in
theorem gX5_findNorm_X4_becomeLine : GoodIn wsX5_findNorm (wsV RX5 100 RX4 yX4_becomeLine wsX4_becomeLine) := goodIn_app (goodIn_of _ (by decide +kernel)) ggX5_findNorm_X4_becomeLine
set_option maxRecDepth 20000 in
theorem ggX5_findNorm_X4_become : GoodIn wsX5_findNorm wsX4_become := goodIn_r _ [19, 10, 20, 21, 22, 23, 11, 63, 64] (by decide +kernel) (by decide +kernel)
set_option maxRecDepth 20000 in
theorem gX5_findNorm_X4_become : GoodIn wsX5_findNorm (wsV RX5 80 RX4 yX4_become wsX4_become) := goodIn_app (goodIn_of _ (by decide +kernel)) ggX5_findNorm_X4_become
set_option maxRecDepth 20000 in
theorem ggX5_findNorm_X3_addAt : GoodIn wsX5_findNorm wsX3_addAt := goodIn_r _ [28, 29, 30, 31, 32, 33, 34, 35, 36, 37, 8, 38, 11, 10, 63, 64, 65, 66, 67, 68] (by decide +kernel) (by decide +kernel)
set_option maxRecDepth 20000 in
theorem gX5_findNorm_X3_addAt : GoodIn wsX5_findNorm (wsV RX5 89 RX3 yX3_addAt wsX3_addAt) := goodIn_app (goodIn_of _ (by decide +kernel)) ggX5_findNorm_X3_addAt
set_option maxRecDepth 20000 in
theorem ggX5_findNorm_X3_multiplyModulo : GoodIn wsX5_findNorm wsX3_multiplyModulo := goodIn_r _ [42, 43, 44, 29, 45, 46, 47, 48, 30, 49, 50, 51, 52, 31, 32, 33, 34, 35, 36, 37, 8, 38, 11, 10, 65, 66, 67, 68, 63, 64] (by decide +kernel) (by decide +kernel)
set_option maxRecDepth 20000 in
theorem gX5_findNorm_X3_multiplyModulo : GoodIn wsX5_findNorm (wsV RX5 122 RX3 yX3_multiplyModulo wsX3_multiplyModulo) := goodIn_app (goodIn_of _ (by decide +kernel)) ggX5_findNorm_X3_multiplyModulo
theorem dX5_findNorm_0 : decode cX5_findNorm 0 = .ok (.aload_n 0, 1) := by decide +kernel
theorem dX5_findNorm_1 : decode cX5_findNorm 1 = .ok (.getfield 28, 3) := by decide +kernel
theorem dX5_findNorm_4 : decode cX5_findNorm 4 = .ok (.iload_n 3, 1) := by decide +kernel
theorem dX5_findNorm_5 : decode cX5_findNorm 5 = .ok (.i2l, 1) := by decide +kernel
theorem dX5_findNorm_6 : decode cX5_findNorm 6 = .ok (.invokevirtual 100, 3) := by decide +kernel
theorem dX5_findNorm_9 : decode cX5_findNorm 9 = .ok (.iconst 1, 1) := by decide +kernel
theorem dX5_findNorm_10 : decode cX5_findNorm 10 = .ok (.istore 4, 2) := by decide +kernel
theorem dX5_findNorm_12 : decode cX5_findNorm 12 = .ok (.iload 4, 2) := by decide +kernel
theorem dX5_findNorm_14 : decode cX5_findNorm 14 = .ok (.iload_n 2, 1) := by decide +kernel
theorem dX5_findNorm_15 : decode cX5_findNorm 15 = .ok (.if_icmp .ge 63, 3) := by decide +kernel
theorem dX5_findNorm_18 : decode cX5_findNorm 18 = .ok (.iload 4, 2) := by decide +kernel
theorem dX5_findNorm_20 : decode cX5_findNorm 20 = .ok (.iconst 3, 1) := by decide +kernel
theorem dX5_findNorm_21 : decode cX5_findNorm 21 = .ok (.if_icmp .gt 57, 3) := by decide +kernel
theorem dX5_findNorm_24 : decode cX5_findNorm 24 = .ok (.aload_n 0, 1) := by decide +kernel
theorem dX5_findNorm_25 : decode cX5_findNorm 25 = .ok (.getfield 31, 3) := by decide +kernel
theorem dX5_findNorm_28 : decode cX5_findNorm 28 = .ok (.aload_n 0, 1) := by decide +kernel
theorem dX5_findNorm_29 : decode cX5_findNorm 29 = .ok (.getfield 41, 3) := by decide +kernel
theorem dX5_findNorm_32 : decode cX5_findNorm 32 = .ok (.iload 4, 2) := by decide +kernel
theorem dX5_findNorm_34 : decode cX5_findNorm 34 = .ok (.aaload, 1) := by decide +kernel
theorem dX5_findNorm_35 : decode cX5_findNorm 35 = .ok (.invokevirtual 80, 3) := by decide +kernel
theorem dX5_findNorm_38 : decode cX5_findNorm 38 = .ok (.aload_n 0, 1) := by decide +kernel
theorem dX5_findNorm_39 : decode cX5_findNorm 39 = .ok (.getfield 12, 3) := by decide +kernel
theorem dX5_findNorm_42 : decode cX5_findNorm 42 = .ok (.aload_n 0, 1) := by decide +kernel
theorem dX5_findNorm_43 : decode cX5_findNorm 43 = .ok (.getfield 31, 3) := by decide +kernel
theorem dX5_findNorm_46 : decode cX5_findNorm 46 = .ok (.iconst 0, 1) := by decide +kernel
theorem dX5_findNorm_47 : decode cX5_findNorm 47 = .ok (.iload_n 3, 1) := by decide +kernel
theorem dX5_findNorm_48 : decode cX5_findNorm 48 = .ok (.i2l, 1) := by decide +kernel
theorem dX5_findNorm_49 : decode cX5_findNorm 49 = .ok (.invokevirtual 89, 3) := by decide +kernel
theorem dX5_findNorm_52 : decode cX5_findNorm 52 = .ok (.aload_n 0, 1) := by decide +kernel
theorem dX5_findNorm_53 : decode cX5_findNorm 53 = .ok (.getfield 12, 3) := by decide +kernel
theorem dX5_findNorm_56 : decode cX5_findNorm 56 = .ok (.aload_n 0, 1) := by decide +kernel
theorem dX5_findNorm_57 : decode cX5_findNorm 57 = .ok (.getfield 28, 3) := by decide +kernel
theorem dX5_findNorm_60 : decode cX5_findNorm 60 = .ok (.aload_n 0, 1) := by decide +kernel
theorem dX5_findNorm_61 : decode cX5_findNorm 61 = .ok (.getfield 28, 3) := by decide +kernel
theorem dX5_findNorm_64 : decode cX5_findNorm 64 = .ok (.aload_n 0, 1) := by decide +kernel
theorem dX5_findNorm_65 : decode cX5_findNorm 65 = .ok (.getfield 31, 3) := by decide +kernel
theorem dX5_findNorm_68 : decode cX5_findNorm 68 = .ok (.aload_n 1, 1) := by decide +kernel
theorem dX5_findNorm_69 : decode cX5_findNorm 69 = .ok (.invokevirtual 122, 3) := by decide +kernel
theorem dX5_findNorm_72 : decode cX5_findNorm 72 = .ok (.iinc 4 1, 3) := by decide +kernel
theorem dX5_findNorm_75 : decode cX5_findNorm 75 = .ok (.goto (-63), 3) := by decide +kernel
theorem dX5_findNorm_78 : decode cX5_findNorm 78 = .ok (.return_, 1) := by decide +kernel
