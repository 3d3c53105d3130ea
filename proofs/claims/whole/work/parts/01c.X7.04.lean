theorem dX7_tryThird_80 : decode cX7_tryThird 80 = .ok (.isub, 1) := by decide +kernel
theorem dX7_tryThird_81 : decode cX7_tryThird 81 = .ok (.i2l, 1) := by decide +kernel
theorem dX7_tryThird_82 : decode cX7_tryThird 82 = .ok (.lastore, 1) := by decide +kernel
theorem dX7_tryThird_83 : decode cX7_tryThird 83 = .ok (.aload_n 0, 1) := by decide +kernel
theorem dX7_tryThird_84 : decode cX7_tryThird 84 = .ok (.getfield 7, 3) := by decide +kernel
theorem dX7_tryThird_87 : decode cX7_tryThird 87 = .ok (.bipush 83, 2) := by decide +kernel
theorem dX7_tryThird_89 : decode cX7_tryThird 89 = .ok (.aload_n 0, 1) := by decide +kernel
theorem dX7_tryThird_90 : decode cX7_tryThird 90 = .ok (.getfield 29, 3) := by decide +kernel
theorem dX7_tryThird_93 : decode cX7_tryThird 93 = .ok (.iload 4, 2) := by decide +kernel
theorem dX7_tryThird_95 : decode cX7_tryThird 95 = .ok (.iaload, 1) := by decide +kernel
theorem dX7_tryThird_96 : decode cX7_tryThird 96 = .ok (.i2l, 1) := by decide +kernel
theorem dX7_tryThird_97 : decode cX7_tryThird 97 = .ok (.lastore, 1) := by decide +kernel
theorem dX7_tryThird_98 : decode cX7_tryThird 98 = .ok (.aload_n 0, 1) := by decide +kernel
theorem dX7_tryThird_99 : decode cX7_tryThird 99 = .ok (.getfield 7, 3) := by decide +kernel
theorem dX7_tryThird_102 : decode cX7_tryThird 102 = .ok (.bipush 81, 2) := by decide +kernel
theorem dX7_tryThird_104 : decode cX7_tryThird 104 = .ok (.iload_n 3, 1) := by decide +kernel
theorem dX7_tryThird_105 : decode cX7_tryThird 105 = .ok (.aload_n 0, 1) := by decide +kernel
theorem dX7_tryThird_106 : decode cX7_tryThird 106 = .ok (.getfield 29, 3) := by decide +kernel
theorem dX7_tryThird_109 : decode cX7_tryThird 109 = .ok (.iload 4, 2) := by decide +kernel
theorem dX7_tryThird_111 : decode cX7_tryThird 111 = .ok (.iaload, 1) := by decide +kernel
theorem dX7_tryThird_112 : decode cX7_tryThird 112 = .ok (.isub, 1) := by decide +kernel
theorem dX7_tryThird_113 : decode cX7_tryThird 113 = .ok (.i2l, 1) := by decide +kernel
theorem dX7_tryThird_114 : decode cX7_tryThird 114 = .ok (.lastore, 1) := by decide +kernel
theorem dX7_tryThird_115 : decode cX7_tryThird 115 = .ok (.aload_n 0, 1) := by decide +kernel
theorem dX7_tryThird_116 : decode cX7_tryThird 116 = .ok (.bipush 10, 2) := by decide +kernel
theorem dX7_tryThird_118 : decode cX7_tryThird 118 = .ok (.iconst 2, 1) := by decide +kernel
theorem dX7_tryThird_119 : decode cX7_tryThird 119 = .ok (.invokevirtual 106, 3) := by decide +kernel
theorem dX7_tryThird_122 : decode cX7_tryThird 122 = .ok (.lstore 7, 2) := by decide +kernel
theorem dX7_tryThird_124 : decode cX7_tryThird 124 = .ok (.lload 7, 2) := by decide +kernel
theorem dX7_tryThird_126 : decode cX7_tryThird 126 = .ok (.lconst 0, 1) := by decide +kernel
theorem dX7_tryThird_127 : decode cX7_tryThird 127 = .ok (.lcmp, 1) := by decide +kernel
theorem dX7_tryThird_128 : decode cX7_tryThird 128 = .ok (.ifCond .eq 32, 3) := by decide +kernel
theorem dX7_tryThird_131 : decode cX7_tryThird 131 = .ok (.aload_n 0, 1) := by decide +kernel
theorem dX7_tryThird_132 : decode cX7_tryThird 132 = .ok (.iload_n 1, 1) := by decide +kernel
theorem dX7_tryThird_133 : decode cX7_tryThird 133 = .ok (.iconst 2, 1) := by decide +kernel
theorem dX7_tryThird_134 : decode cX7_tryThird 134 = .ok (.invokevirtual 106, 3) := by decide +kernel
theorem dX7_tryThird_137 : decode cX7_tryThird 137 = .ok (.lload 7, 2) := by decide +kernel
theorem dX7_tryThird_139 : decode cX7_tryThird 139 = .ok (.lrem, 1) := by decide +kernel
theorem dX7_tryThird_140 : decode cX7_tryThird 140 = .ok (.lconst 0, 1) := by decide +kernel
theorem dX7_tryThird_141 : decode cX7_tryThird 141 = .ok (.lcmp, 1) := by decide +kernel
theorem dX7_tryThird_142 : decode cX7_tryThird 142 = .ok (.ifCond .ne 18, 3) := by decide +kernel
theorem dX7_tryThird_145 : decode cX7_tryThird 145 = .ok (.aload_n 0, 1) := by decide +kernel
theorem dX7_tryThird_146 : decode cX7_tryThird 146 = .ok (.bipush 10, 2) := by decide +kernel
theorem dX7_tryThird_148 : decode cX7_tryThird 148 = .ok (.iload_n 1, 1) := by decide +kernel
theorem dX7_tryThird_149 : decode cX7_tryThird 149 = .ok (.invokevirtual 76, 3) := by decide +kernel
theorem dX7_tryThird_152 : decode cX7_tryThird 152 = .ok (.ifCond .eq 8, 3) := by decide +kernel
theorem dX7_tryThird_155 : decode cX7_tryThird 155 = .ok (.aload_n 0, 1) := by decide +kernel
theorem dX7_tryThird_156 : decode cX7_tryThird 156 = .ok (.iload_n 1, 1) := by decide +kernel
theorem dX7_tryThird_157 : decode cX7_tryThird 157 = .ok (.invokevirtual 86, 3) := by decide +kernel
theorem dX7_tryThird_160 : decode cX7_tryThird 160 = .ok (.iinc 5 1, 3) := by decide +kernel
theorem dX7_tryThird_163 : decode cX7_tryThird 163 = .ok (.goto (-148), 3) := by decide +kernel
theorem dX7_tryThird_166 : decode cX7_tryThird 166 = .ok (.iinc 4 1, 3) := by decide +kernel
theorem dX7_tryThird_169 : decode cX7_tryThird 169 = .ok (.goto (-166), 3) := by decide +kernel
theorem dX7_tryThird_172 : decode cX7_tryThird 172 = .ok (.return_, 1) := by decide +kernel
set_option maxRecDepth 20000 in
theorem ggX7_isBefore_X7_degreeOf : GoodIn wsX7_isBefore wsX7_degreeOf := goodIn_r _ [6, 1, 7, 8, 9, 10, 11, 12, 13, 14, 15, 16, 17, 18, 19, 20, 21, 22, 23, 24, 25, 26, 27, 28, 29, 30, 31] (by decide +kernel) (by decide +kernel)
set_option maxRecDepth 20000 in
theorem gX7_isBefore_X7_degreeOf : GoodIn wsX7_isBefore (wsV RX7 39 RX7 yX7_degreeOf wsX7_degreeOf) := goodIn_app (goodIn_of _ (by decide +kernel)) ggX7_isBefore_X7_degreeOf
theorem dX7_isBefore_0 : decode cX7_isBefore 0 = .ok (.aload_n 0, 1) := by decide +kernel
theorem dX7_isBefore_1 : decode cX7_isBefore 1 = .ok (.iload_n 1, 1) := by decide +kernel
theorem dX7_isBefore_2 : decode cX7_isBefore 2 = .ok (.invokevirtual 39, 3) := by decide +kernel
theorem dX7_isBefore_5 : decode cX7_isBefore 5 = .ok (.istore_n 3, 1) := by decide +kernel
theorem dX7_isBefore_6 : decode cX7_isBefore 6 = .ok (.iload_n 3, 1) := by decide +kernel
theorem dX7_isBefore_7 : decode cX7_isBefore 7 = .ok (.aload_n 0, 1) := by decide +kernel
theorem dX7_isBefore_8 : decode cX7_isBefore 8 = .ok (.iload_n 2, 1) := by decide +kernel
theorem dX7_isBefore_9 : decode cX7_isBefore 9 = .ok (.invokevirtual 39, 3) := by decide +kernel
theorem dX7_isBefore_12 : decode cX7_isBefore 12 = .ok (.if_icmp .eq 18, 3) := by decide +kernel
theorem dX7_isBefore_15 : decode cX7_isBefore 15 = .ok (.iload_n 3, 1) := by decide +kernel
theorem dX7_isBefore_16 : decode cX7_isBefore 16 = .ok (.aload_n 0, 1) := by decide +kernel
theorem dX7_isBefore_17 : decode cX7_isBefore 17 = .ok (.iload_n 2, 1) := by decide +kernel
theorem dX7_isBefore_18 : decode cX7_isBefore 18 = .ok (.invokevirtual 39, 3) := by decide +kernel
theorem dX7_isBefore_21 : decode cX7_isBefore 21 = .ok (.if_icmp .ge 7, 3) := by decide +kernel
theorem dX7_isBefore_24 : decode cX7_isBefore 24 = .ok (.iconst 1, 1) := by decide +kernel
theorem dX7_isBefore_25 : decode cX7_isBefore 25 = .ok (.goto 4, 3) := by decide +kernel
theorem dX7_isBefore_28 : decode cX7_isBefore 28 = .ok (.iconst 0, 1) := by decide +kernel
theorem dX7_isBefore_29 : decode cX7_isBefore 29 = .ok (.ireturn, 1) := by decide +kernel
theorem dX7_isBefore_30 : decode cX7_isBefore 30 = .ok (.iload_n 3, 1) := by decide +kernel
theorem dX7_isBefore_31 : decode cX7_isBefore 31 = .ok (.istore 4, 2) := by decide +kernel
theorem dX7_isBefore_33 : decode cX7_isBefore 33 = .ok (.iload 4, 2) := by decide +kernel
theorem dX7_isBefore_35 : decode cX7_isBefore 35 = .ok (.ifCond .lt 71, 3) := by decide +kernel
theorem dX7_isBefore_38 : decode cX7_isBefore 38 = .ok (.aload_n 0, 1) := by decide +kernel
theorem dX7_isBefore_39 : decode cX7_isBefore 39 = .ok (.getfield 7, 3) := by decide +kernel
theorem dX7_isBefore_42 : decode cX7_isBefore 42 = .ok (.bipush 8, 2) := by decide +kernel
theorem dX7_isBefore_44 : decode cX7_isBefore 44 = .ok (.iload_n 1, 1) := by decide +kernel
theorem dX7_isBefore_45 : decode cX7_isBefore 45 = .ok (.imul, 1) := by decide +kernel
theorem dX7_isBefore_46 : decode cX7_isBefore 46 = .ok (.iload 4, 2) := by decide +kernel
theorem dX7_isBefore_48 : decode cX7_isBefore 48 = .ok (.iadd, 1) := by decide +kernel
theorem dX7_isBefore_49 : decode cX7_isBefore 49 = .ok (.laload, 1) := by decide +kernel
theorem dX7_isBefore_50 : decode cX7_isBefore 50 = .ok (.aload_n 0, 1) := by decide +kernel
theorem dX7_isBefore_51 : decode cX7_isBefore 51 = .ok (.getfield 7, 3) := by decide +kernel
theorem dX7_isBefore_54 : decode cX7_isBefore 54 = .ok (.bipush 8, 2) := by decide +kernel
theorem dX7_isBefore_56 : decode cX7_isBefore 56 = .ok (.iload_n 2, 1) := by decide +kernel
theorem dX7_isBefore_57 : decode cX7_isBefore 57 = .ok (.imul, 1) := by decide +kernel
theorem dX7_isBefore_58 : decode cX7_isBefore 58 = .ok (.iload 4, 2) := by decide +kernel
theorem dX7_isBefore_60 : decode cX7_isBefore 60 = .ok (.iadd, 1) := by decide +kernel
theorem dX7_isBefore_61 : decode cX7_isBefore 61 = .ok (.laload, 1) := by decide +kernel
theorem dX7_isBefore_62 : decode cX7_isBefore 62 = .ok (.lcmp, 1) := by decide +kernel
theorem dX7_isBefore_63 : decode cX7_isBefore 63 = .ok (.ifCond .eq 37, 3) := by decide +kernel
theorem dX7_isBefore_66 : decode cX7_isBefore 66 = .ok (.aload_n 0, 1) := by decide +kernel
theorem dX7_isBefore_67 : decode cX7_isBefore 67 = .ok (.getfield 7, 3) := by decide +kernel
theorem dX7_isBefore_70 : decode cX7_isBefore 70 = .ok (.bipush 8, 2) := by decide +kernel
theorem dX7_isBefore_72 : decode cX7_isBefore 72 = .ok (.iload_n 1, 1) := by decide +kernel
theorem dX7_isBefore_73 : decode cX7_isBefore 73 = .ok (.imul, 1) := by decide +kernel
theorem dX7_isBefore_74 : decode cX7_isBefore 74 = .ok (.iload 4, 2) := by decide +kernel
theorem dX7_isBefore_76 : decode cX7_isBefore 76 = .ok (.iadd, 1) := by decide +kernel
theorem dX7_isBefore_77 : decode cX7_isBefore 77 = .ok (.laload, 1) := by decide +kernel
theorem dX7_isBefore_78 : decode cX7_isBefore 78 = .ok (.aload_n 0, 1) := by decide +kernel
theorem dX7_isBefore_79 : decode cX7_isBefore 79 = .ok (.getfield 7, 3) := by decide +kernel
theorem dX7_isBefore_82 : decode cX7_isBefore 82 = .ok (.bipush 8, 2) := by decide +kernel
theorem dX7_isBefore_84 : decode cX7_isBefore 84 = .ok (.iload_n 2, 1) := by decide +kernel
theorem dX7_isBefore_85 : decode cX7_isBefore 85 = .ok (.imul, 1) := by decide +kernel
theorem dX7_isBefore_86 : decode cX7_isBefore 86 = .ok (.iload 4, 2) := by decide +kernel
theorem dX7_isBefore_88 : decode cX7_isBefore 88 = .ok (.iadd, 1) := by decide +kernel
theorem dX7_isBefore_89 : decode cX7_isBefore 89 = .ok (.laload, 1) := by decide +kernel
theorem dX7_isBefore_90 : decode cX7_isBefore 90 = .ok (.lcmp, 1) := by decide +kernel
theorem dX7_isBefore_91 : decode cX7_isBefore 91 = .ok (.ifCond .ge 7, 3) := by decide +kernel
theorem dX7_isBefore_94 : decode cX7_isBefore 94 = .ok (.iconst 1, 1) := by decide +kernel
theorem dX7_isBefore_95 : decode cX7_isBefore 95 = .ok (.goto 4, 3) := by decide +kernel
theorem dX7_isBefore_98 : decode cX7_isBefore 98 = .ok (.iconst 0, 1) := by decide +kernel
theorem dX7_isBefore_99 : decode cX7_isBefore 99 = .ok (.ireturn, 1) := by decide +kernel
theorem dX7_isBefore_100 : decode cX7_isBefore 100 = .ok (.iinc 4 (-1), 3) := by decide +kernel
theorem dX7_isBefore_103 : decode cX7_isBefore 103 = .ok (.goto (-70), 3) := by decide +kernel
theorem dX7_isBefore_106 : decode cX7_isBefore 106 = .ok (.iconst 0, 1) := by decide +kernel
theorem dX7_isBefore_107 : decode cX7_isBefore 107 = .ok (.ireturn, 1) := by decide +kernel
set_option maxRecDepth 20000 in
theorem ggX7_sort_X7_isBefore : GoodIn wsX7_sort wsX7_isBefore := goodIn_r _ [7, 8, 9, 10, 11, 6, 12, 17, 18, 19, 20, 21, 22, 23, 24, 25, 26, 27, 28, 29, 30, 31, 32, 33, 34, 35, 36, 37, 38, 39, 40, 41] (by decide +kernel) (by decide +kernel)
set_option maxRecDepth 20000 in
theorem gX7_sort_X7_isBefore : GoodIn wsX7_sort (wsV RX7 127 RX7 yX7_isBefore wsX7_isBefore) := goodIn_app (goodIn_of _ (by decide +kernel)) ggX7_sort_X7_isBefore
set_option maxRecDepth 20000 in
theorem ggX7_sort_X7_copy : GoodIn wsX7_sort wsX7_copy := goodIn_r _ [16, 8, 17, 18, 19, 20, 21, 22, 23, 24, 25, 26, 27, 28, 29, 30, 31, 32, 33, 34, 35, 36, 37, 38, 39, 40, 41] (by decide +kernel) (by decide +kernel)
set_option maxRecDepth 20000 in
theorem gX7_sort_X7_copy : GoodIn wsX7_sort (wsV RX7 47 RX7 yX7_copy wsX7_copy) := goodIn_app (goodIn_of _ (by decide +kernel)) ggX7_sort_X7_copy
theorem dX7_sort_0 : decode cX7_sort 0 = .ok (.iconst 1, 1) := by decide +kernel
theorem dX7_sort_1 : decode cX7_sort 1 = .ok (.istore_n 1, 1) := by decide +kernel
theorem dX7_sort_2 : decode cX7_sort 2 = .ok (.iload_n 1, 1) := by decide +kernel
theorem dX7_sort_3 : decode cX7_sort 3 = .ok (.aload_n 0, 1) := by decide +kernel
theorem dX7_sort_4 : decode cX7_sort 4 = .ok (.getfield 83, 3) := by decide +kernel
theorem dX7_sort_7 : decode cX7_sort 7 = .ok (.if_icmp .ge 104, 3) := by decide +kernel
theorem dX7_sort_10 : decode cX7_sort 10 = .ok (.iload_n 1, 1) := by decide +kernel
theorem dX7_sort_11 : decode cX7_sort 11 = .ok (.istore_n 2, 1) := by decide +kernel
theorem dX7_sort_12 : decode cX7_sort 12 = .ok (.iload_n 2, 1) := by decide +kernel
theorem dX7_sort_13 : decode cX7_sort 13 = .ok (.ifCond .le 92, 3) := by decide +kernel
theorem dX7_sort_16 : decode cX7_sort 16 = .ok (.aload_n 0, 1) := by decide +kernel
theorem dX7_sort_17 : decode cX7_sort 17 = .ok (.bipush 12, 2) := by decide +kernel
theorem dX7_sort_19 : decode cX7_sort 19 = .ok (.iload_n 2, 1) := by decide +kernel
theorem dX7_sort_20 : decode cX7_sort 20 = .ok (.iadd, 1) := by decide +kernel
theorem dX7_sort_21 : decode cX7_sort 21 = .ok (.bipush 12, 2) := by decide +kernel
theorem dX7_sort_23 : decode cX7_sort 23 = .ok (.iload_n 2, 1) := by decide +kernel
theorem dX7_sort_24 : decode cX7_sort 24 = .ok (.iadd, 1) := by decide +kernel
theorem dX7_sort_25 : decode cX7_sort 25 = .ok (.iconst 1, 1) := by decide +kernel
theorem dX7_sort_26 : decode cX7_sort 26 = .ok (.isub, 1) := by decide +kernel
theorem dX7_sort_27 : decode cX7_sort 27 = .ok (.invokevirtual 127, 3) := by decide +kernel
theorem dX7_sort_30 : decode cX7_sort 30 = .ok (.ifCond .eq 75, 3) := by decide +kernel
theorem dX7_sort_33 : decode cX7_sort 33 = .ok (.aload_n 0, 1) := by decide +kernel
theorem dX7_sort_34 : decode cX7_sort 34 = .ok (.bipush 10, 2) := by decide +kernel
theorem dX7_sort_36 : decode cX7_sort 36 = .ok (.bipush 12, 2) := by decide +kernel
theorem dX7_sort_38 : decode cX7_sort 38 = .ok (.iload_n 2, 1) := by decide +kernel
theorem dX7_sort_39 : decode cX7_sort 39 = .ok (.iadd, 1) := by decide +kernel
theorem dX7_sort_40 : decode cX7_sort 40 = .ok (.invokevirtual 47, 3) := by decide +kernel
theorem dX7_sort_43 : decode cX7_sort 43 = .ok (.aload_n 0, 1) := by decide +kernel
theorem dX7_sort_44 : decode cX7_sort 44 = .ok (.bipush 12, 2) := by decide +kernel
theorem dX7_sort_46 : decode cX7_sort 46 = .ok (.iload_n 2, 1) := by decide +kernel
theorem dX7_sort_47 : decode cX7_sort 47 = .ok (.iadd, 1) := by decide +kernel
theorem dX7_sort_48 : decode cX7_sort 48 = .ok (.bipush 12, 2) := by decide +kernel
theorem dX7_sort_50 : decode cX7_sort 50 = .ok (.iload_n 2, 1) := by decide +kernel
theorem dX7_sort_51 : decode cX7_sort 51 = .ok (.iadd, 1) := by decide +kernel
theorem dX7_sort_52 : decode cX7_sort 52 = .ok (.iconst 1, 1) := by decide +kernel
theorem dX7_sort_53 : decode cX7_sort 53 = .ok (.isub, 1) := by decide +kernel
theorem dX7_sort_54 : decode cX7_sort 54 = .ok (.invokevirtual 47, 3) := by decide +kernel
theorem dX7_sort_57 : decode cX7_sort 57 = .ok (.aload_n 0, 1) := by decide +kernel
theorem dX7_sort_58 : decode cX7_sort 58 = .ok (.bipush 12, 2) := by decide +kernel
theorem dX7_sort_60 : decode cX7_sort 60 = .ok (.iload_n 2, 1) := by decide +kernel
theorem dX7_sort_61 : decode cX7_sort 61 = .ok (.iadd, 1) := by decide +kernel
theorem dX7_sort_62 : decode cX7_sort 62 = .ok (.iconst 1, 1) := by decide +kernel
theorem dX7_sort_63 : decode cX7_sort 63 = .ok (.isub, 1) := by decide +kernel
theorem dX7_sort_64 : decode cX7_sort 64 = .ok (.bipush 10, 2) := by decide +kernel
theorem dX7_sort_66 : decode cX7_sort 66 = .ok (.invokevirtual 47, 3) := by decide +kernel
theorem dX7_sort_69 : decode cX7_sort 69 = .ok (.aload_n 0, 1) := by decide +kernel
theorem dX7_sort_70 : decode cX7_sort 70 = .ok (.getfield 13, 3) := by decide +kernel
theorem dX7_sort_73 : decode cX7_sort 73 = .ok (.iload_n 2, 1) := by decide +kernel
theorem dX7_sort_74 : decode cX7_sort 74 = .ok (.iaload, 1) := by decide +kernel
theorem dX7_sort_75 : decode cX7_sort 75 = .ok (.istore_n 3, 1) := by decide +kernel
theorem dX7_sort_76 : decode cX7_sort 76 = .ok (.aload_n 0, 1) := by decide +kernel
theorem dX7_sort_77 : decode cX7_sort 77 = .ok (.getfield 13, 3) := by decide +kernel
theorem dX7_sort_80 : decode cX7_sort 80 = .ok (.iload_n 2, 1) := by decide +kernel
theorem dX7_sort_81 : decode cX7_sort 81 = .ok (.aload_n 0, 1) := by decide +kernel
theorem dX7_sort_82 : decode cX7_sort 82 = .ok (.getfield 13, 3) := by decide +kernel
theorem dX7_sort_85 : decode cX7_sort 85 = .ok (.iload_n 2, 1) := by decide +kernel
theorem dX7_sort_86 : decode cX7_sort 86 = .ok (.iconst 1, 1) := by decide +kernel
theorem dX7_sort_87 : decode cX7_sort 87 = .ok (.isub, 1) := by decide +kernel
theorem dX7_sort_88 : decode cX7_sort 88 = .ok (.iaload, 1) := by decide +kernel
theorem dX7_sort_89 : decode cX7_sort 89 = .ok (.iastore, 1) := by decide +kernel
theorem dX7_sort_90 : decode cX7_sort 90 = .ok (.aload_n 0, 1) := by decide +kernel
theorem dX7_sort_91 : decode cX7_sort 91 = .ok (.getfield 13, 3) := by decide +kernel
theorem dX7_sort_94 : decode cX7_sort 94 = .ok (.iload_n 2, 1) := by decide +kernel
theorem dX7_sort_95 : decode cX7_sort 95 = .ok (.iconst 1, 1) := by decide +kernel
theorem dX7_sort_96 : decode cX7_sort 96 = .ok (.isub, 1) := by decide +kernel
theorem dX7_sort_97 : decode cX7_sort 97 = .ok (.iload_n 3, 1) := by decide +kernel
theorem dX7_sort_98 : decode cX7_sort 98 = .ok (.iastore, 1) := by decide +kernel
theorem dX7_sort_99 : decode cX7_sort 99 = .ok (.iinc 2 (-1), 3) := by decide +kernel
theorem dX7_sort_102 : decode cX7_sort 102 = .ok (.goto (-90), 3) := by decide +kernel
theorem dX7_sort_105 : decode cX7_sort 105 = .ok (.iinc 1 1, 3) := by decide +kernel
theorem dX7_sort_108 : decode cX7_sort 108 = .ok (.goto (-106), 3) := by decide +kernel
theorem dX7_sort_111 : decode cX7_sort 111 = .ok (.return_, 1) := by decide +kernel
set_option maxRecDepth 20000 in
theorem ggX7_takeApart_X7_copy : GoodIn wsX7_takeApart wsX7_copy := goodIn_r _ [7, 8, 97, 98, 99, 100, 101, 102, 103, 104, 105, 106, 107, 108, 109, 110, 111, 112, 113, 114, 115, 116, 117, 118, 119, 120, 121] (by decide +kernel) (by decide +kernel)
set_option maxRecDepth 20000 in
theorem gX7_takeApart_X7_copy : GoodIn wsX7_takeApart (wsV RX7 47 RX7 yX7_copy wsX7_copy) := goodIn_app (goodIn_of _ (by decide +kernel)) ggX7_takeApart_X7_copy
set_option maxRecDepth 20000 in
theorem ggX7_takeApart_X7_takeContent : GoodIn wsX7_takeApart wsX7_takeContent := goodIn_r _ [12, 8, 13, 14, 6, 15, 16, 17, 18, 19, 97, 98, 99, 100, 101, 102, 103, 104, 105, 106, 107, 108, 109, 110, 111, 112, 113, 114, 115, 116, 117, 118, 119, 120, 121] (by decide +kernel) (by decide +kernel)
set_option maxRecDepth 20000 in
theorem gX7_takeApart_X7_takeContent : GoodIn wsX7_takeApart (wsV RX7 130 RX7 yX7_takeContent wsX7_takeContent) := goodIn_app (goodIn_of _ (by decide +kernel)) ggX7_takeApart_X7_takeContent
set_option maxRecDepth 20000 in
theorem ggX7_takeApart_X7_findFirst : GoodIn wsX7_takeApart wsX7_findFirst := goodIn_r _ [23, 8, 24, 25, 26, 27, 28, 29, 6, 30, 31, 32, 33, 34, 16, 17, 18, 19, 35, 36, 37, 38, 3, 4, 5, 7, 39, 40, 41, 42, 43, 44, 45, 46, 2, 47, 48, 49, 50, 51, 52, 53, 54, 13, 14, 15, 55, 56, 57, 58, 97, 98, 99, 100, 101, 102, 103, 104, 105, 106, 107, 108, 109, 110, 111, 112, 113, 114, 115, 116, 117, 118, 119, 120, 121] (by decide +kernel) (by decide +kernel)
set_option maxRecDepth 20000 in
theorem gX7_takeApart_X7_findFirst : GoodIn wsX7_takeApart (wsV RX7 137 RX7 yX7_findFirst wsX7_findFirst) := goodIn_app (goodIn_of _ (by decide +kernel)) ggX7_takeApart_X7_findFirst
set_option maxRecDepth 20000 in
theorem ggX7_takeApart_X7_findSecond : GoodIn wsX7_takeApart wsX7_findSecond := goodIn_r _ [62, 24, 25, 63, 26, 16, 17, 18, 6, 19, 8, 64, 65, 66, 67, 68, 48, 49, 50, 51, 69, 70, 71, 72, 52, 53, 54, 73, 74, 75, 76, 27, 28, 29, 30, 13, 14, 15, 31, 32, 33, 34, 35, 36, 37, 38, 3, 4, 5, 7, 39, 40, 41, 42, 43, 44, 45, 46, 2, 47, 97, 98, 99, 100, 101, 102, 103, 104, 105, 106, 107, 108, 109, 110, 111, 112, 113, 114, 115, 116, 117, 118, 119, 120, 121] (by decide +kernel) (by decide +kernel)
set_option maxRecDepth 20000 in
theorem gX7_takeApart_X7_findSecond : GoodIn wsX7_takeApart (wsV RX7 140 RX7 yX7_findSecond wsX7_findSecond) := goodIn_app (goodIn_of _ (by decide +kernel)) ggX7_takeApart_X7_findSecond
set_option maxRecDepth 20000 in
theorem ggX7_takeApart_X7_findThird : GoodIn wsX7_takeApart wsX7_findThird := goodIn_r _ [80, 63, 68, 26, 16, 17, 18, 6, 19, 8, 64, 65, 66, 67, 24, 25, 48, 49, 50, 51, 69, 70, 71, 72, 52, 53, 54, 81, 82, 83, 84, 27, 28, 29, 30, 35, 36, 37, 38, 3, 4, 5, 7, 39, 40, 41, 42, 31, 32, 33, 34, 43, 44, 45, 46, 2, 47, 97, 98, 99, 100, 101, 102, 103, 104, 105, 106, 107, 108, 109, 110, 111, 112, 113, 114, 115, 116, 117, 118, 119, 120, 121] (by decide +kernel) (by decide +kernel)
set_option maxRecDepth 20000 in
theorem gX7_takeApart_X7_findThird : GoodIn wsX7_takeApart (wsV RX7 143 RX7 yX7_findThird wsX7_findThird) := goodIn_app (goodIn_of _ (by decide +kernel)) ggX7_takeApart_X7_findThird
set_option maxRecDepth 20000 in
theorem ggX7_takeApart_X7_degreeOf : GoodIn wsX7_takeApart wsX7_degreeOf := goodIn_r _ [19, 8, 97, 98, 99, 100, 101, 102, 103, 104, 105, 106, 107, 108, 109, 110, 111, 112, 113, 114, 115, 116, 117, 118, 119, 120, 121] (by decide +kernel) (by decide +kernel)
set_option maxRecDepth 20000 in
theorem gX7_takeApart_X7_degreeOf : GoodIn wsX7_takeApart (wsV RX7 39 RX7 yX7_degreeOf wsX7_degreeOf) := goodIn_app (goodIn_of _ (by decide +kernel)) ggX7_takeApart_X7_degreeOf
set_option maxRecDepth 20000 in
theorem ggX7_takeApart_X7_addLast : GoodIn wsX7_takeApart wsX7_addLast := goodIn_r _ [88, 2, 8, 47, 43, 44, 45, 6, 46, 3, 4, 5, 7, 97, 98, 99, 100, 101, 102, 103, 104, 105, 106, 107, 108, 109, 110, 111, 112, 113, 114, 115, 116, 117, 118, 119, 120, 121] (by decide +kernel) (by decide +kernel)
set_option maxRecDepth 20000 in
theorem gX7_takeApart_X7_addLast : GoodIn wsX7_takeApart (wsV RX7 146 RX7 yX7_addLast wsX7_addLast) := goodIn_app (goodIn_of _ (by decide +kernel)) ggX7_takeApart_X7_addLast
set_option maxRecDepth 20000 in
theorem ggX7_takeApart_X7_sort : GoodIn wsX7_takeApart wsX7_sort := goodIn_r _ [92, 2, 47, 93, 94, 95, 6, 96, 8, 16, 17, 18, 19, 3, 4, 5, 7, 97, 98, 99, 100, 101, 102, 103, 104, 105, 106, 107, 108, 109, 110, 111, 112, 113, 114, 115, 116, 117, 118, 119, 120, 121] (by decide +kernel) (by decide +kernel)
set_option maxRecDepth 20000 in
theorem gX7_takeApart_X7_sort : GoodIn wsX7_takeApart (wsV RX7 149 RX7 yX7_sort wsX7_sort) := goodIn_app (goodIn_of _ (by decide +kernel)) ggX7_takeApart_X7_sort
theorem dX7_takeApart_0 : decode cX7_takeApart 0 = .ok (.aload_n 0, 1) := by decide +kernel
theorem dX7_takeApart_1 : decode cX7_takeApart 1 = .ok (.bipush 8, 2) := by decide +kernel
theorem dX7_takeApart_3 : decode cX7_takeApart 3 = .ok (.iload_n 1, 1) := by decide +kernel
theorem dX7_takeApart_4 : decode cX7_takeApart 4 = .ok (.invokevirtual 47, 3) := by decide +kernel
theorem dX7_takeApart_7 : decode cX7_takeApart 7 = .ok (.aload_n 0, 1) := by decide +kernel
theorem dX7_takeApart_8 : decode cX7_takeApart 8 = .ok (.aload_n 0, 1) := by decide +kernel
theorem dX7_takeApart_9 : decode cX7_takeApart 9 = .ok (.bipush 8, 2) := by decide +kernel
theorem dX7_takeApart_11 : decode cX7_takeApart 11 = .ok (.invokevirtual 130, 3) := by decide +kernel
theorem dX7_takeApart_14 : decode cX7_takeApart 14 = .ok (.l2i, 1) := by decide +kernel
theorem dX7_takeApart_15 : decode cX7_takeApart 15 = .ok (.putfield 134, 3) := by decide +kernel
theorem dX7_takeApart_18 : decode cX7_takeApart 18 = .ok (.aload_n 0, 1) := by decide +kernel
theorem dX7_takeApart_19 : decode cX7_takeApart 19 = .ok (.iconst 0, 1) := by decide +kernel
theorem dX7_takeApart_20 : decode cX7_takeApart 20 = .ok (.putfield 83, 3) := by decide +kernel
theorem dX7_takeApart_23 : decode cX7_takeApart 23 = .ok (.aload_n 0, 1) := by decide +kernel
theorem dX7_takeApart_24 : decode cX7_takeApart 24 = .ok (.bipush 8, 2) := by decide +kernel
theorem dX7_takeApart_26 : decode cX7_takeApart 26 = .ok (.invokevirtual 137, 3) := by decide +kernel
theorem dX7_takeApart_29 : decode cX7_takeApart 29 = .ok (.aload_n 0, 1) := by decide +kernel
theorem dX7_takeApart_30 : decode cX7_takeApart 30 = .ok (.bipush 8, 2) := by decide +kernel
theorem dX7_takeApart_32 : decode cX7_takeApart 32 = .ok (.invokevirtual 140, 3) := by decide +kernel
theorem dX7_takeApart_35 : decode cX7_takeApart 35 = .ok (.aload_n 0, 1) := by decide +kernel
theorem dX7_takeApart_36 : decode cX7_takeApart 36 = .ok (.bipush 8, 2) := by decide +kernel
theorem dX7_takeApart_38 : decode cX7_takeApart 38 = .ok (.invokevirtual 143, 3) := by decide +kernel
theorem dX7_takeApart_41 : decode cX7_takeApart 41 = .ok (.aload_n 0, 1) := by decide +kernel
theorem dX7_takeApart_42 : decode cX7_takeApart 42 = .ok (.bipush 8, 2) := by decide +kernel
theorem dX7_takeApart_44 : decode cX7_takeApart 44 = .ok (.invokevirtual 39, 3) := by decide +kernel
theorem dX7_takeApart_47 : decode cX7_takeApart 47 = .ok (.ifCond .le 7, 3) := by decide +kernel
theorem dX7_takeApart_50 : decode cX7_takeApart 50 = .ok (.aload_n 0, 1) := by decide +kernel
theorem dX7_takeApart_51 : decode cX7_takeApart 51 = .ok (.invokevirtual 146, 3) := by decide +kernel
theorem dX7_takeApart_54 : decode cX7_takeApart 54 = .ok (.aload_n 0, 1) := by decide +kernel
theorem dX7_takeApart_55 : decode cX7_takeApart 55 = .ok (.invokevirtual 149, 3) := by decide +kernel
theorem dX7_takeApart_58 : decode cX7_takeApart 58 = .ok (.return_, 1) := by decide +kernel
set_option maxRecDepth 20000 in
theorem ggX7_addLast_X7_addPart : GoodIn wsX7_addLast wsX7_addPart := goodIn_r _ [8, 1, 3, 9, 10, 11, 7, 12, 2, 13, 14, 15, 16, 17, 18, 19, 20, 21, 22, 23, 24, 25, 26, 27, 28, 29, 30, 31, 32, 33, 34, 35, 36, 37] (by decide +kernel) (by decide +kernel)
set_option maxRecDepth 20000 in
theorem gX7_addLast_X7_addPart : GoodIn wsX7_addLast (wsV RX7 80 RX7 yX7_addPart wsX7_addPart) := goodIn_app (goodIn_of _ (by decide +kernel)) ggX7_addLast_X7_addPart
theorem dX7_addLast_0 : decode cX7_addLast 0 = .ok (.iconst 0, 1) := by decide +kernel
theorem dX7_addLast_1 : decode cX7_addLast 1 = .ok (.istore_n 1, 1) := by decide +kernel
theorem dX7_addLast_2 : decode cX7_addLast 2 = .ok (.iload_n 1, 1) := by decide +kernel
theorem dX7_addLast_3 : decode cX7_addLast 3 = .ok (.aload_n 0, 1) := by decide +kernel
theorem dX7_addLast_4 : decode cX7_addLast 4 = .ok (.getfield 83, 3) := by decide +kernel
theorem dX7_addLast_7 : decode cX7_addLast 7 = .ok (.if_icmp .ge 77, 3) := by decide +kernel
theorem dX7_addLast_10 : decode cX7_addLast 10 = .ok (.iconst 1, 1) := by decide +kernel
theorem dX7_addLast_11 : decode cX7_addLast 11 = .ok (.istore_n 2, 1) := by decide +kernel
theorem dX7_addLast_12 : decode cX7_addLast 12 = .ok (.iconst 0, 1) := by decide +kernel
theorem dX7_addLast_13 : decode cX7_addLast 13 = .ok (.istore_n 3, 1) := by decide +kernel
theorem dX7_addLast_14 : decode cX7_addLast 14 = .ok (.iload_n 3, 1) := by decide +kernel
theorem dX7_addLast_15 : decode cX7_addLast 15 = .ok (.bipush 8, 2) := by decide +kernel
theorem dX7_addLast_17 : decode cX7_addLast 17 = .ok (.if_icmp .ge 46, 3) := by decide +kernel
theorem dX7_addLast_20 : decode cX7_addLast 20 = .ok (.iload_n 2, 1) := by decide +kernel
theorem dX7_addLast_21 : decode cX7_addLast 21 = .ok (.ifCond .eq 34, 3) := by decide +kernel
theorem dX7_addLast_24 : decode cX7_addLast 24 = .ok (.aload_n 0, 1) := by decide +kernel
theorem dX7_addLast_25 : decode cX7_addLast 25 = .ok (.getfield 7, 3) := by decide +kernel
theorem dX7_addLast_28 : decode cX7_addLast 28 = .ok (.bipush 8, 2) := by decide +kernel
theorem dX7_addLast_30 : decode cX7_addLast 30 = .ok (.bipush 12, 2) := by decide +kernel
theorem dX7_addLast_32 : decode cX7_addLast 32 = .ok (.iload_n 1, 1) := by decide +kernel
theorem dX7_addLast_33 : decode cX7_addLast 33 = .ok (.iadd, 1) := by decide +kernel
theorem dX7_addLast_34 : decode cX7_addLast 34 = .ok (.imul, 1) := by decide +kernel
theorem dX7_addLast_35 : decode cX7_addLast 35 = .ok (.iload_n 3, 1) := by decide +kernel
theorem dX7_addLast_36 : decode cX7_addLast 36 = .ok (.iadd, 1) := by decide +kernel
theorem dX7_addLast_37 : decode cX7_addLast 37 = .ok (.laload, 1) := by decide +kernel
theorem dX7_addLast_38 : decode cX7_addLast 38 = .ok (.aload_n 0, 1) := by decide +kernel
theorem dX7_addLast_39 : decode cX7_addLast 39 = .ok (.getfield 7, 3) := by decide +kernel
theorem dX7_addLast_42 : decode cX7_addLast 42 = .ok (.bipush 64, 2) := by decide +kernel
theorem dX7_addLast_44 : decode cX7_addLast 44 = .ok (.iload_n 3, 1) := by decide +kernel
theorem dX7_addLast_45 : decode cX7_addLast 45 = .ok (.iadd, 1) := by decide +kernel
theorem dX7_addLast_46 : decode cX7_addLast 46 = .ok (.laload, 1) := by decide +kernel
theorem dX7_addLast_47 : decode cX7_addLast 47 = .ok (.lcmp, 1) := by decide +kernel
theorem dX7_addLast_48 : decode cX7_addLast 48 = .ok (.ifCond .ne 7, 3) := by decide +kernel
theorem dX7_addLast_51 : decode cX7_addLast 51 = .ok (.iconst 1, 1) := by decide +kernel
theorem dX7_addLast_52 : decode cX7_addLast 52 = .ok (.goto 4, 3) := by decide +kernel
theorem dX7_addLast_55 : decode cX7_addLast 55 = .ok (.iconst 0, 1) := by decide +kernel
theorem dX7_addLast_56 : decode cX7_addLast 56 = .ok (.istore_n 2, 1) := by decide +kernel
theorem dX7_addLast_57 : decode cX7_addLast 57 = .ok (.iinc 3 1, 3) := by decide +kernel
theorem dX7_addLast_60 : decode cX7_addLast 60 = .ok (.goto (-46), 3) := by decide +kernel
theorem dX7_addLast_63 : decode cX7_addLast 63 = .ok (.iload_n 2, 1) := by decide +kernel
theorem dX7_addLast_64 : decode cX7_addLast 64 = .ok (.ifCond .eq 14, 3) := by decide +kernel
theorem dX7_addLast_67 : decode cX7_addLast 67 = .ok (.aload_n 0, 1) := by decide +kernel
theorem dX7_addLast_68 : decode cX7_addLast 68 = .ok (.getfield 13, 3) := by decide +kernel
theorem dX7_addLast_71 : decode cX7_addLast 71 = .ok (.iload_n 1, 1) := by decide +kernel
theorem dX7_addLast_72 : decode cX7_addLast 72 = .ok (.dup2, 1) := by decide +kernel
theorem dX7_addLast_73 : decode cX7_addLast 73 = .ok (.iaload, 1) := by decide +kernel
theorem dX7_addLast_74 : decode cX7_addLast 74 = .ok (.iconst 1, 1) := by decide +kernel
theorem dX7_addLast_75 : decode cX7_addLast 75 = .ok (.iadd, 1) := by decide +kernel
theorem dX7_addLast_76 : decode cX7_addLast 76 = .ok (.iastore, 1) := by decide +kernel
theorem dX7_addLast_77 : decode cX7_addLast 77 = .ok (.return_, 1) := by decide +kernel
theorem dX7_addLast_78 : decode cX7_addLast 78 = .ok (.iinc 1 1, 3) := by decide +kernel
theorem dX7_addLast_81 : decode cX7_addLast 81 = .ok (.goto (-79), 3) := by decide +kernel
theorem dX7_addLast_84 : decode cX7_addLast 84 = .ok (.aload_n 0, 1) := by decide +kernel
theorem dX7_addLast_85 : decode cX7_addLast 85 = .ok (.bipush 8, 2) := by decide +kernel
theorem dX7_addLast_87 : decode cX7_addLast 87 = .ok (.iconst 1, 1) := by decide +kernel
theorem dX7_addLast_88 : decode cX7_addLast 88 = .ok (.invokevirtual 80, 3) := by decide +kernel
theorem dX7_addLast_91 : decode cX7_addLast 91 = .ok (.return_, 1) := by decide +kernel
set_option maxRecDepth 20000 in
theorem ggX7_common_X7_isSlot : GoodIn wsX7_common wsX7_isSlot := goodIn_r _ [10] (by decide +kernel) (by decide +kernel)
set_option maxRecDepth 20000 in
theorem gX7_common_X7_isSlot : GoodIn wsX7_common (va_wsS RX7 63 yX7_isSlot wsX7_isSlot) := goodIn_app (goodIn_of _ (by decide +kernel)) ggX7_common_X7_isSlot
set_option maxRecDepth 20000 in
theorem ggX7_common_X7_refused : GoodIn wsX7_common wsX7_refused := goodIn_r _ [14, 15, 121, 122, 123, 124, 125, 126, 127, 128, 129, 130, 131, 132, 133, 134, 135, 136, 137, 138, 139, 140, 141, 142, 143, 144, 145] (by decide +kernel) (by decide +kernel)
set_option maxRecDepth 20000 in
theorem gX7_common_X7_refused : GoodIn wsX7_common (wsV RX7 70 RX7 yX7_refused wsX7_refused) := goodIn_app (goodIn_of _ (by decide +kernel)) ggX7_common_X7_refused
set_option maxRecDepth 20000 in
theorem ggX7_common_X7_isZero : GoodIn wsX7_common wsX7_isZero := goodIn_r _ [19, 20, 21, 22, 9, 23, 6, 121, 122, 123, 124, 125, 126, 127, 128, 129, 130, 131, 132, 133, 134, 135, 136, 137, 138, 139, 140, 141, 142, 143, 144, 145] (by decide +kernel) (by decide +kernel)
set_option maxRecDepth 20000 in
theorem gX7_common_X7_isZero : GoodIn wsX7_common (wsV RX7 59 RX7 yX7_isZero wsX7_isZero) := goodIn_app (goodIn_of _ (by decide +kernel)) ggX7_common_X7_isZero
set_option maxRecDepth 20000 in
theorem ggX7_common_X7_copy : GoodIn wsX7_common wsX7_copy := goodIn_r _ [27, 6, 121, 122, 123, 124, 125, 126, 127, 128, 129, 130, 131, 132, 133, 134, 135, 136, 137, 138, 139, 140, 141, 142, 143, 144, 145] (by decide +kernel) (by decide +kernel)
set_option maxRecDepth 20000 in
theorem gX7_common_X7_copy : GoodIn wsX7_common (wsV RX7 47 RX7 yX7_copy wsX7_copy) := goodIn_app (goodIn_of _ (by decide +kernel)) ggX7_common_X7_copy
set_option maxRecDepth 20000 in
theorem ggX7_common_X7_takeContent : GoodIn wsX7_common wsX7_takeContent := goodIn_r _ [31, 6, 32, 33, 9, 34, 20, 21, 22, 23, 121, 122, 123, 124, 125, 126, 127, 128, 129, 130, 131, 132, 133, 134, 135, 136, 137, 138, 139, 140, 141, 142, 143, 144, 145] (by decide +kernel) (by decide +kernel)
set_option maxRecDepth 20000 in
theorem gX7_common_X7_takeContent : GoodIn wsX7_common (wsV RX7 130 RX7 yX7_takeContent wsX7_takeContent) := goodIn_app (goodIn_of _ (by decide +kernel)) ggX7_common_X7_takeContent
set_option maxRecDepth 20000 in
theorem ggX7_common_X7_finish : GoodIn wsX7_common wsX7_finish := goodIn_r _ [38, 6, 39, 40, 24, 25, 26, 9, 27, 20, 21, 22, 23, 121, 122, 123, 124, 125, 126, 127, 128, 129, 130, 131, 132, 133, 134, 135, 136, 137, 138, 139, 140, 141, 142, 143, 144, 145] (by decide +kernel) (by decide +kernel)
set_option maxRecDepth 20000 in
theorem gX7_common_X7_finish : GoodIn wsX7_common (wsV RX7 73 RX7 yX7_finish wsX7_finish) := goodIn_app (goodIn_of _ (by decide +kernel)) ggX7_common_X7_finish
set_option maxRecDepth 20000 in
theorem ggX7_common_X7_takeApart : GoodIn wsX7_common wsX7_takeApart := goodIn_k _ [[44], [1, 0, 21, 0, 0], [9, 17], [6, 21, 0, 0, 0, 0, 0, 0], [20, 0, 0, 0, 21, 0, 0, 0, 0, 0, 0, 0, 0, 0, 0, 0, 0, 0, 0, 0, 0, 0, 0], [16, 0, 0, 0, 44, 0, 0, 0], [5, 62, 0, 0, 0, 0, 0, 0, 0, 0, 0, 0, 0, 0, 0, 0, 0, 0, 0, 0, 0, 0, 0, 0, 0, 0, 0, 0, 0, 0, 0, 0, 0, 0, 0, 0, 0, 0, 0, 0, 0, 0, 0, 0, 0, 0, 0, 0, 0, 0, 4, 0, 0, 0, 0, 0, 0, 0, 0, 0, 0, 0, 0, 0, 0, 0, 0, 0, 0, 0, 0, 0, 0, 0, 0]] rfl (by decide +kernel)
set_option maxRecDepth 20000 in
theorem gX7_common_X7_takeApart : GoodIn wsX7_common (wsV RX7 152 RX7 yX7_takeApart wsX7_takeApart) := goodIn_app (goodIn_of _ (by decide +kernel)) ggX7_common_X7_takeApart
set_option maxRecDepth 20000 in
theorem ggX7_common_X7_clear : GoodIn wsX7_common wsX7_clear := goodIn_r _ [55, 6, 121, 122, 123, 124, 125, 126, 127, 128, 129, 130, 131, 132, 133, 134, 135, 136, 137, 138, 139, 140, 141, 142, 143, 144, 145] (by decide +kernel) (by decide +kernel)
set_option maxRecDepth 20000 in
theorem gX7_common_X7_clear : GoodIn wsX7_common (wsV RX7 55 RX7 yX7_clear wsX7_clear) := goodIn_app (goodIn_of _ (by decide +kernel)) ggX7_common_X7_clear
set_option maxRecDepth 20000 in
theorem ggX7_common_X7_isBefore : GoodIn wsX7_common wsX7_isBefore := goodIn_r _ [116, 6, 20, 21, 22, 9, 23, 121, 122, 123, 124, 125, 126, 127, 128, 129, 130, 131, 132, 133, 134, 135, 136, 137, 138, 139, 140, 141, 142, 143, 144, 145] (by decide +kernel) (by decide +kernel)
set_option maxRecDepth 20000 in
theorem gX7_common_X7_isBefore : GoodIn wsX7_common (wsV RX7 127 RX7 yX7_isBefore wsX7_isBefore) := goodIn_app (goodIn_of _ (by decide +kernel)) ggX7_common_X7_isBefore
set_option maxRecDepth 20000 in
theorem ggX7_common_X7_timesPart : GoodIn wsX7_common wsX7_timesPart := goodIn_r _ [120, 6, 24, 25, 26, 9, 27, 52, 53, 54, 55, 121, 122, 123, 124, 125, 126, 127, 128, 129, 130, 131, 132, 133, 134, 135, 136, 137, 138, 139, 140, 141, 142, 143, 144, 145] (by decide +kernel) (by decide +kernel)
set_option maxRecDepth 20000 in
theorem gX7_common_X7_timesPart : GoodIn wsX7_common (wsV RX7 158 RX7 yX7_timesPart wsX7_timesPart) := goodIn_app (goodIn_of _ (by decide +kernel)) ggX7_common_X7_timesPart
theorem dX7_common_0 : decode cX7_common 0 = .ok (.aload_n 0, 1) := by decide +kernel
theorem dX7_common_1 : decode cX7_common 1 = .ok (.iload_n 1, 1) := by decide +kernel
theorem dX7_common_2 : decode cX7_common 2 = .ok (.invokestatic 63, 3) := by decide +kernel
theorem dX7_common_5 : decode cX7_common 5 = .ok (.ifCond .eq 21, 3) := by decide +kernel
theorem dX7_common_8 : decode cX7_common 8 = .ok (.iload_n 2, 1) := by decide +kernel
theorem dX7_common_9 : decode cX7_common 9 = .ok (.invokestatic 63, 3) := by decide +kernel
theorem dX7_common_12 : decode cX7_common 12 = .ok (.ifCond .eq 14, 3) := by decide +kernel
theorem dX7_common_15 : decode cX7_common 15 = .ok (.iload_n 3, 1) := by decide +kernel
theorem dX7_common_16 : decode cX7_common 16 = .ok (.invokestatic 63, 3) := by decide +kernel
theorem dX7_common_19 : decode cX7_common 19 = .ok (.ifCond .eq 7, 3) := by decide +kernel
theorem dX7_common_22 : decode cX7_common 22 = .ok (.iconst 0, 1) := by decide +kernel
theorem dX7_common_23 : decode cX7_common 23 = .ok (.goto 4, 3) := by decide +kernel
theorem dX7_common_26 : decode cX7_common 26 = .ok (.iconst 1, 1) := by decide +kernel
theorem dX7_common_27 : decode cX7_common 27 = .ok (.invokevirtual 70, 3) := by decide +kernel
theorem dX7_common_30 : decode cX7_common 30 = .ok (.ifCond .eq 5, 3) := by decide +kernel
theorem dX7_common_33 : decode cX7_common 33 = .ok (.iconst 0, 1) := by decide +kernel
theorem dX7_common_34 : decode cX7_common 34 = .ok (.ireturn, 1) := by decide +kernel
theorem dX7_common_35 : decode cX7_common 35 = .ok (.aload_n 0, 1) := by decide +kernel
theorem dX7_common_36 : decode cX7_common 36 = .ok (.iload_n 2, 1) := by decide +kernel
theorem dX7_common_37 : decode cX7_common 37 = .ok (.invokevirtual 59, 3) := by decide +kernel
theorem dX7_common_40 : decode cX7_common 40 = .ok (.ifCond .ne 11, 3) := by decide +kernel
theorem dX7_common_43 : decode cX7_common 43 = .ok (.aload_n 0, 1) := by decide +kernel
theorem dX7_common_44 : decode cX7_common 44 = .ok (.iload_n 3, 1) := by decide +kernel
theorem dX7_common_45 : decode cX7_common 45 = .ok (.invokevirtual 59, 3) := by decide +kernel
theorem dX7_common_48 : decode cX7_common 48 = .ok (.ifCond .eq 39, 3) := by decide +kernel
theorem dX7_common_51 : decode cX7_common 51 = .ok (.aload_n 0, 1) := by decide +kernel
