theorem dX7_divides_62 : decode cX7_divides 62 = .ok (.lload 4, 2) := by decide +kernel
theorem dX7_divides_64 : decode cX7_divides 64 = .ok (.lrem, 1) := by decide +kernel
theorem dX7_divides_65 : decode cX7_divides 65 = .ok (.lconst 0, 1) := by decide +kernel
theorem dX7_divides_66 : decode cX7_divides 66 = .ok (.lcmp, 1) := by decide +kernel
theorem dX7_divides_67 : decode cX7_divides 67 = .ok (.ifCond .eq 5, 3) := by decide +kernel
theorem dX7_divides_70 : decode cX7_divides 70 = .ok (.iconst 0, 1) := by decide +kernel
theorem dX7_divides_71 : decode cX7_divides 71 = .ok (.ireturn, 1) := by decide +kernel
theorem dX7_divides_72 : decode cX7_divides 72 = .ok (.lload 7, 2) := by decide +kernel
theorem dX7_divides_74 : decode cX7_divides 74 = .ok (.lload 4, 2) := by decide +kernel
theorem dX7_divides_76 : decode cX7_divides 76 = .ok (.ldiv, 1) := by decide +kernel
theorem dX7_divides_77 : decode cX7_divides 77 = .ok (.lstore 9, 2) := by decide +kernel
theorem dX7_divides_79 : decode cX7_divides 79 = .ok (.aload_n 0, 1) := by decide +kernel
theorem dX7_divides_80 : decode cX7_divides 80 = .ok (.getfield 7, 3) := by decide +kernel
theorem dX7_divides_83 : decode cX7_divides 83 = .ok (.bipush 88, 2) := by decide +kernel
theorem dX7_divides_85 : decode cX7_divides 85 = .ok (.iload 6, 2) := by decide +kernel
theorem dX7_divides_87 : decode cX7_divides 87 = .ok (.iadd, 1) := by decide +kernel
theorem dX7_divides_88 : decode cX7_divides 88 = .ok (.lload 9, 2) := by decide +kernel
theorem dX7_divides_90 : decode cX7_divides 90 = .ok (.lastore, 1) := by decide +kernel
theorem dX7_divides_91 : decode cX7_divides 91 = .ok (.iconst 0, 1) := by decide +kernel
theorem dX7_divides_92 : decode cX7_divides 92 = .ok (.istore 11, 2) := by decide +kernel
theorem dX7_divides_94 : decode cX7_divides 94 = .ok (.iload 11, 2) := by decide +kernel
theorem dX7_divides_96 : decode cX7_divides 96 = .ok (.iload_n 3, 1) := by decide +kernel
theorem dX7_divides_97 : decode cX7_divides 97 = .ok (.if_icmp .gt 51, 3) := by decide +kernel
theorem dX7_divides_100 : decode cX7_divides 100 = .ok (.aload_n 0, 1) := by decide +kernel
theorem dX7_divides_101 : decode cX7_divides 101 = .ok (.getfield 7, 3) := by decide +kernel
theorem dX7_divides_104 : decode cX7_divides 104 = .ok (.bipush 72, 2) := by decide +kernel
theorem dX7_divides_106 : decode cX7_divides 106 = .ok (.iload 6, 2) := by decide +kernel
theorem dX7_divides_108 : decode cX7_divides 108 = .ok (.iadd, 1) := by decide +kernel
theorem dX7_divides_109 : decode cX7_divides 109 = .ok (.iload 11, 2) := by decide +kernel
theorem dX7_divides_111 : decode cX7_divides 111 = .ok (.iadd, 1) := by decide +kernel
theorem dX7_divides_112 : decode cX7_divides 112 = .ok (.aload_n 0, 1) := by decide +kernel
theorem dX7_divides_113 : decode cX7_divides 113 = .ok (.getfield 7, 3) := by decide +kernel
theorem dX7_divides_116 : decode cX7_divides 116 = .ok (.bipush 72, 2) := by decide +kernel
theorem dX7_divides_118 : decode cX7_divides 118 = .ok (.iload 6, 2) := by decide +kernel
theorem dX7_divides_120 : decode cX7_divides 120 = .ok (.iadd, 1) := by decide +kernel
theorem dX7_divides_121 : decode cX7_divides 121 = .ok (.iload 11, 2) := by decide +kernel
theorem dX7_divides_123 : decode cX7_divides 123 = .ok (.iadd, 1) := by decide +kernel
theorem dX7_divides_124 : decode cX7_divides 124 = .ok (.laload, 1) := by decide +kernel
theorem dX7_divides_125 : decode cX7_divides 125 = .ok (.lload 9, 2) := by decide +kernel
theorem dX7_divides_127 : decode cX7_divides 127 = .ok (.aload_n 0, 1) := by decide +kernel
theorem dX7_divides_128 : decode cX7_divides 128 = .ok (.getfield 7, 3) := by decide +kernel
theorem dX7_divides_131 : decode cX7_divides 131 = .ok (.bipush 8, 2) := by decide +kernel
theorem dX7_divides_133 : decode cX7_divides 133 = .ok (.iload_n 1, 1) := by decide +kernel
theorem dX7_divides_134 : decode cX7_divides 134 = .ok (.imul, 1) := by decide +kernel
theorem dX7_divides_135 : decode cX7_divides 135 = .ok (.iload 11, 2) := by decide +kernel
theorem dX7_divides_137 : decode cX7_divides 137 = .ok (.iadd, 1) := by decide +kernel
theorem dX7_divides_138 : decode cX7_divides 138 = .ok (.laload, 1) := by decide +kernel
theorem dX7_divides_139 : decode cX7_divides 139 = .ok (.lmul, 1) := by decide +kernel
theorem dX7_divides_140 : decode cX7_divides 140 = .ok (.lsub, 1) := by decide +kernel
theorem dX7_divides_141 : decode cX7_divides 141 = .ok (.lastore, 1) := by decide +kernel
theorem dX7_divides_142 : decode cX7_divides 142 = .ok (.iinc 11 1, 3) := by decide +kernel
theorem dX7_divides_145 : decode cX7_divides 145 = .ok (.goto (-51), 3) := by decide +kernel
theorem dX7_divides_148 : decode cX7_divides 148 = .ok (.iinc 6 (-1), 3) := by decide +kernel
theorem dX7_divides_151 : decode cX7_divides 151 = .ok (.goto (-110), 3) := by decide +kernel
theorem dX7_divides_154 : decode cX7_divides 154 = .ok (.aload_n 0, 1) := by decide +kernel
theorem dX7_divides_155 : decode cX7_divides 155 = .ok (.bipush 9, 2) := by decide +kernel
theorem dX7_divides_157 : decode cX7_divides 157 = .ok (.invokevirtual 59, 3) := by decide +kernel
theorem dX7_divides_160 : decode cX7_divides 160 = .ok (.ireturn, 1) := by decide +kernel
set_option maxRecDepth 20000 in
theorem ggX7_set_X7_isSlot : GoodIn wsX7_set wsX7_isSlot := goodIn_r _ [5] (by decide +kernel) (by decide +kernel)
set_option maxRecDepth 20000 in
theorem gX7_set_X7_isSlot : GoodIn wsX7_set (va_wsS RX7 63 yX7_isSlot wsX7_isSlot) := goodIn_app (goodIn_of _ (by decide +kernel)) ggX7_set_X7_isSlot
set_option maxRecDepth 20000 in
theorem ggX7_set_X7_isIn : GoodIn wsX7_set wsX7_isIn := goodIn_r _ [8] (by decide +kernel) (by decide +kernel)
set_option maxRecDepth 20000 in
theorem gX7_set_X7_isIn : GoodIn wsX7_set (va_wsS RX7 66 yX7_isIn wsX7_isIn) := goodIn_app (goodIn_of _ (by decide +kernel)) ggX7_set_X7_isIn
set_option maxRecDepth 20000 in
theorem ggX7_set_X7_refused : GoodIn wsX7_set wsX7_refused := goodIn_r _ [12, 13, 18, 19, 20, 21, 22, 23, 24, 25, 26, 27, 28, 29, 30, 31, 32, 33, 34, 35, 36, 37, 38, 39, 40, 41, 42] (by decide +kernel) (by decide +kernel)
set_option maxRecDepth 20000 in
theorem gX7_set_X7_refused : GoodIn wsX7_set (wsV RX7 70 RX7 yX7_refused wsX7_refused) := goodIn_app (goodIn_of _ (by decide +kernel)) ggX7_set_X7_refused
set_option maxRecDepth 20000 in
theorem ggX7_set_X7_degreeOf : GoodIn wsX7_set wsX7_degreeOf := goodIn_r _ [17, 1, 18, 19, 20, 21, 22, 23, 24, 25, 26, 27, 28, 29, 30, 31, 32, 33, 34, 35, 36, 37, 38, 39, 40, 41, 42] (by decide +kernel) (by decide +kernel)
set_option maxRecDepth 20000 in
theorem gX7_set_X7_degreeOf : GoodIn wsX7_set (wsV RX7 39 RX7 yX7_degreeOf wsX7_degreeOf) := goodIn_app (goodIn_of _ (by decide +kernel)) ggX7_set_X7_degreeOf
theorem dX7_set_0 : decode cX7_set 0 = .ok (.aload_n 0, 1) := by decide +kernel
theorem dX7_set_1 : decode cX7_set 1 = .ok (.iload_n 1, 1) := by decide +kernel
theorem dX7_set_2 : decode cX7_set 2 = .ok (.invokestatic 63, 3) := by decide +kernel
theorem dX7_set_5 : decode cX7_set 5 = .ok (.ifCond .eq 30, 3) := by decide +kernel
theorem dX7_set_8 : decode cX7_set 8 = .ok (.iload_n 2, 1) := by decide +kernel
theorem dX7_set_9 : decode cX7_set 9 = .ok (.iconst 0, 1) := by decide +kernel
theorem dX7_set_10 : decode cX7_set 10 = .ok (.bipush 6, 2) := by decide +kernel
theorem dX7_set_12 : decode cX7_set 12 = .ok (.invokestatic 66, 3) := by decide +kernel
theorem dX7_set_15 : decode cX7_set 15 = .ok (.ifCond .eq 20, 3) := by decide +kernel
theorem dX7_set_18 : decode cX7_set 18 = .ok (.iload_n 3, 1) := by decide +kernel
theorem dX7_set_19 : decode cX7_set 19 = .ok (.sipush (-300), 3) := by decide +kernel
theorem dX7_set_22 : decode cX7_set 22 = .ok (.sipush 300, 3) := by decide +kernel
theorem dX7_set_25 : decode cX7_set 25 = .ok (.invokestatic 66, 3) := by decide +kernel
theorem dX7_set_28 : decode cX7_set 28 = .ok (.ifCond .eq 7, 3) := by decide +kernel
theorem dX7_set_31 : decode cX7_set 31 = .ok (.iconst 0, 1) := by decide +kernel
theorem dX7_set_32 : decode cX7_set 32 = .ok (.goto 4, 3) := by decide +kernel
theorem dX7_set_35 : decode cX7_set 35 = .ok (.iconst 1, 1) := by decide +kernel
theorem dX7_set_36 : decode cX7_set 36 = .ok (.invokevirtual 70, 3) := by decide +kernel
theorem dX7_set_39 : decode cX7_set 39 = .ok (.ifCond .eq 5, 3) := by decide +kernel
theorem dX7_set_42 : decode cX7_set 42 = .ok (.iconst 0, 1) := by decide +kernel
theorem dX7_set_43 : decode cX7_set 43 = .ok (.ireturn, 1) := by decide +kernel
theorem dX7_set_44 : decode cX7_set 44 = .ok (.aload_n 0, 1) := by decide +kernel
theorem dX7_set_45 : decode cX7_set 45 = .ok (.getfield 7, 3) := by decide +kernel
theorem dX7_set_48 : decode cX7_set 48 = .ok (.bipush 8, 2) := by decide +kernel
theorem dX7_set_50 : decode cX7_set 50 = .ok (.iload_n 1, 1) := by decide +kernel
theorem dX7_set_51 : decode cX7_set 51 = .ok (.imul, 1) := by decide +kernel
theorem dX7_set_52 : decode cX7_set 52 = .ok (.iload_n 2, 1) := by decide +kernel
theorem dX7_set_53 : decode cX7_set 53 = .ok (.iadd, 1) := by decide +kernel
theorem dX7_set_54 : decode cX7_set 54 = .ok (.iload_n 3, 1) := by decide +kernel
theorem dX7_set_55 : decode cX7_set 55 = .ok (.i2l, 1) := by decide +kernel
theorem dX7_set_56 : decode cX7_set 56 = .ok (.lastore, 1) := by decide +kernel
theorem dX7_set_57 : decode cX7_set 57 = .ok (.aload_n 0, 1) := by decide +kernel
theorem dX7_set_58 : decode cX7_set 58 = .ok (.iload_n 1, 1) := by decide +kernel
theorem dX7_set_59 : decode cX7_set 59 = .ok (.invokevirtual 39, 3) := by decide +kernel
theorem dX7_set_62 : decode cX7_set 62 = .ok (.ireturn, 1) := by decide +kernel
set_option maxRecDepth 20000 in
theorem ggX7_get_X7_isSlot : GoodIn wsX7_get wsX7_isSlot := goodIn_r _ [5] (by decide +kernel) (by decide +kernel)
set_option maxRecDepth 20000 in
theorem gX7_get_X7_isSlot : GoodIn wsX7_get (va_wsS RX7 63 yX7_isSlot wsX7_isSlot) := goodIn_app (goodIn_of _ (by decide +kernel)) ggX7_get_X7_isSlot
set_option maxRecDepth 20000 in
theorem ggX7_get_X7_isIn : GoodIn wsX7_get wsX7_isIn := goodIn_r _ [8] (by decide +kernel) (by decide +kernel)
set_option maxRecDepth 20000 in
theorem gX7_get_X7_isIn : GoodIn wsX7_get (va_wsS RX7 66 yX7_isIn wsX7_isIn) := goodIn_app (goodIn_of _ (by decide +kernel)) ggX7_get_X7_isIn
set_option maxRecDepth 20000 in
theorem ggX7_get_X7_refused : GoodIn wsX7_get wsX7_refused := goodIn_r _ [12, 13, 14, 15, 16, 17, 18, 19, 20, 21, 22, 23, 24, 25, 26, 27, 28, 29, 30, 31, 32, 33, 34, 35, 36, 37, 38] (by decide +kernel) (by decide +kernel)
set_option maxRecDepth 20000 in
theorem gX7_get_X7_refused : GoodIn wsX7_get (wsV RX7 70 RX7 yX7_refused wsX7_refused) := goodIn_app (goodIn_of _ (by decide +kernel)) ggX7_get_X7_refused
theorem dX7_get_0 : decode cX7_get 0 = .ok (.aload_n 0, 1) := by decide +kernel
theorem dX7_get_1 : decode cX7_get 1 = .ok (.iload_n 1, 1) := by decide +kernel
theorem dX7_get_2 : decode cX7_get 2 = .ok (.invokestatic 63, 3) := by decide +kernel
theorem dX7_get_5 : decode cX7_get 5 = .ok (.ifCond .eq 17, 3) := by decide +kernel
theorem dX7_get_8 : decode cX7_get 8 = .ok (.iload_n 2, 1) := by decide +kernel
theorem dX7_get_9 : decode cX7_get 9 = .ok (.iconst 0, 1) := by decide +kernel
theorem dX7_get_10 : decode cX7_get 10 = .ok (.bipush 6, 2) := by decide +kernel
theorem dX7_get_12 : decode cX7_get 12 = .ok (.invokestatic 66, 3) := by decide +kernel
theorem dX7_get_15 : decode cX7_get 15 = .ok (.ifCond .eq 7, 3) := by decide +kernel
theorem dX7_get_18 : decode cX7_get 18 = .ok (.iconst 0, 1) := by decide +kernel
theorem dX7_get_19 : decode cX7_get 19 = .ok (.goto 4, 3) := by decide +kernel
theorem dX7_get_22 : decode cX7_get 22 = .ok (.iconst 1, 1) := by decide +kernel
theorem dX7_get_23 : decode cX7_get 23 = .ok (.invokevirtual 70, 3) := by decide +kernel
theorem dX7_get_26 : decode cX7_get 26 = .ok (.ifCond .eq 5, 3) := by decide +kernel
theorem dX7_get_29 : decode cX7_get 29 = .ok (.iconst 0, 1) := by decide +kernel
theorem dX7_get_30 : decode cX7_get 30 = .ok (.ireturn, 1) := by decide +kernel
theorem dX7_get_31 : decode cX7_get 31 = .ok (.aload_n 0, 1) := by decide +kernel
theorem dX7_get_32 : decode cX7_get 32 = .ok (.getfield 7, 3) := by decide +kernel
theorem dX7_get_35 : decode cX7_get 35 = .ok (.bipush 8, 2) := by decide +kernel
theorem dX7_get_37 : decode cX7_get 37 = .ok (.iload_n 1, 1) := by decide +kernel
theorem dX7_get_38 : decode cX7_get 38 = .ok (.imul, 1) := by decide +kernel
theorem dX7_get_39 : decode cX7_get 39 = .ok (.iload_n 2, 1) := by decide +kernel
theorem dX7_get_40 : decode cX7_get 40 = .ok (.iadd, 1) := by decide +kernel
theorem dX7_get_41 : decode cX7_get 41 = .ok (.laload, 1) := by decide +kernel
theorem dX7_get_42 : decode cX7_get 42 = .ok (.l2i, 1) := by decide +kernel
theorem dX7_get_43 : decode cX7_get 43 = .ok (.ireturn, 1) := by decide +kernel
set_option maxRecDepth 20000 in
theorem ggX7_add_X7_isSlot : GoodIn wsX7_add wsX7_isSlot := goodIn_r _ [5] (by decide +kernel) (by decide +kernel)
set_option maxRecDepth 20000 in
theorem gX7_add_X7_isSlot : GoodIn wsX7_add (va_wsS RX7 63 yX7_isSlot wsX7_isSlot) := goodIn_app (goodIn_of _ (by decide +kernel)) ggX7_add_X7_isSlot
set_option maxRecDepth 20000 in
theorem ggX7_add_X7_isIn : GoodIn wsX7_add wsX7_isIn := goodIn_r _ [8] (by decide +kernel) (by decide +kernel)
set_option maxRecDepth 20000 in
theorem gX7_add_X7_isIn : GoodIn wsX7_add (va_wsS RX7 66 yX7_isIn wsX7_isIn) := goodIn_app (goodIn_of _ (by decide +kernel)) ggX7_add_X7_isIn
set_option maxRecDepth 20000 in
theorem ggX7_add_X7_refused : GoodIn wsX7_add wsX7_refused := goodIn_r _ [12, 13, 28, 29, 30, 31, 32, 33, 34, 35, 36, 37, 38, 39, 40, 41, 42, 43, 44, 45, 46, 47, 48, 49, 50, 51, 52] (by decide +kernel) (by decide +kernel)
set_option maxRecDepth 20000 in
theorem gX7_add_X7_refused : GoodIn wsX7_add (wsV RX7 70 RX7 yX7_refused wsX7_refused) := goodIn_app (goodIn_of _ (by decide +kernel)) ggX7_add_X7_refused
set_option maxRecDepth 20000 in
theorem ggX7_add_X7_finish : GoodIn wsX7_add wsX7_finish := goodIn_r _ [17, 1, 18, 19, 20, 21, 22, 4, 23, 24, 25, 26, 27, 28, 29, 30, 31, 32, 33, 34, 35, 36, 37, 38, 39, 40, 41, 42, 43, 44, 45, 46, 47, 48, 49, 50, 51, 52] (by decide +kernel) (by decide +kernel)
set_option maxRecDepth 20000 in
theorem gX7_add_X7_finish : GoodIn wsX7_add (wsV RX7 73 RX7 yX7_finish wsX7_finish) := goodIn_app (goodIn_of _ (by decide +kernel)) ggX7_add_X7_finish
theorem dX7_add_0 : decode cX7_add 0 = .ok (.iload_n 1, 1) := by decide +kernel
theorem dX7_add_1 : decode cX7_add 1 = .ok (.invokestatic 63, 3) := by decide +kernel
theorem dX7_add_4 : decode cX7_add 4 = .ok (.ifCond .eq 45, 3) := by decide +kernel
theorem dX7_add_7 : decode cX7_add 7 = .ok (.iload_n 2, 1) := by decide +kernel
theorem dX7_add_8 : decode cX7_add 8 = .ok (.invokestatic 63, 3) := by decide +kernel
theorem dX7_add_11 : decode cX7_add 11 = .ok (.ifCond .eq 38, 3) := by decide +kernel
theorem dX7_add_14 : decode cX7_add 14 = .ok (.iload_n 3, 1) := by decide +kernel
theorem dX7_add_15 : decode cX7_add 15 = .ok (.invokestatic 63, 3) := by decide +kernel
theorem dX7_add_18 : decode cX7_add 18 = .ok (.ifCond .eq 31, 3) := by decide +kernel
theorem dX7_add_21 : decode cX7_add 21 = .ok (.iload 4, 2) := by decide +kernel
theorem dX7_add_23 : decode cX7_add 23 = .ok (.bipush (-10), 2) := by decide +kernel
theorem dX7_add_25 : decode cX7_add 25 = .ok (.bipush 10, 2) := by decide +kernel
theorem dX7_add_27 : decode cX7_add 27 = .ok (.invokestatic 66, 3) := by decide +kernel
theorem dX7_add_30 : decode cX7_add 30 = .ok (.ifCond .eq 19, 3) := by decide +kernel
theorem dX7_add_33 : decode cX7_add 33 = .ok (.iload 5, 2) := by decide +kernel
theorem dX7_add_35 : decode cX7_add 35 = .ok (.bipush (-10), 2) := by decide +kernel
theorem dX7_add_37 : decode cX7_add 37 = .ok (.bipush 10, 2) := by decide +kernel
theorem dX7_add_39 : decode cX7_add 39 = .ok (.invokestatic 66, 3) := by decide +kernel
theorem dX7_add_42 : decode cX7_add 42 = .ok (.ifCond .eq 7, 3) := by decide +kernel
theorem dX7_add_45 : decode cX7_add 45 = .ok (.iconst 1, 1) := by decide +kernel
theorem dX7_add_46 : decode cX7_add 46 = .ok (.goto 4, 3) := by decide +kernel
theorem dX7_add_49 : decode cX7_add 49 = .ok (.iconst 0, 1) := by decide +kernel
theorem dX7_add_50 : decode cX7_add 50 = .ok (.istore 6, 2) := by decide +kernel
theorem dX7_add_52 : decode cX7_add 52 = .ok (.aload_n 0, 1) := by decide +kernel
theorem dX7_add_53 : decode cX7_add 53 = .ok (.iload 6, 2) := by decide +kernel
theorem dX7_add_55 : decode cX7_add 55 = .ok (.ifCond .eq 7, 3) := by decide +kernel
theorem dX7_add_58 : decode cX7_add 58 = .ok (.iconst 0, 1) := by decide +kernel
theorem dX7_add_59 : decode cX7_add 59 = .ok (.goto 4, 3) := by decide +kernel
theorem dX7_add_62 : decode cX7_add 62 = .ok (.iconst 1, 1) := by decide +kernel
theorem dX7_add_63 : decode cX7_add 63 = .ok (.invokevirtual 70, 3) := by decide +kernel
theorem dX7_add_66 : decode cX7_add 66 = .ok (.ifCond .eq 5, 3) := by decide +kernel
theorem dX7_add_69 : decode cX7_add 69 = .ok (.iconst 0, 1) := by decide +kernel
theorem dX7_add_70 : decode cX7_add 70 = .ok (.ireturn, 1) := by decide +kernel
theorem dX7_add_71 : decode cX7_add 71 = .ok (.iconst 0, 1) := by decide +kernel
theorem dX7_add_72 : decode cX7_add 72 = .ok (.istore 7, 2) := by decide +kernel
theorem dX7_add_74 : decode cX7_add 74 = .ok (.iload 7, 2) := by decide +kernel
theorem dX7_add_76 : decode cX7_add 76 = .ok (.bipush 8, 2) := by decide +kernel
theorem dX7_add_78 : decode cX7_add 78 = .ok (.if_icmp .ge 52, 3) := by decide +kernel
theorem dX7_add_81 : decode cX7_add 81 = .ok (.aload_n 0, 1) := by decide +kernel
theorem dX7_add_82 : decode cX7_add 82 = .ok (.getfield 7, 3) := by decide +kernel
theorem dX7_add_85 : decode cX7_add 85 = .ok (.bipush 64, 2) := by decide +kernel
theorem dX7_add_87 : decode cX7_add 87 = .ok (.iload 7, 2) := by decide +kernel
theorem dX7_add_89 : decode cX7_add 89 = .ok (.iadd, 1) := by decide +kernel
theorem dX7_add_90 : decode cX7_add 90 = .ok (.iload 4, 2) := by decide +kernel
theorem dX7_add_92 : decode cX7_add 92 = .ok (.i2l, 1) := by decide +kernel
theorem dX7_add_93 : decode cX7_add 93 = .ok (.aload_n 0, 1) := by decide +kernel
theorem dX7_add_94 : decode cX7_add 94 = .ok (.getfield 7, 3) := by decide +kernel
theorem dX7_add_97 : decode cX7_add 97 = .ok (.bipush 8, 2) := by decide +kernel
theorem dX7_add_99 : decode cX7_add 99 = .ok (.iload_n 2, 1) := by decide +kernel
theorem dX7_add_100 : decode cX7_add 100 = .ok (.imul, 1) := by decide +kernel
theorem dX7_add_101 : decode cX7_add 101 = .ok (.iload 7, 2) := by decide +kernel
theorem dX7_add_103 : decode cX7_add 103 = .ok (.iadd, 1) := by decide +kernel
theorem dX7_add_104 : decode cX7_add 104 = .ok (.laload, 1) := by decide +kernel
theorem dX7_add_105 : decode cX7_add 105 = .ok (.lmul, 1) := by decide +kernel
theorem dX7_add_106 : decode cX7_add 106 = .ok (.iload 5, 2) := by decide +kernel
theorem dX7_add_108 : decode cX7_add 108 = .ok (.i2l, 1) := by decide +kernel
theorem dX7_add_109 : decode cX7_add 109 = .ok (.aload_n 0, 1) := by decide +kernel
theorem dX7_add_110 : decode cX7_add 110 = .ok (.getfield 7, 3) := by decide +kernel
theorem dX7_add_113 : decode cX7_add 113 = .ok (.bipush 8, 2) := by decide +kernel
theorem dX7_add_115 : decode cX7_add 115 = .ok (.iload_n 3, 1) := by decide +kernel
theorem dX7_add_116 : decode cX7_add 116 = .ok (.imul, 1) := by decide +kernel
theorem dX7_add_117 : decode cX7_add 117 = .ok (.iload 7, 2) := by decide +kernel
theorem dX7_add_119 : decode cX7_add 119 = .ok (.iadd, 1) := by decide +kernel
theorem dX7_add_120 : decode cX7_add 120 = .ok (.laload, 1) := by decide +kernel
theorem dX7_add_121 : decode cX7_add 121 = .ok (.lmul, 1) := by decide +kernel
theorem dX7_add_122 : decode cX7_add 122 = .ok (.ladd, 1) := by decide +kernel
theorem dX7_add_123 : decode cX7_add 123 = .ok (.lastore, 1) := by decide +kernel
theorem dX7_add_124 : decode cX7_add 124 = .ok (.iinc 7 1, 3) := by decide +kernel
theorem dX7_add_127 : decode cX7_add 127 = .ok (.goto (-53), 3) := by decide +kernel
theorem dX7_add_130 : decode cX7_add 130 = .ok (.aload_n 0, 1) := by decide +kernel
theorem dX7_add_131 : decode cX7_add 131 = .ok (.iload_n 1, 1) := by decide +kernel
theorem dX7_add_132 : decode cX7_add 132 = .ok (.invokevirtual 73, 3) := by decide +kernel
theorem dX7_add_135 : decode cX7_add 135 = .ok (.ireturn, 1) := by decide +kernel
set_option maxRecDepth 20000 in
theorem ggX7_multiply_X7_isSlot : GoodIn wsX7_multiply wsX7_isSlot := goodIn_r _ [5] (by decide +kernel) (by decide +kernel)
set_option maxRecDepth 20000 in
theorem gX7_multiply_X7_isSlot : GoodIn wsX7_multiply (va_wsS RX7 63 yX7_isSlot wsX7_isSlot) := goodIn_app (goodIn_of _ (by decide +kernel)) ggX7_multiply_X7_isSlot
set_option maxRecDepth 20000 in
theorem ggX7_multiply_X7_refused : GoodIn wsX7_multiply wsX7_refused := goodIn_r _ [9, 10, 33, 34, 35, 36, 37, 38, 39, 40, 41, 42, 43, 44, 45, 46, 47, 48, 49, 50, 51, 52, 53, 54, 55, 56, 57] (by decide +kernel) (by decide +kernel)
set_option maxRecDepth 20000 in
theorem gX7_multiply_X7_refused : GoodIn wsX7_multiply (wsV RX7 70 RX7 yX7_refused wsX7_refused) := goodIn_app (goodIn_of _ (by decide +kernel)) ggX7_multiply_X7_refused
set_option maxRecDepth 20000 in
theorem ggX7_multiply_X7_clear : GoodIn wsX7_multiply wsX7_clear := goodIn_r _ [14, 1, 33, 34, 35, 36, 37, 38, 39, 40, 41, 42, 43, 44, 45, 46, 47, 48, 49, 50, 51, 52, 53, 54, 55, 56, 57] (by decide +kernel) (by decide +kernel)
set_option maxRecDepth 20000 in
theorem gX7_multiply_X7_clear : GoodIn wsX7_multiply (wsV RX7 55 RX7 yX7_clear wsX7_clear) := goodIn_app (goodIn_of _ (by decide +kernel)) ggX7_multiply_X7_clear
set_option maxRecDepth 20000 in
theorem ggX7_multiply_X7_isZero : GoodIn wsX7_multiply wsX7_isZero := goodIn_r _ [18, 19, 20, 21, 4, 22, 1, 33, 34, 35, 36, 37, 38, 39, 40, 41, 42, 43, 44, 45, 46, 47, 48, 49, 50, 51, 52, 53, 54, 55, 56, 57] (by decide +kernel) (by decide +kernel)
set_option maxRecDepth 20000 in
theorem gX7_multiply_X7_isZero : GoodIn wsX7_multiply (wsV RX7 59 RX7 yX7_isZero wsX7_isZero) := goodIn_app (goodIn_of _ (by decide +kernel)) ggX7_multiply_X7_isZero
set_option maxRecDepth 20000 in
theorem ggX7_multiply_X7_degreeOf : GoodIn wsX7_multiply wsX7_degreeOf := goodIn_r _ [22, 1, 33, 34, 35, 36, 37, 38, 39, 40, 41, 42, 43, 44, 45, 46, 47, 48, 49, 50, 51, 52, 53, 54, 55, 56, 57] (by decide +kernel) (by decide +kernel)
set_option maxRecDepth 20000 in
theorem gX7_multiply_X7_degreeOf : GoodIn wsX7_multiply (wsV RX7 39 RX7 yX7_degreeOf wsX7_degreeOf) := goodIn_app (goodIn_of _ (by decide +kernel)) ggX7_multiply_X7_degreeOf
set_option maxRecDepth 20000 in
theorem ggX7_multiply_X7_finish : GoodIn wsX7_multiply wsX7_finish := goodIn_r _ [26, 1, 27, 28, 29, 30, 31, 4, 32, 19, 20, 21, 22, 33, 34, 35, 36, 37, 38, 39, 40, 41, 42, 43, 44, 45, 46, 47, 48, 49, 50, 51, 52, 53, 54, 55, 56, 57] (by decide +kernel) (by decide +kernel)
set_option maxRecDepth 20000 in
theorem gX7_multiply_X7_finish : GoodIn wsX7_multiply (wsV RX7 73 RX7 yX7_finish wsX7_finish) := goodIn_app (goodIn_of _ (by decide +kernel)) ggX7_multiply_X7_finish
theorem dX7_multiply_0 : decode cX7_multiply 0 = .ok (.aload_n 0, 1) := by decide +kernel
theorem dX7_multiply_1 : decode cX7_multiply 1 = .ok (.iload_n 1, 1) := by decide +kernel
theorem dX7_multiply_2 : decode cX7_multiply 2 = .ok (.invokestatic 63, 3) := by decide +kernel
theorem dX7_multiply_5 : decode cX7_multiply 5 = .ok (.ifCond .eq 21, 3) := by decide +kernel
theorem dX7_multiply_8 : decode cX7_multiply 8 = .ok (.iload_n 2, 1) := by decide +kernel
theorem dX7_multiply_9 : decode cX7_multiply 9 = .ok (.invokestatic 63, 3) := by decide +kernel
theorem dX7_multiply_12 : decode cX7_multiply 12 = .ok (.ifCond .eq 14, 3) := by decide +kernel
theorem dX7_multiply_15 : decode cX7_multiply 15 = .ok (.iload_n 3, 1) := by decide +kernel
theorem dX7_multiply_16 : decode cX7_multiply 16 = .ok (.invokestatic 63, 3) := by decide +kernel
theorem dX7_multiply_19 : decode cX7_multiply 19 = .ok (.ifCond .eq 7, 3) := by decide +kernel
theorem dX7_multiply_22 : decode cX7_multiply 22 = .ok (.iconst 0, 1) := by decide +kernel
theorem dX7_multiply_23 : decode cX7_multiply 23 = .ok (.goto 4, 3) := by decide +kernel
theorem dX7_multiply_26 : decode cX7_multiply 26 = .ok (.iconst 1, 1) := by decide +kernel
theorem dX7_multiply_27 : decode cX7_multiply 27 = .ok (.invokevirtual 70, 3) := by decide +kernel
theorem dX7_multiply_30 : decode cX7_multiply 30 = .ok (.ifCond .eq 5, 3) := by decide +kernel
theorem dX7_multiply_33 : decode cX7_multiply 33 = .ok (.iconst 0, 1) := by decide +kernel
theorem dX7_multiply_34 : decode cX7_multiply 34 = .ok (.ireturn, 1) := by decide +kernel
theorem dX7_multiply_35 : decode cX7_multiply 35 = .ok (.aload_n 0, 1) := by decide +kernel
theorem dX7_multiply_36 : decode cX7_multiply 36 = .ok (.bipush 8, 2) := by decide +kernel
theorem dX7_multiply_38 : decode cX7_multiply 38 = .ok (.invokevirtual 55, 3) := by decide +kernel
theorem dX7_multiply_41 : decode cX7_multiply 41 = .ok (.aload_n 0, 1) := by decide +kernel
theorem dX7_multiply_42 : decode cX7_multiply 42 = .ok (.iload_n 2, 1) := by decide +kernel
theorem dX7_multiply_43 : decode cX7_multiply 43 = .ok (.invokevirtual 59, 3) := by decide +kernel
theorem dX7_multiply_46 : decode cX7_multiply 46 = .ok (.ifCond .ne 30, 3) := by decide +kernel
theorem dX7_multiply_49 : decode cX7_multiply 49 = .ok (.aload_n 0, 1) := by decide +kernel
theorem dX7_multiply_50 : decode cX7_multiply 50 = .ok (.iload_n 3, 1) := by decide +kernel
theorem dX7_multiply_51 : decode cX7_multiply 51 = .ok (.invokevirtual 59, 3) := by decide +kernel
theorem dX7_multiply_54 : decode cX7_multiply 54 = .ok (.ifCond .ne 22, 3) := by decide +kernel
theorem dX7_multiply_57 : decode cX7_multiply 57 = .ok (.aload_n 0, 1) := by decide +kernel
theorem dX7_multiply_58 : decode cX7_multiply 58 = .ok (.iload_n 2, 1) := by decide +kernel
theorem dX7_multiply_59 : decode cX7_multiply 59 = .ok (.invokevirtual 39, 3) := by decide +kernel
theorem dX7_multiply_62 : decode cX7_multiply 62 = .ok (.aload_n 0, 1) := by decide +kernel
theorem dX7_multiply_63 : decode cX7_multiply 63 = .ok (.iload_n 3, 1) := by decide +kernel
theorem dX7_multiply_64 : decode cX7_multiply 64 = .ok (.invokevirtual 39, 3) := by decide +kernel
theorem dX7_multiply_67 : decode cX7_multiply 67 = .ok (.iadd, 1) := by decide +kernel
theorem dX7_multiply_68 : decode cX7_multiply 68 = .ok (.bipush 6, 2) := by decide +kernel
theorem dX7_multiply_70 : decode cX7_multiply 70 = .ok (.if_icmp .le 6, 3) := by decide +kernel
theorem dX7_multiply_73 : decode cX7_multiply 73 = .ok (.bipush (-2), 2) := by decide +kernel
theorem dX7_multiply_75 : decode cX7_multiply 75 = .ok (.ireturn, 1) := by decide +kernel
theorem dX7_multiply_76 : decode cX7_multiply 76 = .ok (.iconst 0, 1) := by decide +kernel
theorem dX7_multiply_77 : decode cX7_multiply 77 = .ok (.istore 4, 2) := by decide +kernel
theorem dX7_multiply_79 : decode cX7_multiply 79 = .ok (.iload 4, 2) := by decide +kernel
theorem dX7_multiply_81 : decode cX7_multiply 81 = .ok (.bipush 7, 2) := by decide +kernel
theorem dX7_multiply_83 : decode cX7_multiply 83 = .ok (.if_icmp .ge 80, 3) := by decide +kernel
theorem dX7_multiply_86 : decode cX7_multiply 86 = .ok (.iconst 0, 1) := by decide +kernel
theorem dX7_multiply_87 : decode cX7_multiply 87 = .ok (.istore 5, 2) := by decide +kernel
theorem dX7_multiply_89 : decode cX7_multiply 89 = .ok (.iload 4, 2) := by decide +kernel
theorem dX7_multiply_91 : decode cX7_multiply 91 = .ok (.iload 5, 2) := by decide +kernel
theorem dX7_multiply_93 : decode cX7_multiply 93 = .ok (.iadd, 1) := by decide +kernel
theorem dX7_multiply_94 : decode cX7_multiply 94 = .ok (.bipush 7, 2) := by decide +kernel
theorem dX7_multiply_96 : decode cX7_multiply 96 = .ok (.if_icmp .ge 61, 3) := by decide +kernel
theorem dX7_multiply_99 : decode cX7_multiply 99 = .ok (.aload_n 0, 1) := by decide +kernel
theorem dX7_multiply_100 : decode cX7_multiply 100 = .ok (.getfield 7, 3) := by decide +kernel
theorem dX7_multiply_103 : decode cX7_multiply 103 = .ok (.bipush 64, 2) := by decide +kernel
theorem dX7_multiply_105 : decode cX7_multiply 105 = .ok (.iload 4, 2) := by decide +kernel
theorem dX7_multiply_107 : decode cX7_multiply 107 = .ok (.iadd, 1) := by decide +kernel
theorem dX7_multiply_108 : decode cX7_multiply 108 = .ok (.iload 5, 2) := by decide +kernel
theorem dX7_multiply_110 : decode cX7_multiply 110 = .ok (.iadd, 1) := by decide +kernel
theorem dX7_multiply_111 : decode cX7_multiply 111 = .ok (.aload_n 0, 1) := by decide +kernel
theorem dX7_multiply_112 : decode cX7_multiply 112 = .ok (.getfield 7, 3) := by decide +kernel
theorem dX7_multiply_115 : decode cX7_multiply 115 = .ok (.bipush 64, 2) := by decide +kernel
theorem dX7_multiply_117 : decode cX7_multiply 117 = .ok (.iload 4, 2) := by decide +kernel
theorem dX7_multiply_119 : decode cX7_multiply 119 = .ok (.iadd, 1) := by decide +kernel
theorem dX7_multiply_120 : decode cX7_multiply 120 = .ok (.iload 5, 2) := by decide +kernel
theorem dX7_multiply_122 : decode cX7_multiply 122 = .ok (.iadd, 1) := by decide +kernel
theorem dX7_multiply_123 : decode cX7_multiply 123 = .ok (.laload, 1) := by decide +kernel
theorem dX7_multiply_124 : decode cX7_multiply 124 = .ok (.aload_n 0, 1) := by decide +kernel
theorem dX7_multiply_125 : decode cX7_multiply 125 = .ok (.getfield 7, 3) := by decide +kernel
theorem dX7_multiply_128 : decode cX7_multiply 128 = .ok (.bipush 8, 2) := by decide +kernel
theorem dX7_multiply_130 : decode cX7_multiply 130 = .ok (.iload_n 2, 1) := by decide +kernel
theorem dX7_multiply_131 : decode cX7_multiply 131 = .ok (.imul, 1) := by decide +kernel
theorem dX7_multiply_132 : decode cX7_multiply 132 = .ok (.iload 4, 2) := by decide +kernel
theorem dX7_multiply_134 : decode cX7_multiply 134 = .ok (.iadd, 1) := by decide +kernel
theorem dX7_multiply_135 : decode cX7_multiply 135 = .ok (.laload, 1) := by decide +kernel
theorem dX7_multiply_136 : decode cX7_multiply 136 = .ok (.aload_n 0, 1) := by decide +kernel
theorem dX7_multiply_137 : decode cX7_multiply 137 = .ok (.getfield 7, 3) := by decide +kernel
theorem dX7_multiply_140 : decode cX7_multiply 140 = .ok (.bipush 8, 2) := by decide +kernel
theorem dX7_multiply_142 : decode cX7_multiply 142 = .ok (.iload_n 3, 1) := by decide +kernel
theorem dX7_multiply_143 : decode cX7_multiply 143 = .ok (.imul, 1) := by decide +kernel
theorem dX7_multiply_144 : decode cX7_multiply 144 = .ok (.iload 5, 2) := by decide +kernel
theorem dX7_multiply_146 : decode cX7_multiply 146 = .ok (.iadd, 1) := by decide +kernel
theorem dX7_multiply_147 : decode cX7_multiply 147 = .ok (.laload, 1) := by decide +kernel
theorem dX7_multiply_148 : decode cX7_multiply 148 = .ok (.lmul, 1) := by decide +kernel
theorem dX7_multiply_149 : decode cX7_multiply 149 = .ok (.ladd, 1) := by decide +kernel
theorem dX7_multiply_150 : decode cX7_multiply 150 = .ok (.lastore, 1) := by decide +kernel
theorem dX7_multiply_151 : decode cX7_multiply 151 = .ok (.iinc 5 1, 3) := by decide +kernel
theorem dX7_multiply_154 : decode cX7_multiply 154 = .ok (.goto (-65), 3) := by decide +kernel
theorem dX7_multiply_157 : decode cX7_multiply 157 = .ok (.iinc 4 1, 3) := by decide +kernel
theorem dX7_multiply_160 : decode cX7_multiply 160 = .ok (.goto (-81), 3) := by decide +kernel
theorem dX7_multiply_163 : decode cX7_multiply 163 = .ok (.aload_n 0, 1) := by decide +kernel
theorem dX7_multiply_164 : decode cX7_multiply 164 = .ok (.iload_n 1, 1) := by decide +kernel
theorem dX7_multiply_165 : decode cX7_multiply 165 = .ok (.invokevirtual 73, 3) := by decide +kernel
theorem dX7_multiply_168 : decode cX7_multiply 168 = .ok (.ireturn, 1) := by decide +kernel
set_option maxRecDepth 20000 in
theorem ggX7_derive_X7_isSlot : GoodIn wsX7_derive wsX7_isSlot := goodIn_r _ [5] (by decide +kernel) (by decide +kernel)
set_option maxRecDepth 20000 in
theorem gX7_derive_X7_isSlot : GoodIn wsX7_derive (va_wsS RX7 63 yX7_isSlot wsX7_isSlot) := goodIn_app (goodIn_of _ (by decide +kernel)) ggX7_derive_X7_isSlot
set_option maxRecDepth 20000 in
theorem ggX7_derive_X7_refused : GoodIn wsX7_derive wsX7_refused := goodIn_r _ [9, 10, 29, 30, 31, 32, 33, 34, 35, 36, 37, 38, 39, 40, 41, 42, 43, 44, 45, 46, 47, 48, 49, 50, 51, 52, 53] (by decide +kernel) (by decide +kernel)
set_option maxRecDepth 20000 in
theorem gX7_derive_X7_refused : GoodIn wsX7_derive (wsV RX7 70 RX7 yX7_refused wsX7_refused) := goodIn_app (goodIn_of _ (by decide +kernel)) ggX7_derive_X7_refused
set_option maxRecDepth 20000 in
theorem ggX7_derive_X7_clear : GoodIn wsX7_derive wsX7_clear := goodIn_r _ [14, 1, 29, 30, 31, 32, 33, 34, 35, 36, 37, 38, 39, 40, 41, 42, 43, 44, 45, 46, 47, 48, 49, 50, 51, 52, 53] (by decide +kernel) (by decide +kernel)
set_option maxRecDepth 20000 in
theorem gX7_derive_X7_clear : GoodIn wsX7_derive (wsV RX7 55 RX7 yX7_clear wsX7_clear) := goodIn_app (goodIn_of _ (by decide +kernel)) ggX7_derive_X7_clear
set_option maxRecDepth 20000 in
theorem ggX7_derive_X7_finish : GoodIn wsX7_derive wsX7_finish := goodIn_r _ [18, 1, 19, 20, 21, 22, 23, 4, 24, 25, 26, 27, 28, 29, 30, 31, 32, 33, 34, 35, 36, 37, 38, 39, 40, 41, 42, 43, 44, 45, 46, 47, 48, 49, 50, 51, 52, 53] (by decide +kernel) (by decide +kernel)
set_option maxRecDepth 20000 in
theorem gX7_derive_X7_finish : GoodIn wsX7_derive (wsV RX7 73 RX7 yX7_finish wsX7_finish) := goodIn_app (goodIn_of _ (by decide +kernel)) ggX7_derive_X7_finish
theorem dX7_derive_0 : decode cX7_derive 0 = .ok (.aload_n 0, 1) := by decide +kernel
theorem dX7_derive_1 : decode cX7_derive 1 = .ok (.iload_n 1, 1) := by decide +kernel
theorem dX7_derive_2 : decode cX7_derive 2 = .ok (.invokestatic 63, 3) := by decide +kernel
theorem dX7_derive_5 : decode cX7_derive 5 = .ok (.ifCond .eq 14, 3) := by decide +kernel
theorem dX7_derive_8 : decode cX7_derive 8 = .ok (.iload_n 2, 1) := by decide +kernel
theorem dX7_derive_9 : decode cX7_derive 9 = .ok (.invokestatic 63, 3) := by decide +kernel
theorem dX7_derive_12 : decode cX7_derive 12 = .ok (.ifCond .eq 7, 3) := by decide +kernel
theorem dX7_derive_15 : decode cX7_derive 15 = .ok (.iconst 0, 1) := by decide +kernel
theorem dX7_derive_16 : decode cX7_derive 16 = .ok (.goto 4, 3) := by decide +kernel
theorem dX7_derive_19 : decode cX7_derive 19 = .ok (.iconst 1, 1) := by decide +kernel
theorem dX7_derive_20 : decode cX7_derive 20 = .ok (.invokevirtual 70, 3) := by decide +kernel
theorem dX7_derive_23 : decode cX7_derive 23 = .ok (.ifCond .eq 5, 3) := by decide +kernel
theorem dX7_derive_26 : decode cX7_derive 26 = .ok (.iconst 0, 1) := by decide +kernel
theorem dX7_derive_27 : decode cX7_derive 27 = .ok (.ireturn, 1) := by decide +kernel
theorem dX7_derive_28 : decode cX7_derive 28 = .ok (.aload_n 0, 1) := by decide +kernel
theorem dX7_derive_29 : decode cX7_derive 29 = .ok (.bipush 8, 2) := by decide +kernel
theorem dX7_derive_31 : decode cX7_derive 31 = .ok (.invokevirtual 55, 3) := by decide +kernel
theorem dX7_derive_34 : decode cX7_derive 34 = .ok (.iconst 1, 1) := by decide +kernel
theorem dX7_derive_35 : decode cX7_derive 35 = .ok (.istore_n 3, 1) := by decide +kernel
theorem dX7_derive_36 : decode cX7_derive 36 = .ok (.iload_n 3, 1) := by decide +kernel
theorem dX7_derive_37 : decode cX7_derive 37 = .ok (.bipush 7, 2) := by decide +kernel
theorem dX7_derive_39 : decode cX7_derive 39 = .ok (.if_icmp .ge 34, 3) := by decide +kernel
theorem dX7_derive_42 : decode cX7_derive 42 = .ok (.aload_n 0, 1) := by decide +kernel
