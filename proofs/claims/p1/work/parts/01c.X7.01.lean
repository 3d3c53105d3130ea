set_option maxRecDepth 20000 in
theorem gX7_get_X7_isIn : GoodIn wsX7_get (va_wsS RX7 66 yX7_isIn wsX7_isIn) := goodIn_app (goodIn_of _ (by decide +kernel)) ggX7_get_X7_isIn
set_option maxRecDepth 20000 in
theorem ggX7_get_X7_refused : GoodIn wsX7_get wsX7_refused := goodIn_r _ [12, 13, 14, 15, 16, 17, 18, 19, 20, 21, 22, 23, 24, 25, 26, 27, 28, 29, 30, 31, 32, 33, 34, 35, 36, 37, 38] (by decide +kernel) (by decide +kernel)
set_option maxRecDepth 20000 in
theorem gX7_get_X7_refused : GoodIn wsX7_get (wsV RX7 70 RX7 yX7_refused wsX7_refused) := goodIn_app (goodIn_of _ (by decide +kernel)) ggX7_get_X7_refused
theorem dX7_get_0 : decode cX7_get 0 = .ok (.aload_n 0, 1) := by decide +kernel
theorem dX7_get_1 : decode cX7_get 1 = .ok (.iload_n 1, 1) := by decide +kernel
theorem dX7_get_2 : decode cX7_get 2 = .ok (.invokestatic 63, 3) := by decide +kernel
theorem dX7_get_5 : decode cX7_get 5 = .ok (.ifCond .eq 17, 3) := by decide +kernel
theorem dX7_get_8 : decode cX7_get 8 = .ok (.iload_n 2, 1) := by decide +kernel
theorem dX7_get_9 : decode cX7_get 9 = .ok (.iconst 0, 1) := by decide +kernel
theorem dX7_get_10 : decode cX7_get 10 = .ok (.bipush 6, 2) := by decide +kernel
theorem dX7_get_12 : decode cX7_get 12 = .ok (.invokestatic 66, 3) := by decide +kernel
theorem dX7_get_15 : decode cX7_get 15 = .ok (.ifCond .eq 7, 3) := by decide +kernel
theorem dX7_get_18 : decode cX7_get 18 = .ok (.iconst 0, 1) := by decide +kernel
theorem dX7_get_19 : decode cX7_get 19 = .ok (.goto 4, 3) := by decide +kernel
theorem dX7_get_22 : decode cX7_get 22 = .ok (.iconst 1, 1) := by decide +kernel
theorem dX7_get_23 : decode cX7_get 23 = .ok (.invokevirtual 70, 3) := by decide +kernel
theorem dX7_get_26 : decode cX7_get 26 = .ok (.ifCond .eq 5, 3) := by decide +kernel
theorem dX7_get_29 : decode cX7_get 29 = .ok (.iconst 0, 1) := by decide +kernel
theorem dX7_get_30 : decode cX7_get 30 = .ok (.ireturn, 1) := by decide +kernel
theorem dX7_get_31 : decode cX7_get 31 = .ok (.aload_n 0, 1) := by decide +kernel
theorem dX7_get_32 : decode cX7_get 32 = .ok (.getfield 7, 3) := by decide +kernel
theorem dX7_get_35 : decode cX7_get 35 = .ok (.bipush 8, 2) := by decide +kernel
theorem dX7_get_37 : decode cX7_get 37 = .ok (.iload_n 1, 1) := by decide +kernel
theorem dX7_get_38 : decode cX7_get 38 = .ok (.imul, 1) := by decide +kernel
theorem dX7_get_39 : decode cX7_get 39 = .ok (.iload_n 2, 1) := by decide +kernel
theorem dX7_get_40 : decode cX7_get 40 = .ok (.iadd, 1) := by decide +kernel
theorem dX7_get_41 : decode cX7_get 41 = .ok (.laload, 1) := by decide +kernel
theorem dX7_get_42 : decode cX7_get 42 = .ok (.l2i, 1) := by decide +kernel
theorem dX7_get_43 : decode cX7_get 43 = .ok (.ireturn, 1) := by decide +kernel
set_option maxRecDepth 20000 in
theorem ggX7_add_X7_isSlot : GoodIn wsX7_add wsX7_isSlot := goodIn_r _ [5] (by decide +kernel) (by decide +kernel)
set_option maxRecDepth 20000 in
theorem gX7_add_X7_isSlot : GoodIn wsX7_add (va_wsS RX7 63 yX7_isSlot wsX7_isSlot) := goodIn_app (goodIn_of _ (by decide +kernel)) ggX7_add_X7_isSlot
set_option maxRecDepth 20000 in
theorem ggX7_add_X7_isIn : GoodIn wsX7_add wsX7_isIn := goodIn_r _ [8] (by decide +kernel) (by decide +kernel)
set_option maxRecDepth 20000 in
theorem gX7_add_X7_isIn : GoodIn wsX7_add (va_wsS RX7 66 yX7_isIn wsX7_isIn) := goodIn_app (goodIn_of _ (by decide +kernel)) ggX7_add_X7_isIn
set_option maxRecDepth 20000 in
theorem ggX7_add_X7_refused : GoodIn wsX7_add wsX7_refused := goodIn_r _ [12, 13, 28, 29, 30, 31, 32, 33, 34, 35, 36, 37, 38, 39, 40, 41, 42, 43, 44, 45, 46, 47, 48, 49, 50, 51, 52] (by decide +kernel) (by decide +kernel)
set_option maxRecDepth 20000 in
theorem gX7_add_X7_refused : GoodIn wsX7_add (wsV RX7 70 RX7 yX7_refused wsX7_refused) := goodIn_app (goodIn_of _ (by decide +kernel)) ggX7_add_X7_refused
set_option maxRecDepth 20000 in
theorem ggX7_add_X7_finish : GoodIn wsX7_add wsX7_finish := goodIn_r _ [17, 1, 18, 19, 20, 21, 22, 4, 23, 24, 25, 26, 27, 28, 29, 30, 31, 32, 33, 34, 35, 36, 37, 38, 39, 40, 41, 42, 43, 44, 45, 46, 47, 48, 49, 50, 51, 52] (by decide +kernel) (by decide +kernel)
set_option maxRecDepth 20000 in
theorem gX7_add_X7_finish : GoodIn wsX7_add (wsV RX7 73 RX7 yX7_finish wsX7_finish) := goodIn_app (goodIn_of _ (by decide +kernel)) ggX7_add_X7_finish
theorem dX7_add_0 : decode cX7_add 0 = .ok (.iload_n 1, 1) := by decide +kernel
theorem dX7_add_1 : decode cX7_add 1 = .ok (.invokestatic 63, 3) := by decide +kernel
theorem dX7_add_4 : decode cX7_add 4 = .ok (.ifCond .eq 45, 3) := by decide +kernel
theorem dX7_add_7 : decode cX7_add 7 = .ok (.iload_n 2, 1) := by decide +kernel
theorem dX7_add_8 : decode cX7_add 8 = .ok (.invokestatic 63, 3) := by decide +kernel
theorem dX7_add_11 : decode cX7_add 11 = .ok (.ifCond .eq 38, 3) := by decide +kernel
theorem dX7_add_14 : decode cX7_add 14 = .ok (.iload_n 3, 1) := by decide +kernel
theorem dX7_add_15 : decode cX7_add 15 = .ok (.invokestatic 63, 3) := by decide +kernel
theorem dX7_add_18 : decode cX7_add 18 = .ok (.ifCond .eq 31, 3) := by decide +kernel
theorem dX7_add_21 : decode cX7_add 21 = .ok (.iload 4, 2) := by decide +kernel
theorem dX7_add_23 : decode cX7_add 23 = .ok (.bipush (-10), 2) := by decide +kernel
theorem dX7_add_25 : decode cX7_add 25 = .ok (.bipush 10, 2) := by decide +kernel
theorem dX7_add_27 : decode cX7_add 27 = .ok (.invokestatic 66, 3) := by decide +kernel
theorem dX7_add_30 : decode cX7_add 30 = .ok (.ifCond .eq 19, 3) := by decide +kernel
theorem dX7_add_33 : decode cX7_add 33 = .ok (.iload 5, 2) := by decide +kernel
theorem dX7_add_35 : decode cX7_add 35 = .ok (.bipush (-10), 2) := by decide +kernel
theorem dX7_add_37 : decode cX7_add 37 = .ok (.bipush 10, 2) := by decide +kernel
theorem dX7_add_39 : decode cX7_add 39 = .ok (.invokestatic 66, 3) := by decide +kernel
theorem dX7_add_42 : decode cX7_add 42 = .ok (.ifCond .eq 7, 3) := by decide +kernel
theorem dX7_add_45 : decode cX7_add 45 = .ok (.iconst 1, 1) := by decide +kernel
theorem dX7_add_46 : decode cX7_add 46 = .ok (.goto 4, 3) := by decide +kernel
theorem dX7_add_49 : decode cX7_add 49 = .ok (.iconst 0, 1) := by decide +kernel
theorem dX7_add_50 : decode cX7_add 50 = .ok (.istore 6, 2) := by decide +kernel
theorem dX7_add_52 : decode cX7_add 52 = .ok (.aload_n 0, 1) := by decide +kernel
theorem dX7_add_53 : decode cX7_add 53 = .ok (.iload 6, 2) := by decide +kernel
theorem dX7_add_55 : decode cX7_add 55 = .ok (.ifCond .eq 7, 3) := by decide +kernel
theorem dX7_add_58 : decode cX7_add 58 = .ok (.iconst 0, 1) := by decide +kernel
theorem dX7_add_59 : decode cX7_add 59 = .ok (.goto 4, 3) := by decide +kernel
theorem dX7_add_62 : decode cX7_add 62 = .ok (.iconst 1, 1) := by decide +kernel
theorem dX7_add_63 : decode cX7_add 63 = .ok (.invokevirtual 70, 3) := by decide +kernel
theorem dX7_add_66 : decode cX7_add 66 = .ok (.ifCond .eq 5, 3) := by decide +kernel
theorem dX7_add_69 : decode cX7_add 69 = .ok (.iconst 0, 1) := by decide +kernel
theorem dX7_add_70 : decode cX7_add 70 = .ok (.ireturn, 1) := by decide +kernel
theorem dX7_add_71 : decode cX7_add 71 = .ok (.iconst 0, 1) := by decide +kernel
theorem dX7_add_72 : decode cX7_add 72 = .ok (.istore 7, 2) := by decide +kernel
theorem dX7_add_74 : decode cX7_add 74 = .ok (.iload 7, 2) := by decide +kernel
theorem dX7_add_76 : decode cX7_add 76 = .ok (.bipush 8, 2) := by decide +kernel
theorem dX7_add_78 : decode cX7_add 78 = .ok (.if_icmp .ge 52, 3) := by decide +kernel
theorem dX7_add_81 : decode cX7_add 81 = .ok (.aload_n 0, 1) := by decide +kernel
theorem dX7_add_82 : decode cX7_add 82 = .ok (.getfield 7, 3) := by decide +kernel
theorem dX7_add_85 : decode cX7_add 85 = .ok (.bipush 64, 2) := by decide +kernel
theorem dX7_add_87 : decode cX7_add 87 = .ok (.iload 7, 2) := by decide +kernel
theorem dX7_add_89 : decode cX7_add 89 = .ok (.iadd, 1) := by decide +kernel
theorem dX7_add_90 : decode cX7_add 90 = .ok (.iload 4, 2) := by decide +kernel
theorem dX7_add_92 : decode cX7_add 92 = .ok (.i2l, 1) := by decide +kernel
theorem dX7_add_93 : decode cX7_add 93 = .ok (.aload_n 0, 1) := by decide +kernel
theorem dX7_add_94 : decode cX7_add 94 = .ok (.getfield 7, 3) := by decide +kernel
theorem dX7_add_97 : decode cX7_add 97 = .ok (.bipush 8, 2) := by decide +kernel
theorem dX7_add_99 : decode cX7_add 99 = .ok (.iload_n 2, 1) := by decide +kernel
theorem dX7_add_100 : decode cX7_add 100 = .ok (.imul, 1) := by decide +kernel
theorem dX7_add_101 : decode cX7_add 101 = .ok (.iload 7, 2) := by decide +kernel
theorem dX7_add_103 : decode cX7_add 103 = .ok (.iadd, 1) := by decide +kernel
theorem dX7_add_104 : decode cX7_add 104 = .ok (.laload, 1) := by decide +kernel
theorem dX7_add_105 : decode cX7_add 105 = .ok (.lmul, 1) := by decide +kernel
theorem dX7_add_106 : decode cX7_add 106 = .ok (.iload 5, 2) := by decide +kernel
theorem dX7_add_108 : decode cX7_add 108 = .ok (.i2l, 1) := by decide +kernel
theorem dX7_add_109 : decode cX7_add 109 = .ok (.aload_n 0, 1) := by decide +kernel
theorem dX7_add_110 : decode cX7_add 110 = .ok (.getfield 7, 3) := by decide +kernel
theorem dX7_add_113 : decode cX7_add 113 = .ok (.bipush 8, 2) := by decide +kernel
theorem dX7_add_115 : decode cX7_add 115 = .ok (.iload_n 3, 1) := by decide +kernel
theorem dX7_add_116 : decode cX7_add 116 = .ok (.imul, 1) := by decide +kernel
theorem dX7_add_117 : decode cX7_add 117 = .ok (.iload 7, 2) := by decide +kernel
theorem dX7_add_119 : decode cX7_add 119 = .ok (.iadd, 1) := by decide +kernel
theorem dX7_add_120 : decode cX7_add 120 = .ok (.laload, 1) := by decide +kernel
theorem dX7_add_121 : decode cX7_add 121 = .ok (.lmul, 1) := by decide +kernel
theorem dX7_add_122 : decode cX7_add 122 = .ok (.ladd, 1) := by decide +kernel
theorem dX7_add_123 : decode cX7_add 123 = .ok (.lastore, 1) := by decide +kernel
theorem dX7_add_124 : decode cX7_add 124 = .ok (.iinc 7 1, 3) := by decide +kernel
theorem dX7_add_127 : decode cX7_add 127 = .ok (.goto (-53), 3) := by decide +kernel
theorem dX7_add_130 : decode cX7_add 130 = .ok (.aload_n 0, 1) := by decide +kernel
theorem dX7_add_131 : decode cX7_add 131 = .ok (.iload_n 1, 1) := by decide +kernel
theorem dX7_add_132 : decode cX7_add 132 = .ok (.invokevirtual 73, 3) := by decide +kernel
theorem dX7_add_135 : decode cX7_add 135 = .ok (.ireturn, 1) := by decide +kernel
set_option maxRecDepth 20000 in
theorem ggX7_multiply_X7_isSlot : GoodIn wsX7_multiply wsX7_isSlot := goodIn_r _ [5] (by decide +kernel) (by decide +kernel)
set_option maxRecDepth 20000 in
theorem gX7_multiply_X7_isSlot : GoodIn wsX7_multiply (va_wsS RX7 63 yX7_isSlot wsX7_isSlot) := goodIn_app (goodIn_of _ (by decide +kernel)) ggX7_multiply_X7_isSlot
set_option maxRecDepth 20000 in
theorem ggX7_multiply_X7_refused : GoodIn wsX7_multiply wsX7_refused := goodIn_r _ [9, 10, 33, 34, 35, 36, 37, 38, 39, 40, 41, 42, 43, 44, 45, 46, 47, 48, 49, 50, 51, 52, 53, 54, 55, 56, 57] (by decide +kernel) (by decide +kernel)
set_option maxRecDepth 20000 in
theorem gX7_multiply_X7_refused : GoodIn wsX7_multiply (wsV RX7 70 RX7 yX7_refused wsX7_refused) := goodIn_app (goodIn_of _ (by decide +kernel)) ggX7_multiply_X7_refused
set_option maxRecDepth 20000 in
theorem ggX7_multiply_X7_clear : GoodIn wsX7_multiply wsX7_clear := goodIn_r _ [14, 1, 33, 34, 35, 36, 37, 38, 39, 40, 41, 42, 43, 44, 45, 46, 47, 48, 49, 50, 51, 52, 53, 54, 55, 56, 57] (by decide +kernel) (by decide +kernel)
set_option maxRecDepth 20000 in
theorem gX7_multiply_X7_clear : GoodIn wsX7_multiply (wsV RX7 55 RX7 yX7_clear wsX7_clear) := goodIn_app (goodIn_of _ (by decide +kernel)) ggX7_multiply_X7_clear
set_option maxRecDepth 20000 in
theorem ggX7_multiply_X7_isZero : GoodIn wsX7_multiply wsX7_isZero := goodIn_r _ [18, 19, 20, 21, 4, 22, 1, 33, 34, 35, 36, 37, 38, 39, 40, 41, 42, 43, 44, 45, 46, 47, 48, 49, 50, 51, 52, 53, 54, 55, 56, 57] (by decide +kernel) (by decide +kernel)
set_option maxRecDepth 20000 in
theorem gX7_multiply_X7_isZero : GoodIn wsX7_multiply (wsV RX7 59 RX7 yX7_isZero wsX7_isZero) := goodIn_app (goodIn_of _ (by decide +kernel)) ggX7_multiply_X7_isZero
set_option maxRecDepth 20000 in
theorem ggX7_multiply_X7_degreeOf : GoodIn wsX7_multiply wsX7_degreeOf := goodIn_r _ [22, 1, 33, 34, 35, 36, 37, 38, 39, 40, 41, 42, 43, 44, 45, 46, 47, 48, 49, 50, 51, 52, 53, 54, 55, 56, 57] (by decide +kernel) (by decide +kernel)
set_option maxRecDepth 20000 in
theorem gX7_multiply_X7_degreeOf : GoodIn wsX7_multiply (wsV RX7 39 RX7 yX7_degreeOf wsX7_degreeOf) := goodIn_app (goodIn_of _ (by decide +kernel)) ggX7_multiply_X7_degreeOf
set_option maxRecDepth 20000 in
theorem ggX7_multiply_X7_finish : GoodIn wsX7_multiply wsX7_finish := goodIn_r _ [26, 1, 27, 28, 29, 30, 31, 4, 32, 19, 20, 21, 22, 33, 34, 35, 36, 37, 38, 39, 40, 41, 42, 43, 44, 45, 46, 47, 48, 49, 50, 51, 52, 53, 54, 55, 56, 57] (by decide +kernel) (by decide +kernel)
set_option maxRecDepth 20000 in
theorem gX7_multiply_X7_finish : GoodIn wsX7_multiply (wsV RX7 73 RX7 yX7_finish wsX7_finish) := goodIn_app (goodIn_of _ (by decide +kernel)) ggX7_multiply_X7_finish
theorem dX7_multiply_0 : decode cX7_multiply 0 = .ok (.aload_n 0, 1) := by decide +kernel
theorem dX7_multiply_1 : decode cX7_multiply 1 = .ok (.iload_n 1, 1) := by decide +kernel
theorem dX7_multiply_2 : decode cX7_multiply 2 = .ok (.invokestatic 63, 3) := by decide +kernel
theorem dX7_multiply_5 : decode cX7_multiply 5 = .ok (.ifCond .eq 21, 3) := by decide +kernel
theorem dX7_multiply_8 : decode cX7_multiply 8 = .ok (.iload_n 2, 1) := by decide +kernel
theorem dX7_multiply_9 : decode cX7_multiply 9 = .ok (.invokestatic 63, 3) := by decide +kernel
theorem dX7_multiply_12 : decode cX7_multiply 12 = .ok (.ifCond .eq 14, 3) := by decide +kernel
theorem dX7_multiply_15 : decode cX7_multiply 15 = .ok (.iload_n 3, 1) := by decide +kernel
theorem dX7_multiply_16 : decode cX7_multiply 16 = .ok (.invokestatic 63, 3) := by decide +kernel
theorem dX7_multiply_19 : decode cX7_multiply 19 = .ok (.ifCond .eq 7, 3) := by decide +kernel
theorem dX7_multiply_22 : decode cX7_multiply 22 = .ok (.iconst 0, 1) := by decide +kernel
theorem dX7_multiply_23 : decode cX7_multiply 23 = .ok (.goto 4, 3) := by decide +kernel
theorem dX7_multiply_26 : decode cX7_multiply 26 = .ok (.iconst 1, 1) := by decide +kernel
theorem dX7_multiply_27 : decode cX7_multiply 27 = .ok (.invokevirtual 70, 3) := by decide +kernel
theorem dX7_multiply_30 : decode cX7_multiply 30 = .ok (.ifCond .eq 5, 3) := by decide +kernel
theorem dX7_multiply_33 : decode cX7_multiply 33 = .ok (.iconst 0, 1) := by decide +kernel
theorem dX7_multiply_34 : decode cX7_multiply 34 = .ok (.ireturn, 1) := by decide +kernel
theorem dX7_multiply_35 : decode cX7_multiply 35 = .ok (.aload_n 0, 1) := by decide +kernel
theorem dX7_multiply_36 : decode cX7_multiply 36 = .ok (.bipush 8, 2) := by decide +kernel
theorem dX7_multiply_38 : decode cX7_multiply 38 = .ok (.invokevirtual 55, 3) := by decide +kernel
theorem dX7_multiply_41 : decode cX7_multiply 41 = .ok (.aload_n 0, 1) := by decide +kernel
theorem dX7_multiply_42 : decode cX7_multiply 42 = .ok (.iload_n 2, 1) := by decide +kernel
theorem dX7_multiply_43 : decode cX7_multiply 43 = .ok (.invokevirtual 59, 3) := by decide +kernel
theorem dX7_multiply_46 : decode cX7_multiply 46 = .ok (.ifCond .ne 30, 3) := by decide +kernel
theorem dX7_multiply_49 : decode cX7_multiply 49 = .ok (.aload_n 0, 1) := by decide +kernel
theorem dX7_multiply_50 : decode cX7_multiply 50 = .ok (.iload_n 3, 1) := by decide +kernel
theorem dX7_multiply_51 : decode cX7_multiply 51 = .ok (.invokevirtual 59, 3) := by decide +kernel
theorem dX7_multiply_54 : decode cX7_multiply 54 = .ok (.ifCond .ne 22, 3) := by decide +kernel
theorem dX7_multiply_57 : decode cX7_multiply 57 = .ok (.aload_n 0, 1) := by decide +kernel
theorem dX7_multiply_58 : decode cX7_multiply 58 = .ok (.iload_n 2, 1) := by decide +kernel
theorem dX7_multiply_59 : decode cX7_multiply 59 = .ok (.invokevirtual 39, 3) := by decide +kernel
theorem dX7_multiply_62 : decode cX7_multiply 62 = .ok (.aload_n 0, 1) := by decide +kernel
theorem dX7_multiply_63 : decode cX7_multiply 63 = .ok (.iload_n 3, 1) := by decide +kernel
theorem dX7_multiply_64 : decode cX7_multiply 64 = .ok (.invokevirtual 39, 3) := by decide +kernel
theorem dX7_multiply_67 : decode cX7_multiply 67 = .ok (.iadd, 1) := by decide +kernel
theorem dX7_multiply_68 : decode cX7_multiply 68 = .ok (.bipush 6, 2) := by decide +kernel
theorem dX7_multiply_70 : decode cX7_multiply 70 = .ok (.if_icmp .le 6, 3) := by decide +kernel
theorem dX7_multiply_73 : decode cX7_multiply 73 = .ok (.bipush (-2), 2) := by decide +kernel
theorem dX7_multiply_75 : decode cX7_multiply 75 = .ok (.ireturn, 1) := by decide +kernel
theorem dX7_multiply_76 : decode cX7_multiply 76 = .ok (.iconst 0, 1) := by decide +kernel
theorem dX7_multiply_77 : decode cX7_multiply 77 = .ok (.istore 4, 2) := by decide +kernel
theorem dX7_multiply_79 : decode cX7_multiply 79 = .ok (.iload 4, 2) := by decide +kernel
theorem dX7_multiply_81 : decode cX7_multiply 81 = .ok (.bipush 7, 2) := by decide +kernel
theorem dX7_multiply_83 : decode cX7_multiply 83 = .ok (.if_icmp .ge 80, 3) := by decide +kernel
theorem dX7_multiply_86 : decode cX7_multiply 86 = .ok (.iconst 0, 1) := by decide +kernel
theorem dX7_multiply_87 : decode cX7_multiply 87 = .ok (.istore 5, 2) := by decide +kernel
theorem dX7_multiply_89 : decode cX7_multiply 89 = .ok (.iload 4, 2) := by decide +kernel
theorem dX7_multiply_91 : decode cX7_multiply 91 = .ok (.iload 5, 2) := by decide +kernel
theorem dX7_multiply_93 : decode cX7_multiply 93 = .ok (.iadd, 1) := by decide +kernel
theorem dX7_multiply_94 : decode cX7_multiply 94 = .ok (.bipush 7, 2) := by decide +kernel
theorem dX7_multiply_96 : decode cX7_multiply 96 = .ok (.if_icmp .ge 61, 3) := by decide +kernel
theorem dX7_multiply_99 : decode cX7_multiply 99 = .ok (.aload_n 0, 1) := by decide +kernel
theorem dX7_multiply_100 : decode cX7_multiply 100 = .ok (.getfield 7, 3) := by decide +kernel
theorem dX7_multiply_103 : decode cX7_multiply 103 = .ok (.bipush 64, 2) := by decide +kernel
theorem dX7_multiply_105 : decode cX7_multiply 105 = .ok (.iload 4, 2) := by decide +kernel
theorem dX7_multiply_107 : decode cX7_multiply 107 = .ok (.iadd, 1) := by decide +kernel
theorem dX7_multiply_108 : decode cX7_multiply 108 = .ok (.iload 5, 2) := by decide +kernel
theorem dX7_multiply_110 : decode cX7_multiply 110 = .ok (.iadd, 1) := by decide +kernel
theorem dX7_multiply_111 : decode cX7_multiply 111 = .ok (.aload_n 0, 1) := by decide +kernel
theorem dX7_multiply_112 : decode cX7_multiply 112 = .ok (.getfield 7, 3) := by decide +kernel
theorem dX7_multiply_115 : decode cX7_multiply 115 = .ok (.bipush 64, 2) := by decide +kernel
theorem dX7_multiply_117 : decode cX7_multiply 117 = .ok (.iload 4, 2) := by decide +kernel
theorem dX7_multiply_119 : decode cX7_multiply 119 = .ok (.iadd, 1) := by decide +kernel
theorem dX7_multiply_120 : decode cX7_multiply 120 = .ok (.iload 5, 2) := by decide +kernel
theorem dX7_multiply_122 : decode cX7_multiply 122 = .ok (.iadd, 1) := by decide +kernel
theorem dX7_multiply_123 : decode cX7_multiply 123 = .ok (.laload, 1) := by decide +kernel
theorem dX7_multiply_124 : decode cX7_multiply 124 = .ok (.aload_n 0, 1) := by decide +kernel
theorem dX7_multiply_125 : decode cX7_multiply 125 = .ok (.getfield 7, 3) := by decide +kernel
theorem dX7_multiply_128 : decode cX7_multiply 128 = .ok (.bipush 8, 2) := by decide +kernel
theorem dX7_multiply_130 : decode cX7_multiply 130 = .ok (.iload_n 2, 1) := by decide +kernel
theorem dX7_multiply_131 : decode cX7_multiply 131 = .ok (.imul, 1) := by decide +kernel
theorem dX7_multiply_132 : decode cX7_multiply 132 = .ok (.iload 4, 2) := by decide +kernel
theorem dX7_multiply_134 : decode cX7_multiply 134 = .ok (.iadd, 1) := by decide +kernel
theorem dX7_multiply_135 : decode cX7_multiply 135 = .ok (.laload, 1) := by decide +kernel
theorem dX7_multiply_136 : decode cX7_multiply 136 = .ok (.aload_n 0, 1) := by decide +kernel
theorem dX7_multiply_137 : decode cX7_multiply 137 = .ok (.getfield 7, 3) := by decide +kernel
theorem dX7_multiply_140 : decode cX7_multiply 140 = .ok (.bipush 8, 2) := by decide +kernel
theorem dX7_multiply_142 : decode cX7_multiply 142 = .ok (.iload_n 3, 1) := by decide +kernel
theorem dX7_multiply_143 : decode cX7_multiply 143 = .ok (.imul, 1) := by decide +kernel
theorem dX7_multiply_144 : decode cX7_multiply 144 = .ok (.iload 5, 2) := by decide +kernel
theorem dX7_multiply_146 : decode cX7_multiply 146 = .ok (.iadd, 1) := by decide +kernel
theorem dX7_multiply_147 : decode cX7_multiply 147 = .ok (.laload, 1) := by decide +kernel
theorem dX7_multiply_148 : decode cX7_multiply 148 = .ok (.lmul, 1) := by decide +kernel
theorem dX7_multiply_149 : decode cX7_multiply 149 = .ok (.ladd, 1) := by decide +kernel
theorem dX7_multiply_150 : decode cX7_multiply 150 = .ok (.lastore, 1) := by decide +kernel
theorem dX7_multiply_151 : decode cX7_multiply 151 = .ok (.iinc 5 1, 3) := by decide +kernel
theorem dX7_multiply_154 : decode cX7_multiply 154 = .ok (.goto (-65), 3) := by decide +kernel
theorem dX7_multiply_157 : decode cX7_multiply 157 = .ok (.iinc 4 1, 3) := by decide +kernel
theorem dX7_multiply_160 : decode cX7_multiply 160 = .ok (.goto (-81), 3) := by decide +kernel
theorem dX7_multiply_163 : decode cX7_multiply 163 = .ok (.aload_n 0, 1) := by decide +kernel
theorem dX7_multiply_164 : decode cX7_multiply 164 = .ok (.iload_n 1, 1) := by decide +kernel
theorem dX7_multiply_165 : decode cX7_multiply 165 = .ok (.invokevirtual 73, 3) := by decide +kernel
theorem dX7_multiply_168 : decode cX7_multiply 168 = .ok (.ireturn, 1) := by decide +kernel
set_option maxRecDepth 20000 in
theorem ggX7_derive_X7_isSlot : GoodIn wsX7_derive wsX7_isSlot := goodIn_r _ [5] (by decide +kernel) (by decide +kernel)
set_option maxRecDepth 20000 in
theorem gX7_derive_X7_isSlot : GoodIn wsX7_derive (va_wsS RX7 63 yX7_isSlot wsX7_isSlot) := goodIn_app (goodIn_of _ (by decide +kernel)) ggX7_derive_X7_isSlot
set_option maxRecDepth 20000 in
theorem ggX7_derive_X7_refused : GoodIn wsX7_derive wsX7_refused := goodIn_r _ [9, 10, 29, 30, 31, 32, 33, 34, 35, 36, 37, 38, 39, 40, 41, 42, 43, 44, 45, 46, 47, 48, 49, 50, 51, 52, 53] (by decide +kernel) (by decide +kernel)
set_option maxRecDepth 20000 in
theorem gX7_derive_X7_refused : GoodIn wsX7_derive (wsV RX7 70 RX7 yX7_refused wsX7_refused) := goodIn_app (goodIn_of _ (by decide +kernel)) ggX7_derive_X7_refused
set_option maxRecDepth 20000 in
theorem ggX7_derive_X7_clear : GoodIn wsX7_derive wsX7_clear := goodIn_r _ [14, 1, 29, 30, 31, 32, 33, 34, 35, 36, 37, 38, 39, 40, 41, 42, 43, 44, 45, 46, 47, 48, 49, 50, 51, 52, 53] (by decide +kernel) (by decide +kernel)
set_option maxRecDepth 20000 in
theorem gX7_derive_X7_clear : GoodIn wsX7_derive (wsV RX7 55 RX7 yX7_clear wsX7_clear) := goodIn_app (goodIn_of _ (by decide +kernel)) ggX7_derive_X7_clear
set_option maxRecDepth 20000 in
theorem ggX7_derive_X7_finish : GoodIn wsX7_derive wsX7_finish := goodIn_r _ [18, 1, 19, 20, 21, 22, 23, 4, 24, 25, 26, 27, 28, 29, 30, 31, 32, 33, 34, 35, 36, 37, 38, 39, 40, 41, 42, 43, 44, 45, 46, 47, 48, 49, 50, 51, 52, 53] (by decide +kernel) (by decide +kernel)
set_option maxRecDepth 20000 in
theorem gX7_derive_X7_finish : GoodIn wsX7_derive (wsV RX7 73 RX7 yX7_finish wsX7_finish) := goodIn_app (goodIn_of _ (by decide +kernel)) ggX7_derive_X7_finish
theorem dX7_derive_0 : decode cX7_derive 0 = .ok (.aload_n 0, 1) := by decide +kernel
theorem dX7_derive_1 : decode cX7_derive 1 = .ok (.iload_n 1, 1) := by decide +kernel
theorem dX7_derive_2 : decode cX7_derive 2 = .ok (.invokestatic 63, 3) := by decide +kernel
theorem dX7_derive_5 : decode cX7_derive 5 = .ok (.ifCond .eq 14, 3) := by decide +kernel
theorem dX7_derive_8 : decode cX7_derive 8 = .ok (.iload_n 2, 1) := by decide +kernel
theorem dX7_derive_9 : decode cX7_derive 9 = .ok (.invokestatic 63, 3) := by decide +kernel
theorem dX7_derive_12 : decode cX7_derive 12 = .ok (.ifCond .eq 7, 3) := by decide +kernel
theorem dX7_derive_15 : decode cX7_derive 15 = .ok (.iconst 0, 1) := by decide +kernel
theorem dX7_derive_16 : decode cX7_derive 16 = .ok (.goto 4, 3) := by decide +kernel
theorem dX7_derive_19 : decode cX7_derive 19 = .ok (.iconst 1, 1) := by decide +kernel
theorem dX7_derive_20 : decode cX7_derive 20 = .ok (.invokevirtual 70, 3) := by decide +kernel
theorem dX7_derive_23 : decode cX7_derive 23 = .ok (.ifCond .eq 5, 3) := by decide +kernel
theorem dX7_derive_26 : decode cX7_derive 26 = .ok (.iconst 0, 1) := by decide +kernel
theorem dX7_derive_27 : decode cX7_derive 27 = .ok (.ireturn, 1) := by decide +kernel
theorem dX7_derive_28 : decode cX7_derive 28 = .ok (.aload_n 0, 1) := by decide +kernel
theorem dX7_derive_29 : decode cX7_derive 29 = .ok (.bipush 8, 2) := by decide +kernel
theorem dX7_derive_31 : decode cX7_derive 31 = .ok (.invokevirtual 55, 3) := by decide +kernel
theorem dX7_derive_34 : decode cX7_derive 34 = .ok (.iconst 1, 1) := by decide +kernel
theorem dX7_derive_35 : decode cX7_derive 35 = .ok (.istore_n 3, 1) := by decide +kernel
theorem dX7_derive_36 : decode cX7_derive 36 = .ok (.iload_n 3, 1) := by decide +kernel
theorem dX7_derive_37 : decode cX7_derive 37 = .ok (.bipush 7, 2) := by decide +kernel
theorem dX7_derive_39 : decode cX7_derive 39 = .ok (.if_icmp .ge 34, 3) := by decide +kernel
theorem dX7_derive_42 : decode cX7_derive 42 = .ok (.aload_n 0, 1) := by decide +kernel
theorem dX7_derive_43 : decode cX7_derive 43 = .ok (.getfield 7, 3) := by decide +kernel
theorem dX7_derive_46 : decode cX7_derive 46 = .ok (.bipush 64, 2) := by decide +kernel
theorem dX7_derive_48 : decode cX7_derive 48 = .ok (.iload_n 3, 1) := by decide +kernel
theorem dX7_derive_49 : decode cX7_derive 49 = .ok (.iadd, 1) := by decide +kernel
theorem dX7_derive_50 : decode cX7_derive 50 = .ok (.iconst 1, 1) := by decide +kernel
theorem dX7_derive_51 : decode cX7_derive 51 = .ok (.isub, 1) := by decide +kernel
theorem dX7_derive_52 : decode cX7_derive 52 = .ok (.iload_n 3, 1) := by decide +kernel
theorem dX7_derive_53 : decode cX7_derive 53 = .ok (.i2l, 1) := by decide +kernel
theorem dX7_derive_54 : decode cX7_derive 54 = .ok (.aload_n 0, 1) := by decide +kernel
theorem dX7_derive_55 : decode cX7_derive 55 = .ok (.getfield 7, 3) := by decide +kernel
theorem dX7_derive_58 : decode cX7_derive 58 = .ok (.bipush 8, 2) := by decide +kernel
theorem dX7_derive_60 : decode cX7_derive 60 = .ok (.iload_n 2, 1) := by decide +kernel
theorem dX7_derive_61 : decode cX7_derive 61 = .ok (.imul, 1) := by decide +kernel
theorem dX7_derive_62 : decode cX7_derive 62 = .ok (.iload_n 3, 1) := by decide +kernel
theorem dX7_derive_63 : decode cX7_derive 63 = .ok (.iadd, 1) := by decide +kernel
theorem dX7_derive_64 : decode cX7_derive 64 = .ok (.laload, 1) := by decide +kernel
theorem dX7_derive_65 : decode cX7_derive 65 = .ok (.lmul, 1) := by decide +kernel
theorem dX7_derive_66 : decode cX7_derive 66 = .ok (.lastore, 1) := by decide +kernel
theorem dX7_derive_67 : decode cX7_derive 67 = .ok (.iinc 3 1, 3) := by decide +kernel
theorem dX7_derive_70 : decode cX7_derive 70 = .ok (.goto (-34), 3) := by decide +kernel
theorem dX7_derive_73 : decode cX7_derive 73 = .ok (.aload_n 0, 1) := by decide +kernel
theorem dX7_derive_74 : decode cX7_derive 74 = .ok (.iload_n 1, 1) := by decide +kernel
theorem dX7_derive_75 : decode cX7_derive 75 = .ok (.invokevirtual 73, 3) := by decide +kernel
theorem dX7_derive_78 : decode cX7_derive 78 = .ok (.ireturn, 1) := by decide +kernel
set_option maxRecDepth 20000 in
theorem ggX7_divide_X7_isSlot : GoodIn wsX7_divide wsX7_isSlot := goodIn_r _ [4] (by decide +kernel) (by decide +kernel)
set_option maxRecDepth 20000 in
theorem gX7_divide_X7_isSlot : GoodIn wsX7_divide (va_wsS RX7 63 yX7_isSlot wsX7_isSlot) := goodIn_app (goodIn_of _ (by decide +kernel)) ggX7_divide_X7_isSlot
set_option maxRecDepth 20000 in
theorem ggX7_divide_X7_refused : GoodIn wsX7_divide wsX7_refused := goodIn_r _ [8, 9, 37, 38, 39, 40, 41, 42, 43, 44, 45, 46, 47, 48, 49, 50, 51, 52, 53, 54, 55, 56, 57, 58, 59, 60, 61] (by decide +kernel) (by decide +kernel)
set_option maxRecDepth 20000 in
theorem gX7_divide_X7_refused : GoodIn wsX7_divide (wsV RX7 70 RX7 yX7_refused wsX7_refused) := goodIn_app (goodIn_of _ (by decide +kernel)) ggX7_divide_X7_refused
set_option maxRecDepth 20000 in
theorem ggX7_divide_X7_isZero : GoodIn wsX7_divide wsX7_isZero := goodIn_r _ [13, 14, 15, 16, 3, 17, 18, 37, 38, 39, 40, 41, 42, 43, 44, 45, 46, 47, 48, 49, 50, 51, 52, 53, 54, 55, 56, 57, 58, 59, 60, 61] (by decide +kernel) (by decide +kernel)
set_option maxRecDepth 20000 in
theorem gX7_divide_X7_isZero : GoodIn wsX7_divide (wsV RX7 59 RX7 yX7_isZero wsX7_isZero) := goodIn_app (goodIn_of _ (by decide +kernel)) ggX7_divide_X7_isZero
set_option maxRecDepth 20000 in
theorem ggX7_divide_X7_copy : GoodIn wsX7_divide wsX7_copy := goodIn_r _ [26, 18, 37, 38, 39, 40, 41, 42, 43, 44, 45, 46, 47, 48, 49, 50, 51, 52, 53, 54, 55, 56, 57, 58, 59, 60, 61] (by decide +kernel) (by decide +kernel)
set_option maxRecDepth 20000 in
theorem gX7_divide_X7_copy : GoodIn wsX7_divide (wsV RX7 47 RX7 yX7_copy wsX7_copy) := goodIn_app (goodIn_of _ (by decide +kernel)) ggX7_divide_X7_copy
set_option maxRecDepth 20000 in
theorem ggX7_divide_X7_finish : GoodIn wsX7_divide wsX7_finish := goodIn_r _ [34, 18, 35, 36, 23, 24, 25, 3, 26, 14, 15, 16, 17, 37, 38, 39, 40, 41, 42, 43, 44, 45, 46, 47, 48, 49, 50, 51, 52, 53, 54, 55, 56, 57, 58, 59, 60, 61] (by decide +kernel) (by decide +kernel)
set_option maxRecDepth 20000 in
theorem gX7_divide_X7_finish : GoodIn wsX7_divide (wsV RX7 73 RX7 yX7_finish wsX7_finish) := goodIn_app (goodIn_of _ (by decide +kernel)) ggX7_divide_X7_finish
theorem dX7_divide_0 : decode cX7_divide 0 = .ok (.aload_n 0, 1) := by decide +kernel
theorem dX7_divide_1 : decode cX7_divide 1 = .ok (.iload_n 1, 1) := by decide +kernel
theorem dX7_divide_2 : decode cX7_divide 2 = .ok (.invokestatic 63, 3) := by decide +kernel
theorem dX7_divide_5 : decode cX7_divide 5 = .ok (.ifCond .eq 21, 3) := by decide +kernel
theorem dX7_divide_8 : decode cX7_divide 8 = .ok (.iload_n 2, 1) := by decide +kernel
theorem dX7_divide_9 : decode cX7_divide 9 = .ok (.invokestatic 63, 3) := by decide +kernel
theorem dX7_divide_12 : decode cX7_divide 12 = .ok (.ifCond .eq 14, 3) := by decide +kernel
theorem dX7_divide_15 : decode cX7_divide 15 = .ok (.iload_n 3, 1) := by decide +kernel
theorem dX7_divide_16 : decode cX7_divide 16 = .ok (.invokestatic 63, 3) := by decide +kernel
theorem dX7_divide_19 : decode cX7_divide 19 = .ok (.ifCond .eq 7, 3) := by decide +kernel
theorem dX7_divide_22 : decode cX7_divide 22 = .ok (.iconst 0, 1) := by decide +kernel
theorem dX7_divide_23 : decode cX7_divide 23 = .ok (.goto 4, 3) := by decide +kernel
theorem dX7_divide_26 : decode cX7_divide 26 = .ok (.iconst 1, 1) := by decide +kernel
theorem dX7_divide_27 : decode cX7_divide 27 = .ok (.invokevirtual 70, 3) := by decide +kernel
theorem dX7_divide_30 : decode cX7_divide 30 = .ok (.ifCond .eq 5, 3) := by decide +kernel
theorem dX7_divide_33 : decode cX7_divide 33 = .ok (.iconst 0, 1) := by decide +kernel
theorem dX7_divide_34 : decode cX7_divide 34 = .ok (.ireturn, 1) := by decide +kernel
theorem dX7_divide_35 : decode cX7_divide 35 = .ok (.aload_n 0, 1) := by decide +kernel
theorem dX7_divide_36 : decode cX7_divide 36 = .ok (.iload_n 3, 1) := by decide +kernel
theorem dX7_divide_37 : decode cX7_divide 37 = .ok (.invokevirtual 59, 3) := by decide +kernel
theorem dX7_divide_40 : decode cX7_divide 40 = .ok (.ifCond .eq 6, 3) := by decide +kernel
theorem dX7_divide_43 : decode cX7_divide 43 = .ok (.bipush (-3), 2) := by decide +kernel
theorem dX7_divide_45 : decode cX7_divide 45 = .ok (.ireturn, 1) := by decide +kernel
theorem dX7_divide_46 : decode cX7_divide 46 = .ok (.aload_n 0, 1) := by decide +kernel
theorem dX7_divide_47 : decode cX7_divide 47 = .ok (.iload_n 3, 1) := by decide +kernel
theorem dX7_divide_48 : decode cX7_divide 48 = .ok (.iload_n 2, 1) := by decide +kernel
theorem dX7_divide_49 : decode cX7_divide 49 = .ok (.invokevirtual 76, 3) := by decide +kernel
theorem dX7_divide_52 : decode cX7_divide 52 = .ok (.ifCond .ne 5, 3) := by decide +kernel
theorem dX7_divide_55 : decode cX7_divide 55 = .ok (.iconst (-1), 1) := by decide +kernel
theorem dX7_divide_56 : decode cX7_divide 56 = .ok (.ireturn, 1) := by decide +kernel
theorem dX7_divide_57 : decode cX7_divide 57 = .ok (.aload_n 0, 1) := by decide +kernel
theorem dX7_divide_58 : decode cX7_divide 58 = .ok (.bipush 8, 2) := by decide +kernel
theorem dX7_divide_60 : decode cX7_divide 60 = .ok (.bipush 11, 2) := by decide +kernel
theorem dX7_divide_62 : decode cX7_divide 62 = .ok (.invokevirtual 47, 3) := by decide +kernel
theorem dX7_divide_65 : decode cX7_divide 65 = .ok (.aload_n 0, 1) := by decide +kernel
theorem dX7_divide_66 : decode cX7_divide 66 = .ok (.iload_n 1, 1) := by decide +kernel
theorem dX7_divide_67 : decode cX7_divide 67 = .ok (.invokevirtual 73, 3) := by decide +kernel
theorem dX7_divide_70 : decode cX7_divide 70 = .ok (.ireturn, 1) := by decide +kernel
set_option maxRecDepth 20000 in
theorem ggX7_common_X7_isSlot : GoodIn wsX7_common wsX7_isSlot := goodIn_r _ [10] (by decide +kernel) (by decide +kernel)
set_option maxRecDepth 20000 in
theorem gX7_common_X7_isSlot : GoodIn wsX7_common (va_wsS RX7 63 yX7_isSlot wsX7_isSlot) := goodIn_app (goodIn_of _ (by decide +kernel)) ggX7_common_X7_isSlot
set_option maxRecDepth 20000 in
theorem ggX7_common_X7_refused : GoodIn wsX7_common wsX7_refused := goodIn_r _ [14, 15, 121, 122, 123, 124, 125, 126, 127, 128, 129, 130, 131, 132, 133, 134, 135, 136, 137, 138, 139, 140, 141, 142, 143, 144, 145] (by decide +kernel) (by decide +kernel)
set_option maxRecDepth 20000 in
theorem gX7_common_X7_refused : GoodIn wsX7_common (wsV RX7 70 RX7 yX7_refused wsX7_refused) := goodIn_app (goodIn_of _ (by decide +kernel)) ggX7_common_X7_refused
set_option maxRecDepth 20000 in
theorem ggX7_common_X7_isZero : GoodIn wsX7_common wsX7_isZero := goodIn_r _ [19, 20, 21, 22, 9, 23, 6, 121, 122, 123, 124, 125, 126, 127, 128, 129, 130, 131, 132, 133, 134, 135, 136, 137, 138, 139, 140, 141, 142, 143, 144, 145] (by decide +kernel) (by decide +kernel)
set_option maxRecDepth 20000 in
theorem gX7_common_X7_isZero : GoodIn wsX7_common (wsV RX7 59 RX7 yX7_isZero wsX7_isZero) := goodIn_app (goodIn_of _ (by decide +kernel)) ggX7_common_X7_isZero
set_option maxRecDepth 20000 in
theorem ggX7_common_X7_copy : GoodIn wsX7_common wsX7_copy := goodIn_r _ [27, 6, 121, 122, 123, 124, 125, 126, 127, 128, 129, 130, 131, 132, 133, 134, 135, 136, 137, 138, 139, 140, 141, 142, 143, 144, 145] (by decide +kernel) (by decide +kernel)
set_option maxRecDepth 20000 in
theorem gX7_common_X7_copy : GoodIn wsX7_common (wsV RX7 47 RX7 yX7_copy wsX7_copy) := goodIn_app (goodIn_of _ (by decide +kernel)) ggX7_common_X7_copy
set_option maxRecDepth 20000 in
theorem ggX7_common_X7_takeContent : GoodIn wsX7_common wsX7_takeContent := goodIn_r _ [31, 6, 32, 33, 9, 34, 20, 21, 22, 23, 121, 122, 123, 124, 125, 126, 127, 128, 129, 130, 131, 132, 133, 134, 135, 136, 137, 138, 139, 140, 141, 142, 143, 144, 145] (by decide +kernel) (by decide +kernel)
set_option maxRecDepth 20000 in
theorem gX7_common_X7_takeContent : GoodIn wsX7_common (wsV RX7 130 RX7 yX7_takeContent wsX7_takeContent) := goodIn_app (goodIn_of _ (by decide +kernel)) ggX7_common_X7_takeContent
set_option maxRecDepth 20000 in
theorem ggX7_common_X7_finish : GoodIn wsX7_common wsX7_finish := goodIn_r _ [38, 6, 39, 40, 24, 25, 26, 9, 27, 20, 21, 22, 23, 121, 122, 123, 124, 125, 126, 127, 128, 129, 130, 131, 132, 133, 134, 135, 136, 137, 138, 139, 140, 141, 142, 143, 144, 145] (by decide +kernel) (by decide +kernel)
set_option maxRecDepth 20000 in
theorem gX7_common_X7_finish : GoodIn wsX7_common (wsV RX7 73 RX7 yX7_finish wsX7_finish) := goodIn_app (goodIn_of _ (by decide +kernel)) ggX7_common_X7_finish
set_option maxRecDepth 20000 in
theorem ggX7_common_X7_clear : GoodIn wsX7_common wsX7_clear := goodIn_r _ [55, 6, 121, 122, 123, 124, 125, 126, 127, 128, 129, 130, 131, 132, 133, 134, 135, 136, 137, 138, 139, 140, 141, 142, 143, 144, 145] (by decide +kernel) (by decide +kernel)
set_option maxRecDepth 20000 in
theorem gX7_common_X7_clear : GoodIn wsX7_common (wsV RX7 55 RX7 yX7_clear wsX7_clear) := goodIn_app (goodIn_of _ (by decide +kernel)) ggX7_common_X7_clear
theorem dX7_common_0 : decode cX7_common 0 = .ok (.aload_n 0, 1) := by decide +kernel
theorem dX7_common_1 : decode cX7_common 1 = .ok (.iload_n 1, 1) := by decide +kernel
theorem dX7_common_2 : decode cX7_common 2 = .ok (.invokestatic 63, 3) := by decide +kernel
theorem dX7_common_5 : decode cX7_common 5 = .ok (.ifCond .eq 21, 3) := by decide +kernel
theorem dX7_common_8 : decode cX7_common 8 = .ok (.iload_n 2, 1) := by decide +kernel
theorem dX7_common_9 : decode cX7_common 9 = .ok (.invokestatic 63, 3) := by decide +kernel
theorem dX7_common_12 : decode cX7_common 12 = .ok (.ifCond .eq 14, 3) := by decide +kernel
theorem dX7_common_15 : decode cX7_common 15 = .ok (.iload_n 3, 1) := by decide +kernel
theorem dX7_common_16 : decode cX7_common 16 = .ok (.invokestatic 63, 3) := by decide +kernel
theorem dX7_common_19 : decode cX7_common 19 = .ok (.ifCond .eq 7, 3) := by decide +kernel
theorem dX7_common_22 : decode cX7_common 22 = .ok (.iconst 0, 1) := by decide +kernel
theorem dX7_common_23 : decode cX7_common 23 = .ok (.goto 4, 3) := by decide +kernel
theorem dX7_common_26 : decode cX7_common 26 = .ok (.iconst 1, 1) := by decide +kernel
theorem dX7_common_27 : decode cX7_common 27 = .ok (.invokevirtual 70, 3) := by decide +kernel
theorem dX7_common_30 : decode cX7_common 30 = .ok (.ifCond .eq 5, 3) := by decide +kernel
theorem dX7_common_33 : decode cX7_common 33 = .ok (.iconst 0, 1) := by decide +kernel
theorem dX7_common_34 : decode cX7_common 34 = .ok (.ireturn, 1) := by decide +kernel
theorem dX7_common_35 : decode cX7_common 35 = .ok (.aload_n 0, 1) := by decide +kernel
