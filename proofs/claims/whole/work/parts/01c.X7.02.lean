theorem dX7_derive_43 : decode cX7_derive 43 = .ok (.getfield 7, 3) := by decide +kernel
theorem dX7_derive_46 : decode cX7_derive 46 = .ok (.bipush 64, 2) := by decide +kernel
theorem dX7_derive_48 : decode cX7_derive 48 = .ok (.iload_n 3, 1) := by decide +kernel
theorem dX7_derive_49 : decode cX7_derive 49 = .ok (.iadd, 1) := by decide +kernel
theorem dX7_derive_50 : decode cX7_derive 50 = .ok (.iconst 1, 1) := by decide +kernel
theorem dX7_derive_51 : decode cX7_derive 51 = .ok (.isub, 1) := by decide +kernel
theorem dX7_derive_52 : decode cX7_derive 52 = .ok (.iload_n 3, 1) := by decide +kernel
theorem dX7_derive_53 : decode cX7_derive 53 = .ok (.i2l, 1) := by decide +kernel
theorem dX7_derive_54 : decode cX7_derive 54 = .ok (.aload_n 0, 1) := by decide +kernel
theorem dX7_derive_55 : decode cX7_derive 55 = .ok (.getfield 7, 3) := by decide +kernel
theorem dX7_derive_58 : decode cX7_derive 58 = .ok (.bipush 8, 2) := by decide +kernel
theorem dX7_derive_60 : decode cX7_derive 60 = .ok (.iload_n 2, 1) := by decide +kernel
theorem dX7_derive_61 : decode cX7_derive 61 = .ok (.imul, 1) := by decide +kernel
theorem dX7_derive_62 : decode cX7_derive 62 = .ok (.iload_n 3, 1) := by decide +kernel
theorem dX7_derive_63 : decode cX7_derive 63 = .ok (.iadd, 1) := by decide +kernel
theorem dX7_derive_64 : decode cX7_derive 64 = .ok (.laload, 1) := by decide +kernel
theorem dX7_derive_65 : decode cX7_derive 65 = .ok (.lmul, 1) := by decide +kernel
theorem dX7_derive_66 : decode cX7_derive 66 = .ok (.lastore, 1) := by decide +kernel
theorem dX7_derive_67 : decode cX7_derive 67 = .ok (.iinc 3 1, 3) := by decide +kernel
theorem dX7_derive_70 : decode cX7_derive 70 = .ok (.goto (-34), 3) := by decide +kernel
theorem dX7_derive_73 : decode cX7_derive 73 = .ok (.aload_n 0, 1) := by decide +kernel
theorem dX7_derive_74 : decode cX7_derive 74 = .ok (.iload_n 1, 1) := by decide +kernel
theorem dX7_derive_75 : decode cX7_derive 75 = .ok (.invokevirtual 73, 3) := by decide +kernel
theorem dX7_derive_78 : decode cX7_derive 78 = .ok (.ireturn, 1) := by decide +kernel
set_option maxRecDepth 20000 in
theorem ggX7_divide_X7_isSlot : GoodIn wsX7_divide wsX7_isSlot := goodIn_r _ [4] (by decide +kernel) (by decide +kernel)
set_option maxRecDepth 20000 in
theorem gX7_divide_X7_isSlot : GoodIn wsX7_divide (va_wsS RX7 63 yX7_isSlot wsX7_isSlot) := goodIn_app (goodIn_of _ (by decide +kernel)) ggX7_divide_X7_isSlot
set_option maxRecDepth 20000 in
theorem ggX7_divide_X7_refused : GoodIn wsX7_divide wsX7_refused := goodIn_r _ [8, 9, 37, 38, 39, 40, 41, 42, 43, 44, 45, 46, 47, 48, 49, 50, 51, 52, 53, 54, 55, 56, 57, 58, 59, 60, 61] (by decide +kernel) (by decide +kernel)
set_option maxRecDepth 20000 in
theorem gX7_divide_X7_refused : GoodIn wsX7_divide (wsV RX7 70 RX7 yX7_refused wsX7_refused) := goodIn_app (goodIn_of _ (by decide +kernel)) ggX7_divide_X7_refused
set_option maxRecDepth 20000 in
theorem ggX7_divide_X7_isZero : GoodIn wsX7_divide wsX7_isZero := goodIn_r _ [13, 14, 15, 16, 3, 17, 18, 37, 38, 39, 40, 41, 42, 43, 44, 45, 46, 47, 48, 49, 50, 51, 52, 53, 54, 55, 56, 57, 58, 59, 60, 61] (by decide +kernel) (by decide +kernel)
set_option maxRecDepth 20000 in
theorem gX7_divide_X7_isZero : GoodIn wsX7_divide (wsV RX7 59 RX7 yX7_isZero wsX7_isZero) := goodIn_app (goodIn_of _ (by decide +kernel)) ggX7_divide_X7_isZero
set_option maxRecDepth 20000 in
theorem ggX7_divide_X7_divides : GoodIn wsX7_divide wsX7_divides := goodIn_r _ [22, 18, 23, 24, 25, 3, 26, 27, 28, 29, 30, 14, 15, 16, 17, 10, 11, 12, 13, 37, 38, 39, 40, 41, 42, 43, 44, 45, 46, 47, 48, 49, 50, 51, 52, 53, 54, 55, 56, 57, 58, 59, 60, 61] (by decide +kernel) (by decide +kernel)
set_option maxRecDepth 20000 in
theorem gX7_divide_X7_divides : GoodIn wsX7_divide (wsV RX7 76 RX7 yX7_divides wsX7_divides) := goodIn_app (goodIn_of _ (by decide +kernel)) ggX7_divide_X7_divides
set_option maxRecDepth 20000 in
theorem ggX7_divide_X7_copy : GoodIn wsX7_divide wsX7_copy := goodIn_r _ [26, 18, 37, 38, 39, 40, 41, 42, 43, 44, 45, 46, 47, 48, 49, 50, 51, 52, 53, 54, 55, 56, 57, 58, 59, 60, 61] (by decide +kernel) (by decide +kernel)
set_option maxRecDepth 20000 in
theorem gX7_divide_X7_copy : GoodIn wsX7_divide (wsV RX7 47 RX7 yX7_copy wsX7_copy) := goodIn_app (goodIn_of _ (by decide +kernel)) ggX7_divide_X7_copy
set_option maxRecDepth 20000 in
theorem ggX7_divide_X7_finish : GoodIn wsX7_divide wsX7_finish := goodIn_r _ [34, 18, 35, 36, 23, 24, 25, 3, 26, 14, 15, 16, 17, 37, 38, 39, 40, 41, 42, 43, 44, 45, 46, 47, 48, 49, 50, 51, 52, 53, 54, 55, 56, 57, 58, 59, 60, 61] (by decide +kernel) (by decide +kernel)
set_option maxRecDepth 20000 in
theorem gX7_divide_X7_finish : GoodIn wsX7_divide (wsV RX7 73 RX7 yX7_finish wsX7_finish) := goodIn_app (goodIn_of _ (by decide +kernel)) ggX7_divide_X7_finish
theorem dX7_divide_0 : decode cX7_divide 0 = .ok (.aload_n 0, 1) := by decide +kernel
theorem dX7_divide_1 : decode cX7_divide 1 = .ok (.iload_n 1, 1) := by decide +kernel
theorem dX7_divide_2 : decode cX7_divide 2 = .ok (.invokestatic 63, 3) := by decide +kernel
theorem dX7_divide_5 : decode cX7_divide 5 = .ok (.ifCond .eq 21, 3) := by decide +kernel
theorem dX7_divide_8 : decode cX7_divide 8 = .ok (.iload_n 2, 1) := by decide +kernel
theorem dX7_divide_9 : decode cX7_divide 9 = .ok (.invokestatic 63, 3) := by decide +kernel
theorem dX7_divide_12 : decode cX7_divide 12 = .ok (.ifCond .eq 14, 3) := by decide +kernel
theorem dX7_divide_15 : decode cX7_divide 15 = .ok (.iload_n 3, 1) := by decide +kernel
theorem dX7_divide_16 : decode cX7_divide 16 = .ok (.invokestatic 63, 3) := by decide +kernel
theorem dX7_divide_19 : decode cX7_divide 19 = .ok (.ifCond .eq 7, 3) := by decide +kernel
theorem dX7_divide_22 : decode cX7_divide 22 = .ok (.iconst 0, 1) := by decide +kernel
theorem dX7_divide_23 : decode cX7_divide 23 = .ok (.goto 4, 3) := by decide +kernel
theorem dX7_divide_26 : decode cX7_divide 26 = .ok (.iconst 1, 1) := by decide +kernel
theorem dX7_divide_27 : decode cX7_divide 27 = .ok (.invokevirtual 70, 3) := by decide +kernel
theorem dX7_divide_30 : decode cX7_divide 30 = .ok (.ifCond .eq 5, 3) := by decide +kernel
theorem dX7_divide_33 : decode cX7_divide 33 = .ok (.iconst 0, 1) := by decide +kernel
theorem dX7_divide_34 : decode cX7_divide 34 = .ok (.ireturn, 1) := by decide +kernel
theorem dX7_divide_35 : decode cX7_divide 35 = .ok (.aload_n 0, 1) := by decide +kernel
theorem dX7_divide_36 : decode cX7_divide 36 = .ok (.iload_n 3, 1) := by decide +kernel
theorem dX7_divide_37 : decode cX7_divide 37 = .ok (.invokevirtual 59, 3) := by decide +kernel
theorem dX7_divide_40 : decode cX7_divide 40 = .ok (.ifCond .eq 6, 3) := by decide +kernel
theorem dX7_divide_43 : decode cX7_divide 43 = .ok (.bipush (-3), 2) := by decide +kernel
theorem dX7_divide_45 : decode cX7_divide 45 = .ok (.ireturn, 1) := by decide +kernel
theorem dX7_divide_46 : decode cX7_divide 46 = .ok (.aload_n 0, 1) := by decide +kernel
theorem dX7_divide_47 : decode cX7_divide 47 = .ok (.iload_n 3, 1) := by decide +kernel
theorem dX7_divide_48 : decode cX7_divide 48 = .ok (.iload_n 2, 1) := by decide +kernel
theorem dX7_divide_49 : decode cX7_divide 49 = .ok (.invokevirtual 76, 3) := by decide +kernel
theorem dX7_divide_52 : decode cX7_divide 52 = .ok (.ifCond .ne 5, 3) := by decide +kernel
theorem dX7_divide_55 : decode cX7_divide 55 = .ok (.iconst (-1), 1) := by decide +kernel
theorem dX7_divide_56 : decode cX7_divide 56 = .ok (.ireturn, 1) := by decide +kernel
theorem dX7_divide_57 : decode cX7_divide 57 = .ok (.aload_n 0, 1) := by decide +kernel
theorem dX7_divide_58 : decode cX7_divide 58 = .ok (.bipush 8, 2) := by decide +kernel
theorem dX7_divide_60 : decode cX7_divide 60 = .ok (.bipush 11, 2) := by decide +kernel
theorem dX7_divide_62 : decode cX7_divide 62 = .ok (.invokevirtual 47, 3) := by decide +kernel
theorem dX7_divide_65 : decode cX7_divide 65 = .ok (.aload_n 0, 1) := by decide +kernel
theorem dX7_divide_66 : decode cX7_divide 66 = .ok (.iload_n 1, 1) := by decide +kernel
theorem dX7_divide_67 : decode cX7_divide 67 = .ok (.invokevirtual 73, 3) := by decide +kernel
theorem dX7_divide_70 : decode cX7_divide 70 = .ok (.ireturn, 1) := by decide +kernel
theorem dX7_valueAt_0 : decode cX7_valueAt 0 = .ok (.lconst 0, 1) := by decide +kernel
theorem dX7_valueAt_1 : decode cX7_valueAt 1 = .ok (.lstore_n 3, 1) := by decide +kernel
theorem dX7_valueAt_2 : decode cX7_valueAt 2 = .ok (.bipush 7, 2) := by decide +kernel
theorem dX7_valueAt_4 : decode cX7_valueAt 4 = .ok (.istore 5, 2) := by decide +kernel
theorem dX7_valueAt_6 : decode cX7_valueAt 6 = .ok (.iload 5, 2) := by decide +kernel
theorem dX7_valueAt_8 : decode cX7_valueAt 8 = .ok (.ifCond .lt 27, 3) := by decide +kernel
theorem dX7_valueAt_11 : decode cX7_valueAt 11 = .ok (.lload_n 3, 1) := by decide +kernel
theorem dX7_valueAt_12 : decode cX7_valueAt 12 = .ok (.iload_n 2, 1) := by decide +kernel
theorem dX7_valueAt_13 : decode cX7_valueAt 13 = .ok (.i2l, 1) := by decide +kernel
theorem dX7_valueAt_14 : decode cX7_valueAt 14 = .ok (.lmul, 1) := by decide +kernel
theorem dX7_valueAt_15 : decode cX7_valueAt 15 = .ok (.aload_n 0, 1) := by decide +kernel
theorem dX7_valueAt_16 : decode cX7_valueAt 16 = .ok (.getfield 7, 3) := by decide +kernel
theorem dX7_valueAt_19 : decode cX7_valueAt 19 = .ok (.bipush 8, 2) := by decide +kernel
theorem dX7_valueAt_21 : decode cX7_valueAt 21 = .ok (.iload_n 1, 1) := by decide +kernel
theorem dX7_valueAt_22 : decode cX7_valueAt 22 = .ok (.imul, 1) := by decide +kernel
theorem dX7_valueAt_23 : decode cX7_valueAt 23 = .ok (.iload 5, 2) := by decide +kernel
theorem dX7_valueAt_25 : decode cX7_valueAt 25 = .ok (.iadd, 1) := by decide +kernel
theorem dX7_valueAt_26 : decode cX7_valueAt 26 = .ok (.laload, 1) := by decide +kernel
theorem dX7_valueAt_27 : decode cX7_valueAt 27 = .ok (.ladd, 1) := by decide +kernel
theorem dX7_valueAt_28 : decode cX7_valueAt 28 = .ok (.lstore_n 3, 1) := by decide +kernel
theorem dX7_valueAt_29 : decode cX7_valueAt 29 = .ok (.iinc 5 (-1), 3) := by decide +kernel
theorem dX7_valueAt_32 : decode cX7_valueAt 32 = .ok (.goto (-26), 3) := by decide +kernel
theorem dX7_valueAt_35 : decode cX7_valueAt 35 = .ok (.lload_n 3, 1) := by decide +kernel
theorem dX7_valueAt_36 : decode cX7_valueAt 36 = .ok (.lreturn, 1) := by decide +kernel
theorem dX7_list_0 : decode cX7_list 0 = .ok (.lload_n 1, 1) := by decide +kernel
theorem dX7_list_1 : decode cX7_list 1 = .ok (.lconst 0, 1) := by decide +kernel
theorem dX7_list_2 : decode cX7_list 2 = .ok (.lcmp, 1) := by decide +kernel
theorem dX7_list_3 : decode cX7_list 3 = .ok (.ifCond .ge 8, 3) := by decide +kernel
theorem dX7_list_6 : decode cX7_list 6 = .ok (.lload_n 1, 1) := by decide +kernel
theorem dX7_list_7 : decode cX7_list 7 = .ok (.lneg, 1) := by decide +kernel
theorem dX7_list_8 : decode cX7_list 8 = .ok (.goto 4, 3) := by decide +kernel
theorem dX7_list_11 : decode cX7_list 11 = .ok (.lload_n 1, 1) := by decide +kernel
theorem dX7_list_12 : decode cX7_list 12 = .ok (.lstore 4, 2) := by decide +kernel
theorem dX7_list_14 : decode cX7_list 14 = .ok (.iconst 0, 1) := by decide +kernel
theorem dX7_list_15 : decode cX7_list 15 = .ok (.istore 6, 2) := by decide +kernel
theorem dX7_list_17 : decode cX7_list 17 = .ok (.lconst 1, 1) := by decide +kernel
theorem dX7_list_18 : decode cX7_list 18 = .ok (.lstore 7, 2) := by decide +kernel
theorem dX7_list_20 : decode cX7_list 20 = .ok (.lload 7, 2) := by decide +kernel
theorem dX7_list_22 : decode cX7_list 22 = .ok (.lload 7, 2) := by decide +kernel
theorem dX7_list_24 : decode cX7_list 24 = .ok (.lmul, 1) := by decide +kernel
theorem dX7_list_25 : decode cX7_list 25 = .ok (.lload 4, 2) := by decide +kernel
theorem dX7_list_27 : decode cX7_list 27 = .ok (.lcmp, 1) := by decide +kernel
theorem dX7_list_28 : decode cX7_list 28 = .ok (.ifCond .gt 66, 3) := by decide +kernel
theorem dX7_list_31 : decode cX7_list 31 = .ok (.lload 4, 2) := by decide +kernel
theorem dX7_list_33 : decode cX7_list 33 = .ok (.lload 7, 2) := by decide +kernel
theorem dX7_list_35 : decode cX7_list 35 = .ok (.lrem, 1) := by decide +kernel
theorem dX7_list_36 : decode cX7_list 36 = .ok (.lconst 0, 1) := by decide +kernel
theorem dX7_list_37 : decode cX7_list 37 = .ok (.lcmp, 1) := by decide +kernel
theorem dX7_list_38 : decode cX7_list 38 = .ok (.ifCond .ne 47, 3) := by decide +kernel
theorem dX7_list_41 : decode cX7_list 41 = .ok (.aload_n 0, 1) := by decide +kernel
theorem dX7_list_42 : decode cX7_list 42 = .ok (.getfield 29, 3) := by decide +kernel
theorem dX7_list_45 : decode cX7_list 45 = .ok (.iload_n 3, 1) := by decide +kernel
theorem dX7_list_46 : decode cX7_list 46 = .ok (.iload 6, 2) := by decide +kernel
theorem dX7_list_48 : decode cX7_list 48 = .ok (.iadd, 1) := by decide +kernel
theorem dX7_list_49 : decode cX7_list 49 = .ok (.lload 7, 2) := by decide +kernel
theorem dX7_list_51 : decode cX7_list 51 = .ok (.l2i, 1) := by decide +kernel
theorem dX7_list_52 : decode cX7_list 52 = .ok (.iastore, 1) := by decide +kernel
theorem dX7_list_53 : decode cX7_list 53 = .ok (.iinc 6 1, 3) := by decide +kernel
theorem dX7_list_56 : decode cX7_list 56 = .ok (.lload 7, 2) := by decide +kernel
theorem dX7_list_58 : decode cX7_list 58 = .ok (.lload 7, 2) := by decide +kernel
theorem dX7_list_60 : decode cX7_list 60 = .ok (.lmul, 1) := by decide +kernel
theorem dX7_list_61 : decode cX7_list 61 = .ok (.lload 4, 2) := by decide +kernel
theorem dX7_list_63 : decode cX7_list 63 = .ok (.lcmp, 1) := by decide +kernel
theorem dX7_list_64 : decode cX7_list 64 = .ok (.ifCond .ge 21, 3) := by decide +kernel
theorem dX7_list_67 : decode cX7_list 67 = .ok (.aload_n 0, 1) := by decide +kernel
theorem dX7_list_68 : decode cX7_list 68 = .ok (.getfield 29, 3) := by decide +kernel
theorem dX7_list_71 : decode cX7_list 71 = .ok (.iload_n 3, 1) := by decide +kernel
theorem dX7_list_72 : decode cX7_list 72 = .ok (.iload 6, 2) := by decide +kernel
theorem dX7_list_74 : decode cX7_list 74 = .ok (.iadd, 1) := by decide +kernel
theorem dX7_list_75 : decode cX7_list 75 = .ok (.lload 4, 2) := by decide +kernel
theorem dX7_list_77 : decode cX7_list 77 = .ok (.lload 7, 2) := by decide +kernel
theorem dX7_list_79 : decode cX7_list 79 = .ok (.ldiv, 1) := by decide +kernel
theorem dX7_list_80 : decode cX7_list 80 = .ok (.l2i, 1) := by decide +kernel
theorem dX7_list_81 : decode cX7_list 81 = .ok (.iastore, 1) := by decide +kernel
theorem dX7_list_82 : decode cX7_list 82 = .ok (.iinc 6 1, 3) := by decide +kernel
theorem dX7_list_85 : decode cX7_list 85 = .ok (.lload 7, 2) := by decide +kernel
theorem dX7_list_87 : decode cX7_list 87 = .ok (.lconst 1, 1) := by decide +kernel
theorem dX7_list_88 : decode cX7_list 88 = .ok (.ladd, 1) := by decide +kernel
theorem dX7_list_89 : decode cX7_list 89 = .ok (.lstore 7, 2) := by decide +kernel
theorem dX7_list_91 : decode cX7_list 91 = .ok (.goto (-71), 3) := by decide +kernel
theorem dX7_list_94 : decode cX7_list 94 = .ok (.iload 6, 2) := by decide +kernel
theorem dX7_list_96 : decode cX7_list 96 = .ok (.ireturn, 1) := by decide +kernel
theorem dX7_signed_0 : decode cX7_signed 0 = .ok (.iload_n 1, 1) := by decide +kernel
theorem dX7_signed_1 : decode cX7_signed 1 = .ok (.iconst 2, 1) := by decide +kernel
theorem dX7_signed_2 : decode cX7_signed 2 = .ok (.irem, 1) := by decide +kernel
theorem dX7_signed_3 : decode cX7_signed 3 = .ok (.ifCond .ne 7, 3) := by decide +kernel
theorem dX7_signed_6 : decode cX7_signed 6 = .ok (.iload_n 0, 1) := by decide +kernel
theorem dX7_signed_7 : decode cX7_signed 7 = .ok (.goto 5, 3) := by decide +kernel
theorem dX7_signed_10 : decode cX7_signed 10 = .ok (.iload_n 0, 1) := by decide +kernel
theorem dX7_signed_11 : decode cX7_signed 11 = .ok (.ineg, 1) := by decide +kernel
theorem dX7_signed_12 : decode cX7_signed 12 = .ok (.ireturn, 1) := by decide +kernel
set_option maxRecDepth 20000 in
theorem ggX7_takeOut_X7_degreeOf : GoodIn wsX7_takeOut wsX7_degreeOf := goodIn_r _ [5, 6, 29, 30, 31, 32, 33, 34, 35, 36, 37, 38, 39, 40, 41, 42, 43, 44, 45, 46, 47, 48, 49, 50, 51, 52, 53] (by decide +kernel) (by decide +kernel)
set_option maxRecDepth 20000 in
theorem gX7_takeOut_X7_degreeOf : GoodIn wsX7_takeOut (wsV RX7 39 RX7 yX7_degreeOf wsX7_degreeOf) := goodIn_app (goodIn_of _ (by decide +kernel)) ggX7_takeOut_X7_degreeOf
set_option maxRecDepth 20000 in
theorem ggX7_takeOut_X7_divides : GoodIn wsX7_takeOut wsX7_divides := goodIn_r _ [10, 6, 11, 12, 13, 4, 14, 15, 16, 17, 18, 1, 2, 3, 5, 19, 20, 21, 22, 29, 30, 31, 32, 33, 34, 35, 36, 37, 38, 39, 40, 41, 42, 43, 44, 45, 46, 47, 48, 49, 50, 51, 52, 53] (by decide +kernel) (by decide +kernel)
set_option maxRecDepth 20000 in
theorem gX7_takeOut_X7_divides : GoodIn wsX7_takeOut (wsV RX7 76 RX7 yX7_divides wsX7_divides) := goodIn_app (goodIn_of _ (by decide +kernel)) ggX7_takeOut_X7_divides
set_option maxRecDepth 20000 in
theorem ggX7_takeOut_X7_copy : GoodIn wsX7_takeOut wsX7_copy := goodIn_r _ [14, 6, 29, 30, 31, 32, 33, 34, 35, 36, 37, 38, 39, 40, 41, 42, 43, 44, 45, 46, 47, 48, 49, 50, 51, 52, 53] (by decide +kernel) (by decide +kernel)
set_option maxRecDepth 20000 in
theorem gX7_takeOut_X7_copy : GoodIn wsX7_takeOut (wsV RX7 47 RX7 yX7_copy wsX7_copy) := goodIn_app (goodIn_of _ (by decide +kernel)) ggX7_takeOut_X7_copy
set_option maxRecDepth 20000 in
theorem ggX7_takeOut_X7_addPart : GoodIn wsX7_takeOut wsX7_addPart := goodIn_r _ [26, 27, 28, 11, 12, 13, 4, 14, 6, 29, 30, 31, 32, 33, 34, 35, 36, 37, 38, 39, 40, 41, 42, 43, 44, 45, 46, 47, 48, 49, 50, 51, 52, 53] (by decide +kernel) (by decide +kernel)
set_option maxRecDepth 20000 in
theorem gX7_takeOut_X7_addPart : GoodIn wsX7_takeOut (wsV RX7 80 RX7 yX7_addPart wsX7_addPart) := goodIn_app (goodIn_of _ (by decide +kernel)) ggX7_takeOut_X7_addPart
theorem dX7_takeOut_0 : decode cX7_takeOut 0 = .ok (.iconst 0, 1) := by decide +kernel
theorem dX7_takeOut_1 : decode cX7_takeOut 1 = .ok (.istore_n 2, 1) := by decide +kernel
theorem dX7_takeOut_2 : decode cX7_takeOut 2 = .ok (.aload_n 0, 1) := by decide +kernel
theorem dX7_takeOut_3 : decode cX7_takeOut 3 = .ok (.iload_n 1, 1) := by decide +kernel
theorem dX7_takeOut_4 : decode cX7_takeOut 4 = .ok (.invokevirtual 39, 3) := by decide +kernel
theorem dX7_takeOut_7 : decode cX7_takeOut 7 = .ok (.aload_n 0, 1) := by decide +kernel
theorem dX7_takeOut_8 : decode cX7_takeOut 8 = .ok (.bipush 10, 2) := by decide +kernel
theorem dX7_takeOut_10 : decode cX7_takeOut 10 = .ok (.invokevirtual 39, 3) := by decide +kernel
theorem dX7_takeOut_13 : decode cX7_takeOut 13 = .ok (.if_icmp .lt 26, 3) := by decide +kernel
theorem dX7_takeOut_16 : decode cX7_takeOut 16 = .ok (.aload_n 0, 1) := by decide +kernel
theorem dX7_takeOut_17 : decode cX7_takeOut 17 = .ok (.bipush 10, 2) := by decide +kernel
theorem dX7_takeOut_19 : decode cX7_takeOut 19 = .ok (.iload_n 1, 1) := by decide +kernel
theorem dX7_takeOut_20 : decode cX7_takeOut 20 = .ok (.invokevirtual 76, 3) := by decide +kernel
theorem dX7_takeOut_23 : decode cX7_takeOut 23 = .ok (.ifCond .eq 16, 3) := by decide +kernel
theorem dX7_takeOut_26 : decode cX7_takeOut 26 = .ok (.aload_n 0, 1) := by decide +kernel
theorem dX7_takeOut_27 : decode cX7_takeOut 27 = .ok (.iload_n 1, 1) := by decide +kernel
theorem dX7_takeOut_28 : decode cX7_takeOut 28 = .ok (.bipush 11, 2) := by decide +kernel
theorem dX7_takeOut_30 : decode cX7_takeOut 30 = .ok (.invokevirtual 47, 3) := by decide +kernel
theorem dX7_takeOut_33 : decode cX7_takeOut 33 = .ok (.iinc 2 1, 3) := by decide +kernel
theorem dX7_takeOut_36 : decode cX7_takeOut 36 = .ok (.goto (-34), 3) := by decide +kernel
theorem dX7_takeOut_39 : decode cX7_takeOut 39 = .ok (.iload_n 2, 1) := by decide +kernel
theorem dX7_takeOut_40 : decode cX7_takeOut 40 = .ok (.ifCond .le 10, 3) := by decide +kernel
theorem dX7_takeOut_43 : decode cX7_takeOut 43 = .ok (.aload_n 0, 1) := by decide +kernel
theorem dX7_takeOut_44 : decode cX7_takeOut 44 = .ok (.bipush 10, 2) := by decide +kernel
theorem dX7_takeOut_46 : decode cX7_takeOut 46 = .ok (.iload_n 2, 1) := by decide +kernel
theorem dX7_takeOut_47 : decode cX7_takeOut 47 = .ok (.invokevirtual 80, 3) := by decide +kernel
theorem dX7_takeOut_50 : decode cX7_takeOut 50 = .ok (.return_, 1) := by decide +kernel
set_option maxRecDepth 20000 in
theorem ggX7_addPart_X7_copy : GoodIn wsX7_addPart wsX7_copy := goodIn_r _ [7, 8, 9, 10, 11, 12, 13, 14, 15, 16, 17, 18, 19, 20, 21, 22, 23, 24, 25, 26, 27, 28, 29, 30, 31, 32, 33] (by decide +kernel) (by decide +kernel)
set_option maxRecDepth 20000 in
theorem gX7_addPart_X7_copy : GoodIn wsX7_addPart (wsV RX7 47 RX7 yX7_copy wsX7_copy) := goodIn_app (goodIn_of _ (by decide +kernel)) ggX7_addPart_X7_copy
theorem dX7_addPart_0 : decode cX7_addPart 0 = .ok (.aload_n 0, 1) := by decide +kernel
theorem dX7_addPart_1 : decode cX7_addPart 1 = .ok (.bipush 12, 2) := by decide +kernel
theorem dX7_addPart_3 : decode cX7_addPart 3 = .ok (.aload_n 0, 1) := by decide +kernel
theorem dX7_addPart_4 : decode cX7_addPart 4 = .ok (.getfield 83, 3) := by decide +kernel
theorem dX7_addPart_7 : decode cX7_addPart 7 = .ok (.iadd, 1) := by decide +kernel
theorem dX7_addPart_8 : decode cX7_addPart 8 = .ok (.iload_n 1, 1) := by decide +kernel
theorem dX7_addPart_9 : decode cX7_addPart 9 = .ok (.invokevirtual 47, 3) := by decide +kernel
theorem dX7_addPart_12 : decode cX7_addPart 12 = .ok (.aload_n 0, 1) := by decide +kernel
theorem dX7_addPart_13 : decode cX7_addPart 13 = .ok (.getfield 13, 3) := by decide +kernel
theorem dX7_addPart_16 : decode cX7_addPart 16 = .ok (.aload_n 0, 1) := by decide +kernel
theorem dX7_addPart_17 : decode cX7_addPart 17 = .ok (.getfield 83, 3) := by decide +kernel
theorem dX7_addPart_20 : decode cX7_addPart 20 = .ok (.iload_n 2, 1) := by decide +kernel
theorem dX7_addPart_21 : decode cX7_addPart 21 = .ok (.iastore, 1) := by decide +kernel
theorem dX7_addPart_22 : decode cX7_addPart 22 = .ok (.aload_n 0, 1) := by decide +kernel
theorem dX7_addPart_23 : decode cX7_addPart 23 = .ok (.dup, 1) := by decide +kernel
theorem dX7_addPart_24 : decode cX7_addPart 24 = .ok (.getfield 83, 3) := by decide +kernel
theorem dX7_addPart_27 : decode cX7_addPart 27 = .ok (.iconst 1, 1) := by decide +kernel
theorem dX7_addPart_28 : decode cX7_addPart 28 = .ok (.iadd, 1) := by decide +kernel
theorem dX7_addPart_29 : decode cX7_addPart 29 = .ok (.putfield 83, 3) := by decide +kernel
theorem dX7_addPart_32 : decode cX7_addPart 32 = .ok (.return_, 1) := by decide +kernel
set_option maxRecDepth 20000 in
theorem ggX7_findFirst_X7_clear : GoodIn wsX7_findFirst wsX7_clear := goodIn_r _ [9, 1, 50, 51, 52, 53, 54, 55, 56, 57, 58, 59, 60, 61, 62, 63, 64, 65, 66, 67, 68, 69, 70, 71, 72, 73, 74] (by decide +kernel) (by decide +kernel)
set_option maxRecDepth 20000 in
theorem gX7_findFirst_X7_clear : GoodIn wsX7_findFirst (wsV RX7 55 RX7 yX7_clear wsX7_clear) := goodIn_app (goodIn_of _ (by decide +kernel)) ggX7_findFirst_X7_clear
set_option maxRecDepth 20000 in
theorem ggX7_findFirst_X7_takeOut : GoodIn wsX7_findFirst wsX7_takeOut := goodIn_r _ [13, 14, 15, 16, 8, 17, 1, 18, 19, 20, 21, 22, 23, 24, 25, 5, 6, 7, 9, 26, 27, 28, 29, 30, 31, 32, 33, 34, 35, 50, 51, 52, 53, 54, 55, 56, 57, 58, 59, 60, 61, 62, 63, 64, 65, 66, 67, 68, 69, 70, 71, 72, 73, 74] (by decide +kernel) (by decide +kernel)
set_option maxRecDepth 20000 in
theorem gX7_findFirst_X7_takeOut : GoodIn wsX7_findFirst (wsV RX7 86 RX7 yX7_takeOut wsX7_takeOut) := goodIn_app (goodIn_of _ (by decide +kernel)) ggX7_findFirst_X7_takeOut
set_option maxRecDepth 20000 in
theorem ggX7_findFirst_X7_degreeOf : GoodIn wsX7_findFirst wsX7_degreeOf := goodIn_r _ [17, 1, 50, 51, 52, 53, 54, 55, 56, 57, 58, 59, 60, 61, 62, 63, 64, 65, 66, 67, 68, 69, 70, 71, 72, 73, 74] (by decide +kernel) (by decide +kernel)
set_option maxRecDepth 20000 in
theorem gX7_findFirst_X7_degreeOf : GoodIn wsX7_findFirst (wsV RX7 39 RX7 yX7_degreeOf wsX7_degreeOf) := goodIn_app (goodIn_of _ (by decide +kernel)) ggX7_findFirst_X7_degreeOf
set_option maxRecDepth 20000 in
theorem ggX7_findFirst_X7_list : GoodIn wsX7_findFirst wsX7_list := goodIn_r _ [39, 4, 50, 51, 52, 53, 54, 55, 56, 57, 58, 59, 60, 61, 62, 63, 64, 65, 66, 67, 68, 69, 70, 71, 72, 73, 74] (by decide +kernel) (by decide +kernel)
set_option maxRecDepth 20000 in
theorem gX7_findFirst_X7_list : GoodIn wsX7_findFirst (wsV RX7 89 RX7 yX7_list wsX7_list) := goodIn_app (goodIn_of _ (by decide +kernel)) ggX7_findFirst_X7_list
set_option maxRecDepth 20000 in
theorem ggX7_findFirst_X7_signed : GoodIn wsX7_findFirst wsX7_signed := goodIn_r _ [42] (by decide +kernel) (by decide +kernel)
set_option maxRecDepth 20000 in
theorem gX7_findFirst_X7_signed : GoodIn wsX7_findFirst (va_wsS RX7 99 yX7_signed wsX7_signed) := goodIn_app (goodIn_of _ (by decide +kernel)) ggX7_findFirst_X7_signed
set_option maxRecDepth 20000 in
theorem ggX7_findFirst_X7_gcd : GoodIn wsX7_findFirst wsX7_gcd := goodIn_r _ [45] (by decide +kernel) (by decide +kernel)
set_option maxRecDepth 20000 in
theorem gX7_findFirst_X7_gcd : GoodIn wsX7_findFirst (va_wsS RX7 51 yX7_gcd wsX7_gcd) := goodIn_app (goodIn_of _ (by decide +kernel)) ggX7_findFirst_X7_gcd
set_option maxRecDepth 20000 in
theorem ggX7_findFirst_X7_isRoot : GoodIn wsX7_findFirst wsX7_isRoot := goodIn_r _ [49, 14, 15, 16, 8, 17, 1, 18, 19, 20, 21, 22, 23, 24, 25, 5, 6, 7, 9, 26, 27, 28, 29, 50, 51, 52, 53, 54, 55, 56, 57, 58, 59, 60, 61, 62, 63, 64, 65, 66, 67, 68, 69, 70, 71, 72, 73, 74] (by decide +kernel) (by decide +kernel)
set_option maxRecDepth 20000 in
theorem gX7_findFirst_X7_isRoot : GoodIn wsX7_findFirst (wsV RX7 103 RX7 yX7_isRoot wsX7_isRoot) := goodIn_app (goodIn_of _ (by decide +kernel)) ggX7_findFirst_X7_isRoot
theorem dX7_findFirst_0 : decode cX7_findFirst 0 = .ok (.aload_n 0, 1) := by decide +kernel
theorem dX7_findFirst_1 : decode cX7_findFirst 1 = .ok (.bipush 10, 2) := by decide +kernel
theorem dX7_findFirst_3 : decode cX7_findFirst 3 = .ok (.invokevirtual 55, 3) := by decide +kernel
theorem dX7_findFirst_6 : decode cX7_findFirst 6 = .ok (.aload_n 0, 1) := by decide +kernel
theorem dX7_findFirst_7 : decode cX7_findFirst 7 = .ok (.getfield 7, 3) := by decide +kernel
theorem dX7_findFirst_10 : decode cX7_findFirst 10 = .ok (.bipush 81, 2) := by decide +kernel
theorem dX7_findFirst_12 : decode cX7_findFirst 12 = .ok (.lconst 1, 1) := by decide +kernel
theorem dX7_findFirst_13 : decode cX7_findFirst 13 = .ok (.lastore, 1) := by decide +kernel
theorem dX7_findFirst_14 : decode cX7_findFirst 14 = .ok (.aload_n 0, 1) := by decide +kernel
theorem dX7_findFirst_15 : decode cX7_findFirst 15 = .ok (.iload_n 1, 1) := by decide +kernel
theorem dX7_findFirst_16 : decode cX7_findFirst 16 = .ok (.invokevirtual 86, 3) := by decide +kernel
theorem dX7_findFirst_19 : decode cX7_findFirst 19 = .ok (.aload_n 0, 1) := by decide +kernel
theorem dX7_findFirst_20 : decode cX7_findFirst 20 = .ok (.iload_n 1, 1) := by decide +kernel
theorem dX7_findFirst_21 : decode cX7_findFirst 21 = .ok (.invokevirtual 39, 3) := by decide +kernel
theorem dX7_findFirst_24 : decode cX7_findFirst 24 = .ok (.istore_n 2, 1) := by decide +kernel
theorem dX7_findFirst_25 : decode cX7_findFirst 25 = .ok (.iload_n 2, 1) := by decide +kernel
theorem dX7_findFirst_26 : decode cX7_findFirst 26 = .ok (.iconst 1, 1) := by decide +kernel
theorem dX7_findFirst_27 : decode cX7_findFirst 27 = .ok (.if_icmp .ge 4, 3) := by decide +kernel
theorem dX7_findFirst_30 : decode cX7_findFirst 30 = .ok (.return_, 1) := by decide +kernel
theorem dX7_findFirst_31 : decode cX7_findFirst 31 = .ok (.aload_n 0, 1) := by decide +kernel
theorem dX7_findFirst_32 : decode cX7_findFirst 32 = .ok (.aload_n 0, 1) := by decide +kernel
theorem dX7_findFirst_33 : decode cX7_findFirst 33 = .ok (.aload_n 0, 1) := by decide +kernel
theorem dX7_findFirst_34 : decode cX7_findFirst 34 = .ok (.getfield 7, 3) := by decide +kernel
theorem dX7_findFirst_37 : decode cX7_findFirst 37 = .ok (.bipush 8, 2) := by decide +kernel
theorem dX7_findFirst_39 : decode cX7_findFirst 39 = .ok (.iload_n 1, 1) := by decide +kernel
theorem dX7_findFirst_40 : decode cX7_findFirst 40 = .ok (.imul, 1) := by decide +kernel
theorem dX7_findFirst_41 : decode cX7_findFirst 41 = .ok (.iload_n 2, 1) := by decide +kernel
theorem dX7_findFirst_42 : decode cX7_findFirst 42 = .ok (.iadd, 1) := by decide +kernel
theorem dX7_findFirst_43 : decode cX7_findFirst 43 = .ok (.laload, 1) := by decide +kernel
theorem dX7_findFirst_44 : decode cX7_findFirst 44 = .ok (.iconst 0, 1) := by decide +kernel
theorem dX7_findFirst_45 : decode cX7_findFirst 45 = .ok (.invokevirtual 89, 3) := by decide +kernel
theorem dX7_findFirst_48 : decode cX7_findFirst 48 = .ok (.putfield 93, 3) := by decide +kernel
theorem dX7_findFirst_51 : decode cX7_findFirst 51 = .ok (.aload_n 0, 1) := by decide +kernel
theorem dX7_findFirst_52 : decode cX7_findFirst 52 = .ok (.aload_n 0, 1) := by decide +kernel
theorem dX7_findFirst_53 : decode cX7_findFirst 53 = .ok (.aload_n 0, 1) := by decide +kernel
theorem dX7_findFirst_54 : decode cX7_findFirst 54 = .ok (.getfield 7, 3) := by decide +kernel
theorem dX7_findFirst_57 : decode cX7_findFirst 57 = .ok (.bipush 8, 2) := by decide +kernel
theorem dX7_findFirst_59 : decode cX7_findFirst 59 = .ok (.iload_n 1, 1) := by decide +kernel
theorem dX7_findFirst_60 : decode cX7_findFirst 60 = .ok (.imul, 1) := by decide +kernel
theorem dX7_findFirst_61 : decode cX7_findFirst 61 = .ok (.laload, 1) := by decide +kernel
theorem dX7_findFirst_62 : decode cX7_findFirst 62 = .ok (.bipush 100, 2) := by decide +kernel
theorem dX7_findFirst_64 : decode cX7_findFirst 64 = .ok (.invokevirtual 89, 3) := by decide +kernel
theorem dX7_findFirst_67 : decode cX7_findFirst 67 = .ok (.putfield 96, 3) := by decide +kernel
theorem dX7_findFirst_70 : decode cX7_findFirst 70 = .ok (.iconst 0, 1) := by decide +kernel
theorem dX7_findFirst_71 : decode cX7_findFirst 71 = .ok (.istore_n 3, 1) := by decide +kernel
theorem dX7_findFirst_72 : decode cX7_findFirst 72 = .ok (.iload_n 3, 1) := by decide +kernel
theorem dX7_findFirst_73 : decode cX7_findFirst 73 = .ok (.aload_n 0, 1) := by decide +kernel
theorem dX7_findFirst_74 : decode cX7_findFirst 74 = .ok (.getfield 93, 3) := by decide +kernel
theorem dX7_findFirst_77 : decode cX7_findFirst 77 = .ok (.if_icmp .ge 109, 3) := by decide +kernel
theorem dX7_findFirst_80 : decode cX7_findFirst 80 = .ok (.iconst 0, 1) := by decide +kernel
theorem dX7_findFirst_81 : decode cX7_findFirst 81 = .ok (.istore 4, 2) := by decide +kernel
theorem dX7_findFirst_83 : decode cX7_findFirst 83 = .ok (.iload 4, 2) := by decide +kernel
theorem dX7_findFirst_85 : decode cX7_findFirst 85 = .ok (.iconst 2, 1) := by decide +kernel
theorem dX7_findFirst_86 : decode cX7_findFirst 86 = .ok (.aload_n 0, 1) := by decide +kernel
theorem dX7_findFirst_87 : decode cX7_findFirst 87 = .ok (.getfield 96, 3) := by decide +kernel
theorem dX7_findFirst_90 : decode cX7_findFirst 90 = .ok (.imul, 1) := by decide +kernel
theorem dX7_findFirst_91 : decode cX7_findFirst 91 = .ok (.if_icmp .ge 89, 3) := by decide +kernel
theorem dX7_findFirst_94 : decode cX7_findFirst 94 = .ok (.aload_n 0, 1) := by decide +kernel
theorem dX7_findFirst_95 : decode cX7_findFirst 95 = .ok (.bipush 10, 2) := by decide +kernel
theorem dX7_findFirst_97 : decode cX7_findFirst 97 = .ok (.invokevirtual 55, 3) := by decide +kernel
theorem dX7_findFirst_100 : decode cX7_findFirst 100 = .ok (.aload_n 0, 1) := by decide +kernel
theorem dX7_findFirst_101 : decode cX7_findFirst 101 = .ok (.getfield 7, 3) := by decide +kernel
theorem dX7_findFirst_104 : decode cX7_findFirst 104 = .ok (.bipush 80, 2) := by decide +kernel
theorem dX7_findFirst_106 : decode cX7_findFirst 106 = .ok (.aload_n 0, 1) := by decide +kernel
theorem dX7_findFirst_107 : decode cX7_findFirst 107 = .ok (.getfield 29, 3) := by decide +kernel
theorem dX7_findFirst_110 : decode cX7_findFirst 110 = .ok (.bipush 100, 2) := by decide +kernel
theorem dX7_findFirst_112 : decode cX7_findFirst 112 = .ok (.iload 4, 2) := by decide +kernel
theorem dX7_findFirst_114 : decode cX7_findFirst 114 = .ok (.iconst 2, 1) := by decide +kernel
theorem dX7_findFirst_115 : decode cX7_findFirst 115 = .ok (.idiv, 1) := by decide +kernel
theorem dX7_findFirst_116 : decode cX7_findFirst 116 = .ok (.iadd, 1) := by decide +kernel
theorem dX7_findFirst_117 : decode cX7_findFirst 117 = .ok (.iaload, 1) := by decide +kernel
theorem dX7_findFirst_118 : decode cX7_findFirst 118 = .ok (.iload 4, 2) := by decide +kernel
theorem dX7_findFirst_120 : decode cX7_findFirst 120 = .ok (.invokestatic 99, 3) := by decide +kernel
theorem dX7_findFirst_123 : decode cX7_findFirst 123 = .ok (.i2l, 1) := by decide +kernel
theorem dX7_findFirst_124 : decode cX7_findFirst 124 = .ok (.lastore, 1) := by decide +kernel
theorem dX7_findFirst_125 : decode cX7_findFirst 125 = .ok (.aload_n 0, 1) := by decide +kernel
theorem dX7_findFirst_126 : decode cX7_findFirst 126 = .ok (.getfield 7, 3) := by decide +kernel
theorem dX7_findFirst_129 : decode cX7_findFirst 129 = .ok (.bipush 81, 2) := by decide +kernel
theorem dX7_findFirst_131 : decode cX7_findFirst 131 = .ok (.aload_n 0, 1) := by decide +kernel
theorem dX7_findFirst_132 : decode cX7_findFirst 132 = .ok (.getfield 29, 3) := by decide +kernel
theorem dX7_findFirst_135 : decode cX7_findFirst 135 = .ok (.iload_n 3, 1) := by decide +kernel
theorem dX7_findFirst_136 : decode cX7_findFirst 136 = .ok (.iaload, 1) := by decide +kernel
theorem dX7_findFirst_137 : decode cX7_findFirst 137 = .ok (.i2l, 1) := by decide +kernel
theorem dX7_findFirst_138 : decode cX7_findFirst 138 = .ok (.lastore, 1) := by decide +kernel
theorem dX7_findFirst_139 : decode cX7_findFirst 139 = .ok (.aload_n 0, 1) := by decide +kernel
theorem dX7_findFirst_140 : decode cX7_findFirst 140 = .ok (.getfield 7, 3) := by decide +kernel
theorem dX7_findFirst_143 : decode cX7_findFirst 143 = .ok (.bipush 80, 2) := by decide +kernel
theorem dX7_findFirst_145 : decode cX7_findFirst 145 = .ok (.laload, 1) := by decide +kernel
theorem dX7_findFirst_146 : decode cX7_findFirst 146 = .ok (.aload_n 0, 1) := by decide +kernel
theorem dX7_findFirst_147 : decode cX7_findFirst 147 = .ok (.getfield 7, 3) := by decide +kernel
theorem dX7_findFirst_150 : decode cX7_findFirst 150 = .ok (.bipush 81, 2) := by decide +kernel
theorem dX7_findFirst_152 : decode cX7_findFirst 152 = .ok (.laload, 1) := by decide +kernel
theorem dX7_findFirst_153 : decode cX7_findFirst 153 = .ok (.invokestatic 51, 3) := by decide +kernel
theorem dX7_findFirst_156 : decode cX7_findFirst 156 = .ok (.lconst 1, 1) := by decide +kernel
theorem dX7_findFirst_157 : decode cX7_findFirst 157 = .ok (.lcmp, 1) := by decide +kernel
theorem dX7_findFirst_158 : decode cX7_findFirst 158 = .ok (.ifCond .ne 16, 3) := by decide +kernel
theorem dX7_findFirst_161 : decode cX7_findFirst 161 = .ok (.aload_n 0, 1) := by decide +kernel
theorem dX7_findFirst_162 : decode cX7_findFirst 162 = .ok (.iload_n 1, 1) := by decide +kernel
theorem dX7_findFirst_163 : decode cX7_findFirst 163 = .ok (.invokevirtual 103, 3) := by decide +kernel
theorem dX7_findFirst_166 : decode cX7_findFirst 166 = .ok (.ifCond .eq 8, 3) := by decide +kernel
theorem dX7_findFirst_169 : decode cX7_findFirst 169 = .ok (.aload_n 0, 1) := by decide +kernel
theorem dX7_findFirst_170 : decode cX7_findFirst 170 = .ok (.iload_n 1, 1) := by decide +kernel
theorem dX7_findFirst_171 : decode cX7_findFirst 171 = .ok (.invokevirtual 86, 3) := by decide +kernel
theorem dX7_findFirst_174 : decode cX7_findFirst 174 = .ok (.iinc 4 1, 3) := by decide +kernel
theorem dX7_findFirst_177 : decode cX7_findFirst 177 = .ok (.goto (-94), 3) := by decide +kernel
theorem dX7_findFirst_180 : decode cX7_findFirst 180 = .ok (.iinc 3 1, 3) := by decide +kernel
theorem dX7_findFirst_183 : decode cX7_findFirst 183 = .ok (.goto (-111), 3) := by decide +kernel
theorem dX7_findFirst_186 : decode cX7_findFirst 186 = .ok (.return_, 1) := by decide +kernel
set_option maxRecDepth 20000 in
theorem ggX7_isRoot_X7_degreeOf : GoodIn wsX7_isRoot wsX7_degreeOf := goodIn_r _ [5, 6, 23, 24, 25, 26, 27, 28, 29, 30, 31, 32, 33, 34, 35, 36, 37, 38, 39, 40, 41, 42, 43, 44, 45, 46, 47] (by decide +kernel) (by decide +kernel)
set_option maxRecDepth 20000 in
theorem gX7_isRoot_X7_degreeOf : GoodIn wsX7_isRoot (wsV RX7 39 RX7 yX7_degreeOf wsX7_degreeOf) := goodIn_app (goodIn_of _ (by decide +kernel)) ggX7_isRoot_X7_degreeOf
set_option maxRecDepth 20000 in
theorem ggX7_isRoot_X7_divides : GoodIn wsX7_isRoot wsX7_divides := goodIn_r _ [10, 6, 11, 12, 13, 4, 14, 15, 16, 17, 18, 1, 2, 3, 5, 19, 20, 21, 22, 23, 24, 25, 26, 27, 28, 29, 30, 31, 32, 33, 34, 35, 36, 37, 38, 39, 40, 41, 42, 43, 44, 45, 46, 47] (by decide +kernel) (by decide +kernel)
set_option maxRecDepth 20000 in
theorem gX7_isRoot_X7_divides : GoodIn wsX7_isRoot (wsV RX7 76 RX7 yX7_divides wsX7_divides) := goodIn_app (goodIn_of _ (by decide +kernel)) ggX7_isRoot_X7_divides
theorem dX7_isRoot_0 : decode cX7_isRoot 0 = .ok (.aload_n 0, 1) := by decide +kernel
theorem dX7_isRoot_1 : decode cX7_isRoot 1 = .ok (.iload_n 1, 1) := by decide +kernel
