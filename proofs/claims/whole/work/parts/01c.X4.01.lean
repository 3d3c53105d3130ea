theorem dX4_signedMeasure_0 : decode cX4_signedMeasure 0 = .ok (.lconst 0, 1) := by decide +kernel
theorem dX4_signedMeasure_1 : decode cX4_signedMeasure 1 = .ok (.lstore_n 1, 1) := by decide +kernel
theorem dX4_signedMeasure_2 : decode cX4_signedMeasure 2 = .ok (.iconst 0, 1) := by decide +kernel
theorem dX4_signedMeasure_3 : decode cX4_signedMeasure 3 = .ok (.istore_n 3, 1) := by decide +kernel
theorem dX4_signedMeasure_4 : decode cX4_signedMeasure 4 = .ok (.iload_n 3, 1) := by decide +kernel
theorem dX4_signedMeasure_5 : decode cX4_signedMeasure 5 = .ok (.aload_n 0, 1) := by decide +kernel
theorem dX4_signedMeasure_6 : decode cX4_signedMeasure 6 = .ok (.getfield 15, 3) := by decide +kernel
theorem dX4_signedMeasure_9 : decode cX4_signedMeasure 9 = .ok (.if_icmp .gt 20, 3) := by decide +kernel
theorem dX4_signedMeasure_12 : decode cX4_signedMeasure 12 = .ok (.lload_n 1, 1) := by decide +kernel
theorem dX4_signedMeasure_13 : decode cX4_signedMeasure 13 = .ok (.aload_n 0, 1) := by decide +kernel
theorem dX4_signedMeasure_14 : decode cX4_signedMeasure 14 = .ok (.getfield 9, 3) := by decide +kernel
theorem dX4_signedMeasure_17 : decode cX4_signedMeasure 17 = .ok (.iload_n 3, 1) := by decide +kernel
theorem dX4_signedMeasure_18 : decode cX4_signedMeasure 18 = .ok (.laload, 1) := by decide +kernel
theorem dX4_signedMeasure_19 : decode cX4_signedMeasure 19 = .ok (.invokestatic 51, 3) := by decide +kernel
theorem dX4_signedMeasure_22 : decode cX4_signedMeasure 22 = .ok (.lstore_n 1, 1) := by decide +kernel
theorem dX4_signedMeasure_23 : decode cX4_signedMeasure 23 = .ok (.iinc 3 1, 3) := by decide +kernel
theorem dX4_signedMeasure_26 : decode cX4_signedMeasure 26 = .ok (.goto (-22), 3) := by decide +kernel
theorem dX4_signedMeasure_29 : decode cX4_signedMeasure 29 = .ok (.aload_n 0, 1) := by decide +kernel
theorem dX4_signedMeasure_30 : decode cX4_signedMeasure 30 = .ok (.invokevirtual 39, 3) := by decide +kernel
theorem dX4_signedMeasure_33 : decode cX4_signedMeasure 33 = .ok (.lconst 0, 1) := by decide +kernel
theorem dX4_signedMeasure_34 : decode cX4_signedMeasure 34 = .ok (.lcmp, 1) := by decide +kernel
theorem dX4_signedMeasure_35 : decode cX4_signedMeasure 35 = .ok (.ifCond .ge 8, 3) := by decide +kernel
theorem dX4_signedMeasure_38 : decode cX4_signedMeasure 38 = .ok (.lload_n 1, 1) := by decide +kernel
theorem dX4_signedMeasure_39 : decode cX4_signedMeasure 39 = .ok (.lneg, 1) := by decide +kernel
theorem dX4_signedMeasure_40 : decode cX4_signedMeasure 40 = .ok (.goto 4, 3) := by decide +kernel
theorem dX4_signedMeasure_43 : decode cX4_signedMeasure 43 = .ok (.lload_n 1, 1) := by decide +kernel
theorem dX4_signedMeasure_44 : decode cX4_signedMeasure 44 = .ok (.lreturn, 1) := by decide +kernel
set_option maxRecDepth 20000 in
theorem ggX4_makePrimitive_X4_signedMeasure : GoodIn wsX4_makePrimitive wsX4_signedMeasure := goodIn_r _ [7, 1, 2, 8, 9, 10, 11, 12, 13, 14, 15, 16, 17, 6, 18, 19, 20, 21, 22, 23, 24] (by decide +kernel) (by decide +kernel)
set_option maxRecDepth 20000 in
theorem gX4_makePrimitive_X4_signedMeasure : GoodIn wsX4_makePrimitive (wsV RX4 55 RX4 yX4_signedMeasure wsX4_signedMeasure) := goodIn_app (goodIn_of _ (by decide +kernel)) ggX4_makePrimitive_X4_signedMeasure
theorem dX4_makePrimitive_0 : decode cX4_makePrimitive 0 = .ok (.aload_n 0, 1) := by decide +kernel
theorem dX4_makePrimitive_1 : decode cX4_makePrimitive 1 = .ok (.invokevirtual 55, 3) := by decide +kernel
theorem dX4_makePrimitive_4 : decode cX4_makePrimitive 4 = .ok (.lstore_n 1, 1) := by decide +kernel
theorem dX4_makePrimitive_5 : decode cX4_makePrimitive 5 = .ok (.lload_n 1, 1) := by decide +kernel
theorem dX4_makePrimitive_6 : decode cX4_makePrimitive 6 = .ok (.lconst 0, 1) := by decide +kernel
theorem dX4_makePrimitive_7 : decode cX4_makePrimitive 7 = .ok (.lcmp, 1) := by decide +kernel
theorem dX4_makePrimitive_8 : decode cX4_makePrimitive 8 = .ok (.ifCond .ne 4, 3) := by decide +kernel
theorem dX4_makePrimitive_11 : decode cX4_makePrimitive 11 = .ok (.return_, 1) := by decide +kernel
theorem dX4_makePrimitive_12 : decode cX4_makePrimitive 12 = .ok (.iconst 0, 1) := by decide +kernel
theorem dX4_makePrimitive_13 : decode cX4_makePrimitive 13 = .ok (.istore_n 3, 1) := by decide +kernel
theorem dX4_makePrimitive_14 : decode cX4_makePrimitive 14 = .ok (.iload_n 3, 1) := by decide +kernel
theorem dX4_makePrimitive_15 : decode cX4_makePrimitive 15 = .ok (.aload_n 0, 1) := by decide +kernel
theorem dX4_makePrimitive_16 : decode cX4_makePrimitive 16 = .ok (.getfield 15, 3) := by decide +kernel
theorem dX4_makePrimitive_19 : decode cX4_makePrimitive 19 = .ok (.if_icmp .gt 19, 3) := by decide +kernel
theorem dX4_makePrimitive_22 : decode cX4_makePrimitive 22 = .ok (.aload_n 0, 1) := by decide +kernel
theorem dX4_makePrimitive_23 : decode cX4_makePrimitive 23 = .ok (.getfield 9, 3) := by decide +kernel
theorem dX4_makePrimitive_26 : decode cX4_makePrimitive 26 = .ok (.iload_n 3, 1) := by decide +kernel
theorem dX4_makePrimitive_27 : decode cX4_makePrimitive 27 = .ok (.dup2, 1) := by decide +kernel
theorem dX4_makePrimitive_28 : decode cX4_makePrimitive 28 = .ok (.laload, 1) := by decide +kernel
theorem dX4_makePrimitive_29 : decode cX4_makePrimitive 29 = .ok (.lload_n 1, 1) := by decide +kernel
theorem dX4_makePrimitive_30 : decode cX4_makePrimitive 30 = .ok (.ldiv, 1) := by decide +kernel
theorem dX4_makePrimitive_31 : decode cX4_makePrimitive 31 = .ok (.lastore, 1) := by decide +kernel
theorem dX4_makePrimitive_32 : decode cX4_makePrimitive 32 = .ok (.iinc 3 1, 3) := by decide +kernel
theorem dX4_makePrimitive_35 : decode cX4_makePrimitive 35 = .ok (.goto (-21), 3) := by decide +kernel
theorem dX4_makePrimitive_38 : decode cX4_makePrimitive 38 = .ok (.return_, 1) := by decide +kernel
set_option maxRecDepth 20000 in
theorem ggX4_compareWith_J6_compare_7cf53 : GoodIn wsX4_compareWith wsJ6_compare_7cf53 := goodIn_r _ [6] (by decide +kernel) (by decide +kernel)
set_option maxRecDepth 20000 in
theorem gX4_compareWith_J6_compare_7cf53 : GoodIn wsX4_compareWith (va_wsS RX4 58 yJ6_compare_7cf53 wsJ6_compare_7cf53) := goodIn_app (goodIn_of _ (by decide +kernel)) ggX4_compareWith_J6_compare_7cf53
set_option maxRecDepth 20000 in
theorem ggX4_compareWith_J13_compare_74951 : GoodIn wsX4_compareWith wsJ13_compare_74951 := goodIn_r _ [10] (by decide +kernel) (by decide +kernel)
set_option maxRecDepth 20000 in
theorem gX4_compareWith_J13_compare_74951 : GoodIn wsX4_compareWith (va_wsS RX4 64 yJ13_compare_74951 wsJ13_compare_74951) := goodIn_app (goodIn_of _ (by decide +kernel)) ggX4_compareWith_J13_compare_74951
theorem dX4_compareWith_0 : decode cX4_compareWith 0 = .ok (.aload_n 0, 1) := by decide +kernel
theorem dX4_compareWith_1 : decode cX4_compareWith 1 = .ok (.getfield 15, 3) := by decide +kernel
theorem dX4_compareWith_4 : decode cX4_compareWith 4 = .ok (.aload_n 1, 1) := by decide +kernel
theorem dX4_compareWith_5 : decode cX4_compareWith 5 = .ok (.getfield 15, 3) := by decide +kernel
theorem dX4_compareWith_8 : decode cX4_compareWith 8 = .ok (.if_icmp .eq 15, 3) := by decide +kernel
theorem dX4_compareWith_11 : decode cX4_compareWith 11 = .ok (.aload_n 0, 1) := by decide +kernel
theorem dX4_compareWith_12 : decode cX4_compareWith 12 = .ok (.getfield 15, 3) := by decide +kernel
theorem dX4_compareWith_15 : decode cX4_compareWith 15 = .ok (.aload_n 1, 1) := by decide +kernel
theorem dX4_compareWith_16 : decode cX4_compareWith 16 = .ok (.getfield 15, 3) := by decide +kernel
theorem dX4_compareWith_19 : decode cX4_compareWith 19 = .ok (.invokestatic 58, 3) := by decide +kernel
theorem dX4_compareWith_22 : decode cX4_compareWith 22 = .ok (.ireturn, 1) := by decide +kernel
theorem dX4_compareWith_23 : decode cX4_compareWith 23 = .ok (.aload_n 0, 1) := by decide +kernel
theorem dX4_compareWith_24 : decode cX4_compareWith 24 = .ok (.getfield 15, 3) := by decide +kernel
theorem dX4_compareWith_27 : decode cX4_compareWith 27 = .ok (.istore_n 2, 1) := by decide +kernel
theorem dX4_compareWith_28 : decode cX4_compareWith 28 = .ok (.iload_n 2, 1) := by decide +kernel
theorem dX4_compareWith_29 : decode cX4_compareWith 29 = .ok (.ifCond .lt 41, 3) := by decide +kernel
theorem dX4_compareWith_32 : decode cX4_compareWith 32 = .ok (.aload_n 0, 1) := by decide +kernel
theorem dX4_compareWith_33 : decode cX4_compareWith 33 = .ok (.getfield 9, 3) := by decide +kernel
theorem dX4_compareWith_36 : decode cX4_compareWith 36 = .ok (.iload_n 2, 1) := by decide +kernel
theorem dX4_compareWith_37 : decode cX4_compareWith 37 = .ok (.laload, 1) := by decide +kernel
theorem dX4_compareWith_38 : decode cX4_compareWith 38 = .ok (.aload_n 1, 1) := by decide +kernel
theorem dX4_compareWith_39 : decode cX4_compareWith 39 = .ok (.getfield 9, 3) := by decide +kernel
theorem dX4_compareWith_42 : decode cX4_compareWith 42 = .ok (.iload_n 2, 1) := by decide +kernel
theorem dX4_compareWith_43 : decode cX4_compareWith 43 = .ok (.laload, 1) := by decide +kernel
theorem dX4_compareWith_44 : decode cX4_compareWith 44 = .ok (.lcmp, 1) := by decide +kernel
theorem dX4_compareWith_45 : decode cX4_compareWith 45 = .ok (.ifCond .eq 19, 3) := by decide +kernel
theorem dX4_compareWith_48 : decode cX4_compareWith 48 = .ok (.aload_n 0, 1) := by decide +kernel
theorem dX4_compareWith_49 : decode cX4_compareWith 49 = .ok (.getfield 9, 3) := by decide +kernel
theorem dX4_compareWith_52 : decode cX4_compareWith 52 = .ok (.iload_n 2, 1) := by decide +kernel
theorem dX4_compareWith_53 : decode cX4_compareWith 53 = .ok (.laload, 1) := by decide +kernel
theorem dX4_compareWith_54 : decode cX4_compareWith 54 = .ok (.aload_n 1, 1) := by decide +kernel
theorem dX4_compareWith_55 : decode cX4_compareWith 55 = .ok (.getfield 9, 3) := by decide +kernel
theorem dX4_compareWith_58 : decode cX4_compareWith 58 = .ok (.iload_n 2, 1) := by decide +kernel
theorem dX4_compareWith_59 : decode cX4_compareWith 59 = .ok (.laload, 1) := by decide +kernel
theorem dX4_compareWith_60 : decode cX4_compareWith 60 = .ok (.invokestatic 64, 3) := by decide +kernel
theorem dX4_compareWith_63 : decode cX4_compareWith 63 = .ok (.ireturn, 1) := by decide +kernel
theorem dX4_compareWith_64 : decode cX4_compareWith 64 = .ok (.iinc 2 (-1), 3) := by decide +kernel
theorem dX4_compareWith_67 : decode cX4_compareWith 67 = .ok (.goto (-39), 3) := by decide +kernel
theorem dX4_compareWith_70 : decode cX4_compareWith 70 = .ok (.iconst 0, 1) := by decide +kernel
theorem dX4_compareWith_71 : decode cX4_compareWith 71 = .ok (.ireturn, 1) := by decide +kernel
