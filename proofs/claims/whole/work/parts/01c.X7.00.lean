theorem dX7_init_0 : decode cX7_init 0 = .ok (.aload_n 0, 1) := by decide +kernel
theorem dX7_init_1 : decode cX7_init 1 = .ok (.invokespecial 1, 3) := by decide +kernel
theorem dX7_init_4 : decode cX7_init 4 = .ok (.aload_n 0, 1) := by decide +kernel
theorem dX7_init_5 : decode cX7_init 5 = .ok (.sipush 240, 3) := by decide +kernel
theorem dX7_init_8 : decode cX7_init 8 = .ok (.newarray .long, 2) := by decide +kernel
theorem dX7_init_10 : decode cX7_init 10 = .ok (.putfield 7, 3) := by decide +kernel
theorem dX7_init_13 : decode cX7_init 13 = .ok (.aload_n 0, 1) := by decide +kernel
theorem dX7_init_14 : decode cX7_init 14 = .ok (.bipush 8, 2) := by decide +kernel
theorem dX7_init_16 : decode cX7_init 16 = .ok (.newarray .int, 2) := by decide +kernel
theorem dX7_init_18 : decode cX7_init 18 = .ok (.putfield 13, 3) := by decide +kernel
theorem dX7_init_21 : decode cX7_init 21 = .ok (.aload_n 0, 1) := by decide +kernel
theorem dX7_init_22 : decode cX7_init 22 = .ok (.bipush 8, 2) := by decide +kernel
theorem dX7_init_24 : decode cX7_init 24 = .ok (.newarray .int, 2) := by decide +kernel
theorem dX7_init_26 : decode cX7_init 26 = .ok (.putfield 17, 3) := by decide +kernel
theorem dX7_init_29 : decode cX7_init 29 = .ok (.aload_n 0, 1) := by decide +kernel
theorem dX7_init_30 : decode cX7_init 30 = .ok (.bipush 56, 2) := by decide +kernel
theorem dX7_init_32 : decode cX7_init 32 = .ok (.newarray .long, 2) := by decide +kernel
theorem dX7_init_34 : decode cX7_init 34 = .ok (.putfield 20, 3) := by decide +kernel
theorem dX7_init_37 : decode cX7_init 37 = .ok (.aload_n 0, 1) := by decide +kernel
theorem dX7_init_38 : decode cX7_init 38 = .ok (.bipush 7, 2) := by decide +kernel
theorem dX7_init_40 : decode cX7_init 40 = .ok (.newarray .int, 2) := by decide +kernel
theorem dX7_init_42 : decode cX7_init 42 = .ok (.putfield 23, 3) := by decide +kernel
theorem dX7_init_45 : decode cX7_init 45 = .ok (.aload_n 0, 1) := by decide +kernel
theorem dX7_init_46 : decode cX7_init 46 = .ok (.bipush 7, 2) := by decide +kernel
theorem dX7_init_48 : decode cX7_init 48 = .ok (.newarray .int, 2) := by decide +kernel
theorem dX7_init_50 : decode cX7_init 50 = .ok (.putfield 26, 3) := by decide +kernel
theorem dX7_init_53 : decode cX7_init 53 = .ok (.aload_n 0, 1) := by decide +kernel
theorem dX7_init_54 : decode cX7_init 54 = .ok (.sipush 600, 3) := by decide +kernel
theorem dX7_init_57 : decode cX7_init 57 = .ok (.newarray .int, 2) := by decide +kernel
theorem dX7_init_59 : decode cX7_init 59 = .ok (.putfield 29, 3) := by decide +kernel
theorem dX7_init_62 : decode cX7_init 62 = .ok (.aload_n 0, 1) := by decide +kernel
theorem dX7_init_63 : decode cX7_init 63 = .ok (.sipush 160, 3) := by decide +kernel
theorem dX7_init_66 : decode cX7_init 66 = .ok (.newarray .int, 2) := by decide +kernel
theorem dX7_init_68 : decode cX7_init 68 = .ok (.putfield 32, 3) := by decide +kernel
theorem dX7_init_71 : decode cX7_init 71 = .ok (.return_, 1) := by decide +kernel
theorem dX7_thrown_0 : decode cX7_thrown 0 = .ok (.aload_n 0, 1) := by decide +kernel
theorem dX7_thrown_1 : decode cX7_thrown 1 = .ok (.getfield 35, 3) := by decide +kernel
theorem dX7_thrown_4 : decode cX7_thrown 4 = .ok (.ireturn, 1) := by decide +kernel
theorem dX7_refused_0 : decode cX7_refused 0 = .ok (.aload_n 0, 1) := by decide +kernel
theorem dX7_refused_1 : decode cX7_refused 1 = .ok (.iload_n 1, 1) := by decide +kernel
theorem dX7_refused_2 : decode cX7_refused 2 = .ok (.putfield 35, 3) := by decide +kernel
theorem dX7_refused_5 : decode cX7_refused 5 = .ok (.iload_n 1, 1) := by decide +kernel
theorem dX7_refused_6 : decode cX7_refused 6 = .ok (.ifCond .le 7, 3) := by decide +kernel
theorem dX7_refused_9 : decode cX7_refused 9 = .ok (.iconst 1, 1) := by decide +kernel
theorem dX7_refused_10 : decode cX7_refused 10 = .ok (.goto 4, 3) := by decide +kernel
theorem dX7_refused_13 : decode cX7_refused 13 = .ok (.iconst 0, 1) := by decide +kernel
theorem dX7_refused_14 : decode cX7_refused 14 = .ok (.ireturn, 1) := by decide +kernel
theorem dX7_isIn_0 : decode cX7_isIn 0 = .ok (.iload_n 0, 1) := by decide +kernel
theorem dX7_isIn_1 : decode cX7_isIn 1 = .ok (.iload_n 1, 1) := by decide +kernel
theorem dX7_isIn_2 : decode cX7_isIn 2 = .ok (.if_icmp .lt 12, 3) := by decide +kernel
theorem dX7_isIn_5 : decode cX7_isIn 5 = .ok (.iload_n 0, 1) := by decide +kernel
theorem dX7_isIn_6 : decode cX7_isIn 6 = .ok (.iload_n 2, 1) := by decide +kernel
theorem dX7_isIn_7 : decode cX7_isIn 7 = .ok (.if_icmp .gt 7, 3) := by decide +kernel
theorem dX7_isIn_10 : decode cX7_isIn 10 = .ok (.iconst 1, 1) := by decide +kernel
theorem dX7_isIn_11 : decode cX7_isIn 11 = .ok (.goto 4, 3) := by decide +kernel
theorem dX7_isIn_14 : decode cX7_isIn 14 = .ok (.iconst 0, 1) := by decide +kernel
theorem dX7_isIn_15 : decode cX7_isIn 15 = .ok (.ireturn, 1) := by decide +kernel
theorem dX7_isSlot_0 : decode cX7_isSlot 0 = .ok (.iload_n 0, 1) := by decide +kernel
theorem dX7_isSlot_1 : decode cX7_isSlot 1 = .ok (.ifCond .lt 13, 3) := by decide +kernel
theorem dX7_isSlot_4 : decode cX7_isSlot 4 = .ok (.iload_n 0, 1) := by decide +kernel
theorem dX7_isSlot_5 : decode cX7_isSlot 5 = .ok (.bipush 8, 2) := by decide +kernel
theorem dX7_isSlot_7 : decode cX7_isSlot 7 = .ok (.if_icmp .ge 7, 3) := by decide +kernel
theorem dX7_isSlot_10 : decode cX7_isSlot 10 = .ok (.iconst 1, 1) := by decide +kernel
theorem dX7_isSlot_11 : decode cX7_isSlot 11 = .ok (.goto 4, 3) := by decide +kernel
theorem dX7_isSlot_14 : decode cX7_isSlot 14 = .ok (.iconst 0, 1) := by decide +kernel
theorem dX7_isSlot_15 : decode cX7_isSlot 15 = .ok (.ireturn, 1) := by decide +kernel
theorem dX7_degreeOf_0 : decode cX7_degreeOf 0 = .ok (.bipush 7, 2) := by decide +kernel
theorem dX7_degreeOf_2 : decode cX7_degreeOf 2 = .ok (.istore_n 2, 1) := by decide +kernel
theorem dX7_degreeOf_3 : decode cX7_degreeOf 3 = .ok (.iload_n 2, 1) := by decide +kernel
theorem dX7_degreeOf_4 : decode cX7_degreeOf 4 = .ok (.ifCond .lt 25, 3) := by decide +kernel
theorem dX7_degreeOf_7 : decode cX7_degreeOf 7 = .ok (.aload_n 0, 1) := by decide +kernel
theorem dX7_degreeOf_8 : decode cX7_degreeOf 8 = .ok (.getfield 7, 3) := by decide +kernel
theorem dX7_degreeOf_11 : decode cX7_degreeOf 11 = .ok (.bipush 8, 2) := by decide +kernel
theorem dX7_degreeOf_13 : decode cX7_degreeOf 13 = .ok (.iload_n 1, 1) := by decide +kernel
theorem dX7_degreeOf_14 : decode cX7_degreeOf 14 = .ok (.imul, 1) := by decide +kernel
theorem dX7_degreeOf_15 : decode cX7_degreeOf 15 = .ok (.iload_n 2, 1) := by decide +kernel
theorem dX7_degreeOf_16 : decode cX7_degreeOf 16 = .ok (.iadd, 1) := by decide +kernel
theorem dX7_degreeOf_17 : decode cX7_degreeOf 17 = .ok (.laload, 1) := by decide +kernel
theorem dX7_degreeOf_18 : decode cX7_degreeOf 18 = .ok (.lconst 0, 1) := by decide +kernel
theorem dX7_degreeOf_19 : decode cX7_degreeOf 19 = .ok (.lcmp, 1) := by decide +kernel
theorem dX7_degreeOf_20 : decode cX7_degreeOf 20 = .ok (.ifCond .ne 9, 3) := by decide +kernel
theorem dX7_degreeOf_23 : decode cX7_degreeOf 23 = .ok (.iinc 2 (-1), 3) := by decide +kernel
theorem dX7_degreeOf_26 : decode cX7_degreeOf 26 = .ok (.goto (-23), 3) := by decide +kernel
theorem dX7_degreeOf_29 : decode cX7_degreeOf 29 = .ok (.iload_n 2, 1) := by decide +kernel
theorem dX7_degreeOf_30 : decode cX7_degreeOf 30 = .ok (.ireturn, 1) := by decide +kernel
theorem dX7_clear_0 : decode cX7_clear 0 = .ok (.iconst 0, 1) := by decide +kernel
theorem dX7_clear_1 : decode cX7_clear 1 = .ok (.istore_n 2, 1) := by decide +kernel
theorem dX7_clear_2 : decode cX7_clear 2 = .ok (.iload_n 2, 1) := by decide +kernel
theorem dX7_clear_3 : decode cX7_clear 3 = .ok (.bipush 8, 2) := by decide +kernel
theorem dX7_clear_5 : decode cX7_clear 5 = .ok (.if_icmp .ge 21, 3) := by decide +kernel
theorem dX7_clear_8 : decode cX7_clear 8 = .ok (.aload_n 0, 1) := by decide +kernel
theorem dX7_clear_9 : decode cX7_clear 9 = .ok (.getfield 7, 3) := by decide +kernel
theorem dX7_clear_12 : decode cX7_clear 12 = .ok (.bipush 8, 2) := by decide +kernel
theorem dX7_clear_14 : decode cX7_clear 14 = .ok (.iload_n 1, 1) := by decide +kernel
theorem dX7_clear_15 : decode cX7_clear 15 = .ok (.imul, 1) := by decide +kernel
theorem dX7_clear_16 : decode cX7_clear 16 = .ok (.iload_n 2, 1) := by decide +kernel
theorem dX7_clear_17 : decode cX7_clear 17 = .ok (.iadd, 1) := by decide +kernel
theorem dX7_clear_18 : decode cX7_clear 18 = .ok (.lconst 0, 1) := by decide +kernel
theorem dX7_clear_19 : decode cX7_clear 19 = .ok (.lastore, 1) := by decide +kernel
theorem dX7_clear_20 : decode cX7_clear 20 = .ok (.iinc 2 1, 3) := by decide +kernel
theorem dX7_clear_23 : decode cX7_clear 23 = .ok (.goto (-21), 3) := by decide +kernel
theorem dX7_clear_26 : decode cX7_clear 26 = .ok (.return_, 1) := by decide +kernel
theorem dX7_copy_0 : decode cX7_copy 0 = .ok (.iconst 0, 1) := by decide +kernel
theorem dX7_copy_1 : decode cX7_copy 1 = .ok (.istore_n 3, 1) := by decide +kernel
theorem dX7_copy_2 : decode cX7_copy 2 = .ok (.iload_n 3, 1) := by decide +kernel
theorem dX7_copy_3 : decode cX7_copy 3 = .ok (.bipush 8, 2) := by decide +kernel
theorem dX7_copy_5 : decode cX7_copy 5 = .ok (.if_icmp .ge 31, 3) := by decide +kernel
theorem dX7_copy_8 : decode cX7_copy 8 = .ok (.aload_n 0, 1) := by decide +kernel
theorem dX7_copy_9 : decode cX7_copy 9 = .ok (.getfield 7, 3) := by decide +kernel
theorem dX7_copy_12 : decode cX7_copy 12 = .ok (.bipush 8, 2) := by decide +kernel
theorem dX7_copy_14 : decode cX7_copy 14 = .ok (.iload_n 1, 1) := by decide +kernel
theorem dX7_copy_15 : decode cX7_copy 15 = .ok (.imul, 1) := by decide +kernel
theorem dX7_copy_16 : decode cX7_copy 16 = .ok (.iload_n 3, 1) := by decide +kernel
theorem dX7_copy_17 : decode cX7_copy 17 = .ok (.iadd, 1) := by decide +kernel
theorem dX7_copy_18 : decode cX7_copy 18 = .ok (.aload_n 0, 1) := by decide +kernel
theorem dX7_copy_19 : decode cX7_copy 19 = .ok (.getfield 7, 3) := by decide +kernel
theorem dX7_copy_22 : decode cX7_copy 22 = .ok (.bipush 8, 2) := by decide +kernel
theorem dX7_copy_24 : decode cX7_copy 24 = .ok (.iload_n 2, 1) := by decide +kernel
theorem dX7_copy_25 : decode cX7_copy 25 = .ok (.imul, 1) := by decide +kernel
theorem dX7_copy_26 : decode cX7_copy 26 = .ok (.iload_n 3, 1) := by decide +kernel
theorem dX7_copy_27 : decode cX7_copy 27 = .ok (.iadd, 1) := by decide +kernel
theorem dX7_copy_28 : decode cX7_copy 28 = .ok (.laload, 1) := by decide +kernel
theorem dX7_copy_29 : decode cX7_copy 29 = .ok (.lastore, 1) := by decide +kernel
theorem dX7_copy_30 : decode cX7_copy 30 = .ok (.iinc 3 1, 3) := by decide +kernel
theorem dX7_copy_33 : decode cX7_copy 33 = .ok (.goto (-31), 3) := by decide +kernel
theorem dX7_copy_36 : decode cX7_copy 36 = .ok (.return_, 1) := by decide +kernel
set_option maxRecDepth 20000 in
theorem ggX7_isZero_X7_degreeOf : GoodIn wsX7_isZero wsX7_degreeOf := goodIn_r _ [5, 6, 7, 8, 9, 10, 11, 12, 13, 14, 15, 16, 17, 18, 19, 20, 21, 22, 23, 24, 25, 26, 27, 28, 29, 30, 31] (by decide +kernel) (by decide +kernel)
set_option maxRecDepth 20000 in
theorem gX7_isZero_X7_degreeOf : GoodIn wsX7_isZero (wsV RX7 39 RX7 yX7_degreeOf wsX7_degreeOf) := goodIn_app (goodIn_of _ (by decide +kernel)) ggX7_isZero_X7_degreeOf
theorem dX7_isZero_0 : decode cX7_isZero 0 = .ok (.aload_n 0, 1) := by decide +kernel
theorem dX7_isZero_1 : decode cX7_isZero 1 = .ok (.iload_n 1, 1) := by decide +kernel
theorem dX7_isZero_2 : decode cX7_isZero 2 = .ok (.invokevirtual 39, 3) := by decide +kernel
theorem dX7_isZero_5 : decode cX7_isZero 5 = .ok (.ifCond .ge 7, 3) := by decide +kernel
theorem dX7_isZero_8 : decode cX7_isZero 8 = .ok (.iconst 1, 1) := by decide +kernel
theorem dX7_isZero_9 : decode cX7_isZero 9 = .ok (.goto 4, 3) := by decide +kernel
theorem dX7_isZero_12 : decode cX7_isZero 12 = .ok (.iconst 0, 1) := by decide +kernel
theorem dX7_isZero_13 : decode cX7_isZero 13 = .ok (.ireturn, 1) := by decide +kernel
theorem dX7_gcd_0 : decode cX7_gcd 0 = .ok (.lload_n 0, 1) := by decide +kernel
theorem dX7_gcd_1 : decode cX7_gcd 1 = .ok (.lconst 0, 1) := by decide +kernel
theorem dX7_gcd_2 : decode cX7_gcd 2 = .ok (.lcmp, 1) := by decide +kernel
theorem dX7_gcd_3 : decode cX7_gcd 3 = .ok (.ifCond .ge 8, 3) := by decide +kernel
theorem dX7_gcd_6 : decode cX7_gcd 6 = .ok (.lload_n 0, 1) := by decide +kernel
theorem dX7_gcd_7 : decode cX7_gcd 7 = .ok (.lneg, 1) := by decide +kernel
theorem dX7_gcd_8 : decode cX7_gcd 8 = .ok (.goto 4, 3) := by decide +kernel
theorem dX7_gcd_11 : decode cX7_gcd 11 = .ok (.lload_n 0, 1) := by decide +kernel
theorem dX7_gcd_12 : decode cX7_gcd 12 = .ok (.lstore 4, 2) := by decide +kernel
theorem dX7_gcd_14 : decode cX7_gcd 14 = .ok (.lload_n 2, 1) := by decide +kernel
theorem dX7_gcd_15 : decode cX7_gcd 15 = .ok (.lconst 0, 1) := by decide +kernel
theorem dX7_gcd_16 : decode cX7_gcd 16 = .ok (.lcmp, 1) := by decide +kernel
theorem dX7_gcd_17 : decode cX7_gcd 17 = .ok (.ifCond .ge 8, 3) := by decide +kernel
theorem dX7_gcd_20 : decode cX7_gcd 20 = .ok (.lload_n 2, 1) := by decide +kernel
theorem dX7_gcd_21 : decode cX7_gcd 21 = .ok (.lneg, 1) := by decide +kernel
theorem dX7_gcd_22 : decode cX7_gcd 22 = .ok (.goto 4, 3) := by decide +kernel
theorem dX7_gcd_25 : decode cX7_gcd 25 = .ok (.lload_n 2, 1) := by decide +kernel
theorem dX7_gcd_26 : decode cX7_gcd 26 = .ok (.lstore 6, 2) := by decide +kernel
theorem dX7_gcd_28 : decode cX7_gcd 28 = .ok (.lload 6, 2) := by decide +kernel
theorem dX7_gcd_30 : decode cX7_gcd 30 = .ok (.lconst 0, 1) := by decide +kernel
theorem dX7_gcd_31 : decode cX7_gcd 31 = .ok (.lcmp, 1) := by decide +kernel
theorem dX7_gcd_32 : decode cX7_gcd 32 = .ok (.ifCond .eq 21, 3) := by decide +kernel
theorem dX7_gcd_35 : decode cX7_gcd 35 = .ok (.lload 4, 2) := by decide +kernel
theorem dX7_gcd_37 : decode cX7_gcd 37 = .ok (.lload 6, 2) := by decide +kernel
theorem dX7_gcd_39 : decode cX7_gcd 39 = .ok (.lrem, 1) := by decide +kernel
theorem dX7_gcd_40 : decode cX7_gcd 40 = .ok (.lstore 8, 2) := by decide +kernel
theorem dX7_gcd_42 : decode cX7_gcd 42 = .ok (.lload 6, 2) := by decide +kernel
theorem dX7_gcd_44 : decode cX7_gcd 44 = .ok (.lstore 4, 2) := by decide +kernel
theorem dX7_gcd_46 : decode cX7_gcd 46 = .ok (.lload 8, 2) := by decide +kernel
theorem dX7_gcd_48 : decode cX7_gcd 48 = .ok (.lstore 6, 2) := by decide +kernel
theorem dX7_gcd_50 : decode cX7_gcd 50 = .ok (.goto (-22), 3) := by decide +kernel
theorem dX7_gcd_53 : decode cX7_gcd 53 = .ok (.lload 4, 2) := by decide +kernel
theorem dX7_gcd_55 : decode cX7_gcd 55 = .ok (.lreturn, 1) := by decide +kernel
set_option maxRecDepth 20000 in
theorem ggX7_finish_X7_copy : GoodIn wsX7_finish wsX7_copy := goodIn_r _ [8, 1, 13, 14, 15, 16, 17, 18, 19, 20, 21, 22, 23, 24, 25, 26, 27, 28, 29, 30, 31, 32, 33, 34, 35, 36, 37] (by decide +kernel) (by decide +kernel)
set_option maxRecDepth 20000 in
theorem gX7_finish_X7_copy : GoodIn wsX7_finish (wsV RX7 47 RX7 yX7_copy wsX7_copy) := goodIn_app (goodIn_of _ (by decide +kernel)) ggX7_finish_X7_copy
set_option maxRecDepth 20000 in
theorem ggX7_finish_X7_degreeOf : GoodIn wsX7_finish wsX7_degreeOf := goodIn_r _ [12, 1, 13, 14, 15, 16, 17, 18, 19, 20, 21, 22, 23, 24, 25, 26, 27, 28, 29, 30, 31, 32, 33, 34, 35, 36, 37] (by decide +kernel) (by decide +kernel)
set_option maxRecDepth 20000 in
theorem gX7_finish_X7_degreeOf : GoodIn wsX7_finish (wsV RX7 39 RX7 yX7_degreeOf wsX7_degreeOf) := goodIn_app (goodIn_of _ (by decide +kernel)) ggX7_finish_X7_degreeOf
theorem dX7_finish_0 : decode cX7_finish 0 = .ok (.aload_n 0, 1) := by decide +kernel
theorem dX7_finish_1 : decode cX7_finish 1 = .ok (.getfield 7, 3) := by decide +kernel
theorem dX7_finish_4 : decode cX7_finish 4 = .ok (.bipush 71, 2) := by decide +kernel
theorem dX7_finish_6 : decode cX7_finish 6 = .ok (.laload, 1) := by decide +kernel
theorem dX7_finish_7 : decode cX7_finish 7 = .ok (.lconst 0, 1) := by decide +kernel
theorem dX7_finish_8 : decode cX7_finish 8 = .ok (.lcmp, 1) := by decide +kernel
theorem dX7_finish_9 : decode cX7_finish 9 = .ok (.ifCond .ne 7, 3) := by decide +kernel
theorem dX7_finish_12 : decode cX7_finish 12 = .ok (.iconst 1, 1) := by decide +kernel
theorem dX7_finish_13 : decode cX7_finish 13 = .ok (.goto 4, 3) := by decide +kernel
theorem dX7_finish_16 : decode cX7_finish 16 = .ok (.iconst 0, 1) := by decide +kernel
theorem dX7_finish_17 : decode cX7_finish 17 = .ok (.istore_n 2, 1) := by decide +kernel
theorem dX7_finish_18 : decode cX7_finish 18 = .ok (.iconst 0, 1) := by decide +kernel
theorem dX7_finish_19 : decode cX7_finish 19 = .ok (.istore_n 3, 1) := by decide +kernel
theorem dX7_finish_20 : decode cX7_finish 20 = .ok (.iload_n 3, 1) := by decide +kernel
theorem dX7_finish_21 : decode cX7_finish 21 = .ok (.bipush 7, 2) := by decide +kernel
theorem dX7_finish_23 : decode cX7_finish 23 = .ok (.if_icmp .ge 51, 3) := by decide +kernel
theorem dX7_finish_26 : decode cX7_finish 26 = .ok (.iload_n 2, 1) := by decide +kernel
theorem dX7_finish_27 : decode cX7_finish 27 = .ok (.ifCond .eq 39, 3) := by decide +kernel
theorem dX7_finish_30 : decode cX7_finish 30 = .ok (.aload_n 0, 1) := by decide +kernel
theorem dX7_finish_31 : decode cX7_finish 31 = .ok (.getfield 7, 3) := by decide +kernel
theorem dX7_finish_34 : decode cX7_finish 34 = .ok (.bipush 64, 2) := by decide +kernel
theorem dX7_finish_36 : decode cX7_finish 36 = .ok (.iload_n 3, 1) := by decide +kernel
theorem dX7_finish_37 : decode cX7_finish 37 = .ok (.iadd, 1) := by decide +kernel
theorem dX7_finish_38 : decode cX7_finish 38 = .ok (.laload, 1) := by decide +kernel
theorem dX7_finish_39 : decode cX7_finish 39 = .ok (.ldc2_w 43, 3) := by decide +kernel
theorem dX7_finish_42 : decode cX7_finish 42 = .ok (.lcmp, 1) := by decide +kernel
theorem dX7_finish_43 : decode cX7_finish 43 = .ok (.ifCond .gt 23, 3) := by decide +kernel
theorem dX7_finish_46 : decode cX7_finish 46 = .ok (.aload_n 0, 1) := by decide +kernel
theorem dX7_finish_47 : decode cX7_finish 47 = .ok (.getfield 7, 3) := by decide +kernel
theorem dX7_finish_50 : decode cX7_finish 50 = .ok (.bipush 64, 2) := by decide +kernel
theorem dX7_finish_52 : decode cX7_finish 52 = .ok (.iload_n 3, 1) := by decide +kernel
theorem dX7_finish_53 : decode cX7_finish 53 = .ok (.iadd, 1) := by decide +kernel
theorem dX7_finish_54 : decode cX7_finish 54 = .ok (.laload, 1) := by decide +kernel
theorem dX7_finish_55 : decode cX7_finish 55 = .ok (.ldc2_w 45, 3) := by decide +kernel
theorem dX7_finish_58 : decode cX7_finish 58 = .ok (.lcmp, 1) := by decide +kernel
theorem dX7_finish_59 : decode cX7_finish 59 = .ok (.ifCond .lt 7, 3) := by decide +kernel
theorem dX7_finish_62 : decode cX7_finish 62 = .ok (.iconst 1, 1) := by decide +kernel
theorem dX7_finish_63 : decode cX7_finish 63 = .ok (.goto 4, 3) := by decide +kernel
theorem dX7_finish_66 : decode cX7_finish 66 = .ok (.iconst 0, 1) := by decide +kernel
theorem dX7_finish_67 : decode cX7_finish 67 = .ok (.istore_n 2, 1) := by decide +kernel
theorem dX7_finish_68 : decode cX7_finish 68 = .ok (.iinc 3 1, 3) := by decide +kernel
theorem dX7_finish_71 : decode cX7_finish 71 = .ok (.goto (-51), 3) := by decide +kernel
theorem dX7_finish_74 : decode cX7_finish 74 = .ok (.iload_n 2, 1) := by decide +kernel
theorem dX7_finish_75 : decode cX7_finish 75 = .ok (.ifCond .ne 6, 3) := by decide +kernel
theorem dX7_finish_78 : decode cX7_finish 78 = .ok (.bipush (-2), 2) := by decide +kernel
theorem dX7_finish_80 : decode cX7_finish 80 = .ok (.ireturn, 1) := by decide +kernel
theorem dX7_finish_81 : decode cX7_finish 81 = .ok (.aload_n 0, 1) := by decide +kernel
theorem dX7_finish_82 : decode cX7_finish 82 = .ok (.iload_n 1, 1) := by decide +kernel
theorem dX7_finish_83 : decode cX7_finish 83 = .ok (.bipush 8, 2) := by decide +kernel
theorem dX7_finish_85 : decode cX7_finish 85 = .ok (.invokevirtual 47, 3) := by decide +kernel
theorem dX7_finish_88 : decode cX7_finish 88 = .ok (.aload_n 0, 1) := by decide +kernel
theorem dX7_finish_89 : decode cX7_finish 89 = .ok (.iload_n 1, 1) := by decide +kernel
theorem dX7_finish_90 : decode cX7_finish 90 = .ok (.invokevirtual 39, 3) := by decide +kernel
theorem dX7_finish_93 : decode cX7_finish 93 = .ok (.ireturn, 1) := by decide +kernel
set_option maxRecDepth 20000 in
theorem ggX7_takeContent_X7_gcd : GoodIn wsX7_takeContent wsX7_gcd := goodIn_r _ [5] (by decide +kernel) (by decide +kernel)
set_option maxRecDepth 20000 in
theorem gX7_takeContent_X7_gcd : GoodIn wsX7_takeContent (va_wsS RX7 51 yX7_gcd wsX7_gcd) := goodIn_app (goodIn_of _ (by decide +kernel)) ggX7_takeContent_X7_gcd
set_option maxRecDepth 20000 in
theorem ggX7_takeContent_X7_degreeOf : GoodIn wsX7_takeContent wsX7_degreeOf := goodIn_r _ [9, 1, 10, 11, 12, 13, 14, 15, 16, 17, 18, 19, 20, 21, 22, 23, 24, 25, 26, 27, 28, 29, 30, 31, 32, 33, 34] (by decide +kernel) (by decide +kernel)
set_option maxRecDepth 20000 in
theorem gX7_takeContent_X7_degreeOf : GoodIn wsX7_takeContent (wsV RX7 39 RX7 yX7_degreeOf wsX7_degreeOf) := goodIn_app (goodIn_of _ (by decide +kernel)) ggX7_takeContent_X7_degreeOf
theorem dX7_takeContent_0 : decode cX7_takeContent 0 = .ok (.lconst 0, 1) := by decide +kernel
theorem dX7_takeContent_1 : decode cX7_takeContent 1 = .ok (.lstore_n 2, 1) := by decide +kernel
theorem dX7_takeContent_2 : decode cX7_takeContent 2 = .ok (.iconst 0, 1) := by decide +kernel
theorem dX7_takeContent_3 : decode cX7_takeContent 3 = .ok (.istore 4, 2) := by decide +kernel
theorem dX7_takeContent_5 : decode cX7_takeContent 5 = .ok (.iload 4, 2) := by decide +kernel
theorem dX7_takeContent_7 : decode cX7_takeContent 7 = .ok (.bipush 8, 2) := by decide +kernel
theorem dX7_takeContent_9 : decode cX7_takeContent 9 = .ok (.if_icmp .ge 26, 3) := by decide +kernel
theorem dX7_takeContent_12 : decode cX7_takeContent 12 = .ok (.lload_n 2, 1) := by decide +kernel
theorem dX7_takeContent_13 : decode cX7_takeContent 13 = .ok (.aload_n 0, 1) := by decide +kernel
theorem dX7_takeContent_14 : decode cX7_takeContent 14 = .ok (.getfield 7, 3) := by decide +kernel
theorem dX7_takeContent_17 : decode cX7_takeContent 17 = .ok (.bipush 8, 2) := by decide +kernel
theorem dX7_takeContent_19 : decode cX7_takeContent 19 = .ok (.iload_n 1, 1) := by decide +kernel
theorem dX7_takeContent_20 : decode cX7_takeContent 20 = .ok (.imul, 1) := by decide +kernel
theorem dX7_takeContent_21 : decode cX7_takeContent 21 = .ok (.iload 4, 2) := by decide +kernel
theorem dX7_takeContent_23 : decode cX7_takeContent 23 = .ok (.iadd, 1) := by decide +kernel
theorem dX7_takeContent_24 : decode cX7_takeContent 24 = .ok (.laload, 1) := by decide +kernel
theorem dX7_takeContent_25 : decode cX7_takeContent 25 = .ok (.invokestatic 51, 3) := by decide +kernel
theorem dX7_takeContent_28 : decode cX7_takeContent 28 = .ok (.lstore_n 2, 1) := by decide +kernel
theorem dX7_takeContent_29 : decode cX7_takeContent 29 = .ok (.iinc 4 1, 3) := by decide +kernel
theorem dX7_takeContent_32 : decode cX7_takeContent 32 = .ok (.goto (-27), 3) := by decide +kernel
theorem dX7_takeContent_35 : decode cX7_takeContent 35 = .ok (.aload_n 0, 1) := by decide +kernel
theorem dX7_takeContent_36 : decode cX7_takeContent 36 = .ok (.iload_n 1, 1) := by decide +kernel
theorem dX7_takeContent_37 : decode cX7_takeContent 37 = .ok (.invokevirtual 39, 3) := by decide +kernel
theorem dX7_takeContent_40 : decode cX7_takeContent 40 = .ok (.istore 4, 2) := by decide +kernel
theorem dX7_takeContent_42 : decode cX7_takeContent 42 = .ok (.iload 4, 2) := by decide +kernel
theorem dX7_takeContent_44 : decode cX7_takeContent 44 = .ok (.ifCond .lt 25, 3) := by decide +kernel
theorem dX7_takeContent_47 : decode cX7_takeContent 47 = .ok (.aload_n 0, 1) := by decide +kernel
theorem dX7_takeContent_48 : decode cX7_takeContent 48 = .ok (.getfield 7, 3) := by decide +kernel
theorem dX7_takeContent_51 : decode cX7_takeContent 51 = .ok (.bipush 8, 2) := by decide +kernel
theorem dX7_takeContent_53 : decode cX7_takeContent 53 = .ok (.iload_n 1, 1) := by decide +kernel
theorem dX7_takeContent_54 : decode cX7_takeContent 54 = .ok (.imul, 1) := by decide +kernel
theorem dX7_takeContent_55 : decode cX7_takeContent 55 = .ok (.iload 4, 2) := by decide +kernel
theorem dX7_takeContent_57 : decode cX7_takeContent 57 = .ok (.iadd, 1) := by decide +kernel
theorem dX7_takeContent_58 : decode cX7_takeContent 58 = .ok (.laload, 1) := by decide +kernel
theorem dX7_takeContent_59 : decode cX7_takeContent 59 = .ok (.lconst 0, 1) := by decide +kernel
theorem dX7_takeContent_60 : decode cX7_takeContent 60 = .ok (.lcmp, 1) := by decide +kernel
theorem dX7_takeContent_61 : decode cX7_takeContent 61 = .ok (.ifCond .ge 8, 3) := by decide +kernel
theorem dX7_takeContent_64 : decode cX7_takeContent 64 = .ok (.lload_n 2, 1) := by decide +kernel
theorem dX7_takeContent_65 : decode cX7_takeContent 65 = .ok (.lneg, 1) := by decide +kernel
theorem dX7_takeContent_66 : decode cX7_takeContent 66 = .ok (.goto 4, 3) := by decide +kernel
theorem dX7_takeContent_69 : decode cX7_takeContent 69 = .ok (.lload_n 2, 1) := by decide +kernel
theorem dX7_takeContent_70 : decode cX7_takeContent 70 = .ok (.lstore_n 2, 1) := by decide +kernel
theorem dX7_takeContent_71 : decode cX7_takeContent 71 = .ok (.iconst 0, 1) := by decide +kernel
theorem dX7_takeContent_72 : decode cX7_takeContent 72 = .ok (.istore 5, 2) := by decide +kernel
theorem dX7_takeContent_74 : decode cX7_takeContent 74 = .ok (.iload 5, 2) := by decide +kernel
theorem dX7_takeContent_76 : decode cX7_takeContent 76 = .ok (.bipush 8, 2) := by decide +kernel
theorem dX7_takeContent_78 : decode cX7_takeContent 78 = .ok (.if_icmp .ge 41, 3) := by decide +kernel
theorem dX7_takeContent_81 : decode cX7_takeContent 81 = .ok (.lload_n 2, 1) := by decide +kernel
theorem dX7_takeContent_82 : decode cX7_takeContent 82 = .ok (.lconst 0, 1) := by decide +kernel
theorem dX7_takeContent_83 : decode cX7_takeContent 83 = .ok (.lcmp, 1) := by decide +kernel
theorem dX7_takeContent_84 : decode cX7_takeContent 84 = .ok (.ifCond .eq 35, 3) := by decide +kernel
theorem dX7_takeContent_87 : decode cX7_takeContent 87 = .ok (.aload_n 0, 1) := by decide +kernel
theorem dX7_takeContent_88 : decode cX7_takeContent 88 = .ok (.getfield 7, 3) := by decide +kernel
theorem dX7_takeContent_91 : decode cX7_takeContent 91 = .ok (.bipush 8, 2) := by decide +kernel
theorem dX7_takeContent_93 : decode cX7_takeContent 93 = .ok (.iload_n 1, 1) := by decide +kernel
theorem dX7_takeContent_94 : decode cX7_takeContent 94 = .ok (.imul, 1) := by decide +kernel
theorem dX7_takeContent_95 : decode cX7_takeContent 95 = .ok (.iload 5, 2) := by decide +kernel
theorem dX7_takeContent_97 : decode cX7_takeContent 97 = .ok (.iadd, 1) := by decide +kernel
theorem dX7_takeContent_98 : decode cX7_takeContent 98 = .ok (.aload_n 0, 1) := by decide +kernel
theorem dX7_takeContent_99 : decode cX7_takeContent 99 = .ok (.getfield 7, 3) := by decide +kernel
theorem dX7_takeContent_102 : decode cX7_takeContent 102 = .ok (.bipush 8, 2) := by decide +kernel
theorem dX7_takeContent_104 : decode cX7_takeContent 104 = .ok (.iload_n 1, 1) := by decide +kernel
theorem dX7_takeContent_105 : decode cX7_takeContent 105 = .ok (.imul, 1) := by decide +kernel
theorem dX7_takeContent_106 : decode cX7_takeContent 106 = .ok (.iload 5, 2) := by decide +kernel
theorem dX7_takeContent_108 : decode cX7_takeContent 108 = .ok (.iadd, 1) := by decide +kernel
theorem dX7_takeContent_109 : decode cX7_takeContent 109 = .ok (.laload, 1) := by decide +kernel
theorem dX7_takeContent_110 : decode cX7_takeContent 110 = .ok (.lload_n 2, 1) := by decide +kernel
theorem dX7_takeContent_111 : decode cX7_takeContent 111 = .ok (.ldiv, 1) := by decide +kernel
theorem dX7_takeContent_112 : decode cX7_takeContent 112 = .ok (.lastore, 1) := by decide +kernel
theorem dX7_takeContent_113 : decode cX7_takeContent 113 = .ok (.iinc 5 1, 3) := by decide +kernel
theorem dX7_takeContent_116 : decode cX7_takeContent 116 = .ok (.goto (-42), 3) := by decide +kernel
theorem dX7_takeContent_119 : decode cX7_takeContent 119 = .ok (.lload_n 2, 1) := by decide +kernel
theorem dX7_takeContent_120 : decode cX7_takeContent 120 = .ok (.lreturn, 1) := by decide +kernel
set_option maxRecDepth 20000 in
theorem ggX7_divides_X7_copy : GoodIn wsX7_divides wsX7_copy := goodIn_r _ [6, 1, 19, 20, 21, 22, 23, 24, 25, 26, 27, 28, 29, 30, 31, 32, 33, 34, 35, 36, 37, 38, 39, 40, 41, 42, 43] (by decide +kernel) (by decide +kernel)
set_option maxRecDepth 20000 in
theorem gX7_divides_X7_copy : GoodIn wsX7_divides (wsV RX7 47 RX7 yX7_copy wsX7_copy) := goodIn_app (goodIn_of _ (by decide +kernel)) ggX7_divides_X7_copy
set_option maxRecDepth 20000 in
theorem ggX7_divides_X7_clear : GoodIn wsX7_divides wsX7_clear := goodIn_r _ [10, 1, 19, 20, 21, 22, 23, 24, 25, 26, 27, 28, 29, 30, 31, 32, 33, 34, 35, 36, 37, 38, 39, 40, 41, 42, 43] (by decide +kernel) (by decide +kernel)
set_option maxRecDepth 20000 in
theorem gX7_divides_X7_clear : GoodIn wsX7_divides (wsV RX7 55 RX7 yX7_clear wsX7_clear) := goodIn_app (goodIn_of _ (by decide +kernel)) ggX7_divides_X7_clear
set_option maxRecDepth 20000 in
theorem ggX7_divides_X7_degreeOf : GoodIn wsX7_divides wsX7_degreeOf := goodIn_r _ [14, 1, 19, 20, 21, 22, 23, 24, 25, 26, 27, 28, 29, 30, 31, 32, 33, 34, 35, 36, 37, 38, 39, 40, 41, 42, 43] (by decide +kernel) (by decide +kernel)
set_option maxRecDepth 20000 in
theorem gX7_divides_X7_degreeOf : GoodIn wsX7_divides (wsV RX7 39 RX7 yX7_degreeOf wsX7_degreeOf) := goodIn_app (goodIn_of _ (by decide +kernel)) ggX7_divides_X7_degreeOf
set_option maxRecDepth 20000 in
theorem ggX7_divides_X7_isZero : GoodIn wsX7_divides wsX7_isZero := goodIn_r _ [18, 11, 12, 13, 5, 14, 1, 19, 20, 21, 22, 23, 24, 25, 26, 27, 28, 29, 30, 31, 32, 33, 34, 35, 36, 37, 38, 39, 40, 41, 42, 43] (by decide +kernel) (by decide +kernel)
set_option maxRecDepth 20000 in
theorem gX7_divides_X7_isZero : GoodIn wsX7_divides (wsV RX7 59 RX7 yX7_isZero wsX7_isZero) := goodIn_app (goodIn_of _ (by decide +kernel)) ggX7_divides_X7_isZero
theorem dX7_divides_0 : decode cX7_divides 0 = .ok (.aload_n 0, 1) := by decide +kernel
theorem dX7_divides_1 : decode cX7_divides 1 = .ok (.bipush 9, 2) := by decide +kernel
theorem dX7_divides_3 : decode cX7_divides 3 = .ok (.iload_n 2, 1) := by decide +kernel
theorem dX7_divides_4 : decode cX7_divides 4 = .ok (.invokevirtual 47, 3) := by decide +kernel
theorem dX7_divides_7 : decode cX7_divides 7 = .ok (.aload_n 0, 1) := by decide +kernel
theorem dX7_divides_8 : decode cX7_divides 8 = .ok (.bipush 11, 2) := by decide +kernel
theorem dX7_divides_10 : decode cX7_divides 10 = .ok (.invokevirtual 55, 3) := by decide +kernel
theorem dX7_divides_13 : decode cX7_divides 13 = .ok (.aload_n 0, 1) := by decide +kernel
theorem dX7_divides_14 : decode cX7_divides 14 = .ok (.iload_n 1, 1) := by decide +kernel
theorem dX7_divides_15 : decode cX7_divides 15 = .ok (.invokevirtual 39, 3) := by decide +kernel
theorem dX7_divides_18 : decode cX7_divides 18 = .ok (.istore_n 3, 1) := by decide +kernel
theorem dX7_divides_19 : decode cX7_divides 19 = .ok (.aload_n 0, 1) := by decide +kernel
theorem dX7_divides_20 : decode cX7_divides 20 = .ok (.getfield 7, 3) := by decide +kernel
theorem dX7_divides_23 : decode cX7_divides 23 = .ok (.bipush 8, 2) := by decide +kernel
theorem dX7_divides_25 : decode cX7_divides 25 = .ok (.iload_n 1, 1) := by decide +kernel
theorem dX7_divides_26 : decode cX7_divides 26 = .ok (.imul, 1) := by decide +kernel
theorem dX7_divides_27 : decode cX7_divides 27 = .ok (.iload_n 3, 1) := by decide +kernel
theorem dX7_divides_28 : decode cX7_divides 28 = .ok (.iadd, 1) := by decide +kernel
theorem dX7_divides_29 : decode cX7_divides 29 = .ok (.laload, 1) := by decide +kernel
theorem dX7_divides_30 : decode cX7_divides 30 = .ok (.lstore 4, 2) := by decide +kernel
theorem dX7_divides_32 : decode cX7_divides 32 = .ok (.aload_n 0, 1) := by decide +kernel
theorem dX7_divides_33 : decode cX7_divides 33 = .ok (.iload_n 2, 1) := by decide +kernel
theorem dX7_divides_34 : decode cX7_divides 34 = .ok (.invokevirtual 39, 3) := by decide +kernel
theorem dX7_divides_37 : decode cX7_divides 37 = .ok (.iload_n 3, 1) := by decide +kernel
theorem dX7_divides_38 : decode cX7_divides 38 = .ok (.isub, 1) := by decide +kernel
theorem dX7_divides_39 : decode cX7_divides 39 = .ok (.istore 6, 2) := by decide +kernel
theorem dX7_divides_41 : decode cX7_divides 41 = .ok (.iload 6, 2) := by decide +kernel
theorem dX7_divides_43 : decode cX7_divides 43 = .ok (.ifCond .lt 111, 3) := by decide +kernel
theorem dX7_divides_46 : decode cX7_divides 46 = .ok (.aload_n 0, 1) := by decide +kernel
theorem dX7_divides_47 : decode cX7_divides 47 = .ok (.getfield 7, 3) := by decide +kernel
theorem dX7_divides_50 : decode cX7_divides 50 = .ok (.bipush 72, 2) := by decide +kernel
theorem dX7_divides_52 : decode cX7_divides 52 = .ok (.iload 6, 2) := by decide +kernel
theorem dX7_divides_54 : decode cX7_divides 54 = .ok (.iadd, 1) := by decide +kernel
theorem dX7_divides_55 : decode cX7_divides 55 = .ok (.iload_n 3, 1) := by decide +kernel
theorem dX7_divides_56 : decode cX7_divides 56 = .ok (.iadd, 1) := by decide +kernel
theorem dX7_divides_57 : decode cX7_divides 57 = .ok (.laload, 1) := by decide +kernel
theorem dX7_divides_58 : decode cX7_divides 58 = .ok (.lstore 7, 2) := by decide +kernel
theorem dX7_divides_60 : decode cX7_divides 60 = .ok (.lload 7, 2) := by decide +kernel
