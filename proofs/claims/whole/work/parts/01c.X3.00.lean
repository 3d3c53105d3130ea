set_option maxRecDepth 20000 in
theorem ggX3_init_X4_init : GoodIn wsX3_init wsX4_init := goodIn_r _ [14, 15, 2, 3, 6, 16, 17, 22, 23] (by decide +kernel) (by decide +kernel)
set_option maxRecDepth 20000 in
theorem gX3_init_X4_init_n23 : GoodIn wsX3_init (wsX4_init) := ggX3_init_X4_init
theorem dX3_init_0 : decode cX3_init 0 = .ok (.aload_n 0, 1) := by decide +kernel
theorem dX3_init_1 : decode cX3_init 1 = .ok (.invokespecial 3, 3) := by decide +kernel
theorem dX3_init_4 : decode cX3_init 4 = .ok (.aload_n 0, 1) := by decide +kernel
theorem dX3_init_5 : decode cX3_init 5 = .ok (.ldc2_w 9, 3) := by decide +kernel
theorem dX3_init_8 : decode cX3_init 8 = .ok (.putfield 11, 3) := by decide +kernel
theorem dX3_init_11 : decode cX3_init 11 = .ok (.aload_n 0, 1) := by decide +kernel
theorem dX3_init_12 : decode cX3_init 12 = .ok (.bipush 13, 2) := by decide +kernel
theorem dX3_init_14 : decode cX3_init 14 = .ok (.newarray .long, 2) := by decide +kernel
theorem dX3_init_16 : decode cX3_init 16 = .ok (.putfield 17, 3) := by decide +kernel
theorem dX3_init_19 : decode cX3_init 19 = .ok (.aload_n 0, 1) := by decide +kernel
theorem dX3_init_20 : decode cX3_init 20 = .ok (.new 21, 3) := by decide +kernel
theorem dX3_init_23 : decode cX3_init 23 = .ok (.dup, 1) := by decide +kernel
theorem dX3_init_24 : decode cX3_init 24 = .ok (.invokespecial 23, 3) := by decide +kernel
theorem dX3_init_27 : decode cX3_init 27 = .ok (.putfield 24, 3) := by decide +kernel
theorem dX3_init_30 : decode cX3_init 30 = .ok (.aload_n 0, 1) := by decide +kernel
theorem dX3_init_31 : decode cX3_init 31 = .ok (.new 21, 3) := by decide +kernel
theorem dX3_init_34 : decode cX3_init 34 = .ok (.dup, 1) := by decide +kernel
theorem dX3_init_35 : decode cX3_init 35 = .ok (.invokespecial 23, 3) := by decide +kernel
theorem dX3_init_38 : decode cX3_init 38 = .ok (.putfield 28, 3) := by decide +kernel
theorem dX3_init_41 : decode cX3_init 41 = .ok (.return_, 1) := by decide +kernel
theorem dX3_useModulus_0 : decode cX3_useModulus 0 = .ok (.aload_n 0, 1) := by decide +kernel
theorem dX3_useModulus_1 : decode cX3_useModulus 1 = .ok (.lload_n 1, 1) := by decide +kernel
theorem dX3_useModulus_2 : decode cX3_useModulus 2 = .ok (.ldc2_w 9, 3) := by decide +kernel
theorem dX3_useModulus_5 : decode cX3_useModulus 5 = .ok (.lcmp, 1) := by decide +kernel
theorem dX3_useModulus_6 : decode cX3_useModulus 6 = .ok (.ifCond .ge 9, 3) := by decide +kernel
theorem dX3_useModulus_9 : decode cX3_useModulus 9 = .ok (.ldc2_w 9, 3) := by decide +kernel
theorem dX3_useModulus_12 : decode cX3_useModulus 12 = .ok (.goto 4, 3) := by decide +kernel
theorem dX3_useModulus_15 : decode cX3_useModulus 15 = .ok (.lload_n 1, 1) := by decide +kernel
theorem dX3_useModulus_16 : decode cX3_useModulus 16 = .ok (.putfield 11, 3) := by decide +kernel
theorem dX3_useModulus_19 : decode cX3_useModulus 19 = .ok (.return_, 1) := by decide +kernel
set_option maxRecDepth 20000 in
theorem ggX3_reduce_J9_floorMod_f86c9 : GoodIn wsX3_reduce wsJ9_floorMod_f86c9 := goodIn_r _ [6] (by decide +kernel) (by decide +kernel)
set_option maxRecDepth 20000 in
theorem gX3_reduce_J9_floorMod_f86c9 : GoodIn wsX3_reduce (va_wsS RX3 34 yJ9_floorMod_f86c9 wsJ9_floorMod_f86c9) := goodIn_app (goodIn_of _ (by decide +kernel)) ggX3_reduce_J9_floorMod_f86c9
set_option maxRecDepth 20000 in
theorem ggX3_reduce_X4_settle : GoodIn wsX3_reduce wsX4_settle := goodIn_r _ [11, 12, 13, 14, 15] (by decide +kernel) (by decide +kernel)
set_option maxRecDepth 20000 in
theorem gX3_reduce_X4_settle : GoodIn wsX3_reduce (wsV RX3 40 RX4 yX4_settle wsX4_settle) := goodIn_app (goodIn_of _ (by decide +kernel)) ggX3_reduce_X4_settle
theorem dX3_reduce_0 : decode cX3_reduce 0 = .ok (.iconst 0, 1) := by decide +kernel
theorem dX3_reduce_1 : decode cX3_reduce 1 = .ok (.istore_n 3, 1) := by decide +kernel
theorem dX3_reduce_2 : decode cX3_reduce 2 = .ok (.iload_n 3, 1) := by decide +kernel
theorem dX3_reduce_3 : decode cX3_reduce 3 = .ok (.bipush 13, 2) := by decide +kernel
theorem dX3_reduce_5 : decode cX3_reduce 5 = .ok (.if_icmp .ge 28, 3) := by decide +kernel
theorem dX3_reduce_8 : decode cX3_reduce 8 = .ok (.aload_n 1, 1) := by decide +kernel
theorem dX3_reduce_9 : decode cX3_reduce 9 = .ok (.getfield 31, 3) := by decide +kernel
theorem dX3_reduce_12 : decode cX3_reduce 12 = .ok (.iload_n 3, 1) := by decide +kernel
theorem dX3_reduce_13 : decode cX3_reduce 13 = .ok (.aload_n 2, 1) := by decide +kernel
theorem dX3_reduce_14 : decode cX3_reduce 14 = .ok (.getfield 31, 3) := by decide +kernel
theorem dX3_reduce_17 : decode cX3_reduce 17 = .ok (.iload_n 3, 1) := by decide +kernel
theorem dX3_reduce_18 : decode cX3_reduce 18 = .ok (.laload, 1) := by decide +kernel
theorem dX3_reduce_19 : decode cX3_reduce 19 = .ok (.aload_n 0, 1) := by decide +kernel
theorem dX3_reduce_20 : decode cX3_reduce 20 = .ok (.getfield 11, 3) := by decide +kernel
theorem dX3_reduce_23 : decode cX3_reduce 23 = .ok (.invokestatic 34, 3) := by decide +kernel
theorem dX3_reduce_26 : decode cX3_reduce 26 = .ok (.lastore, 1) := by decide +kernel
theorem dX3_reduce_27 : decode cX3_reduce 27 = .ok (.iinc 3 1, 3) := by decide +kernel
theorem dX3_reduce_30 : decode cX3_reduce 30 = .ok (.goto (-28), 3) := by decide +kernel
theorem dX3_reduce_33 : decode cX3_reduce 33 = .ok (.aload_n 1, 1) := by decide +kernel
theorem dX3_reduce_34 : decode cX3_reduce 34 = .ok (.invokevirtual 40, 3) := by decide +kernel
theorem dX3_reduce_37 : decode cX3_reduce 37 = .ok (.return_, 1) := by decide +kernel
set_option maxRecDepth 20000 in
theorem ggX3_lift_X3_reduce : GoodIn wsX3_lift wsX3_reduce := goodIn_r _ [9, 2, 3, 10, 11, 12, 13, 14, 15, 16, 17, 18, 19, 20, 21, 22, 23, 24, 25, 26] (by decide +kernel) (by decide +kernel)
set_option maxRecDepth 20000 in
theorem gX3_lift_X3_reduce : GoodIn wsX3_lift (wsV RX3 43 RX3 yX3_reduce wsX3_reduce) := goodIn_app (goodIn_of _ (by decide +kernel)) ggX3_lift_X3_reduce
theorem dX3_lift_0 : decode cX3_lift 0 = .ok (.aload_n 0, 1) := by decide +kernel
theorem dX3_lift_1 : decode cX3_lift 1 = .ok (.aload_n 1, 1) := by decide +kernel
theorem dX3_lift_2 : decode cX3_lift 2 = .ok (.aload_n 2, 1) := by decide +kernel
theorem dX3_lift_3 : decode cX3_lift 3 = .ok (.invokevirtual 43, 3) := by decide +kernel
theorem dX3_lift_6 : decode cX3_lift 6 = .ok (.iconst 0, 1) := by decide +kernel
theorem dX3_lift_7 : decode cX3_lift 7 = .ok (.istore_n 3, 1) := by decide +kernel
theorem dX3_lift_8 : decode cX3_lift 8 = .ok (.iload_n 3, 1) := by decide +kernel
theorem dX3_lift_9 : decode cX3_lift 9 = .ok (.aload_n 1, 1) := by decide +kernel
theorem dX3_lift_10 : decode cX3_lift 10 = .ok (.getfield 47, 3) := by decide +kernel
theorem dX3_lift_13 : decode cX3_lift 13 = .ok (.if_icmp .gt 40, 3) := by decide +kernel
theorem dX3_lift_16 : decode cX3_lift 16 = .ok (.aload_n 1, 1) := by decide +kernel
theorem dX3_lift_17 : decode cX3_lift 17 = .ok (.getfield 31, 3) := by decide +kernel
theorem dX3_lift_20 : decode cX3_lift 20 = .ok (.iload_n 3, 1) := by decide +kernel
theorem dX3_lift_21 : decode cX3_lift 21 = .ok (.laload, 1) := by decide +kernel
theorem dX3_lift_22 : decode cX3_lift 22 = .ok (.aload_n 0, 1) := by decide +kernel
theorem dX3_lift_23 : decode cX3_lift 23 = .ok (.getfield 11, 3) := by decide +kernel
theorem dX3_lift_26 : decode cX3_lift 26 = .ok (.ldc2_w 9, 3) := by decide +kernel
theorem dX3_lift_29 : decode cX3_lift 29 = .ok (.ldiv, 1) := by decide +kernel
theorem dX3_lift_30 : decode cX3_lift 30 = .ok (.lcmp, 1) := by decide +kernel
theorem dX3_lift_31 : decode cX3_lift 31 = .ok (.ifCond .le 16, 3) := by decide +kernel
theorem dX3_lift_34 : decode cX3_lift 34 = .ok (.aload_n 1, 1) := by decide +kernel
theorem dX3_lift_35 : decode cX3_lift 35 = .ok (.getfield 31, 3) := by decide +kernel
theorem dX3_lift_38 : decode cX3_lift 38 = .ok (.iload_n 3, 1) := by decide +kernel
theorem dX3_lift_39 : decode cX3_lift 39 = .ok (.dup2, 1) := by decide +kernel
theorem dX3_lift_40 : decode cX3_lift 40 = .ok (.laload, 1) := by decide +kernel
theorem dX3_lift_41 : decode cX3_lift 41 = .ok (.aload_n 0, 1) := by decide +kernel
theorem dX3_lift_42 : decode cX3_lift 42 = .ok (.getfield 11, 3) := by decide +kernel
theorem dX3_lift_45 : decode cX3_lift 45 = .ok (.lsub, 1) := by decide +kernel
theorem dX3_lift_46 : decode cX3_lift 46 = .ok (.lastore, 1) := by decide +kernel
theorem dX3_lift_47 : decode cX3_lift 47 = .ok (.iinc 3 1, 3) := by decide +kernel
theorem dX3_lift_50 : decode cX3_lift 50 = .ok (.goto (-42), 3) := by decide +kernel
theorem dX3_lift_53 : decode cX3_lift 53 = .ok (.return_, 1) := by decide +kernel
set_option maxRecDepth 20000 in
theorem ggX3_makeMonic_X4_lead : GoodIn wsX3_makeMonic wsX4_lead := goodIn_r _ [8, 9, 10, 11, 12, 7, 13, 14, 20, 21] (by decide +kernel) (by decide +kernel)
set_option maxRecDepth 20000 in
theorem gX3_makeMonic_X4_lead : GoodIn wsX3_makeMonic (wsV RX3 51 RX4 yX4_lead wsX4_lead) := goodIn_app (goodIn_of _ (by decide +kernel)) ggX3_makeMonic_X4_lead
set_option maxRecDepth 20000 in
theorem ggX3_makeMonic_X3_inverse : GoodIn wsX3_makeMonic wsX3_inverse := goodIn_r _ [19, 3, 22, 23, 24, 25] (by decide +kernel) (by decide +kernel)
set_option maxRecDepth 20000 in
theorem gX3_makeMonic_X3_inverse : GoodIn wsX3_makeMonic (wsV RX3 55 RX3 yX3_inverse wsX3_inverse) := goodIn_app (goodIn_of _ (by decide +kernel)) ggX3_makeMonic_X3_inverse
theorem dX3_makeMonic_0 : decode cX3_makeMonic 0 = .ok (.aload_n 1, 1) := by decide +kernel
theorem dX3_makeMonic_1 : decode cX3_makeMonic 1 = .ok (.invokevirtual 51, 3) := by decide +kernel
theorem dX3_makeMonic_4 : decode cX3_makeMonic 4 = .ok (.lconst 1, 1) := by decide +kernel
theorem dX3_makeMonic_5 : decode cX3_makeMonic 5 = .ok (.lcmp, 1) := by decide +kernel
theorem dX3_makeMonic_6 : decode cX3_makeMonic 6 = .ok (.ifCond .ne 4, 3) := by decide +kernel
theorem dX3_makeMonic_9 : decode cX3_makeMonic 9 = .ok (.return_, 1) := by decide +kernel
theorem dX3_makeMonic_10 : decode cX3_makeMonic 10 = .ok (.aload_n 0, 1) := by decide +kernel
theorem dX3_makeMonic_11 : decode cX3_makeMonic 11 = .ok (.aload_n 1, 1) := by decide +kernel
theorem dX3_makeMonic_12 : decode cX3_makeMonic 12 = .ok (.invokevirtual 51, 3) := by decide +kernel
theorem dX3_makeMonic_15 : decode cX3_makeMonic 15 = .ok (.invokevirtual 55, 3) := by decide +kernel
theorem dX3_makeMonic_18 : decode cX3_makeMonic 18 = .ok (.lstore_n 2, 1) := by decide +kernel
theorem dX3_makeMonic_19 : decode cX3_makeMonic 19 = .ok (.iconst 0, 1) := by decide +kernel
theorem dX3_makeMonic_20 : decode cX3_makeMonic 20 = .ok (.istore 4, 2) := by decide +kernel
theorem dX3_makeMonic_22 : decode cX3_makeMonic 22 = .ok (.iload 4, 2) := by decide +kernel
theorem dX3_makeMonic_24 : decode cX3_makeMonic 24 = .ok (.aload_n 1, 1) := by decide +kernel
theorem dX3_makeMonic_25 : decode cX3_makeMonic 25 = .ok (.getfield 47, 3) := by decide +kernel
theorem dX3_makeMonic_28 : decode cX3_makeMonic 28 = .ok (.if_icmp .gt 30, 3) := by decide +kernel
theorem dX3_makeMonic_31 : decode cX3_makeMonic 31 = .ok (.aload_n 1, 1) := by decide +kernel
theorem dX3_makeMonic_32 : decode cX3_makeMonic 32 = .ok (.getfield 31, 3) := by decide +kernel
theorem dX3_makeMonic_35 : decode cX3_makeMonic 35 = .ok (.iload 4, 2) := by decide +kernel
theorem dX3_makeMonic_37 : decode cX3_makeMonic 37 = .ok (.aload_n 1, 1) := by decide +kernel
theorem dX3_makeMonic_38 : decode cX3_makeMonic 38 = .ok (.getfield 31, 3) := by decide +kernel
theorem dX3_makeMonic_41 : decode cX3_makeMonic 41 = .ok (.iload 4, 2) := by decide +kernel
theorem dX3_makeMonic_43 : decode cX3_makeMonic 43 = .ok (.laload, 1) := by decide +kernel
theorem dX3_makeMonic_44 : decode cX3_makeMonic 44 = .ok (.lload_n 2, 1) := by decide +kernel
theorem dX3_makeMonic_45 : decode cX3_makeMonic 45 = .ok (.lmul, 1) := by decide +kernel
theorem dX3_makeMonic_46 : decode cX3_makeMonic 46 = .ok (.aload_n 0, 1) := by decide +kernel
theorem dX3_makeMonic_47 : decode cX3_makeMonic 47 = .ok (.getfield 11, 3) := by decide +kernel
theorem dX3_makeMonic_50 : decode cX3_makeMonic 50 = .ok (.lrem, 1) := by decide +kernel
theorem dX3_makeMonic_51 : decode cX3_makeMonic 51 = .ok (.lastore, 1) := by decide +kernel
theorem dX3_makeMonic_52 : decode cX3_makeMonic 52 = .ok (.iinc 4 1, 3) := by decide +kernel
theorem dX3_makeMonic_55 : decode cX3_makeMonic 55 = .ok (.goto (-33), 3) := by decide +kernel
theorem dX3_makeMonic_58 : decode cX3_makeMonic 58 = .ok (.return_, 1) := by decide +kernel
theorem dX3_inverse_0 : decode cX3_inverse 0 = .ok (.aload_n 0, 1) := by decide +kernel
theorem dX3_inverse_1 : decode cX3_inverse 1 = .ok (.getfield 11, 3) := by decide +kernel
theorem dX3_inverse_4 : decode cX3_inverse 4 = .ok (.lstore_n 3, 1) := by decide +kernel
theorem dX3_inverse_5 : decode cX3_inverse 5 = .ok (.lload_n 1, 1) := by decide +kernel
theorem dX3_inverse_6 : decode cX3_inverse 6 = .ok (.lstore 5, 2) := by decide +kernel
theorem dX3_inverse_8 : decode cX3_inverse 8 = .ok (.lconst 0, 1) := by decide +kernel
theorem dX3_inverse_9 : decode cX3_inverse 9 = .ok (.lstore 7, 2) := by decide +kernel
theorem dX3_inverse_11 : decode cX3_inverse 11 = .ok (.lconst 1, 1) := by decide +kernel
theorem dX3_inverse_12 : decode cX3_inverse 12 = .ok (.lstore 9, 2) := by decide +kernel
theorem dX3_inverse_14 : decode cX3_inverse 14 = .ok (.iconst 0, 1) := by decide +kernel
theorem dX3_inverse_15 : decode cX3_inverse 15 = .ok (.istore 11, 2) := by decide +kernel
theorem dX3_inverse_17 : decode cX3_inverse 17 = .ok (.iload 11, 2) := by decide +kernel
theorem dX3_inverse_19 : decode cX3_inverse 19 = .ok (.bipush 100, 2) := by decide +kernel
theorem dX3_inverse_21 : decode cX3_inverse 21 = .ok (.if_icmp .ge 56, 3) := by decide +kernel
theorem dX3_inverse_24 : decode cX3_inverse 24 = .ok (.lload 5, 2) := by decide +kernel
theorem dX3_inverse_26 : decode cX3_inverse 26 = .ok (.lconst 0, 1) := by decide +kernel
theorem dX3_inverse_27 : decode cX3_inverse 27 = .ok (.lcmp, 1) := by decide +kernel
theorem dX3_inverse_28 : decode cX3_inverse 28 = .ok (.ifCond .eq 49, 3) := by decide +kernel
theorem dX3_inverse_31 : decode cX3_inverse 31 = .ok (.lload_n 3, 1) := by decide +kernel
theorem dX3_inverse_32 : decode cX3_inverse 32 = .ok (.lload 5, 2) := by decide +kernel
theorem dX3_inverse_34 : decode cX3_inverse 34 = .ok (.ldiv, 1) := by decide +kernel
theorem dX3_inverse_35 : decode cX3_inverse 35 = .ok (.lstore 12, 2) := by decide +kernel
theorem dX3_inverse_37 : decode cX3_inverse 37 = .ok (.lload_n 3, 1) := by decide +kernel
theorem dX3_inverse_38 : decode cX3_inverse 38 = .ok (.lload 12, 2) := by decide +kernel
theorem dX3_inverse_40 : decode cX3_inverse 40 = .ok (.lload 5, 2) := by decide +kernel
theorem dX3_inverse_42 : decode cX3_inverse 42 = .ok (.lmul, 1) := by decide +kernel
theorem dX3_inverse_43 : decode cX3_inverse 43 = .ok (.lsub, 1) := by decide +kernel
theorem dX3_inverse_44 : decode cX3_inverse 44 = .ok (.lstore 14, 2) := by decide +kernel
theorem dX3_inverse_46 : decode cX3_inverse 46 = .ok (.lload 5, 2) := by decide +kernel
theorem dX3_inverse_48 : decode cX3_inverse 48 = .ok (.lstore_n 3, 1) := by decide +kernel
theorem dX3_inverse_49 : decode cX3_inverse 49 = .ok (.lload 14, 2) := by decide +kernel
theorem dX3_inverse_51 : decode cX3_inverse 51 = .ok (.lstore 5, 2) := by decide +kernel
theorem dX3_inverse_53 : decode cX3_inverse 53 = .ok (.lload 7, 2) := by decide +kernel
theorem dX3_inverse_55 : decode cX3_inverse 55 = .ok (.lload 12, 2) := by decide +kernel
theorem dX3_inverse_57 : decode cX3_inverse 57 = .ok (.lload 9, 2) := by decide +kernel
theorem dX3_inverse_59 : decode cX3_inverse 59 = .ok (.lmul, 1) := by decide +kernel
theorem dX3_inverse_60 : decode cX3_inverse 60 = .ok (.lsub, 1) := by decide +kernel
theorem dX3_inverse_61 : decode cX3_inverse 61 = .ok (.lstore 16, 2) := by decide +kernel
theorem dX3_inverse_63 : decode cX3_inverse 63 = .ok (.lload 9, 2) := by decide +kernel
theorem dX3_inverse_65 : decode cX3_inverse 65 = .ok (.lstore 7, 2) := by decide +kernel
theorem dX3_inverse_67 : decode cX3_inverse 67 = .ok (.lload 16, 2) := by decide +kernel
theorem dX3_inverse_69 : decode cX3_inverse 69 = .ok (.lstore 9, 2) := by decide +kernel
theorem dX3_inverse_71 : decode cX3_inverse 71 = .ok (.iinc 11 1, 3) := by decide +kernel
theorem dX3_inverse_74 : decode cX3_inverse 74 = .ok (.goto (-57), 3) := by decide +kernel
theorem dX3_inverse_77 : decode cX3_inverse 77 = .ok (.lload 7, 2) := by decide +kernel
theorem dX3_inverse_79 : decode cX3_inverse 79 = .ok (.lconst 0, 1) := by decide +kernel
theorem dX3_inverse_80 : decode cX3_inverse 80 = .ok (.lcmp, 1) := by decide +kernel
theorem dX3_inverse_81 : decode cX3_inverse 81 = .ok (.ifCond .ge 13, 3) := by decide +kernel
theorem dX3_inverse_84 : decode cX3_inverse 84 = .ok (.lload 7, 2) := by decide +kernel
theorem dX3_inverse_86 : decode cX3_inverse 86 = .ok (.aload_n 0, 1) := by decide +kernel
theorem dX3_inverse_87 : decode cX3_inverse 87 = .ok (.getfield 11, 3) := by decide +kernel
theorem dX3_inverse_90 : decode cX3_inverse 90 = .ok (.ladd, 1) := by decide +kernel
theorem dX3_inverse_91 : decode cX3_inverse 91 = .ok (.goto 5, 3) := by decide +kernel
theorem dX3_inverse_94 : decode cX3_inverse 94 = .ok (.lload 7, 2) := by decide +kernel
theorem dX3_inverse_96 : decode cX3_inverse 96 = .ok (.lreturn, 1) := by decide +kernel
set_option maxRecDepth 20000 in
theorem ggX3_addAt_J9_floorMod_f86c9 : GoodIn wsX3_addAt wsJ9_floorMod_f86c9 := goodIn_r _ [6] (by decide +kernel) (by decide +kernel)
set_option maxRecDepth 20000 in
theorem gX3_addAt_J9_floorMod_f86c9 : GoodIn wsX3_addAt (va_wsS RX3 34 yJ9_floorMod_f86c9 wsJ9_floorMod_f86c9) := goodIn_app (goodIn_of _ (by decide +kernel)) ggX3_addAt_J9_floorMod_f86c9
set_option maxRecDepth 20000 in
theorem ggX3_addAt_X4_settle : GoodIn wsX3_addAt wsX4_settle := goodIn_r _ [11, 12, 13, 14, 15] (by decide +kernel) (by decide +kernel)
set_option maxRecDepth 20000 in
theorem gX3_addAt_X4_settle : GoodIn wsX3_addAt (wsV RX3 40 RX4 yX4_settle wsX4_settle) := goodIn_app (goodIn_of _ (by decide +kernel)) ggX3_addAt_X4_settle
theorem dX3_addAt_0 : decode cX3_addAt 0 = .ok (.aload_n 1, 1) := by decide +kernel
theorem dX3_addAt_1 : decode cX3_addAt 1 = .ok (.getfield 31, 3) := by decide +kernel
theorem dX3_addAt_4 : decode cX3_addAt 4 = .ok (.iload_n 2, 1) := by decide +kernel
theorem dX3_addAt_5 : decode cX3_addAt 5 = .ok (.aload_n 1, 1) := by decide +kernel
theorem dX3_addAt_6 : decode cX3_addAt 6 = .ok (.getfield 31, 3) := by decide +kernel
theorem dX3_addAt_9 : decode cX3_addAt 9 = .ok (.iload_n 2, 1) := by decide +kernel
theorem dX3_addAt_10 : decode cX3_addAt 10 = .ok (.laload, 1) := by decide +kernel
theorem dX3_addAt_11 : decode cX3_addAt 11 = .ok (.lload_n 3, 1) := by decide +kernel
theorem dX3_addAt_12 : decode cX3_addAt 12 = .ok (.ladd, 1) := by decide +kernel
theorem dX3_addAt_13 : decode cX3_addAt 13 = .ok (.aload_n 0, 1) := by decide +kernel
theorem dX3_addAt_14 : decode cX3_addAt 14 = .ok (.getfield 11, 3) := by decide +kernel
theorem dX3_addAt_17 : decode cX3_addAt 17 = .ok (.invokestatic 34, 3) := by decide +kernel
theorem dX3_addAt_20 : decode cX3_addAt 20 = .ok (.lastore, 1) := by decide +kernel
theorem dX3_addAt_21 : decode cX3_addAt 21 = .ok (.aload_n 1, 1) := by decide +kernel
theorem dX3_addAt_22 : decode cX3_addAt 22 = .ok (.invokevirtual 40, 3) := by decide +kernel
theorem dX3_addAt_25 : decode cX3_addAt 25 = .ok (.return_, 1) := by decide +kernel
set_option maxRecDepth 20000 in
theorem ggX3_takeRest_X3_subtractShifted : GoodIn wsX3_takeRest wsX3_subtractShifted := goodIn_r _ [6, 7, 8, 1, 18, 19, 20, 21, 16, 17] (by decide +kernel) (by decide +kernel)
set_option maxRecDepth 20000 in
theorem gX3_takeRest_X3_subtractShifted : GoodIn wsX3_takeRest (wsV RX3 59 RX3 yX3_subtractShifted wsX3_subtractShifted) := goodIn_app (goodIn_of _ (by decide +kernel)) ggX3_takeRest_X3_subtractShifted
set_option maxRecDepth 20000 in
theorem ggX3_takeRest_X4_settle : GoodIn wsX3_takeRest wsX4_settle := goodIn_r _ [13, 14, 15, 16, 17] (by decide +kernel) (by decide +kernel)
set_option maxRecDepth 20000 in
theorem gX3_takeRest_X4_settle : GoodIn wsX3_takeRest (wsV RX3 40 RX4 yX4_settle wsX4_settle) := goodIn_app (goodIn_of _ (by decide +kernel)) ggX3_takeRest_X4_settle
theorem dX3_takeRest_0 : decode cX3_takeRest 0 = .ok (.aload_n 1, 1) := by decide +kernel
theorem dX3_takeRest_1 : decode cX3_takeRest 1 = .ok (.getfield 47, 3) := by decide +kernel
theorem dX3_takeRest_4 : decode cX3_takeRest 4 = .ok (.aload_n 2, 1) := by decide +kernel
theorem dX3_takeRest_5 : decode cX3_takeRest 5 = .ok (.getfield 47, 3) := by decide +kernel
theorem dX3_takeRest_8 : decode cX3_takeRest 8 = .ok (.isub, 1) := by decide +kernel
theorem dX3_takeRest_9 : decode cX3_takeRest 9 = .ok (.istore_n 3, 1) := by decide +kernel
theorem dX3_takeRest_10 : decode cX3_takeRest 10 = .ok (.iload_n 3, 1) := by decide +kernel
theorem dX3_takeRest_11 : decode cX3_takeRest 11 = .ok (.ifCond .lt 16, 3) := by decide +kernel
theorem dX3_takeRest_14 : decode cX3_takeRest 14 = .ok (.aload_n 0, 1) := by decide +kernel
theorem dX3_takeRest_15 : decode cX3_takeRest 15 = .ok (.aload_n 1, 1) := by decide +kernel
theorem dX3_takeRest_16 : decode cX3_takeRest 16 = .ok (.aload_n 2, 1) := by decide +kernel
theorem dX3_takeRest_17 : decode cX3_takeRest 17 = .ok (.iload_n 3, 1) := by decide +kernel
theorem dX3_takeRest_18 : decode cX3_takeRest 18 = .ok (.invokevirtual 59, 3) := by decide +kernel
theorem dX3_takeRest_21 : decode cX3_takeRest 21 = .ok (.iinc 3 (-1), 3) := by decide +kernel
theorem dX3_takeRest_24 : decode cX3_takeRest 24 = .ok (.goto (-14), 3) := by decide +kernel
theorem dX3_takeRest_27 : decode cX3_takeRest 27 = .ok (.aload_n 1, 1) := by decide +kernel
theorem dX3_takeRest_28 : decode cX3_takeRest 28 = .ok (.invokevirtual 40, 3) := by decide +kernel
theorem dX3_takeRest_31 : decode cX3_takeRest 31 = .ok (.return_, 1) := by decide +kernel
set_option maxRecDepth 20000 in
theorem ggX3_findQuotient_X4_clear : GoodIn wsX3_findQuotient wsX4_clear := goodIn_r _ [8, 9, 10, 33, 34] (by decide +kernel) (by decide +kernel)
set_option maxRecDepth 20000 in
theorem gX3_findQuotient_X4_clear : GoodIn wsX3_findQuotient (wsV RX3 63 RX4 yX4_clear wsX4_clear) := goodIn_app (goodIn_of _ (by decide +kernel)) ggX3_findQuotient_X4_clear
set_option maxRecDepth 20000 in
theorem ggX3_findQuotient_X4_become : GoodIn wsX3_findQuotient wsX4_become := goodIn_r _ [14, 9, 15, 16, 17, 18, 10, 33, 34] (by decide +kernel) (by decide +kernel)
set_option maxRecDepth 20000 in
theorem gX3_findQuotient_X4_become : GoodIn wsX3_findQuotient (wsV RX3 66 RX4 yX4_become wsX4_become) := goodIn_app (goodIn_of _ (by decide +kernel)) ggX3_findQuotient_X4_become
set_option maxRecDepth 20000 in
theorem ggX3_findQuotient_X3_subtractShifted : GoodIn wsX3_findQuotient wsX3_subtractShifted := goodIn_r _ [23, 24, 3, 2, 29, 30, 31, 32, 33, 34] (by decide +kernel) (by decide +kernel)
set_option maxRecDepth 20000 in
theorem gX3_findQuotient_X3_subtractShifted : GoodIn wsX3_findQuotient (wsV RX3 59 RX3 yX3_subtractShifted wsX3_subtractShifted) := goodIn_app (goodIn_of _ (by decide +kernel)) ggX3_findQuotient_X3_subtractShifted
set_option maxRecDepth 20000 in
theorem ggX3_findQuotient_X4_settle : GoodIn wsX3_findQuotient wsX4_settle := goodIn_r _ [28, 10, 9, 33, 34] (by decide +kernel) (by decide +kernel)
set_option maxRecDepth 20000 in
theorem gX3_findQuotient_X4_settle : GoodIn wsX3_findQuotient (wsV RX3 40 RX4 yX4_settle wsX4_settle) := goodIn_app (goodIn_of _ (by decide +kernel)) ggX3_findQuotient_X4_settle
theorem dX3_findQuotient_0 : decode cX3_findQuotient 0 = .ok (.aload_n 1, 1) := by decide +kernel
theorem dX3_findQuotient_1 : decode cX3_findQuotient 1 = .ok (.invokevirtual 63, 3) := by decide +kernel
theorem dX3_findQuotient_4 : decode cX3_findQuotient 4 = .ok (.aload_n 0, 1) := by decide +kernel
theorem dX3_findQuotient_5 : decode cX3_findQuotient 5 = .ok (.getfield 24, 3) := by decide +kernel
theorem dX3_findQuotient_8 : decode cX3_findQuotient 8 = .ok (.aload_n 2, 1) := by decide +kernel
theorem dX3_findQuotient_9 : decode cX3_findQuotient 9 = .ok (.invokevirtual 66, 3) := by decide +kernel
theorem dX3_findQuotient_12 : decode cX3_findQuotient 12 = .ok (.aload_n 2, 1) := by decide +kernel
theorem dX3_findQuotient_13 : decode cX3_findQuotient 13 = .ok (.getfield 47, 3) := by decide +kernel
theorem dX3_findQuotient_16 : decode cX3_findQuotient 16 = .ok (.aload_n 3, 1) := by decide +kernel
theorem dX3_findQuotient_17 : decode cX3_findQuotient 17 = .ok (.getfield 47, 3) := by decide +kernel
theorem dX3_findQuotient_20 : decode cX3_findQuotient 20 = .ok (.isub, 1) := by decide +kernel
theorem dX3_findQuotient_21 : decode cX3_findQuotient 21 = .ok (.istore 4, 2) := by decide +kernel
theorem dX3_findQuotient_23 : decode cX3_findQuotient 23 = .ok (.iload 4, 2) := by decide +kernel
theorem dX3_findQuotient_25 : decode cX3_findQuotient 25 = .ok (.ifCond .lt 42, 3) := by decide +kernel
theorem dX3_findQuotient_28 : decode cX3_findQuotient 28 = .ok (.aload_n 1, 1) := by decide +kernel
theorem dX3_findQuotient_29 : decode cX3_findQuotient 29 = .ok (.getfield 31, 3) := by decide +kernel
theorem dX3_findQuotient_32 : decode cX3_findQuotient 32 = .ok (.iload 4, 2) := by decide +kernel
theorem dX3_findQuotient_34 : decode cX3_findQuotient 34 = .ok (.aload_n 0, 1) := by decide +kernel
theorem dX3_findQuotient_35 : decode cX3_findQuotient 35 = .ok (.getfield 24, 3) := by decide +kernel
theorem dX3_findQuotient_38 : decode cX3_findQuotient 38 = .ok (.getfield 31, 3) := by decide +kernel
theorem dX3_findQuotient_41 : decode cX3_findQuotient 41 = .ok (.iload 4, 2) := by decide +kernel
theorem dX3_findQuotient_43 : decode cX3_findQuotient 43 = .ok (.aload_n 3, 1) := by decide +kernel
theorem dX3_findQuotient_44 : decode cX3_findQuotient 44 = .ok (.getfield 47, 3) := by decide +kernel
theorem dX3_findQuotient_47 : decode cX3_findQuotient 47 = .ok (.iadd, 1) := by decide +kernel
theorem dX3_findQuotient_48 : decode cX3_findQuotient 48 = .ok (.laload, 1) := by decide +kernel
theorem dX3_findQuotient_49 : decode cX3_findQuotient 49 = .ok (.lastore, 1) := by decide +kernel
theorem dX3_findQuotient_50 : decode cX3_findQuotient 50 = .ok (.aload_n 0, 1) := by decide +kernel
theorem dX3_findQuotient_51 : decode cX3_findQuotient 51 = .ok (.aload_n 0, 1) := by decide +kernel
theorem dX3_findQuotient_52 : decode cX3_findQuotient 52 = .ok (.getfield 24, 3) := by decide +kernel
theorem dX3_findQuotient_55 : decode cX3_findQuotient 55 = .ok (.aload_n 3, 1) := by decide +kernel
theorem dX3_findQuotient_56 : decode cX3_findQuotient 56 = .ok (.iload 4, 2) := by decide +kernel
theorem dX3_findQuotient_58 : decode cX3_findQuotient 58 = .ok (.invokevirtual 59, 3) := by decide +kernel
theorem dX3_findQuotient_61 : decode cX3_findQuotient 61 = .ok (.iinc 4 (-1), 3) := by decide +kernel
theorem dX3_findQuotient_64 : decode cX3_findQuotient 64 = .ok (.goto (-41), 3) := by decide +kernel
theorem dX3_findQuotient_67 : decode cX3_findQuotient 67 = .ok (.aload_n 1, 1) := by decide +kernel
theorem dX3_findQuotient_68 : decode cX3_findQuotient 68 = .ok (.invokevirtual 40, 3) := by decide +kernel
theorem dX3_findQuotient_71 : decode cX3_findQuotient 71 = .ok (.return_, 1) := by decide +kernel
theorem dX3_subtractShifted_0 : decode cX3_subtractShifted 0 = .ok (.aload_n 0, 1) := by decide +kernel
theorem dX3_subtractShifted_1 : decode cX3_subtractShifted 1 = .ok (.getfield 11, 3) := by decide +kernel
theorem dX3_subtractShifted_4 : decode cX3_subtractShifted 4 = .ok (.aload_n 1, 1) := by decide +kernel
theorem dX3_subtractShifted_5 : decode cX3_subtractShifted 5 = .ok (.getfield 31, 3) := by decide +kernel
theorem dX3_subtractShifted_8 : decode cX3_subtractShifted 8 = .ok (.iload_n 3, 1) := by decide +kernel
theorem dX3_subtractShifted_9 : decode cX3_subtractShifted 9 = .ok (.aload_n 2, 1) := by decide +kernel
theorem dX3_subtractShifted_10 : decode cX3_subtractShifted 10 = .ok (.getfield 47, 3) := by decide +kernel
theorem dX3_subtractShifted_13 : decode cX3_subtractShifted 13 = .ok (.iadd, 1) := by decide +kernel
theorem dX3_subtractShifted_14 : decode cX3_subtractShifted 14 = .ok (.laload, 1) := by decide +kernel
theorem dX3_subtractShifted_15 : decode cX3_subtractShifted 15 = .ok (.lsub, 1) := by decide +kernel
theorem dX3_subtractShifted_16 : decode cX3_subtractShifted 16 = .ok (.lstore 4, 2) := by decide +kernel
theorem dX3_subtractShifted_18 : decode cX3_subtractShifted 18 = .ok (.iconst 0, 1) := by decide +kernel
theorem dX3_subtractShifted_19 : decode cX3_subtractShifted 19 = .ok (.istore 6, 2) := by decide +kernel
theorem dX3_subtractShifted_21 : decode cX3_subtractShifted 21 = .ok (.iload 6, 2) := by decide +kernel
theorem dX3_subtractShifted_23 : decode cX3_subtractShifted 23 = .ok (.aload_n 2, 1) := by decide +kernel
theorem dX3_subtractShifted_24 : decode cX3_subtractShifted 24 = .ok (.getfield 47, 3) := by decide +kernel
theorem dX3_subtractShifted_27 : decode cX3_subtractShifted 27 = .ok (.if_icmp .gt 43, 3) := by decide +kernel
theorem dX3_subtractShifted_30 : decode cX3_subtractShifted 30 = .ok (.aload_n 1, 1) := by decide +kernel
theorem dX3_subtractShifted_31 : decode cX3_subtractShifted 31 = .ok (.getfield 31, 3) := by decide +kernel
theorem dX3_subtractShifted_34 : decode cX3_subtractShifted 34 = .ok (.iload_n 3, 1) := by decide +kernel
theorem dX3_subtractShifted_35 : decode cX3_subtractShifted 35 = .ok (.iload 6, 2) := by decide +kernel
theorem dX3_subtractShifted_37 : decode cX3_subtractShifted 37 = .ok (.iadd, 1) := by decide +kernel
theorem dX3_subtractShifted_38 : decode cX3_subtractShifted 38 = .ok (.aload_n 1, 1) := by decide +kernel
theorem dX3_subtractShifted_39 : decode cX3_subtractShifted 39 = .ok (.getfield 31, 3) := by decide +kernel
theorem dX3_subtractShifted_42 : decode cX3_subtractShifted 42 = .ok (.iload_n 3, 1) := by decide +kernel
theorem dX3_subtractShifted_43 : decode cX3_subtractShifted 43 = .ok (.iload 6, 2) := by decide +kernel
theorem dX3_subtractShifted_45 : decode cX3_subtractShifted 45 = .ok (.iadd, 1) := by decide +kernel
theorem dX3_subtractShifted_46 : decode cX3_subtractShifted 46 = .ok (.laload, 1) := by decide +kernel
theorem dX3_subtractShifted_47 : decode cX3_subtractShifted 47 = .ok (.lload 4, 2) := by decide +kernel
theorem dX3_subtractShifted_49 : decode cX3_subtractShifted 49 = .ok (.aload_n 2, 1) := by decide +kernel
theorem dX3_subtractShifted_50 : decode cX3_subtractShifted 50 = .ok (.getfield 31, 3) := by decide +kernel
theorem dX3_subtractShifted_53 : decode cX3_subtractShifted 53 = .ok (.iload 6, 2) := by decide +kernel
theorem dX3_subtractShifted_55 : decode cX3_subtractShifted 55 = .ok (.laload, 1) := by decide +kernel
theorem dX3_subtractShifted_56 : decode cX3_subtractShifted 56 = .ok (.lmul, 1) := by decide +kernel
theorem dX3_subtractShifted_57 : decode cX3_subtractShifted 57 = .ok (.ladd, 1) := by decide +kernel
theorem dX3_subtractShifted_58 : decode cX3_subtractShifted 58 = .ok (.aload_n 0, 1) := by decide +kernel
theorem dX3_subtractShifted_59 : decode cX3_subtractShifted 59 = .ok (.getfield 11, 3) := by decide +kernel
theorem dX3_subtractShifted_62 : decode cX3_subtractShifted 62 = .ok (.lrem, 1) := by decide +kernel
theorem dX3_subtractShifted_63 : decode cX3_subtractShifted 63 = .ok (.lastore, 1) := by decide +kernel
theorem dX3_subtractShifted_64 : decode cX3_subtractShifted 64 = .ok (.iinc 6 1, 3) := by decide +kernel
theorem dX3_subtractShifted_67 : decode cX3_subtractShifted 67 = .ok (.goto (-46), 3) := by decide +kernel
theorem dX3_subtractShifted_70 : decode cX3_subtractShifted 70 = .ok (.return_, 1) := by decide +kernel
set_option maxRecDepth 20000 in
theorem ggX3_findCommon_X4_become : GoodIn wsX3_findCommon wsX4_become := goodIn_r _ [8, 9, 10, 11, 12, 13, 14, 50, 51] (by decide +kernel) (by decide +kernel)
set_option maxRecDepth 20000 in
theorem gX3_findCommon_X4_become : GoodIn wsX3_findCommon (wsV RX3 66 RX4 yX4_become wsX4_become) := goodIn_app (goodIn_of _ (by decide +kernel)) ggX3_findCommon_X4_become
set_option maxRecDepth 20000 in
theorem ggX3_findCommon_X3_makeMonic : GoodIn wsX3_findCommon wsX3_makeMonic := goodIn_r _ [19, 3, 20, 21, 22, 23, 24, 7, 25, 14, 26, 27, 28, 29, 9, 30, 31, 32, 18, 33, 50, 51, 46, 47, 48, 49] (by decide +kernel) (by decide +kernel)
set_option maxRecDepth 20000 in
theorem gX3_findCommon_X3_makeMonic : GoodIn wsX3_findCommon (wsV RX3 70 RX3 yX3_makeMonic wsX3_makeMonic) := goodIn_app (goodIn_of _ (by decide +kernel)) ggX3_findCommon_X3_makeMonic
set_option maxRecDepth 20000 in
theorem ggX3_findCommon_X3_takeRest : GoodIn wsX3_findCommon wsX3_takeRest := goodIn_r _ [37, 3, 38, 39, 40, 18, 41, 21, 20, 42, 43, 44, 7, 45, 14, 9, 50, 51, 46, 47, 48, 49] (by decide +kernel) (by decide +kernel)
set_option maxRecDepth 20000 in
theorem gX3_findCommon_X3_takeRest : GoodIn wsX3_findCommon (wsV RX3 73 RX3 yX3_takeRest wsX3_takeRest) := goodIn_app (goodIn_of _ (by decide +kernel)) ggX3_findCommon_X3_takeRest
theorem dX3_findCommon_0 : decode cX3_findCommon 0 = .ok (.aload_n 0, 1) := by decide +kernel
theorem dX3_findCommon_1 : decode cX3_findCommon 1 = .ok (.getfield 24, 3) := by decide +kernel
theorem dX3_findCommon_4 : decode cX3_findCommon 4 = .ok (.astore 4, 2) := by decide +kernel
theorem dX3_findCommon_6 : decode cX3_findCommon 6 = .ok (.aload_n 0, 1) := by decide +kernel
theorem dX3_findCommon_7 : decode cX3_findCommon 7 = .ok (.getfield 28, 3) := by decide +kernel
theorem dX3_findCommon_10 : decode cX3_findCommon 10 = .ok (.astore 5, 2) := by decide +kernel
theorem dX3_findCommon_12 : decode cX3_findCommon 12 = .ok (.aload 4, 2) := by decide +kernel
theorem dX3_findCommon_14 : decode cX3_findCommon 14 = .ok (.aload_n 2, 1) := by decide +kernel
theorem dX3_findCommon_15 : decode cX3_findCommon 15 = .ok (.invokevirtual 66, 3) := by decide +kernel
theorem dX3_findCommon_18 : decode cX3_findCommon 18 = .ok (.aload 5, 2) := by decide +kernel
theorem dX3_findCommon_20 : decode cX3_findCommon 20 = .ok (.aload_n 3, 1) := by decide +kernel
theorem dX3_findCommon_21 : decode cX3_findCommon 21 = .ok (.invokevirtual 66, 3) := by decide +kernel
theorem dX3_findCommon_24 : decode cX3_findCommon 24 = .ok (.iconst 0, 1) := by decide +kernel
theorem dX3_findCommon_25 : decode cX3_findCommon 25 = .ok (.istore 6, 2) := by decide +kernel
theorem dX3_findCommon_27 : decode cX3_findCommon 27 = .ok (.iload 6, 2) := by decide +kernel
theorem dX3_findCommon_29 : decode cX3_findCommon 29 = .ok (.bipush 13, 2) := by decide +kernel
theorem dX3_findCommon_31 : decode cX3_findCommon 31 = .ok (.if_icmp .gt 43, 3) := by decide +kernel
theorem dX3_findCommon_34 : decode cX3_findCommon 34 = .ok (.aload 5, 2) := by decide +kernel
theorem dX3_findCommon_36 : decode cX3_findCommon 36 = .ok (.getfield 47, 3) := by decide +kernel
theorem dX3_findCommon_39 : decode cX3_findCommon 39 = .ok (.ifCond .lt 35, 3) := by decide +kernel
theorem dX3_findCommon_42 : decode cX3_findCommon 42 = .ok (.aload_n 0, 1) := by decide +kernel
theorem dX3_findCommon_43 : decode cX3_findCommon 43 = .ok (.aload 5, 2) := by decide +kernel
theorem dX3_findCommon_45 : decode cX3_findCommon 45 = .ok (.invokevirtual 70, 3) := by decide +kernel
theorem dX3_findCommon_48 : decode cX3_findCommon 48 = .ok (.aload_n 0, 1) := by decide +kernel
theorem dX3_findCommon_49 : decode cX3_findCommon 49 = .ok (.aload 4, 2) := by decide +kernel
theorem dX3_findCommon_51 : decode cX3_findCommon 51 = .ok (.aload 5, 2) := by decide +kernel
theorem dX3_findCommon_53 : decode cX3_findCommon 53 = .ok (.invokevirtual 73, 3) := by decide +kernel
theorem dX3_findCommon_56 : decode cX3_findCommon 56 = .ok (.aload 4, 2) := by decide +kernel
theorem dX3_findCommon_58 : decode cX3_findCommon 58 = .ok (.astore 7, 2) := by decide +kernel
theorem dX3_findCommon_60 : decode cX3_findCommon 60 = .ok (.aload 5, 2) := by decide +kernel
theorem dX3_findCommon_62 : decode cX3_findCommon 62 = .ok (.astore 4, 2) := by decide +kernel
theorem dX3_findCommon_64 : decode cX3_findCommon 64 = .ok (.aload 7, 2) := by decide +kernel
