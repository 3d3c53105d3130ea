theorem dX7_isSquareBeside_24 : decode cX7_isSquareBeside 24 = .ok (.lcmp, 1) := by decide +kernel
theorem dX7_isSquareBeside_25 : decode cX7_isSquareBeside 25 = .ok (.ifCond .ge 7, 3) := by decide +kernel
theorem dX7_isSquareBeside_28 : decode cX7_isSquareBeside 28 = .ok (.iconst 1, 1) := by decide +kernel
theorem dX7_isSquareBeside_29 : decode cX7_isSquareBeside 29 = .ok (.goto 4, 3) := by decide +kernel
theorem dX7_isSquareBeside_32 : decode cX7_isSquareBeside 32 = .ok (.iconst 0, 1) := by decide +kernel
theorem dX7_isSquareBeside_33 : decode cX7_isSquareBeside 33 = .ok (.lload_n 2, 1) := by decide +kernel
theorem dX7_isSquareBeside_34 : decode cX7_isSquareBeside 34 = .ok (.lconst 0, 1) := by decide +kernel
theorem dX7_isSquareBeside_35 : decode cX7_isSquareBeside 35 = .ok (.lcmp, 1) := by decide +kernel
theorem dX7_isSquareBeside_36 : decode cX7_isSquareBeside 36 = .ok (.ifCond .ge 7, 3) := by decide +kernel
theorem dX7_isSquareBeside_39 : decode cX7_isSquareBeside 39 = .ok (.iconst 1, 1) := by decide +kernel
theorem dX7_isSquareBeside_40 : decode cX7_isSquareBeside 40 = .ok (.goto 4, 3) := by decide +kernel
theorem dX7_isSquareBeside_43 : decode cX7_isSquareBeside 43 = .ok (.iconst 0, 1) := by decide +kernel
theorem dX7_isSquareBeside_44 : decode cX7_isSquareBeside 44 = .ok (.if_icmp .ne 49, 3) := by decide +kernel
theorem dX7_isSquareBeside_47 : decode cX7_isSquareBeside 47 = .ok (.lload_n 0, 1) := by decide +kernel
theorem dX7_isSquareBeside_48 : decode cX7_isSquareBeside 48 = .ok (.lconst 0, 1) := by decide +kernel
theorem dX7_isSquareBeside_49 : decode cX7_isSquareBeside 49 = .ok (.lcmp, 1) := by decide +kernel
theorem dX7_isSquareBeside_50 : decode cX7_isSquareBeside 50 = .ok (.ifCond .ge 8, 3) := by decide +kernel
theorem dX7_isSquareBeside_53 : decode cX7_isSquareBeside 53 = .ok (.lload_n 0, 1) := by decide +kernel
theorem dX7_isSquareBeside_54 : decode cX7_isSquareBeside 54 = .ok (.lneg, 1) := by decide +kernel
theorem dX7_isSquareBeside_55 : decode cX7_isSquareBeside 55 = .ok (.goto 4, 3) := by decide +kernel
theorem dX7_isSquareBeside_58 : decode cX7_isSquareBeside 58 = .ok (.lload_n 0, 1) := by decide +kernel
theorem dX7_isSquareBeside_59 : decode cX7_isSquareBeside 59 = .ok (.lload 4, 2) := by decide +kernel
theorem dX7_isSquareBeside_61 : decode cX7_isSquareBeside 61 = .ok (.ldiv, 1) := by decide +kernel
theorem dX7_isSquareBeside_62 : decode cX7_isSquareBeside 62 = .ok (.invokestatic 205, 3) := by decide +kernel
theorem dX7_isSquareBeside_65 : decode cX7_isSquareBeside 65 = .ok (.ifCond .eq 28, 3) := by decide +kernel
theorem dX7_isSquareBeside_68 : decode cX7_isSquareBeside 68 = .ok (.lload_n 2, 1) := by decide +kernel
theorem dX7_isSquareBeside_69 : decode cX7_isSquareBeside 69 = .ok (.lconst 0, 1) := by decide +kernel
theorem dX7_isSquareBeside_70 : decode cX7_isSquareBeside 70 = .ok (.lcmp, 1) := by decide +kernel
theorem dX7_isSquareBeside_71 : decode cX7_isSquareBeside 71 = .ok (.ifCond .ge 8, 3) := by decide +kernel
theorem dX7_isSquareBeside_74 : decode cX7_isSquareBeside 74 = .ok (.lload_n 2, 1) := by decide +kernel
theorem dX7_isSquareBeside_75 : decode cX7_isSquareBeside 75 = .ok (.lneg, 1) := by decide +kernel
theorem dX7_isSquareBeside_76 : decode cX7_isSquareBeside 76 = .ok (.goto 4, 3) := by decide +kernel
theorem dX7_isSquareBeside_79 : decode cX7_isSquareBeside 79 = .ok (.lload_n 2, 1) := by decide +kernel
theorem dX7_isSquareBeside_80 : decode cX7_isSquareBeside 80 = .ok (.lload 4, 2) := by decide +kernel
theorem dX7_isSquareBeside_82 : decode cX7_isSquareBeside 82 = .ok (.ldiv, 1) := by decide +kernel
theorem dX7_isSquareBeside_83 : decode cX7_isSquareBeside 83 = .ok (.invokestatic 205, 3) := by decide +kernel
theorem dX7_isSquareBeside_86 : decode cX7_isSquareBeside 86 = .ok (.ifCond .eq 7, 3) := by decide +kernel
theorem dX7_isSquareBeside_89 : decode cX7_isSquareBeside 89 = .ok (.iconst 1, 1) := by decide +kernel
theorem dX7_isSquareBeside_90 : decode cX7_isSquareBeside 90 = .ok (.goto 4, 3) := by decide +kernel
theorem dX7_isSquareBeside_93 : decode cX7_isSquareBeside 93 = .ok (.iconst 0, 1) := by decide +kernel
theorem dX7_isSquareBeside_94 : decode cX7_isSquareBeside 94 = .ok (.ireturn, 1) := by decide +kernel
theorem dX7_cubeAt_0 : decode cX7_cubeAt 0 = .ok (.lload_n 1, 1) := by decide +kernel
theorem dX7_cubeAt_1 : decode cX7_cubeAt 1 = .ok (.aload_n 0, 1) := by decide +kernel
theorem dX7_cubeAt_2 : decode cX7_cubeAt 2 = .ok (.getfield 209, 3) := by decide +kernel
theorem dX7_cubeAt_5 : decode cX7_cubeAt 5 = .ok (.ladd, 1) := by decide +kernel
theorem dX7_cubeAt_6 : decode cX7_cubeAt 6 = .ok (.lload_n 1, 1) := by decide +kernel
theorem dX7_cubeAt_7 : decode cX7_cubeAt 7 = .ok (.lmul, 1) := by decide +kernel
theorem dX7_cubeAt_8 : decode cX7_cubeAt 8 = .ok (.aload_n 0, 1) := by decide +kernel
theorem dX7_cubeAt_9 : decode cX7_cubeAt 9 = .ok (.getfield 213, 3) := by decide +kernel
theorem dX7_cubeAt_12 : decode cX7_cubeAt 12 = .ok (.ladd, 1) := by decide +kernel
theorem dX7_cubeAt_13 : decode cX7_cubeAt 13 = .ok (.lload_n 1, 1) := by decide +kernel
theorem dX7_cubeAt_14 : decode cX7_cubeAt 14 = .ok (.lmul, 1) := by decide +kernel
theorem dX7_cubeAt_15 : decode cX7_cubeAt 15 = .ok (.aload_n 0, 1) := by decide +kernel
theorem dX7_cubeAt_16 : decode cX7_cubeAt 16 = .ok (.getfield 216, 3) := by decide +kernel
theorem dX7_cubeAt_19 : decode cX7_cubeAt 19 = .ok (.ladd, 1) := by decide +kernel
theorem dX7_cubeAt_20 : decode cX7_cubeAt 20 = .ok (.lreturn, 1) := by decide +kernel
set_option maxRecDepth 20000 in
theorem ggX7_look_X7_cubeAt : GoodIn wsX7_look wsX7_cubeAt := goodIn_r _ [7, 8, 9, 10, 11, 12, 13, 14, 15, 16, 17, 18, 19, 20, 21, 22, 23, 24, 25, 26, 27, 28, 29, 30, 31, 32, 33, 34, 35] (by decide +kernel) (by decide +kernel)
set_option maxRecDepth 20000 in
theorem gX7_look_X7_cubeAt : GoodIn wsX7_look (wsV RX7 219 RX7 yX7_cubeAt wsX7_cubeAt) := goodIn_app (goodIn_of _ (by decide +kernel)) ggX7_look_X7_cubeAt
theorem dX7_look_0 : decode cX7_look 0 = .ok (.lload_n 1, 1) := by decide +kernel
theorem dX7_look_1 : decode cX7_look 1 = .ok (.lload_n 3, 1) := by decide +kernel
theorem dX7_look_2 : decode cX7_look 2 = .ok (.lcmp, 1) := by decide +kernel
theorem dX7_look_3 : decode cX7_look 3 = .ok (.ifCond .le 4, 3) := by decide +kernel
theorem dX7_look_6 : decode cX7_look 6 = .ok (.return_, 1) := by decide +kernel
theorem dX7_look_7 : decode cX7_look 7 = .ok (.lload_n 1, 1) := by decide +kernel
theorem dX7_look_8 : decode cX7_look 8 = .ok (.lstore 6, 2) := by decide +kernel
theorem dX7_look_10 : decode cX7_look 10 = .ok (.lload_n 3, 1) := by decide +kernel
theorem dX7_look_11 : decode cX7_look 11 = .ok (.lstore 8, 2) := by decide +kernel
theorem dX7_look_13 : decode cX7_look 13 = .ok (.lload 6, 2) := by decide +kernel
theorem dX7_look_15 : decode cX7_look 15 = .ok (.lload 8, 2) := by decide +kernel
theorem dX7_look_17 : decode cX7_look 17 = .ok (.lcmp, 1) := by decide +kernel
theorem dX7_look_18 : decode cX7_look 18 = .ok (.ifCond .ge 58, 3) := by decide +kernel
theorem dX7_look_21 : decode cX7_look 21 = .ok (.lload 6, 2) := by decide +kernel
theorem dX7_look_23 : decode cX7_look 23 = .ok (.lload 8, 2) := by decide +kernel
theorem dX7_look_25 : decode cX7_look 25 = .ok (.ladd, 1) := by decide +kernel
theorem dX7_look_26 : decode cX7_look 26 = .ok (.iconst 1, 1) := by decide +kernel
theorem dX7_look_27 : decode cX7_look 27 = .ok (.lshr, 1) := by decide +kernel
theorem dX7_look_28 : decode cX7_look 28 = .ok (.lstore 10, 2) := by decide +kernel
theorem dX7_look_30 : decode cX7_look 30 = .ok (.aload_n 0, 1) := by decide +kernel
theorem dX7_look_31 : decode cX7_look 31 = .ok (.lload 10, 2) := by decide +kernel
theorem dX7_look_33 : decode cX7_look 33 = .ok (.invokevirtual 219, 3) := by decide +kernel
theorem dX7_look_36 : decode cX7_look 36 = .ok (.lstore 12, 2) := by decide +kernel
theorem dX7_look_38 : decode cX7_look 38 = .ok (.iload 5, 2) := by decide +kernel
theorem dX7_look_40 : decode cX7_look 40 = .ok (.ifCond .eq 13, 3) := by decide +kernel
theorem dX7_look_43 : decode cX7_look 43 = .ok (.lload 12, 2) := by decide +kernel
theorem dX7_look_45 : decode cX7_look 45 = .ok (.lconst 0, 1) := by decide +kernel
theorem dX7_look_46 : decode cX7_look 46 = .ok (.lcmp, 1) := by decide +kernel
theorem dX7_look_47 : decode cX7_look 47 = .ok (.ifCond .lt 20, 3) := by decide +kernel
theorem dX7_look_50 : decode cX7_look 50 = .ok (.goto 10, 3) := by decide +kernel
theorem dX7_look_53 : decode cX7_look 53 = .ok (.lload 12, 2) := by decide +kernel
theorem dX7_look_55 : decode cX7_look 55 = .ok (.lconst 0, 1) := by decide +kernel
theorem dX7_look_56 : decode cX7_look 56 = .ok (.lcmp, 1) := by decide +kernel
theorem dX7_look_57 : decode cX7_look 57 = .ok (.ifCond .gt 10, 3) := by decide +kernel
theorem dX7_look_60 : decode cX7_look 60 = .ok (.lload 10, 2) := by decide +kernel
theorem dX7_look_62 : decode cX7_look 62 = .ok (.lstore 8, 2) := by decide +kernel
theorem dX7_look_64 : decode cX7_look 64 = .ok (.goto 9, 3) := by decide +kernel
theorem dX7_look_67 : decode cX7_look 67 = .ok (.lload 10, 2) := by decide +kernel
theorem dX7_look_69 : decode cX7_look 69 = .ok (.lconst 1, 1) := by decide +kernel
theorem dX7_look_70 : decode cX7_look 70 = .ok (.ladd, 1) := by decide +kernel
theorem dX7_look_71 : decode cX7_look 71 = .ok (.lstore 6, 2) := by decide +kernel
theorem dX7_look_73 : decode cX7_look 73 = .ok (.goto (-60), 3) := by decide +kernel
theorem dX7_look_76 : decode cX7_look 76 = .ok (.aload_n 0, 1) := by decide +kernel
theorem dX7_look_77 : decode cX7_look 77 = .ok (.lload 6, 2) := by decide +kernel
theorem dX7_look_79 : decode cX7_look 79 = .ok (.invokevirtual 219, 3) := by decide +kernel
theorem dX7_look_82 : decode cX7_look 82 = .ok (.lconst 0, 1) := by decide +kernel
theorem dX7_look_83 : decode cX7_look 83 = .ok (.lcmp, 1) := by decide +kernel
theorem dX7_look_84 : decode cX7_look 84 = .ok (.ifCond .ne 36, 3) := by decide +kernel
theorem dX7_look_87 : decode cX7_look 87 = .ok (.aload_n 0, 1) := by decide +kernel
theorem dX7_look_88 : decode cX7_look 88 = .ok (.getfield 222, 3) := by decide +kernel
theorem dX7_look_91 : decode cX7_look 91 = .ok (.ifCond .eq 13, 3) := by decide +kernel
theorem dX7_look_94 : decode cX7_look 94 = .ok (.aload_n 0, 1) := by decide +kernel
theorem dX7_look_95 : decode cX7_look 95 = .ok (.getfield 225, 3) := by decide +kernel
theorem dX7_look_98 : decode cX7_look 98 = .ok (.lload 6, 2) := by decide +kernel
theorem dX7_look_100 : decode cX7_look 100 = .ok (.lcmp, 1) := by decide +kernel
theorem dX7_look_101 : decode cX7_look 101 = .ok (.ifCond .eq 19, 3) := by decide +kernel
theorem dX7_look_104 : decode cX7_look 104 = .ok (.aload_n 0, 1) := by decide +kernel
theorem dX7_look_105 : decode cX7_look 105 = .ok (.dup, 1) := by decide +kernel
theorem dX7_look_106 : decode cX7_look 106 = .ok (.getfield 222, 3) := by decide +kernel
theorem dX7_look_109 : decode cX7_look 109 = .ok (.iconst 1, 1) := by decide +kernel
theorem dX7_look_110 : decode cX7_look 110 = .ok (.iadd, 1) := by decide +kernel
theorem dX7_look_111 : decode cX7_look 111 = .ok (.putfield 222, 3) := by decide +kernel
theorem dX7_look_114 : decode cX7_look 114 = .ok (.aload_n 0, 1) := by decide +kernel
theorem dX7_look_115 : decode cX7_look 115 = .ok (.lload 6, 2) := by decide +kernel
theorem dX7_look_117 : decode cX7_look 117 = .ok (.putfield 225, 3) := by decide +kernel
theorem dX7_look_120 : decode cX7_look 120 = .ok (.return_, 1) := by decide +kernel
theorem dX7_below_0 : decode cX7_below 0 = .ok (.lload_n 0, 1) := by decide +kernel
theorem dX7_below_1 : decode cX7_below 1 = .ok (.lload_n 2, 1) := by decide +kernel
theorem dX7_below_2 : decode cX7_below 2 = .ok (.ldiv, 1) := by decide +kernel
theorem dX7_below_3 : decode cX7_below 3 = .ok (.lstore 4, 2) := by decide +kernel
theorem dX7_below_5 : decode cX7_below 5 = .ok (.lload 4, 2) := by decide +kernel
theorem dX7_below_7 : decode cX7_below 7 = .ok (.lload_n 2, 1) := by decide +kernel
theorem dX7_below_8 : decode cX7_below 8 = .ok (.lmul, 1) := by decide +kernel
theorem dX7_below_9 : decode cX7_below 9 = .ok (.lload_n 0, 1) := by decide +kernel
theorem dX7_below_10 : decode cX7_below 10 = .ok (.lcmp, 1) := by decide +kernel
theorem dX7_below_11 : decode cX7_below 11 = .ok (.ifCond .le 10, 3) := by decide +kernel
theorem dX7_below_14 : decode cX7_below 14 = .ok (.lload 4, 2) := by decide +kernel
theorem dX7_below_16 : decode cX7_below 16 = .ok (.lconst 1, 1) := by decide +kernel
theorem dX7_below_17 : decode cX7_below 17 = .ok (.lsub, 1) := by decide +kernel
theorem dX7_below_18 : decode cX7_below 18 = .ok (.goto 5, 3) := by decide +kernel
theorem dX7_below_21 : decode cX7_below 21 = .ok (.lload 4, 2) := by decide +kernel
theorem dX7_below_23 : decode cX7_below 23 = .ok (.lreturn, 1) := by decide +kernel
set_option maxRecDepth 20000 in
theorem ggX7_findRoots_X7_look : GoodIn wsX7_findRoots wsX7_look := goodIn_r _ [11, 1, 12, 13, 14, 15, 10, 16, 3, 5, 17, 25, 26, 27, 28, 29, 30, 31, 32, 33, 34, 35, 36, 37, 38, 39, 40, 41, 42, 43, 44, 45, 46, 47, 48, 49] (by decide +kernel) (by decide +kernel)
set_option maxRecDepth 20000 in
theorem gX7_findRoots_X7_look : GoodIn wsX7_findRoots (wsV RX7 232 RX7 yX7_look wsX7_look) := goodIn_app (goodIn_of _ (by decide +kernel)) ggX7_findRoots_X7_look
set_option maxRecDepth 20000 in
theorem ggX7_findRoots_X7_root : GoodIn wsX7_findRoots wsX7_root := goodIn_r _ [20, 21, 6] (by decide +kernel) (by decide +kernel)
set_option maxRecDepth 20000 in
theorem gX7_findRoots_X7_root : GoodIn wsX7_findRoots (va_wsS RX7 201 yX7_root wsX7_root) := goodIn_app (goodIn_of _ (by decide +kernel)) ggX7_findRoots_X7_root
set_option maxRecDepth 20000 in
theorem ggX7_findRoots_X7_below : GoodIn wsX7_findRoots wsX7_below := goodIn_r _ [24] (by decide +kernel) (by decide +kernel)
set_option maxRecDepth 20000 in
theorem gX7_findRoots_X7_below : GoodIn wsX7_findRoots (va_wsS RX7 236 yX7_below wsX7_below) := goodIn_app (goodIn_of _ (by decide +kernel)) ggX7_findRoots_X7_below
theorem dX7_findRoots_0 : decode cX7_findRoots 0 = .ok (.aload_n 0, 1) := by decide +kernel
theorem dX7_findRoots_1 : decode cX7_findRoots 1 = .ok (.iconst 0, 1) := by decide +kernel
theorem dX7_findRoots_2 : decode cX7_findRoots 2 = .ok (.putfield 222, 3) := by decide +kernel
theorem dX7_findRoots_5 : decode cX7_findRoots 5 = .ok (.ldc2_w 228, 3) := by decide +kernel
theorem dX7_findRoots_8 : decode cX7_findRoots 8 = .ok (.lstore_n 1, 1) := by decide +kernel
theorem dX7_findRoots_9 : decode cX7_findRoots 9 = .ok (.aload_n 0, 1) := by decide +kernel
theorem dX7_findRoots_10 : decode cX7_findRoots 10 = .ok (.getfield 209, 3) := by decide +kernel
theorem dX7_findRoots_13 : decode cX7_findRoots 13 = .ok (.aload_n 0, 1) := by decide +kernel
theorem dX7_findRoots_14 : decode cX7_findRoots 14 = .ok (.getfield 209, 3) := by decide +kernel
theorem dX7_findRoots_17 : decode cX7_findRoots 17 = .ok (.lmul, 1) := by decide +kernel
theorem dX7_findRoots_18 : decode cX7_findRoots 18 = .ok (.ldc2_w 230, 3) := by decide +kernel
theorem dX7_findRoots_21 : decode cX7_findRoots 21 = .ok (.aload_n 0, 1) := by decide +kernel
theorem dX7_findRoots_22 : decode cX7_findRoots 22 = .ok (.getfield 213, 3) := by decide +kernel
theorem dX7_findRoots_25 : decode cX7_findRoots 25 = .ok (.lmul, 1) := by decide +kernel
theorem dX7_findRoots_26 : decode cX7_findRoots 26 = .ok (.lsub, 1) := by decide +kernel
theorem dX7_findRoots_27 : decode cX7_findRoots 27 = .ok (.lstore_n 3, 1) := by decide +kernel
theorem dX7_findRoots_28 : decode cX7_findRoots 28 = .ok (.lload_n 3, 1) := by decide +kernel
theorem dX7_findRoots_29 : decode cX7_findRoots 29 = .ok (.lconst 0, 1) := by decide +kernel
theorem dX7_findRoots_30 : decode cX7_findRoots 30 = .ok (.lcmp, 1) := by decide +kernel
theorem dX7_findRoots_31 : decode cX7_findRoots 31 = .ok (.ifCond .gt 12, 3) := by decide +kernel
theorem dX7_findRoots_34 : decode cX7_findRoots 34 = .ok (.aload_n 0, 1) := by decide +kernel
theorem dX7_findRoots_35 : decode cX7_findRoots 35 = .ok (.lload_n 1, 1) := by decide +kernel
theorem dX7_findRoots_36 : decode cX7_findRoots 36 = .ok (.lneg, 1) := by decide +kernel
theorem dX7_findRoots_37 : decode cX7_findRoots 37 = .ok (.lload_n 1, 1) := by decide +kernel
theorem dX7_findRoots_38 : decode cX7_findRoots 38 = .ok (.iconst 1, 1) := by decide +kernel
theorem dX7_findRoots_39 : decode cX7_findRoots 39 = .ok (.invokevirtual 232, 3) := by decide +kernel
theorem dX7_findRoots_42 : decode cX7_findRoots 42 = .ok (.return_, 1) := by decide +kernel
theorem dX7_findRoots_43 : decode cX7_findRoots 43 = .ok (.lload_n 3, 1) := by decide +kernel
theorem dX7_findRoots_44 : decode cX7_findRoots 44 = .ok (.invokestatic 201, 3) := by decide +kernel
theorem dX7_findRoots_47 : decode cX7_findRoots 47 = .ok (.lstore 5, 2) := by decide +kernel
theorem dX7_findRoots_49 : decode cX7_findRoots 49 = .ok (.aload_n 0, 1) := by decide +kernel
theorem dX7_findRoots_50 : decode cX7_findRoots 50 = .ok (.getfield 209, 3) := by decide +kernel
theorem dX7_findRoots_53 : decode cX7_findRoots 53 = .ok (.lneg, 1) := by decide +kernel
theorem dX7_findRoots_54 : decode cX7_findRoots 54 = .ok (.lload 5, 2) := by decide +kernel
theorem dX7_findRoots_56 : decode cX7_findRoots 56 = .ok (.lsub, 1) := by decide +kernel
theorem dX7_findRoots_57 : decode cX7_findRoots 57 = .ok (.lconst 1, 1) := by decide +kernel
theorem dX7_findRoots_58 : decode cX7_findRoots 58 = .ok (.lsub, 1) := by decide +kernel
theorem dX7_findRoots_59 : decode cX7_findRoots 59 = .ok (.ldc2_w 230, 3) := by decide +kernel
theorem dX7_findRoots_62 : decode cX7_findRoots 62 = .ok (.invokestatic 236, 3) := by decide +kernel
theorem dX7_findRoots_65 : decode cX7_findRoots 65 = .ok (.lstore 7, 2) := by decide +kernel
theorem dX7_findRoots_67 : decode cX7_findRoots 67 = .ok (.aload_n 0, 1) := by decide +kernel
theorem dX7_findRoots_68 : decode cX7_findRoots 68 = .ok (.getfield 209, 3) := by decide +kernel
theorem dX7_findRoots_71 : decode cX7_findRoots 71 = .ok (.lneg, 1) := by decide +kernel
theorem dX7_findRoots_72 : decode cX7_findRoots 72 = .ok (.lload 5, 2) := by decide +kernel
theorem dX7_findRoots_74 : decode cX7_findRoots 74 = .ok (.ladd, 1) := by decide +kernel
theorem dX7_findRoots_75 : decode cX7_findRoots 75 = .ok (.lconst 1, 1) := by decide +kernel
theorem dX7_findRoots_76 : decode cX7_findRoots 76 = .ok (.ladd, 1) := by decide +kernel
theorem dX7_findRoots_77 : decode cX7_findRoots 77 = .ok (.ldc2_w 230, 3) := by decide +kernel
theorem dX7_findRoots_80 : decode cX7_findRoots 80 = .ok (.invokestatic 236, 3) := by decide +kernel
theorem dX7_findRoots_83 : decode cX7_findRoots 83 = .ok (.lconst 1, 1) := by decide +kernel
theorem dX7_findRoots_84 : decode cX7_findRoots 84 = .ok (.ladd, 1) := by decide +kernel
theorem dX7_findRoots_85 : decode cX7_findRoots 85 = .ok (.lstore 9, 2) := by decide +kernel
theorem dX7_findRoots_87 : decode cX7_findRoots 87 = .ok (.aload_n 0, 1) := by decide +kernel
theorem dX7_findRoots_88 : decode cX7_findRoots 88 = .ok (.lload_n 1, 1) := by decide +kernel
theorem dX7_findRoots_89 : decode cX7_findRoots 89 = .ok (.lneg, 1) := by decide +kernel
theorem dX7_findRoots_90 : decode cX7_findRoots 90 = .ok (.lload 7, 2) := by decide +kernel
theorem dX7_findRoots_92 : decode cX7_findRoots 92 = .ok (.lconst 1, 1) := by decide +kernel
theorem dX7_findRoots_93 : decode cX7_findRoots 93 = .ok (.lsub, 1) := by decide +kernel
theorem dX7_findRoots_94 : decode cX7_findRoots 94 = .ok (.iconst 1, 1) := by decide +kernel
theorem dX7_findRoots_95 : decode cX7_findRoots 95 = .ok (.invokevirtual 232, 3) := by decide +kernel
theorem dX7_findRoots_98 : decode cX7_findRoots 98 = .ok (.lload 7, 2) := by decide +kernel
theorem dX7_findRoots_100 : decode cX7_findRoots 100 = .ok (.lstore 11, 2) := by decide +kernel
theorem dX7_findRoots_102 : decode cX7_findRoots 102 = .ok (.lload 11, 2) := by decide +kernel
theorem dX7_findRoots_104 : decode cX7_findRoots 104 = .ok (.lload 7, 2) := by decide +kernel
theorem dX7_findRoots_106 : decode cX7_findRoots 106 = .ok (.ldc2_w 199, 3) := by decide +kernel
theorem dX7_findRoots_109 : decode cX7_findRoots 109 = .ok (.ladd, 1) := by decide +kernel
theorem dX7_findRoots_110 : decode cX7_findRoots 110 = .ok (.lcmp, 1) := by decide +kernel
theorem dX7_findRoots_111 : decode cX7_findRoots 111 = .ok (.ifCond .gt 21, 3) := by decide +kernel
theorem dX7_findRoots_114 : decode cX7_findRoots 114 = .ok (.aload_n 0, 1) := by decide +kernel
theorem dX7_findRoots_115 : decode cX7_findRoots 115 = .ok (.lload 11, 2) := by decide +kernel
theorem dX7_findRoots_117 : decode cX7_findRoots 117 = .ok (.lload 11, 2) := by decide +kernel
theorem dX7_findRoots_119 : decode cX7_findRoots 119 = .ok (.iconst 1, 1) := by decide +kernel
theorem dX7_findRoots_120 : decode cX7_findRoots 120 = .ok (.invokevirtual 232, 3) := by decide +kernel
theorem dX7_findRoots_123 : decode cX7_findRoots 123 = .ok (.lload 11, 2) := by decide +kernel
theorem dX7_findRoots_125 : decode cX7_findRoots 125 = .ok (.lconst 1, 1) := by decide +kernel
theorem dX7_findRoots_126 : decode cX7_findRoots 126 = .ok (.ladd, 1) := by decide +kernel
theorem dX7_findRoots_127 : decode cX7_findRoots 127 = .ok (.lstore 11, 2) := by decide +kernel
theorem dX7_findRoots_129 : decode cX7_findRoots 129 = .ok (.goto (-27), 3) := by decide +kernel
theorem dX7_findRoots_132 : decode cX7_findRoots 132 = .ok (.aload_n 0, 1) := by decide +kernel
theorem dX7_findRoots_133 : decode cX7_findRoots 133 = .ok (.lload 7, 2) := by decide +kernel
theorem dX7_findRoots_135 : decode cX7_findRoots 135 = .ok (.ldc2_w 230, 3) := by decide +kernel
theorem dX7_findRoots_138 : decode cX7_findRoots 138 = .ok (.ladd, 1) := by decide +kernel
theorem dX7_findRoots_139 : decode cX7_findRoots 139 = .ok (.lload 9, 2) := by decide +kernel
theorem dX7_findRoots_141 : decode cX7_findRoots 141 = .ok (.ldc2_w 230, 3) := by decide +kernel
theorem dX7_findRoots_144 : decode cX7_findRoots 144 = .ok (.lsub, 1) := by decide +kernel
theorem dX7_findRoots_145 : decode cX7_findRoots 145 = .ok (.iconst 0, 1) := by decide +kernel
theorem dX7_findRoots_146 : decode cX7_findRoots 146 = .ok (.invokevirtual 232, 3) := by decide +kernel
theorem dX7_findRoots_149 : decode cX7_findRoots 149 = .ok (.lload 9, 2) := by decide +kernel
theorem dX7_findRoots_151 : decode cX7_findRoots 151 = .ok (.ldc2_w 199, 3) := by decide +kernel
theorem dX7_findRoots_154 : decode cX7_findRoots 154 = .ok (.lsub, 1) := by decide +kernel
theorem dX7_findRoots_155 : decode cX7_findRoots 155 = .ok (.lload 7, 2) := by decide +kernel
theorem dX7_findRoots_157 : decode cX7_findRoots 157 = .ok (.ldc2_w 199, 3) := by decide +kernel
theorem dX7_findRoots_160 : decode cX7_findRoots 160 = .ok (.ladd, 1) := by decide +kernel
theorem dX7_findRoots_161 : decode cX7_findRoots 161 = .ok (.lcmp, 1) := by decide +kernel
theorem dX7_findRoots_162 : decode cX7_findRoots 162 = .ok (.ifCond .le 12, 3) := by decide +kernel
theorem dX7_findRoots_165 : decode cX7_findRoots 165 = .ok (.lload 9, 2) := by decide +kernel
theorem dX7_findRoots_167 : decode cX7_findRoots 167 = .ok (.ldc2_w 199, 3) := by decide +kernel
theorem dX7_findRoots_170 : decode cX7_findRoots 170 = .ok (.lsub, 1) := by decide +kernel
theorem dX7_findRoots_171 : decode cX7_findRoots 171 = .ok (.goto 9, 3) := by decide +kernel
theorem dX7_findRoots_174 : decode cX7_findRoots 174 = .ok (.lload 7, 2) := by decide +kernel
theorem dX7_findRoots_176 : decode cX7_findRoots 176 = .ok (.ldc2_w 230, 3) := by decide +kernel
theorem dX7_findRoots_179 : decode cX7_findRoots 179 = .ok (.ladd, 1) := by decide +kernel
theorem dX7_findRoots_180 : decode cX7_findRoots 180 = .ok (.lstore 11, 2) := by decide +kernel
theorem dX7_findRoots_182 : decode cX7_findRoots 182 = .ok (.lload 11, 2) := by decide +kernel
theorem dX7_findRoots_184 : decode cX7_findRoots 184 = .ok (.lload 9, 2) := by decide +kernel
theorem dX7_findRoots_186 : decode cX7_findRoots 186 = .ok (.lcmp, 1) := by decide +kernel
theorem dX7_findRoots_187 : decode cX7_findRoots 187 = .ok (.ifCond .gt 21, 3) := by decide +kernel
theorem dX7_findRoots_190 : decode cX7_findRoots 190 = .ok (.aload_n 0, 1) := by decide +kernel
theorem dX7_findRoots_191 : decode cX7_findRoots 191 = .ok (.lload 11, 2) := by decide +kernel
theorem dX7_findRoots_193 : decode cX7_findRoots 193 = .ok (.lload 11, 2) := by decide +kernel
theorem dX7_findRoots_195 : decode cX7_findRoots 195 = .ok (.iconst 1, 1) := by decide +kernel
theorem dX7_findRoots_196 : decode cX7_findRoots 196 = .ok (.invokevirtual 232, 3) := by decide +kernel
theorem dX7_findRoots_199 : decode cX7_findRoots 199 = .ok (.lload 11, 2) := by decide +kernel
theorem dX7_findRoots_201 : decode cX7_findRoots 201 = .ok (.lconst 1, 1) := by decide +kernel
theorem dX7_findRoots_202 : decode cX7_findRoots 202 = .ok (.ladd, 1) := by decide +kernel
theorem dX7_findRoots_203 : decode cX7_findRoots 203 = .ok (.lstore 11, 2) := by decide +kernel
theorem dX7_findRoots_205 : decode cX7_findRoots 205 = .ok (.goto (-23), 3) := by decide +kernel
theorem dX7_findRoots_208 : decode cX7_findRoots 208 = .ok (.aload_n 0, 1) := by decide +kernel
theorem dX7_findRoots_209 : decode cX7_findRoots 209 = .ok (.lload 9, 2) := by decide +kernel
theorem dX7_findRoots_211 : decode cX7_findRoots 211 = .ok (.lload 7, 2) := by decide +kernel
theorem dX7_findRoots_213 : decode cX7_findRoots 213 = .ok (.ldc2_w 199, 3) := by decide +kernel
theorem dX7_findRoots_216 : decode cX7_findRoots 216 = .ok (.ladd, 1) := by decide +kernel
theorem dX7_findRoots_217 : decode cX7_findRoots 217 = .ok (.lcmp, 1) := by decide +kernel
theorem dX7_findRoots_218 : decode cX7_findRoots 218 = .ok (.ifCond .le 10, 3) := by decide +kernel
theorem dX7_findRoots_221 : decode cX7_findRoots 221 = .ok (.lload 9, 2) := by decide +kernel
theorem dX7_findRoots_223 : decode cX7_findRoots 223 = .ok (.lconst 1, 1) := by decide +kernel
theorem dX7_findRoots_224 : decode cX7_findRoots 224 = .ok (.ladd, 1) := by decide +kernel
theorem dX7_findRoots_225 : decode cX7_findRoots 225 = .ok (.goto 9, 3) := by decide +kernel
theorem dX7_findRoots_228 : decode cX7_findRoots 228 = .ok (.lload 7, 2) := by decide +kernel
theorem dX7_findRoots_230 : decode cX7_findRoots 230 = .ok (.ldc2_w 230, 3) := by decide +kernel
theorem dX7_findRoots_233 : decode cX7_findRoots 233 = .ok (.ladd, 1) := by decide +kernel
theorem dX7_findRoots_234 : decode cX7_findRoots 234 = .ok (.lload_n 1, 1) := by decide +kernel
theorem dX7_findRoots_235 : decode cX7_findRoots 235 = .ok (.iconst 1, 1) := by decide +kernel
theorem dX7_findRoots_236 : decode cX7_findRoots 236 = .ok (.invokevirtual 232, 3) := by decide +kernel
theorem dX7_findRoots_239 : decode cX7_findRoots 239 = .ok (.return_, 1) := by decide +kernel
set_option maxRecDepth 20000 in
theorem ggX7_cubic_X7_isSquare : GoodIn wsX7_cubic wsX7_isSquare := goodIn_r _ [7, 8, 9, 6, 10, 11, 12] (by decide +kernel) (by decide +kernel)
set_option maxRecDepth 20000 in
theorem gX7_cubic_X7_isSquare : GoodIn wsX7_cubic (va_wsS RX7 205 yX7_isSquare wsX7_isSquare) := goodIn_app (goodIn_of _ (by decide +kernel)) ggX7_cubic_X7_isSquare
theorem dX7_cubic_0 : decode cX7_cubic 0 = .ok (.ldc2_w 239, 3) := by decide +kernel
theorem dX7_cubic_3 : decode cX7_cubic 3 = .ok (.lload_n 1, 1) := by decide +kernel
theorem dX7_cubic_4 : decode cX7_cubic 4 = .ok (.lmul, 1) := by decide +kernel
theorem dX7_cubic_5 : decode cX7_cubic 5 = .ok (.lload_n 3, 1) := by decide +kernel
theorem dX7_cubic_6 : decode cX7_cubic 6 = .ok (.lmul, 1) := by decide +kernel
theorem dX7_cubic_7 : decode cX7_cubic 7 = .ok (.lload 5, 2) := by decide +kernel
theorem dX7_cubic_9 : decode cX7_cubic 9 = .ok (.lmul, 1) := by decide +kernel
theorem dX7_cubic_10 : decode cX7_cubic 10 = .ok (.lload 7, 2) := by decide +kernel
theorem dX7_cubic_12 : decode cX7_cubic 12 = .ok (.lmul, 1) := by decide +kernel
theorem dX7_cubic_13 : decode cX7_cubic 13 = .ok (.ldc2_w 241, 3) := by decide +kernel
theorem dX7_cubic_16 : decode cX7_cubic 16 = .ok (.lload_n 3, 1) := by decide +kernel
theorem dX7_cubic_17 : decode cX7_cubic 17 = .ok (.lmul, 1) := by decide +kernel
theorem dX7_cubic_18 : decode cX7_cubic 18 = .ok (.lload_n 3, 1) := by decide +kernel
theorem dX7_cubic_19 : decode cX7_cubic 19 = .ok (.lmul, 1) := by decide +kernel
theorem dX7_cubic_20 : decode cX7_cubic 20 = .ok (.lload_n 3, 1) := by decide +kernel
theorem dX7_cubic_21 : decode cX7_cubic 21 = .ok (.lmul, 1) := by decide +kernel
theorem dX7_cubic_22 : decode cX7_cubic 22 = .ok (.lload 7, 2) := by decide +kernel
theorem dX7_cubic_24 : decode cX7_cubic 24 = .ok (.lmul, 1) := by decide +kernel
theorem dX7_cubic_25 : decode cX7_cubic 25 = .ok (.lsub, 1) := by decide +kernel
theorem dX7_cubic_26 : decode cX7_cubic 26 = .ok (.lload_n 3, 1) := by decide +kernel
theorem dX7_cubic_27 : decode cX7_cubic 27 = .ok (.lload_n 3, 1) := by decide +kernel
theorem dX7_cubic_28 : decode cX7_cubic 28 = .ok (.lmul, 1) := by decide +kernel
theorem dX7_cubic_29 : decode cX7_cubic 29 = .ok (.lload 5, 2) := by decide +kernel
theorem dX7_cubic_31 : decode cX7_cubic 31 = .ok (.lmul, 1) := by decide +kernel
theorem dX7_cubic_32 : decode cX7_cubic 32 = .ok (.lload 5, 2) := by decide +kernel
theorem dX7_cubic_34 : decode cX7_cubic 34 = .ok (.lmul, 1) := by decide +kernel
theorem dX7_cubic_35 : decode cX7_cubic 35 = .ok (.ladd, 1) := by decide +kernel
theorem dX7_cubic_36 : decode cX7_cubic 36 = .ok (.ldc2_w 241, 3) := by decide +kernel
theorem dX7_cubic_39 : decode cX7_cubic 39 = .ok (.lload_n 1, 1) := by decide +kernel
theorem dX7_cubic_40 : decode cX7_cubic 40 = .ok (.lmul, 1) := by decide +kernel
theorem dX7_cubic_41 : decode cX7_cubic 41 = .ok (.lload 5, 2) := by decide +kernel
theorem dX7_cubic_43 : decode cX7_cubic 43 = .ok (.lmul, 1) := by decide +kernel
theorem dX7_cubic_44 : decode cX7_cubic 44 = .ok (.lload 5, 2) := by decide +kernel
theorem dX7_cubic_46 : decode cX7_cubic 46 = .ok (.lmul, 1) := by decide +kernel
theorem dX7_cubic_47 : decode cX7_cubic 47 = .ok (.lload 5, 2) := by decide +kernel
theorem dX7_cubic_49 : decode cX7_cubic 49 = .ok (.lmul, 1) := by decide +kernel
theorem dX7_cubic_50 : decode cX7_cubic 50 = .ok (.lsub, 1) := by decide +kernel
theorem dX7_cubic_51 : decode cX7_cubic 51 = .ok (.ldc2_w 243, 3) := by decide +kernel
theorem dX7_cubic_54 : decode cX7_cubic 54 = .ok (.lload_n 1, 1) := by decide +kernel
theorem dX7_cubic_55 : decode cX7_cubic 55 = .ok (.lmul, 1) := by decide +kernel
theorem dX7_cubic_56 : decode cX7_cubic 56 = .ok (.lload_n 1, 1) := by decide +kernel
theorem dX7_cubic_57 : decode cX7_cubic 57 = .ok (.lmul, 1) := by decide +kernel
theorem dX7_cubic_58 : decode cX7_cubic 58 = .ok (.lload 7, 2) := by decide +kernel
theorem dX7_cubic_60 : decode cX7_cubic 60 = .ok (.lmul, 1) := by decide +kernel
theorem dX7_cubic_61 : decode cX7_cubic 61 = .ok (.lload 7, 2) := by decide +kernel
theorem dX7_cubic_63 : decode cX7_cubic 63 = .ok (.lmul, 1) := by decide +kernel
theorem dX7_cubic_64 : decode cX7_cubic 64 = .ok (.lsub, 1) := by decide +kernel
theorem dX7_cubic_65 : decode cX7_cubic 65 = .ok (.lstore 9, 2) := by decide +kernel
theorem dX7_cubic_67 : decode cX7_cubic 67 = .ok (.lload 9, 2) := by decide +kernel
theorem dX7_cubic_69 : decode cX7_cubic 69 = .ok (.invokestatic 205, 3) := by decide +kernel
theorem dX7_cubic_72 : decode cX7_cubic 72 = .ok (.ifCond .eq 7, 3) := by decide +kernel
theorem dX7_cubic_75 : decode cX7_cubic 75 = .ok (.iconst 3, 1) := by decide +kernel
theorem dX7_cubic_76 : decode cX7_cubic 76 = .ok (.goto 4, 3) := by decide +kernel
theorem dX7_cubic_79 : decode cX7_cubic 79 = .ok (.iconst 4, 1) := by decide +kernel
theorem dX7_cubic_80 : decode cX7_cubic 80 = .ok (.ireturn, 1) := by decide +kernel
set_option maxRecDepth 20000 in
theorem ggX7_quartic_X7_findRoots : GoodIn wsX7_quartic wsX7_findRoots := goodIn_r _ [20, 14, 21, 11, 22, 12, 23, 24, 25, 26, 19, 27, 15, 28, 29, 30, 31, 13, 32, 33, 34, 35, 36, 37, 38, 48, 49, 50, 51, 52, 53, 54, 55, 56, 57, 58, 59, 60, 61, 62, 63, 64, 65, 66, 67, 68, 69, 70, 71, 72] (by decide +kernel) (by decide +kernel)
set_option maxRecDepth 20000 in
theorem gX7_quartic_X7_findRoots : GoodIn wsX7_quartic (wsV RX7 259 RX7 yX7_findRoots wsX7_findRoots) := goodIn_app (goodIn_of _ (by decide +kernel)) ggX7_quartic_X7_findRoots
set_option maxRecDepth 20000 in
theorem ggX7_quartic_X7_isSquare : GoodIn wsX7_quartic wsX7_isSquare := goodIn_r _ [41, 32, 33, 19, 34, 35, 23] (by decide +kernel) (by decide +kernel)
set_option maxRecDepth 20000 in
theorem gX7_quartic_X7_isSquare : GoodIn wsX7_quartic (va_wsS RX7 205 yX7_isSquare wsX7_isSquare) := goodIn_app (goodIn_of _ (by decide +kernel)) ggX7_quartic_X7_isSquare
set_option maxRecDepth 20000 in
theorem ggX7_quartic_X7_isSquareBeside : GoodIn wsX7_quartic wsX7_isSquareBeside := goodIn_r _ [44, 39, 40, 19, 41, 32, 33, 34, 35, 23, 45, 46, 47] (by decide +kernel) (by decide +kernel)
set_option maxRecDepth 20000 in
theorem gX7_quartic_X7_isSquareBeside : GoodIn wsX7_quartic (va_wsS RX7 262 yX7_isSquareBeside wsX7_isSquareBeside) := goodIn_app (goodIn_of _ (by decide +kernel)) ggX7_quartic_X7_isSquareBeside
theorem dX7_quartic_0 : decode cX7_quartic 0 = .ok (.ldc2_w 245, 3) := by decide +kernel
theorem dX7_quartic_3 : decode cX7_quartic 3 = .ok (.lload_n 1, 1) := by decide +kernel
theorem dX7_quartic_4 : decode cX7_quartic 4 = .ok (.lmul, 1) := by decide +kernel
theorem dX7_quartic_5 : decode cX7_quartic 5 = .ok (.lload_n 1, 1) := by decide +kernel
theorem dX7_quartic_6 : decode cX7_quartic 6 = .ok (.lmul, 1) := by decide +kernel
theorem dX7_quartic_7 : decode cX7_quartic 7 = .ok (.lload_n 1, 1) := by decide +kernel
