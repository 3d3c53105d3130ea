theorem dX7_isRoot_2 : decode cX7_isRoot 2 = .ok (.invokevirtual 39, 3) := by decide +kernel
theorem dX7_isRoot_5 : decode cX7_isRoot 5 = .ok (.iconst 1, 1) := by decide +kernel
theorem dX7_isRoot_6 : decode cX7_isRoot 6 = .ok (.if_icmp .lt 17, 3) := by decide +kernel
theorem dX7_isRoot_9 : decode cX7_isRoot 9 = .ok (.aload_n 0, 1) := by decide +kernel
theorem dX7_isRoot_10 : decode cX7_isRoot 10 = .ok (.bipush 10, 2) := by decide +kernel
theorem dX7_isRoot_12 : decode cX7_isRoot 12 = .ok (.iload_n 1, 1) := by decide +kernel
theorem dX7_isRoot_13 : decode cX7_isRoot 13 = .ok (.invokevirtual 76, 3) := by decide +kernel
theorem dX7_isRoot_16 : decode cX7_isRoot 16 = .ok (.ifCond .eq 7, 3) := by decide +kernel
theorem dX7_isRoot_19 : decode cX7_isRoot 19 = .ok (.iconst 1, 1) := by decide +kernel
theorem dX7_isRoot_20 : decode cX7_isRoot 20 = .ok (.goto 4, 3) := by decide +kernel
theorem dX7_isRoot_23 : decode cX7_isRoot 23 = .ok (.iconst 0, 1) := by decide +kernel
theorem dX7_isRoot_24 : decode cX7_isRoot 24 = .ok (.ireturn, 1) := by decide +kernel
set_option maxRecDepth 20000 in
theorem ggX7_prepare_X7_degreeOf : GoodIn wsX7_prepare wsX7_degreeOf := goodIn_r _ [10, 1, 20, 21, 22, 23, 24, 25, 26, 27, 28, 29, 30, 31, 32, 33, 34, 35, 36, 37, 38, 39, 40, 41, 42, 43, 44] (by decide +kernel) (by decide +kernel)
set_option maxRecDepth 20000 in
theorem gX7_prepare_X7_degreeOf : GoodIn wsX7_prepare (wsV RX7 39 RX7 yX7_degreeOf wsX7_degreeOf) := goodIn_app (goodIn_of _ (by decide +kernel)) ggX7_prepare_X7_degreeOf
set_option maxRecDepth 20000 in
theorem ggX7_prepare_X7_list : GoodIn wsX7_prepare wsX7_list := goodIn_r _ [14, 15, 20, 21, 22, 23, 24, 25, 26, 27, 28, 29, 30, 31, 32, 33, 34, 35, 36, 37, 38, 39, 40, 41, 42, 43, 44] (by decide +kernel) (by decide +kernel)
set_option maxRecDepth 20000 in
theorem gX7_prepare_X7_list : GoodIn wsX7_prepare (wsV RX7 89 RX7 yX7_list wsX7_list) := goodIn_app (goodIn_of _ (by decide +kernel)) ggX7_prepare_X7_list
set_option maxRecDepth 20000 in
theorem ggX7_prepare_X7_valueAt : GoodIn wsX7_prepare wsX7_valueAt := goodIn_r _ [19, 1, 20, 21, 22, 23, 24, 25, 26, 27, 28, 29, 30, 31, 32, 33, 34, 35, 36, 37, 38, 39, 40, 41, 42, 43, 44] (by decide +kernel) (by decide +kernel)
set_option maxRecDepth 20000 in
theorem gX7_prepare_X7_valueAt : GoodIn wsX7_prepare (wsV RX7 106 RX7 yX7_valueAt wsX7_valueAt) := goodIn_app (goodIn_of _ (by decide +kernel)) ggX7_prepare_X7_valueAt
theorem dX7_prepare_0 : decode cX7_prepare 0 = .ok (.aload_n 0, 1) := by decide +kernel
theorem dX7_prepare_1 : decode cX7_prepare 1 = .ok (.aload_n 0, 1) := by decide +kernel
theorem dX7_prepare_2 : decode cX7_prepare 2 = .ok (.aload_n 0, 1) := by decide +kernel
theorem dX7_prepare_3 : decode cX7_prepare 3 = .ok (.getfield 7, 3) := by decide +kernel
theorem dX7_prepare_6 : decode cX7_prepare 6 = .ok (.bipush 8, 2) := by decide +kernel
theorem dX7_prepare_8 : decode cX7_prepare 8 = .ok (.iload_n 1, 1) := by decide +kernel
theorem dX7_prepare_9 : decode cX7_prepare 9 = .ok (.imul, 1) := by decide +kernel
theorem dX7_prepare_10 : decode cX7_prepare 10 = .ok (.aload_n 0, 1) := by decide +kernel
theorem dX7_prepare_11 : decode cX7_prepare 11 = .ok (.iload_n 1, 1) := by decide +kernel
theorem dX7_prepare_12 : decode cX7_prepare 12 = .ok (.invokevirtual 39, 3) := by decide +kernel
theorem dX7_prepare_15 : decode cX7_prepare 15 = .ok (.iadd, 1) := by decide +kernel
theorem dX7_prepare_16 : decode cX7_prepare 16 = .ok (.laload, 1) := by decide +kernel
theorem dX7_prepare_17 : decode cX7_prepare 17 = .ok (.iconst 0, 1) := by decide +kernel
theorem dX7_prepare_18 : decode cX7_prepare 18 = .ok (.invokevirtual 89, 3) := by decide +kernel
theorem dX7_prepare_21 : decode cX7_prepare 21 = .ok (.putfield 93, 3) := by decide +kernel
theorem dX7_prepare_24 : decode cX7_prepare 24 = .ok (.aload_n 0, 1) := by decide +kernel
theorem dX7_prepare_25 : decode cX7_prepare 25 = .ok (.aload_n 0, 1) := by decide +kernel
theorem dX7_prepare_26 : decode cX7_prepare 26 = .ok (.aload_n 0, 1) := by decide +kernel
theorem dX7_prepare_27 : decode cX7_prepare 27 = .ok (.getfield 7, 3) := by decide +kernel
theorem dX7_prepare_30 : decode cX7_prepare 30 = .ok (.bipush 8, 2) := by decide +kernel
theorem dX7_prepare_32 : decode cX7_prepare 32 = .ok (.iload_n 1, 1) := by decide +kernel
theorem dX7_prepare_33 : decode cX7_prepare 33 = .ok (.imul, 1) := by decide +kernel
theorem dX7_prepare_34 : decode cX7_prepare 34 = .ok (.laload, 1) := by decide +kernel
theorem dX7_prepare_35 : decode cX7_prepare 35 = .ok (.bipush 100, 2) := by decide +kernel
theorem dX7_prepare_37 : decode cX7_prepare 37 = .ok (.invokevirtual 89, 3) := by decide +kernel
theorem dX7_prepare_40 : decode cX7_prepare 40 = .ok (.putfield 96, 3) := by decide +kernel
theorem dX7_prepare_43 : decode cX7_prepare 43 = .ok (.aload_n 0, 1) := by decide +kernel
theorem dX7_prepare_44 : decode cX7_prepare 44 = .ok (.aload_n 0, 1) := by decide +kernel
theorem dX7_prepare_45 : decode cX7_prepare 45 = .ok (.aload_n 0, 1) := by decide +kernel
theorem dX7_prepare_46 : decode cX7_prepare 46 = .ok (.iload_n 1, 1) := by decide +kernel
theorem dX7_prepare_47 : decode cX7_prepare 47 = .ok (.iconst 1, 1) := by decide +kernel
theorem dX7_prepare_48 : decode cX7_prepare 48 = .ok (.invokevirtual 106, 3) := by decide +kernel
theorem dX7_prepare_51 : decode cX7_prepare 51 = .ok (.sipush 200, 3) := by decide +kernel
theorem dX7_prepare_54 : decode cX7_prepare 54 = .ok (.invokevirtual 89, 3) := by decide +kernel
theorem dX7_prepare_57 : decode cX7_prepare 57 = .ok (.putfield 110, 3) := by decide +kernel
theorem dX7_prepare_60 : decode cX7_prepare 60 = .ok (.aload_n 0, 1) := by decide +kernel
theorem dX7_prepare_61 : decode cX7_prepare 61 = .ok (.aload_n 0, 1) := by decide +kernel
theorem dX7_prepare_62 : decode cX7_prepare 62 = .ok (.aload_n 0, 1) := by decide +kernel
theorem dX7_prepare_63 : decode cX7_prepare 63 = .ok (.iload_n 1, 1) := by decide +kernel
theorem dX7_prepare_64 : decode cX7_prepare 64 = .ok (.iconst (-1), 1) := by decide +kernel
theorem dX7_prepare_65 : decode cX7_prepare 65 = .ok (.invokevirtual 106, 3) := by decide +kernel
theorem dX7_prepare_68 : decode cX7_prepare 68 = .ok (.sipush 400, 3) := by decide +kernel
theorem dX7_prepare_71 : decode cX7_prepare 71 = .ok (.invokevirtual 89, 3) := by decide +kernel
theorem dX7_prepare_74 : decode cX7_prepare 74 = .ok (.putfield 113, 3) := by decide +kernel
theorem dX7_prepare_77 : decode cX7_prepare 77 = .ok (.return_, 1) := by decide +kernel
set_option maxRecDepth 20000 in
theorem ggX7_findSecond_X7_degreeOf : GoodIn wsX7_findSecond wsX7_degreeOf := goodIn_r _ [9, 10, 60, 61, 62, 63, 64, 65, 66, 67, 68, 69, 70, 71, 72, 73, 74, 75, 76, 77, 78, 79, 80, 81, 82, 83, 84] (by decide +kernel) (by decide +kernel)
set_option maxRecDepth 20000 in
theorem gX7_findSecond_X7_degreeOf : GoodIn wsX7_findSecond (wsV RX7 39 RX7 yX7_degreeOf wsX7_degreeOf) := goodIn_app (goodIn_of _ (by decide +kernel)) ggX7_findSecond_X7_degreeOf
set_option maxRecDepth 20000 in
theorem ggX7_findSecond_X7_prepare : GoodIn wsX7_findSecond wsX7_prepare := goodIn_r _ [14, 10, 1, 2, 3, 15, 5, 6, 7, 8, 9, 16, 17, 18, 19, 4, 20, 21, 22, 23, 60, 61, 62, 63, 64, 65, 66, 67, 68, 69, 70, 71, 72, 73, 74, 75, 76, 77, 78, 79, 80, 81, 82, 83, 84] (by decide +kernel) (by decide +kernel)
set_option maxRecDepth 20000 in
theorem gX7_findSecond_X7_prepare : GoodIn wsX7_findSecond (wsV RX7 116 RX7 yX7_prepare wsX7_prepare) := goodIn_app (goodIn_of _ (by decide +kernel)) ggX7_findSecond_X7_prepare
set_option maxRecDepth 20000 in
theorem ggX7_findSecond_X7_signed : GoodIn wsX7_findSecond wsX7_signed := goodIn_r _ [26] (by decide +kernel) (by decide +kernel)
set_option maxRecDepth 20000 in
theorem gX7_findSecond_X7_signed : GoodIn wsX7_findSecond (va_wsS RX7 99 yX7_signed wsX7_signed) := goodIn_app (goodIn_of _ (by decide +kernel)) ggX7_findSecond_X7_signed
set_option maxRecDepth 20000 in
theorem ggX7_findSecond_X7_trySecond : GoodIn wsX7_findSecond wsX7_trySecond := goodIn_r _ [30, 10, 20, 21, 22, 8, 23, 31, 32, 33, 34, 35, 36, 37, 38, 39, 40, 41, 5, 6, 7, 9, 42, 43, 44, 45, 46, 47, 48, 49, 50, 51, 52, 53, 54, 55, 56, 57, 58, 59, 60, 61, 62, 63, 64, 65, 66, 67, 68, 69, 70, 71, 72, 73, 74, 75, 76, 77, 78, 79, 80, 81, 82, 83, 84] (by decide +kernel) (by decide +kernel)
set_option maxRecDepth 20000 in
theorem gX7_findSecond_X7_trySecond : GoodIn wsX7_findSecond (wsV RX7 119 RX7 yX7_trySecond wsX7_trySecond) := goodIn_app (goodIn_of _ (by decide +kernel)) ggX7_findSecond_X7_trySecond
theorem dX7_findSecond_0 : decode cX7_findSecond 0 = .ok (.aload_n 0, 1) := by decide +kernel
theorem dX7_findSecond_1 : decode cX7_findSecond 1 = .ok (.iload_n 1, 1) := by decide +kernel
theorem dX7_findSecond_2 : decode cX7_findSecond 2 = .ok (.invokevirtual 39, 3) := by decide +kernel
theorem dX7_findSecond_5 : decode cX7_findSecond 5 = .ok (.iconst 4, 1) := by decide +kernel
theorem dX7_findSecond_6 : decode cX7_findSecond 6 = .ok (.if_icmp .ge 4, 3) := by decide +kernel
theorem dX7_findSecond_9 : decode cX7_findSecond 9 = .ok (.return_, 1) := by decide +kernel
theorem dX7_findSecond_10 : decode cX7_findSecond 10 = .ok (.aload_n 0, 1) := by decide +kernel
theorem dX7_findSecond_11 : decode cX7_findSecond 11 = .ok (.iload_n 1, 1) := by decide +kernel
theorem dX7_findSecond_12 : decode cX7_findSecond 12 = .ok (.invokevirtual 116, 3) := by decide +kernel
theorem dX7_findSecond_15 : decode cX7_findSecond 15 = .ok (.iconst 0, 1) := by decide +kernel
theorem dX7_findSecond_16 : decode cX7_findSecond 16 = .ok (.istore_n 2, 1) := by decide +kernel
theorem dX7_findSecond_17 : decode cX7_findSecond 17 = .ok (.iload_n 2, 1) := by decide +kernel
theorem dX7_findSecond_18 : decode cX7_findSecond 18 = .ok (.aload_n 0, 1) := by decide +kernel
theorem dX7_findSecond_19 : decode cX7_findSecond 19 = .ok (.getfield 93, 3) := by decide +kernel
theorem dX7_findSecond_22 : decode cX7_findSecond 22 = .ok (.if_icmp .ge 100, 3) := by decide +kernel
theorem dX7_findSecond_25 : decode cX7_findSecond 25 = .ok (.iconst 0, 1) := by decide +kernel
theorem dX7_findSecond_26 : decode cX7_findSecond 26 = .ok (.istore_n 3, 1) := by decide +kernel
theorem dX7_findSecond_27 : decode cX7_findSecond 27 = .ok (.iload_n 3, 1) := by decide +kernel
theorem dX7_findSecond_28 : decode cX7_findSecond 28 = .ok (.iconst 2, 1) := by decide +kernel
theorem dX7_findSecond_29 : decode cX7_findSecond 29 = .ok (.aload_n 0, 1) := by decide +kernel
theorem dX7_findSecond_30 : decode cX7_findSecond 30 = .ok (.getfield 96, 3) := by decide +kernel
theorem dX7_findSecond_33 : decode cX7_findSecond 33 = .ok (.imul, 1) := by decide +kernel
theorem dX7_findSecond_34 : decode cX7_findSecond 34 = .ok (.if_icmp .ge 82, 3) := by decide +kernel
theorem dX7_findSecond_37 : decode cX7_findSecond 37 = .ok (.iconst 0, 1) := by decide +kernel
theorem dX7_findSecond_38 : decode cX7_findSecond 38 = .ok (.istore 4, 2) := by decide +kernel
theorem dX7_findSecond_40 : decode cX7_findSecond 40 = .ok (.iload 4, 2) := by decide +kernel
theorem dX7_findSecond_42 : decode cX7_findSecond 42 = .ok (.iconst 2, 1) := by decide +kernel
theorem dX7_findSecond_43 : decode cX7_findSecond 43 = .ok (.aload_n 0, 1) := by decide +kernel
theorem dX7_findSecond_44 : decode cX7_findSecond 44 = .ok (.getfield 110, 3) := by decide +kernel
theorem dX7_findSecond_47 : decode cX7_findSecond 47 = .ok (.imul, 1) := by decide +kernel
theorem dX7_findSecond_48 : decode cX7_findSecond 48 = .ok (.if_icmp .ge 62, 3) := by decide +kernel
theorem dX7_findSecond_51 : decode cX7_findSecond 51 = .ok (.aload_n 0, 1) := by decide +kernel
theorem dX7_findSecond_52 : decode cX7_findSecond 52 = .ok (.iload_n 1, 1) := by decide +kernel
theorem dX7_findSecond_53 : decode cX7_findSecond 53 = .ok (.invokevirtual 39, 3) := by decide +kernel
theorem dX7_findSecond_56 : decode cX7_findSecond 56 = .ok (.iconst 4, 1) := by decide +kernel
theorem dX7_findSecond_57 : decode cX7_findSecond 57 = .ok (.if_icmp .lt 53, 3) := by decide +kernel
theorem dX7_findSecond_60 : decode cX7_findSecond 60 = .ok (.aload_n 0, 1) := by decide +kernel
theorem dX7_findSecond_61 : decode cX7_findSecond 61 = .ok (.iload_n 1, 1) := by decide +kernel
theorem dX7_findSecond_62 : decode cX7_findSecond 62 = .ok (.aload_n 0, 1) := by decide +kernel
theorem dX7_findSecond_63 : decode cX7_findSecond 63 = .ok (.getfield 29, 3) := by decide +kernel
theorem dX7_findSecond_66 : decode cX7_findSecond 66 = .ok (.iload_n 2, 1) := by decide +kernel
theorem dX7_findSecond_67 : decode cX7_findSecond 67 = .ok (.iaload, 1) := by decide +kernel
theorem dX7_findSecond_68 : decode cX7_findSecond 68 = .ok (.aload_n 0, 1) := by decide +kernel
theorem dX7_findSecond_69 : decode cX7_findSecond 69 = .ok (.getfield 29, 3) := by decide +kernel
theorem dX7_findSecond_72 : decode cX7_findSecond 72 = .ok (.bipush 100, 2) := by decide +kernel
theorem dX7_findSecond_74 : decode cX7_findSecond 74 = .ok (.iload_n 3, 1) := by decide +kernel
theorem dX7_findSecond_75 : decode cX7_findSecond 75 = .ok (.iconst 2, 1) := by decide +kernel
theorem dX7_findSecond_76 : decode cX7_findSecond 76 = .ok (.idiv, 1) := by decide +kernel
theorem dX7_findSecond_77 : decode cX7_findSecond 77 = .ok (.iadd, 1) := by decide +kernel
theorem dX7_findSecond_78 : decode cX7_findSecond 78 = .ok (.iaload, 1) := by decide +kernel
theorem dX7_findSecond_79 : decode cX7_findSecond 79 = .ok (.iload_n 3, 1) := by decide +kernel
theorem dX7_findSecond_80 : decode cX7_findSecond 80 = .ok (.invokestatic 99, 3) := by decide +kernel
theorem dX7_findSecond_83 : decode cX7_findSecond 83 = .ok (.aload_n 0, 1) := by decide +kernel
theorem dX7_findSecond_84 : decode cX7_findSecond 84 = .ok (.getfield 29, 3) := by decide +kernel
theorem dX7_findSecond_87 : decode cX7_findSecond 87 = .ok (.sipush 200, 3) := by decide +kernel
theorem dX7_findSecond_90 : decode cX7_findSecond 90 = .ok (.iload 4, 2) := by decide +kernel
theorem dX7_findSecond_92 : decode cX7_findSecond 92 = .ok (.iconst 2, 1) := by decide +kernel
theorem dX7_findSecond_93 : decode cX7_findSecond 93 = .ok (.idiv, 1) := by decide +kernel
theorem dX7_findSecond_94 : decode cX7_findSecond 94 = .ok (.iadd, 1) := by decide +kernel
theorem dX7_findSecond_95 : decode cX7_findSecond 95 = .ok (.iaload, 1) := by decide +kernel
theorem dX7_findSecond_96 : decode cX7_findSecond 96 = .ok (.iload 4, 2) := by decide +kernel
theorem dX7_findSecond_98 : decode cX7_findSecond 98 = .ok (.invokestatic 99, 3) := by decide +kernel
theorem dX7_findSecond_101 : decode cX7_findSecond 101 = .ok (.invokevirtual 119, 3) := by decide +kernel
theorem dX7_findSecond_104 : decode cX7_findSecond 104 = .ok (.iinc 4 1, 3) := by decide +kernel
theorem dX7_findSecond_107 : decode cX7_findSecond 107 = .ok (.goto (-67), 3) := by decide +kernel
theorem dX7_findSecond_110 : decode cX7_findSecond 110 = .ok (.iinc 3 1, 3) := by decide +kernel
theorem dX7_findSecond_113 : decode cX7_findSecond 113 = .ok (.goto (-86), 3) := by decide +kernel
theorem dX7_findSecond_116 : decode cX7_findSecond 116 = .ok (.iinc 2 1, 3) := by decide +kernel
theorem dX7_findSecond_119 : decode cX7_findSecond 119 = .ok (.goto (-102), 3) := by decide +kernel
theorem dX7_findSecond_122 : decode cX7_findSecond 122 = .ok (.return_, 1) := by decide +kernel
set_option maxRecDepth 20000 in
theorem ggX7_trySecond_X7_valueAt : GoodIn wsX7_trySecond wsX7_valueAt := goodIn_r _ [6, 1, 40, 41, 42, 43, 44, 45, 46, 47, 48, 49, 50, 51, 52, 53, 54, 55, 56, 57, 58, 59, 60, 61, 62, 63, 64] (by decide +kernel) (by decide +kernel)
set_option maxRecDepth 20000 in
theorem gX7_trySecond_X7_valueAt : GoodIn wsX7_trySecond (wsV RX7 106 RX7 yX7_valueAt wsX7_valueAt) := goodIn_app (goodIn_of _ (by decide +kernel)) ggX7_trySecond_X7_valueAt
set_option maxRecDepth 20000 in
theorem ggX7_trySecond_X7_clear : GoodIn wsX7_trySecond wsX7_clear := goodIn_r _ [10, 1, 40, 41, 42, 43, 44, 45, 46, 47, 48, 49, 50, 51, 52, 53, 54, 55, 56, 57, 58, 59, 60, 61, 62, 63, 64] (by decide +kernel) (by decide +kernel)
set_option maxRecDepth 20000 in
theorem gX7_trySecond_X7_clear : GoodIn wsX7_trySecond (wsV RX7 55 RX7 yX7_clear wsX7_clear) := goodIn_app (goodIn_of _ (by decide +kernel)) ggX7_trySecond_X7_clear
set_option maxRecDepth 20000 in
theorem ggX7_trySecond_X7_gcd : GoodIn wsX7_trySecond wsX7_gcd := goodIn_r _ [13] (by decide +kernel) (by decide +kernel)
set_option maxRecDepth 20000 in
theorem gX7_trySecond_X7_gcd : GoodIn wsX7_trySecond (va_wsS RX7 51 yX7_gcd wsX7_gcd) := goodIn_app (goodIn_of _ (by decide +kernel)) ggX7_trySecond_X7_gcd
set_option maxRecDepth 20000 in
theorem ggX7_trySecond_X7_takeOut : GoodIn wsX7_trySecond wsX7_takeOut := goodIn_r _ [17, 18, 19, 20, 5, 21, 1, 22, 23, 24, 25, 26, 27, 28, 29, 7, 8, 9, 10, 30, 31, 32, 33, 34, 35, 36, 37, 38, 39, 40, 41, 42, 43, 44, 45, 46, 47, 48, 49, 50, 51, 52, 53, 54, 55, 56, 57, 58, 59, 60, 61, 62, 63, 64] (by decide +kernel) (by decide +kernel)
set_option maxRecDepth 20000 in
theorem gX7_trySecond_X7_takeOut : GoodIn wsX7_trySecond (wsV RX7 86 RX7 yX7_takeOut wsX7_takeOut) := goodIn_app (goodIn_of _ (by decide +kernel)) ggX7_trySecond_X7_takeOut
theorem dX7_trySecond_0 : decode cX7_trySecond 0 = .ok (.iload 4, 2) := by decide +kernel
theorem dX7_trySecond_2 : decode cX7_trySecond 2 = .ok (.iload_n 2, 1) := by decide +kernel
theorem dX7_trySecond_3 : decode cX7_trySecond 3 = .ok (.isub, 1) := by decide +kernel
theorem dX7_trySecond_4 : decode cX7_trySecond 4 = .ok (.iload_n 3, 1) := by decide +kernel
theorem dX7_trySecond_5 : decode cX7_trySecond 5 = .ok (.isub, 1) := by decide +kernel
theorem dX7_trySecond_6 : decode cX7_trySecond 6 = .ok (.istore 5, 2) := by decide +kernel
theorem dX7_trySecond_8 : decode cX7_trySecond 8 = .ok (.iload_n 2, 1) := by decide +kernel
theorem dX7_trySecond_9 : decode cX7_trySecond 9 = .ok (.iload 5, 2) := by decide +kernel
theorem dX7_trySecond_11 : decode cX7_trySecond 11 = .ok (.isub, 1) := by decide +kernel
theorem dX7_trySecond_12 : decode cX7_trySecond 12 = .ok (.iload_n 3, 1) := by decide +kernel
theorem dX7_trySecond_13 : decode cX7_trySecond 13 = .ok (.iadd, 1) := by decide +kernel
theorem dX7_trySecond_14 : decode cX7_trySecond 14 = .ok (.istore 6, 2) := by decide +kernel
theorem dX7_trySecond_16 : decode cX7_trySecond 16 = .ok (.iload 6, 2) := by decide +kernel
theorem dX7_trySecond_18 : decode cX7_trySecond 18 = .ok (.ifCond .eq 18, 3) := by decide +kernel
theorem dX7_trySecond_21 : decode cX7_trySecond 21 = .ok (.aload_n 0, 1) := by decide +kernel
theorem dX7_trySecond_22 : decode cX7_trySecond 22 = .ok (.iload_n 1, 1) := by decide +kernel
theorem dX7_trySecond_23 : decode cX7_trySecond 23 = .ok (.iconst (-1), 1) := by decide +kernel
theorem dX7_trySecond_24 : decode cX7_trySecond 24 = .ok (.invokevirtual 106, 3) := by decide +kernel
theorem dX7_trySecond_27 : decode cX7_trySecond 27 = .ok (.iload 6, 2) := by decide +kernel
theorem dX7_trySecond_29 : decode cX7_trySecond 29 = .ok (.i2l, 1) := by decide +kernel
theorem dX7_trySecond_30 : decode cX7_trySecond 30 = .ok (.lrem, 1) := by decide +kernel
theorem dX7_trySecond_31 : decode cX7_trySecond 31 = .ok (.lconst 0, 1) := by decide +kernel
theorem dX7_trySecond_32 : decode cX7_trySecond 32 = .ok (.lcmp, 1) := by decide +kernel
theorem dX7_trySecond_33 : decode cX7_trySecond 33 = .ok (.ifCond .eq 4, 3) := by decide +kernel
theorem dX7_trySecond_36 : decode cX7_trySecond 36 = .ok (.return_, 1) := by decide +kernel
theorem dX7_trySecond_37 : decode cX7_trySecond 37 = .ok (.aload_n 0, 1) := by decide +kernel
theorem dX7_trySecond_38 : decode cX7_trySecond 38 = .ok (.bipush 10, 2) := by decide +kernel
theorem dX7_trySecond_40 : decode cX7_trySecond 40 = .ok (.invokevirtual 55, 3) := by decide +kernel
theorem dX7_trySecond_43 : decode cX7_trySecond 43 = .ok (.aload_n 0, 1) := by decide +kernel
theorem dX7_trySecond_44 : decode cX7_trySecond 44 = .ok (.getfield 7, 3) := by decide +kernel
theorem dX7_trySecond_47 : decode cX7_trySecond 47 = .ok (.bipush 80, 2) := by decide +kernel
theorem dX7_trySecond_49 : decode cX7_trySecond 49 = .ok (.iload_n 3, 1) := by decide +kernel
theorem dX7_trySecond_50 : decode cX7_trySecond 50 = .ok (.i2l, 1) := by decide +kernel
theorem dX7_trySecond_51 : decode cX7_trySecond 51 = .ok (.lastore, 1) := by decide +kernel
theorem dX7_trySecond_52 : decode cX7_trySecond 52 = .ok (.aload_n 0, 1) := by decide +kernel
theorem dX7_trySecond_53 : decode cX7_trySecond 53 = .ok (.getfield 7, 3) := by decide +kernel
theorem dX7_trySecond_56 : decode cX7_trySecond 56 = .ok (.bipush 81, 2) := by decide +kernel
theorem dX7_trySecond_58 : decode cX7_trySecond 58 = .ok (.iload 5, 2) := by decide +kernel
theorem dX7_trySecond_60 : decode cX7_trySecond 60 = .ok (.i2l, 1) := by decide +kernel
theorem dX7_trySecond_61 : decode cX7_trySecond 61 = .ok (.lastore, 1) := by decide +kernel
theorem dX7_trySecond_62 : decode cX7_trySecond 62 = .ok (.aload_n 0, 1) := by decide +kernel
theorem dX7_trySecond_63 : decode cX7_trySecond 63 = .ok (.getfield 7, 3) := by decide +kernel
theorem dX7_trySecond_66 : decode cX7_trySecond 66 = .ok (.bipush 82, 2) := by decide +kernel
theorem dX7_trySecond_68 : decode cX7_trySecond 68 = .ok (.iload_n 2, 1) := by decide +kernel
theorem dX7_trySecond_69 : decode cX7_trySecond 69 = .ok (.i2l, 1) := by decide +kernel
theorem dX7_trySecond_70 : decode cX7_trySecond 70 = .ok (.lastore, 1) := by decide +kernel
theorem dX7_trySecond_71 : decode cX7_trySecond 71 = .ok (.iload_n 2, 1) := by decide +kernel
theorem dX7_trySecond_72 : decode cX7_trySecond 72 = .ok (.i2l, 1) := by decide +kernel
theorem dX7_trySecond_73 : decode cX7_trySecond 73 = .ok (.iload 5, 2) := by decide +kernel
theorem dX7_trySecond_75 : decode cX7_trySecond 75 = .ok (.i2l, 1) := by decide +kernel
theorem dX7_trySecond_76 : decode cX7_trySecond 76 = .ok (.invokestatic 51, 3) := by decide +kernel
theorem dX7_trySecond_79 : decode cX7_trySecond 79 = .ok (.iload_n 3, 1) := by decide +kernel
theorem dX7_trySecond_80 : decode cX7_trySecond 80 = .ok (.i2l, 1) := by decide +kernel
theorem dX7_trySecond_81 : decode cX7_trySecond 81 = .ok (.invokestatic 51, 3) := by decide +kernel
theorem dX7_trySecond_84 : decode cX7_trySecond 84 = .ok (.lconst 1, 1) := by decide +kernel
theorem dX7_trySecond_85 : decode cX7_trySecond 85 = .ok (.lcmp, 1) := by decide +kernel
theorem dX7_trySecond_86 : decode cX7_trySecond 86 = .ok (.ifCond .ne 8, 3) := by decide +kernel
theorem dX7_trySecond_89 : decode cX7_trySecond 89 = .ok (.aload_n 0, 1) := by decide +kernel
theorem dX7_trySecond_90 : decode cX7_trySecond 90 = .ok (.iload_n 1, 1) := by decide +kernel
theorem dX7_trySecond_91 : decode cX7_trySecond 91 = .ok (.invokevirtual 86, 3) := by decide +kernel
theorem dX7_trySecond_94 : decode cX7_trySecond 94 = .ok (.return_, 1) := by decide +kernel
set_option maxRecDepth 20000 in
theorem ggX7_findThird_X7_degreeOf : GoodIn wsX7_findThird wsX7_degreeOf := goodIn_r _ [8, 9, 57, 58, 59, 60, 61, 62, 63, 64, 65, 66, 67, 68, 69, 70, 71, 72, 73, 74, 75, 76, 77, 78, 79, 80, 81] (by decide +kernel) (by decide +kernel)
set_option maxRecDepth 20000 in
theorem gX7_findThird_X7_degreeOf : GoodIn wsX7_findThird (wsV RX7 39 RX7 yX7_degreeOf wsX7_degreeOf) := goodIn_app (goodIn_of _ (by decide +kernel)) ggX7_findThird_X7_degreeOf
set_option maxRecDepth 20000 in
theorem ggX7_findThird_X7_prepare : GoodIn wsX7_findThird wsX7_prepare := goodIn_r _ [13, 9, 14, 15, 1, 2, 4, 5, 6, 7, 8, 16, 17, 18, 19, 3, 20, 21, 22, 23, 57, 58, 59, 60, 61, 62, 63, 64, 65, 66, 67, 68, 69, 70, 71, 72, 73, 74, 75, 76, 77, 78, 79, 80, 81] (by decide +kernel) (by decide +kernel)
set_option maxRecDepth 20000 in
theorem gX7_findThird_X7_prepare : GoodIn wsX7_findThird (wsV RX7 116 RX7 yX7_prepare wsX7_prepare) := goodIn_app (goodIn_of _ (by decide +kernel)) ggX7_findThird_X7_prepare
set_option maxRecDepth 20000 in
theorem ggX7_findThird_X7_signed : GoodIn wsX7_findThird wsX7_signed := goodIn_r _ [26] (by decide +kernel) (by decide +kernel)
set_option maxRecDepth 20000 in
theorem gX7_findThird_X7_signed : GoodIn wsX7_findThird (va_wsS RX7 99 yX7_signed wsX7_signed) := goodIn_app (goodIn_of _ (by decide +kernel)) ggX7_findThird_X7_signed
set_option maxRecDepth 20000 in
theorem ggX7_findThird_X7_tryThird : GoodIn wsX7_findThird wsX7_tryThird := goodIn_r _ [30, 14, 15, 3, 9, 4, 5, 6, 7, 8, 31, 32, 33, 34, 24, 25, 26, 20, 21, 22, 23, 35, 36, 37, 38, 39, 40, 41, 42, 43, 44, 45, 46, 47, 48, 49, 50, 51, 52, 53, 54, 55, 56, 57, 58, 59, 60, 61, 62, 63, 64, 65, 66, 67, 68, 69, 70, 71, 72, 73, 74, 75, 76, 77, 78, 79, 80, 81] (by decide +kernel) (by decide +kernel)
set_option maxRecDepth 20000 in
theorem gX7_findThird_X7_tryThird : GoodIn wsX7_findThird (wsV RX7 123 RX7 yX7_tryThird wsX7_tryThird) := goodIn_app (goodIn_of _ (by decide +kernel)) ggX7_findThird_X7_tryThird
theorem dX7_findThird_0 : decode cX7_findThird 0 = .ok (.aload_n 0, 1) := by decide +kernel
theorem dX7_findThird_1 : decode cX7_findThird 1 = .ok (.iload_n 1, 1) := by decide +kernel
theorem dX7_findThird_2 : decode cX7_findThird 2 = .ok (.invokevirtual 39, 3) := by decide +kernel
theorem dX7_findThird_5 : decode cX7_findThird 5 = .ok (.bipush 6, 2) := by decide +kernel
theorem dX7_findThird_7 : decode cX7_findThird 7 = .ok (.if_icmp .eq 4, 3) := by decide +kernel
theorem dX7_findThird_10 : decode cX7_findThird 10 = .ok (.return_, 1) := by decide +kernel
theorem dX7_findThird_11 : decode cX7_findThird 11 = .ok (.aload_n 0, 1) := by decide +kernel
theorem dX7_findThird_12 : decode cX7_findThird 12 = .ok (.iload_n 1, 1) := by decide +kernel
theorem dX7_findThird_13 : decode cX7_findThird 13 = .ok (.invokevirtual 116, 3) := by decide +kernel
theorem dX7_findThird_16 : decode cX7_findThird 16 = .ok (.iconst 0, 1) := by decide +kernel
theorem dX7_findThird_17 : decode cX7_findThird 17 = .ok (.istore_n 2, 1) := by decide +kernel
theorem dX7_findThird_18 : decode cX7_findThird 18 = .ok (.iload_n 2, 1) := by decide +kernel
theorem dX7_findThird_19 : decode cX7_findThird 19 = .ok (.iconst 2, 1) := by decide +kernel
theorem dX7_findThird_20 : decode cX7_findThird 20 = .ok (.aload_n 0, 1) := by decide +kernel
theorem dX7_findThird_21 : decode cX7_findThird 21 = .ok (.getfield 110, 3) := by decide +kernel
theorem dX7_findThird_24 : decode cX7_findThird 24 = .ok (.imul, 1) := by decide +kernel
theorem dX7_findThird_25 : decode cX7_findThird 25 = .ok (.if_icmp .ge 102, 3) := by decide +kernel
theorem dX7_findThird_28 : decode cX7_findThird 28 = .ok (.iconst 0, 1) := by decide +kernel
theorem dX7_findThird_29 : decode cX7_findThird 29 = .ok (.istore_n 3, 1) := by decide +kernel
theorem dX7_findThird_30 : decode cX7_findThird 30 = .ok (.iload_n 3, 1) := by decide +kernel
theorem dX7_findThird_31 : decode cX7_findThird 31 = .ok (.iconst 2, 1) := by decide +kernel
theorem dX7_findThird_32 : decode cX7_findThird 32 = .ok (.aload_n 0, 1) := by decide +kernel
theorem dX7_findThird_33 : decode cX7_findThird 33 = .ok (.getfield 113, 3) := by decide +kernel
theorem dX7_findThird_36 : decode cX7_findThird 36 = .ok (.imul, 1) := by decide +kernel
theorem dX7_findThird_37 : decode cX7_findThird 37 = .ok (.if_icmp .ge 84, 3) := by decide +kernel
theorem dX7_findThird_40 : decode cX7_findThird 40 = .ok (.aload_n 0, 1) := by decide +kernel
theorem dX7_findThird_41 : decode cX7_findThird 41 = .ok (.iload_n 1, 1) := by decide +kernel
theorem dX7_findThird_42 : decode cX7_findThird 42 = .ok (.invokevirtual 39, 3) := by decide +kernel
theorem dX7_findThird_45 : decode cX7_findThird 45 = .ok (.bipush 6, 2) := by decide +kernel
theorem dX7_findThird_47 : decode cX7_findThird 47 = .ok (.if_icmp .ne 74, 3) := by decide +kernel
theorem dX7_findThird_50 : decode cX7_findThird 50 = .ok (.aload_n 0, 1) := by decide +kernel
theorem dX7_findThird_51 : decode cX7_findThird 51 = .ok (.getfield 29, 3) := by decide +kernel
theorem dX7_findThird_54 : decode cX7_findThird 54 = .ok (.sipush 200, 3) := by decide +kernel
theorem dX7_findThird_57 : decode cX7_findThird 57 = .ok (.iload_n 2, 1) := by decide +kernel
theorem dX7_findThird_58 : decode cX7_findThird 58 = .ok (.iconst 2, 1) := by decide +kernel
theorem dX7_findThird_59 : decode cX7_findThird 59 = .ok (.idiv, 1) := by decide +kernel
theorem dX7_findThird_60 : decode cX7_findThird 60 = .ok (.iadd, 1) := by decide +kernel
theorem dX7_findThird_61 : decode cX7_findThird 61 = .ok (.iaload, 1) := by decide +kernel
theorem dX7_findThird_62 : decode cX7_findThird 62 = .ok (.iload_n 2, 1) := by decide +kernel
theorem dX7_findThird_63 : decode cX7_findThird 63 = .ok (.invokestatic 99, 3) := by decide +kernel
theorem dX7_findThird_66 : decode cX7_findThird 66 = .ok (.istore 4, 2) := by decide +kernel
theorem dX7_findThird_68 : decode cX7_findThird 68 = .ok (.aload_n 0, 1) := by decide +kernel
theorem dX7_findThird_69 : decode cX7_findThird 69 = .ok (.getfield 29, 3) := by decide +kernel
theorem dX7_findThird_72 : decode cX7_findThird 72 = .ok (.sipush 400, 3) := by decide +kernel
theorem dX7_findThird_75 : decode cX7_findThird 75 = .ok (.iload_n 3, 1) := by decide +kernel
theorem dX7_findThird_76 : decode cX7_findThird 76 = .ok (.iconst 2, 1) := by decide +kernel
theorem dX7_findThird_77 : decode cX7_findThird 77 = .ok (.idiv, 1) := by decide +kernel
theorem dX7_findThird_78 : decode cX7_findThird 78 = .ok (.iadd, 1) := by decide +kernel
theorem dX7_findThird_79 : decode cX7_findThird 79 = .ok (.iaload, 1) := by decide +kernel
theorem dX7_findThird_80 : decode cX7_findThird 80 = .ok (.iload_n 3, 1) := by decide +kernel
theorem dX7_findThird_81 : decode cX7_findThird 81 = .ok (.invokestatic 99, 3) := by decide +kernel
theorem dX7_findThird_84 : decode cX7_findThird 84 = .ok (.istore 5, 2) := by decide +kernel
theorem dX7_findThird_86 : decode cX7_findThird 86 = .ok (.iload 4, 2) := by decide +kernel
theorem dX7_findThird_88 : decode cX7_findThird 88 = .ok (.iload 5, 2) := by decide +kernel
theorem dX7_findThird_90 : decode cX7_findThird 90 = .ok (.iadd, 1) := by decide +kernel
theorem dX7_findThird_91 : decode cX7_findThird 91 = .ok (.iconst 2, 1) := by decide +kernel
theorem dX7_findThird_92 : decode cX7_findThird 92 = .ok (.irem, 1) := by decide +kernel
theorem dX7_findThird_93 : decode cX7_findThird 93 = .ok (.ifCond .ne 22, 3) := by decide +kernel
theorem dX7_findThird_96 : decode cX7_findThird 96 = .ok (.aload_n 0, 1) := by decide +kernel
theorem dX7_findThird_97 : decode cX7_findThird 97 = .ok (.iload_n 1, 1) := by decide +kernel
theorem dX7_findThird_98 : decode cX7_findThird 98 = .ok (.iload 4, 2) := by decide +kernel
theorem dX7_findThird_100 : decode cX7_findThird 100 = .ok (.iload 5, 2) := by decide +kernel
theorem dX7_findThird_102 : decode cX7_findThird 102 = .ok (.iadd, 1) := by decide +kernel
theorem dX7_findThird_103 : decode cX7_findThird 103 = .ok (.iconst 2, 1) := by decide +kernel
theorem dX7_findThird_104 : decode cX7_findThird 104 = .ok (.idiv, 1) := by decide +kernel
theorem dX7_findThird_105 : decode cX7_findThird 105 = .ok (.iload 4, 2) := by decide +kernel
theorem dX7_findThird_107 : decode cX7_findThird 107 = .ok (.iload 5, 2) := by decide +kernel
theorem dX7_findThird_109 : decode cX7_findThird 109 = .ok (.isub, 1) := by decide +kernel
theorem dX7_findThird_110 : decode cX7_findThird 110 = .ok (.iconst 2, 1) := by decide +kernel
theorem dX7_findThird_111 : decode cX7_findThird 111 = .ok (.idiv, 1) := by decide +kernel
theorem dX7_findThird_112 : decode cX7_findThird 112 = .ok (.invokevirtual 123, 3) := by decide +kernel
theorem dX7_findThird_115 : decode cX7_findThird 115 = .ok (.iinc 3 1, 3) := by decide +kernel
theorem dX7_findThird_118 : decode cX7_findThird 118 = .ok (.goto (-88), 3) := by decide +kernel
theorem dX7_findThird_121 : decode cX7_findThird 121 = .ok (.iinc 2 1, 3) := by decide +kernel
theorem dX7_findThird_124 : decode cX7_findThird 124 = .ok (.goto (-106), 3) := by decide +kernel
theorem dX7_findThird_127 : decode cX7_findThird 127 = .ok (.return_, 1) := by decide +kernel
set_option maxRecDepth 20000 in
theorem ggX7_tryThird_X7_degreeOf : GoodIn wsX7_tryThird wsX7_degreeOf := goodIn_r _ [9, 4, 43, 44, 45, 46, 47, 48, 49, 50, 51, 52, 53, 54, 55, 56, 57, 58, 59, 60, 61, 62, 63, 64, 65, 66, 67] (by decide +kernel) (by decide +kernel)
set_option maxRecDepth 20000 in
theorem gX7_tryThird_X7_degreeOf : GoodIn wsX7_tryThird (wsV RX7 39 RX7 yX7_degreeOf wsX7_degreeOf) := goodIn_app (goodIn_of _ (by decide +kernel)) ggX7_tryThird_X7_degreeOf
set_option maxRecDepth 20000 in
theorem ggX7_tryThird_X7_clear : GoodIn wsX7_tryThird wsX7_clear := goodIn_r _ [13, 4, 43, 44, 45, 46, 47, 48, 49, 50, 51, 52, 53, 54, 55, 56, 57, 58, 59, 60, 61, 62, 63, 64, 65, 66, 67] (by decide +kernel) (by decide +kernel)
set_option maxRecDepth 20000 in
theorem gX7_tryThird_X7_clear : GoodIn wsX7_tryThird (wsV RX7 55 RX7 yX7_clear wsX7_clear) := goodIn_app (goodIn_of _ (by decide +kernel)) ggX7_tryThird_X7_clear
set_option maxRecDepth 20000 in
theorem ggX7_tryThird_X7_signed : GoodIn wsX7_tryThird wsX7_signed := goodIn_r _ [16] (by decide +kernel) (by decide +kernel)
set_option maxRecDepth 20000 in
theorem gX7_tryThird_X7_signed : GoodIn wsX7_tryThird (va_wsS RX7 99 yX7_signed wsX7_signed) := goodIn_app (goodIn_of _ (by decide +kernel)) ggX7_tryThird_X7_signed
set_option maxRecDepth 20000 in
theorem ggX7_tryThird_X7_valueAt : GoodIn wsX7_tryThird wsX7_valueAt := goodIn_r _ [20, 4, 43, 44, 45, 46, 47, 48, 49, 50, 51, 52, 53, 54, 55, 56, 57, 58, 59, 60, 61, 62, 63, 64, 65, 66, 67] (by decide +kernel) (by decide +kernel)
set_option maxRecDepth 20000 in
theorem gX7_tryThird_X7_valueAt : GoodIn wsX7_tryThird (wsV RX7 106 RX7 yX7_valueAt wsX7_valueAt) := goodIn_app (goodIn_of _ (by decide +kernel)) ggX7_tryThird_X7_valueAt
set_option maxRecDepth 20000 in
theorem ggX7_tryThird_X7_divides : GoodIn wsX7_tryThird wsX7_divides := goodIn_r _ [24, 4, 25, 26, 27, 8, 28, 10, 11, 12, 13, 5, 6, 7, 9, 29, 30, 31, 32, 43, 44, 45, 46, 47, 48, 49, 50, 51, 52, 53, 54, 55, 56, 57, 58, 59, 60, 61, 62, 63, 64, 65, 66, 67] (by decide +kernel) (by decide +kernel)
set_option maxRecDepth 20000 in
theorem gX7_tryThird_X7_divides : GoodIn wsX7_tryThird (wsV RX7 76 RX7 yX7_divides wsX7_divides) := goodIn_app (goodIn_of _ (by decide +kernel)) ggX7_tryThird_X7_divides
set_option maxRecDepth 20000 in
theorem ggX7_tryThird_X7_takeOut : GoodIn wsX7_tryThird wsX7_takeOut := goodIn_r _ [36, 5, 6, 7, 8, 9, 4, 21, 22, 23, 24, 25, 26, 27, 28, 10, 11, 12, 13, 29, 30, 31, 32, 37, 38, 39, 40, 41, 42, 43, 44, 45, 46, 47, 48, 49, 50, 51, 52, 53, 54, 55, 56, 57, 58, 59, 60, 61, 62, 63, 64, 65, 66, 67] (by decide +kernel) (by decide +kernel)
set_option maxRecDepth 20000 in
theorem gX7_tryThird_X7_takeOut : GoodIn wsX7_tryThird (wsV RX7 86 RX7 yX7_takeOut wsX7_takeOut) := goodIn_app (goodIn_of _ (by decide +kernel)) ggX7_tryThird_X7_takeOut
theorem dX7_tryThird_0 : decode cX7_tryThird 0 = .ok (.iconst 0, 1) := by decide +kernel
theorem dX7_tryThird_1 : decode cX7_tryThird 1 = .ok (.istore 4, 2) := by decide +kernel
theorem dX7_tryThird_3 : decode cX7_tryThird 3 = .ok (.iload 4, 2) := by decide +kernel
theorem dX7_tryThird_5 : decode cX7_tryThird 5 = .ok (.aload_n 0, 1) := by decide +kernel
theorem dX7_tryThird_6 : decode cX7_tryThird 6 = .ok (.getfield 93, 3) := by decide +kernel
theorem dX7_tryThird_9 : decode cX7_tryThird 9 = .ok (.if_icmp .ge 163, 3) := by decide +kernel
theorem dX7_tryThird_12 : decode cX7_tryThird 12 = .ok (.iconst 0, 1) := by decide +kernel
theorem dX7_tryThird_13 : decode cX7_tryThird 13 = .ok (.istore 5, 2) := by decide +kernel
theorem dX7_tryThird_15 : decode cX7_tryThird 15 = .ok (.iload 5, 2) := by decide +kernel
theorem dX7_tryThird_17 : decode cX7_tryThird 17 = .ok (.iconst 2, 1) := by decide +kernel
theorem dX7_tryThird_18 : decode cX7_tryThird 18 = .ok (.aload_n 0, 1) := by decide +kernel
theorem dX7_tryThird_19 : decode cX7_tryThird 19 = .ok (.getfield 96, 3) := by decide +kernel
theorem dX7_tryThird_22 : decode cX7_tryThird 22 = .ok (.imul, 1) := by decide +kernel
theorem dX7_tryThird_23 : decode cX7_tryThird 23 = .ok (.if_icmp .ge 143, 3) := by decide +kernel
theorem dX7_tryThird_26 : decode cX7_tryThird 26 = .ok (.aload_n 0, 1) := by decide +kernel
theorem dX7_tryThird_27 : decode cX7_tryThird 27 = .ok (.iload_n 1, 1) := by decide +kernel
theorem dX7_tryThird_28 : decode cX7_tryThird 28 = .ok (.invokevirtual 39, 3) := by decide +kernel
theorem dX7_tryThird_31 : decode cX7_tryThird 31 = .ok (.bipush 6, 2) := by decide +kernel
theorem dX7_tryThird_33 : decode cX7_tryThird 33 = .ok (.if_icmp .ne 133, 3) := by decide +kernel
theorem dX7_tryThird_36 : decode cX7_tryThird 36 = .ok (.aload_n 0, 1) := by decide +kernel
theorem dX7_tryThird_37 : decode cX7_tryThird 37 = .ok (.bipush 10, 2) := by decide +kernel
theorem dX7_tryThird_39 : decode cX7_tryThird 39 = .ok (.invokevirtual 55, 3) := by decide +kernel
theorem dX7_tryThird_42 : decode cX7_tryThird 42 = .ok (.aload_n 0, 1) := by decide +kernel
theorem dX7_tryThird_43 : decode cX7_tryThird 43 = .ok (.getfield 29, 3) := by decide +kernel
theorem dX7_tryThird_46 : decode cX7_tryThird 46 = .ok (.bipush 100, 2) := by decide +kernel
theorem dX7_tryThird_48 : decode cX7_tryThird 48 = .ok (.iload 5, 2) := by decide +kernel
theorem dX7_tryThird_50 : decode cX7_tryThird 50 = .ok (.iconst 2, 1) := by decide +kernel
theorem dX7_tryThird_51 : decode cX7_tryThird 51 = .ok (.idiv, 1) := by decide +kernel
theorem dX7_tryThird_52 : decode cX7_tryThird 52 = .ok (.iadd, 1) := by decide +kernel
theorem dX7_tryThird_53 : decode cX7_tryThird 53 = .ok (.iaload, 1) := by decide +kernel
theorem dX7_tryThird_54 : decode cX7_tryThird 54 = .ok (.iload 5, 2) := by decide +kernel
theorem dX7_tryThird_56 : decode cX7_tryThird 56 = .ok (.invokestatic 99, 3) := by decide +kernel
theorem dX7_tryThird_59 : decode cX7_tryThird 59 = .ok (.istore 6, 2) := by decide +kernel
theorem dX7_tryThird_61 : decode cX7_tryThird 61 = .ok (.aload_n 0, 1) := by decide +kernel
theorem dX7_tryThird_62 : decode cX7_tryThird 62 = .ok (.getfield 7, 3) := by decide +kernel
theorem dX7_tryThird_65 : decode cX7_tryThird 65 = .ok (.bipush 80, 2) := by decide +kernel
theorem dX7_tryThird_67 : decode cX7_tryThird 67 = .ok (.iload 6, 2) := by decide +kernel
theorem dX7_tryThird_69 : decode cX7_tryThird 69 = .ok (.i2l, 1) := by decide +kernel
theorem dX7_tryThird_70 : decode cX7_tryThird 70 = .ok (.lastore, 1) := by decide +kernel
theorem dX7_tryThird_71 : decode cX7_tryThird 71 = .ok (.aload_n 0, 1) := by decide +kernel
theorem dX7_tryThird_72 : decode cX7_tryThird 72 = .ok (.getfield 7, 3) := by decide +kernel
theorem dX7_tryThird_75 : decode cX7_tryThird 75 = .ok (.bipush 82, 2) := by decide +kernel
theorem dX7_tryThird_77 : decode cX7_tryThird 77 = .ok (.iload_n 2, 1) := by decide +kernel
theorem dX7_tryThird_78 : decode cX7_tryThird 78 = .ok (.iload 6, 2) := by decide +kernel
