set_option maxRecDepth 20000 in
theorem ggX5_init_X3_init : GoodIn wsX5_init wsX3_init := goodIn_r _ [21, 22, 2, 3, 23, 24, 25, 26, 27, 9, 10, 28, 29, 30, 31, 32, 33, 34, 39, 40, 41, 42, 53, 54] (by decide +kernel) (by decide +kernel)
set_option maxRecDepth 20000 in
theorem gX5_init_X3_init_n11 : GoodIn wsX5_init (wsX3_init) := ggX5_init_X3_init
set_option maxRecDepth 20000 in
theorem ggX5_init_X4_init : GoodIn wsX5_init wsX4_init := goodIn_r _ [31, 32, 2, 3, 25, 33, 34, 53, 54] (by decide +kernel) (by decide +kernel)
set_option maxRecDepth 20000 in
theorem gX5_init_X4_init_n20 : GoodIn wsX5_init (wsX4_init) := ggX5_init_X4_init
set_option maxRecDepth 20000 in
theorem ggX5_init_X6_freshRows : GoodIn wsX5_init wsX6_freshRows := goodIn_r _ [37, 38, 9, 10, 30, 31, 32, 2, 3, 25, 33, 34, 53, 54] (by decide +kernel) (by decide +kernel)
set_option maxRecDepth 20000 in
theorem gX5_init_X6_freshRows_n37 : GoodIn wsX5_init (wsX6_freshRows) := ggX5_init_X6_freshRows
theorem dX5_init_0 : decode cX5_init 0 = .ok (.aload_n 0, 1) := by decide +kernel
theorem dX5_init_1 : decode cX5_init 1 = .ok (.invokespecial 3, 3) := by decide +kernel
theorem dX5_init_4 : decode cX5_init 4 = .ok (.aload_n 0, 1) := by decide +kernel
theorem dX5_init_5 : decode cX5_init 5 = .ok (.new 9, 3) := by decide +kernel
theorem dX5_init_8 : decode cX5_init 8 = .ok (.dup, 1) := by decide +kernel
theorem dX5_init_9 : decode cX5_init 9 = .ok (.invokespecial 11, 3) := by decide +kernel
theorem dX5_init_12 : decode cX5_init 12 = .ok (.putfield 12, 3) := by decide +kernel
theorem dX5_init_15 : decode cX5_init 15 = .ok (.aload_n 0, 1) := by decide +kernel
theorem dX5_init_16 : decode cX5_init 16 = .ok (.new 18, 3) := by decide +kernel
theorem dX5_init_19 : decode cX5_init 19 = .ok (.dup, 1) := by decide +kernel
theorem dX5_init_20 : decode cX5_init 20 = .ok (.invokespecial 20, 3) := by decide +kernel
theorem dX5_init_23 : decode cX5_init 23 = .ok (.putfield 21, 3) := by decide +kernel
theorem dX5_init_26 : decode cX5_init 26 = .ok (.aload_n 0, 1) := by decide +kernel
theorem dX5_init_27 : decode cX5_init 27 = .ok (.new 18, 3) := by decide +kernel
theorem dX5_init_30 : decode cX5_init 30 = .ok (.dup, 1) := by decide +kernel
theorem dX5_init_31 : decode cX5_init 31 = .ok (.invokespecial 20, 3) := by decide +kernel
theorem dX5_init_34 : decode cX5_init 34 = .ok (.putfield 25, 3) := by decide +kernel
theorem dX5_init_37 : decode cX5_init 37 = .ok (.aload_n 0, 1) := by decide +kernel
theorem dX5_init_38 : decode cX5_init 38 = .ok (.new 18, 3) := by decide +kernel
theorem dX5_init_41 : decode cX5_init 41 = .ok (.dup, 1) := by decide +kernel
theorem dX5_init_42 : decode cX5_init 42 = .ok (.invokespecial 20, 3) := by decide +kernel
theorem dX5_init_45 : decode cX5_init 45 = .ok (.putfield 28, 3) := by decide +kernel
theorem dX5_init_48 : decode cX5_init 48 = .ok (.aload_n 0, 1) := by decide +kernel
theorem dX5_init_49 : decode cX5_init 49 = .ok (.new 18, 3) := by decide +kernel
theorem dX5_init_52 : decode cX5_init 52 = .ok (.dup, 1) := by decide +kernel
theorem dX5_init_53 : decode cX5_init 53 = .ok (.invokespecial 20, 3) := by decide +kernel
theorem dX5_init_56 : decode cX5_init 56 = .ok (.putfield 31, 3) := by decide +kernel
theorem dX5_init_59 : decode cX5_init 59 = .ok (.aload_n 0, 1) := by decide +kernel
theorem dX5_init_60 : decode cX5_init 60 = .ok (.new 18, 3) := by decide +kernel
theorem dX5_init_63 : decode cX5_init 63 = .ok (.dup, 1) := by decide +kernel
theorem dX5_init_64 : decode cX5_init 64 = .ok (.invokespecial 20, 3) := by decide +kernel
theorem dX5_init_67 : decode cX5_init 67 = .ok (.putfield 34, 3) := by decide +kernel
theorem dX5_init_70 : decode cX5_init 70 = .ok (.aload_n 0, 1) := by decide +kernel
theorem dX5_init_71 : decode cX5_init 71 = .ok (.iconst 4, 1) := by decide +kernel
theorem dX5_init_72 : decode cX5_init 72 = .ok (.invokestatic 37, 3) := by decide +kernel
theorem dX5_init_75 : decode cX5_init 75 = .ok (.putfield 41, 3) := by decide +kernel
theorem dX5_init_78 : decode cX5_init 78 = .ok (.aload_n 0, 1) := by decide +kernel
theorem dX5_init_79 : decode cX5_init 79 = .ok (.bipush 7, 2) := by decide +kernel
theorem dX5_init_81 : decode cX5_init 81 = .ok (.invokestatic 37, 3) := by decide +kernel
theorem dX5_init_84 : decode cX5_init 84 = .ok (.putfield 45, 3) := by decide +kernel
theorem dX5_init_87 : decode cX5_init 87 = .ok (.aload_n 0, 1) := by decide +kernel
theorem dX5_init_88 : decode cX5_init 88 = .ok (.bipush 6, 2) := by decide +kernel
theorem dX5_init_90 : decode cX5_init 90 = .ok (.invokestatic 37, 3) := by decide +kernel
theorem dX5_init_93 : decode cX5_init 93 = .ok (.putfield 48, 3) := by decide +kernel
theorem dX5_init_96 : decode cX5_init 96 = .ok (.aload_n 0, 1) := by decide +kernel
theorem dX5_init_97 : decode cX5_init 97 = .ok (.iconst 0, 1) := by decide +kernel
theorem dX5_init_98 : decode cX5_init 98 = .ok (.putfield 51, 3) := by decide +kernel
theorem dX5_init_101 : decode cX5_init 101 = .ok (.return_, 1) := by decide +kernel
set_option maxRecDepth 20000 in
theorem ggX5_load_X3_useModulus : GoodIn wsX5_load wsX3_useModulus := goodIn_r _ [11, 12, 13, 91, 92, 93, 94] (by decide +kernel) (by decide +kernel)
set_option maxRecDepth 20000 in
theorem gX5_load_X3_useModulus : GoodIn wsX5_load (wsV RX5 55 RX3 yX3_useModulus wsX3_useModulus) := goodIn_app (goodIn_of _ (by decide +kernel)) ggX5_load_X3_useModulus
set_option maxRecDepth 20000 in
theorem ggX5_load_X3_reduce : GoodIn wsX5_load wsX3_reduce := goodIn_r _ [17, 18, 13, 19, 20, 21, 22, 23, 24, 25, 26, 27, 28, 29, 89, 90, 91, 92, 93, 94] (by decide +kernel) (by decide +kernel)
set_option maxRecDepth 20000 in
theorem gX5_load_X3_reduce : GoodIn wsX5_load (wsV RX5 59 RX3 yX3_reduce wsX3_reduce) := goodIn_app (goodIn_of _ (by decide +kernel)) ggX5_load_X3_reduce
set_option maxRecDepth 20000 in
theorem ggX5_load_X3_makeMonic : GoodIn wsX5_load wsX3_makeMonic := goodIn_r _ [33, 34, 18, 13, 35, 36, 37, 26, 38, 28, 39, 40, 41, 42, 29, 43, 44, 45, 10, 46, 89, 90, 91, 92, 93, 94] (by decide +kernel) (by decide +kernel)
set_option maxRecDepth 20000 in
theorem gX5_load_X3_makeMonic : GoodIn wsX5_load (wsV RX5 66 RX3 yX3_makeMonic wsX3_makeMonic) := goodIn_app (goodIn_of _ (by decide +kernel)) ggX5_load_X3_makeMonic
set_option maxRecDepth 20000 in
theorem ggX5_load_X4_becomeSlope : GoodIn wsX5_load wsX4_becomeSlope := goodIn_r _ [50, 28, 29, 51, 52, 53, 26, 54, 55, 24, 25, 27, 89, 90] (by decide +kernel) (by decide +kernel)
set_option maxRecDepth 20000 in
theorem gX5_load_X4_becomeSlope : GoodIn wsX5_load (wsV RX5 70 RX4 yX4_becomeSlope wsX4_becomeSlope) := goodIn_app (goodIn_of _ (by decide +kernel)) ggX5_load_X4_becomeSlope
set_option maxRecDepth 20000 in
theorem ggX5_load_X3_findCommon : GoodIn wsX5_load wsX3_findCommon := goodIn_r _ [59, 60, 61, 34, 62, 63, 64, 26, 65, 29, 66, 67, 68, 69, 28, 70, 31, 32, 10, 33, 18, 13, 35, 36, 37, 38, 39, 40, 41, 42, 43, 44, 45, 46, 71, 72, 73, 74, 75, 76, 77, 78, 23, 24, 25, 27, 91, 92, 93, 94, 89, 90] (by decide +kernel) (by decide +kernel)
set_option maxRecDepth 20000 in
theorem gX5_load_X3_findCommon : GoodIn wsX5_load (wsV RX5 73 RX3 yX3_findCommon wsX3_findCommon) := goodIn_app (goodIn_of _ (by decide +kernel)) ggX5_load_X3_findCommon
theorem dX5_load_0 : decode cX5_load 0 = .ok (.aload_n 0, 1) := by decide +kernel
theorem dX5_load_1 : decode cX5_load 1 = .ok (.getfield 12, 3) := by decide +kernel
theorem dX5_load_4 : decode cX5_load 4 = .ok (.lload_n 2, 1) := by decide +kernel
theorem dX5_load_5 : decode cX5_load 5 = .ok (.invokevirtual 55, 3) := by decide +kernel
theorem dX5_load_8 : decode cX5_load 8 = .ok (.aload_n 0, 1) := by decide +kernel
theorem dX5_load_9 : decode cX5_load 9 = .ok (.getfield 12, 3) := by decide +kernel
theorem dX5_load_12 : decode cX5_load 12 = .ok (.aload_n 0, 1) := by decide +kernel
theorem dX5_load_13 : decode cX5_load 13 = .ok (.getfield 21, 3) := by decide +kernel
theorem dX5_load_16 : decode cX5_load 16 = .ok (.aload_n 1, 1) := by decide +kernel
theorem dX5_load_17 : decode cX5_load 17 = .ok (.invokevirtual 59, 3) := by decide +kernel
theorem dX5_load_20 : decode cX5_load 20 = .ok (.aload_n 0, 1) := by decide +kernel
theorem dX5_load_21 : decode cX5_load 21 = .ok (.getfield 21, 3) := by decide +kernel
theorem dX5_load_24 : decode cX5_load 24 = .ok (.getfield 63, 3) := by decide +kernel
theorem dX5_load_27 : decode cX5_load 27 = .ok (.aload_n 1, 1) := by decide +kernel
theorem dX5_load_28 : decode cX5_load 28 = .ok (.getfield 63, 3) := by decide +kernel
theorem dX5_load_31 : decode cX5_load 31 = .ok (.if_icmp .ne 14, 3) := by decide +kernel
theorem dX5_load_34 : decode cX5_load 34 = .ok (.aload_n 0, 1) := by decide +kernel
theorem dX5_load_35 : decode cX5_load 35 = .ok (.getfield 21, 3) := by decide +kernel
theorem dX5_load_38 : decode cX5_load 38 = .ok (.getfield 63, 3) := by decide +kernel
theorem dX5_load_41 : decode cX5_load 41 = .ok (.iconst 1, 1) := by decide +kernel
theorem dX5_load_42 : decode cX5_load 42 = .ok (.if_icmp .ge 5, 3) := by decide +kernel
theorem dX5_load_45 : decode cX5_load 45 = .ok (.iconst 0, 1) := by decide +kernel
theorem dX5_load_46 : decode cX5_load 46 = .ok (.ireturn, 1) := by decide +kernel
theorem dX5_load_47 : decode cX5_load 47 = .ok (.aload_n 0, 1) := by decide +kernel
theorem dX5_load_48 : decode cX5_load 48 = .ok (.getfield 12, 3) := by decide +kernel
theorem dX5_load_51 : decode cX5_load 51 = .ok (.aload_n 0, 1) := by decide +kernel
theorem dX5_load_52 : decode cX5_load 52 = .ok (.getfield 21, 3) := by decide +kernel
theorem dX5_load_55 : decode cX5_load 55 = .ok (.invokevirtual 66, 3) := by decide +kernel
theorem dX5_load_58 : decode cX5_load 58 = .ok (.aload_n 0, 1) := by decide +kernel
theorem dX5_load_59 : decode cX5_load 59 = .ok (.getfield 31, 3) := by decide +kernel
theorem dX5_load_62 : decode cX5_load 62 = .ok (.aload_n 0, 1) := by decide +kernel
theorem dX5_load_63 : decode cX5_load 63 = .ok (.getfield 21, 3) := by decide +kernel
theorem dX5_load_66 : decode cX5_load 66 = .ok (.invokevirtual 70, 3) := by decide +kernel
theorem dX5_load_69 : decode cX5_load 69 = .ok (.aload_n 0, 1) := by decide +kernel
theorem dX5_load_70 : decode cX5_load 70 = .ok (.getfield 12, 3) := by decide +kernel
theorem dX5_load_73 : decode cX5_load 73 = .ok (.aload_n 0, 1) := by decide +kernel
theorem dX5_load_74 : decode cX5_load 74 = .ok (.getfield 25, 3) := by decide +kernel
theorem dX5_load_77 : decode cX5_load 77 = .ok (.aload_n 0, 1) := by decide +kernel
theorem dX5_load_78 : decode cX5_load 78 = .ok (.getfield 31, 3) := by decide +kernel
theorem dX5_load_81 : decode cX5_load 81 = .ok (.invokevirtual 59, 3) := by decide +kernel
theorem dX5_load_84 : decode cX5_load 84 = .ok (.aload_n 0, 1) := by decide +kernel
theorem dX5_load_85 : decode cX5_load 85 = .ok (.getfield 12, 3) := by decide +kernel
theorem dX5_load_88 : decode cX5_load 88 = .ok (.aload_n 0, 1) := by decide +kernel
theorem dX5_load_89 : decode cX5_load 89 = .ok (.getfield 34, 3) := by decide +kernel
theorem dX5_load_92 : decode cX5_load 92 = .ok (.aload_n 0, 1) := by decide +kernel
theorem dX5_load_93 : decode cX5_load 93 = .ok (.getfield 21, 3) := by decide +kernel
theorem dX5_load_96 : decode cX5_load 96 = .ok (.aload_n 0, 1) := by decide +kernel
theorem dX5_load_97 : decode cX5_load 97 = .ok (.getfield 25, 3) := by decide +kernel
theorem dX5_load_100 : decode cX5_load 100 = .ok (.invokevirtual 73, 3) := by decide +kernel
theorem dX5_load_103 : decode cX5_load 103 = .ok (.aload_n 0, 1) := by decide +kernel
theorem dX5_load_104 : decode cX5_load 104 = .ok (.getfield 34, 3) := by decide +kernel
theorem dX5_load_107 : decode cX5_load 107 = .ok (.getfield 63, 3) := by decide +kernel
theorem dX5_load_110 : decode cX5_load 110 = .ok (.ifCond .ne 7, 3) := by decide +kernel
theorem dX5_load_113 : decode cX5_load 113 = .ok (.iconst 1, 1) := by decide +kernel
theorem dX5_load_114 : decode cX5_load 114 = .ok (.goto 4, 3) := by decide +kernel
theorem dX5_load_117 : decode cX5_load 117 = .ok (.iconst 0, 1) := by decide +kernel
theorem dX5_load_118 : decode cX5_load 118 = .ok (.ireturn, 1) := by decide +kernel
set_option maxRecDepth 20000 in
theorem ggX5_groupByDegrees_X4_clear : GoodIn wsX5_groupByDegrees wsX4_clear := goodIn_r _ [15, 16, 17, 126, 127] (by decide +kernel) (by decide +kernel)
set_option maxRecDepth 20000 in
theorem gX5_groupByDegrees_X4_clear : GoodIn wsX5_groupByDegrees (wsV RX5 77 RX4 yX4_clear wsX4_clear) := goodIn_app (goodIn_of _ (by decide +kernel)) ggX5_groupByDegrees_X4_clear
set_option maxRecDepth 20000 in
theorem ggX5_groupByDegrees_X4_become : GoodIn wsX5_groupByDegrees wsX4_become := goodIn_r _ [21, 16, 22, 23, 24, 25, 17, 126, 127] (by decide +kernel) (by decide +kernel)
set_option maxRecDepth 20000 in
theorem gX5_groupByDegrees_X4_become : GoodIn wsX5_groupByDegrees (wsV RX5 80 RX4 yX4_become wsX4_become) := goodIn_app (goodIn_of _ (by decide +kernel)) ggX5_groupByDegrees_X4_become
set_option maxRecDepth 20000 in
theorem ggX5_groupByDegrees_X5_findConjugate : GoodIn wsX5_groupByDegrees wsX5_findConjugate := goodIn_r _ [30, 8, 7, 4, 31, 32, 33, 34, 35, 36, 37, 38, 39, 40, 12, 13, 14, 15, 16, 17, 41, 42, 43, 44, 45, 46, 47, 48, 49, 50, 51, 52, 53, 54, 55, 56, 57, 58, 59, 60, 61, 62, 63, 64, 65, 66, 67, 68, 69, 70, 71, 72, 73, 74, 75, 76, 77, 78, 79, 116, 117, 118, 119, 120, 121, 122, 123, 124, 125, 128, 129, 130, 131, 126, 127] (by decide +kernel) (by decide +kernel)
set_option maxRecDepth 20000 in
theorem gX5_groupByDegrees_X5_findConjugate : GoodIn wsX5_groupByDegrees (wsV RX5 83 RX5 yX5_findConjugate wsX5_findConjugate) := goodIn_app (goodIn_of _ (by decide +kernel)) ggX5_groupByDegrees_X5_findConjugate
set_option maxRecDepth 20000 in
theorem ggX5_groupByDegrees_X3_addAt : GoodIn wsX5_groupByDegrees wsX3_addAt := goodIn_r _ [66, 39, 50, 55, 56, 57, 58, 59, 60, 61, 14, 62, 17, 16, 126, 127, 128, 129, 130, 131] (by decide +kernel) (by decide +kernel)
set_option maxRecDepth 20000 in
theorem gX5_groupByDegrees_X3_addAt : GoodIn wsX5_groupByDegrees (wsV RX5 89 RX3 yX3_addAt wsX3_addAt) := goodIn_app (goodIn_of _ (by decide +kernel)) ggX5_groupByDegrees_X3_addAt
set_option maxRecDepth 20000 in
theorem ggX5_groupByDegrees_X3_findCommon : GoodIn wsX5_groupByDegrees wsX3_findCommon := goodIn_r _ [84, 85, 86, 38, 87, 19, 20, 14, 21, 16, 22, 23, 24, 25, 17, 88, 89, 90, 36, 91, 39, 50, 92, 93, 94, 95, 96, 97, 98, 99, 100, 101, 102, 103, 104, 105, 106, 107, 108, 109, 110, 111, 59, 60, 61, 62, 128, 129, 130, 131, 126, 127] (by decide +kernel) (by decide +kernel)
set_option maxRecDepth 20000 in
theorem gX5_groupByDegrees_X3_findCommon : GoodIn wsX5_groupByDegrees (wsV RX5 73 RX3 yX3_findCommon wsX3_findCommon) := goodIn_app (goodIn_of _ (by decide +kernel)) ggX5_groupByDegrees_X3_findCommon
set_option maxRecDepth 20000 in
theorem ggX5_groupByDegrees_X3_findQuotient : GoodIn wsX5_groupByDegrees wsX3_findQuotient := goodIn_r _ [115, 85, 38, 39, 40, 12, 13, 14, 15, 16, 17, 87, 19, 20, 21, 22, 23, 24, 25, 108, 109, 110, 36, 111, 50, 59, 60, 61, 62, 128, 129, 130, 131, 126, 127] (by decide +kernel) (by decide +kernel)
set_option maxRecDepth 20000 in
theorem gX5_groupByDegrees_X3_findQuotient : GoodIn wsX5_groupByDegrees (wsV RX5 93 RX3 yX3_findQuotient wsX3_findQuotient) := goodIn_app (goodIn_of _ (by decide +kernel)) ggX5_groupByDegrees_X3_findQuotient
theorem dX5_groupByDegrees_0 : decode cX5_groupByDegrees 0 = .ok (.aload_n 0, 1) := by decide +kernel
theorem dX5_groupByDegrees_1 : decode cX5_groupByDegrees 1 = .ok (.iconst 0, 1) := by decide +kernel
theorem dX5_groupByDegrees_2 : decode cX5_groupByDegrees 2 = .ok (.putfield 51, 3) := by decide +kernel
theorem dX5_groupByDegrees_5 : decode cX5_groupByDegrees 5 = .ok (.aload_n 0, 1) := by decide +kernel
theorem dX5_groupByDegrees_6 : decode cX5_groupByDegrees 6 = .ok (.getfield 45, 3) := by decide +kernel
theorem dX5_groupByDegrees_9 : decode cX5_groupByDegrees 9 = .ok (.astore_n 1, 1) := by decide +kernel
theorem dX5_groupByDegrees_10 : decode cX5_groupByDegrees 10 = .ok (.aload_n 1, 1) := by decide +kernel
theorem dX5_groupByDegrees_11 : decode cX5_groupByDegrees 11 = .ok (.arraylength, 1) := by decide +kernel
theorem dX5_groupByDegrees_12 : decode cX5_groupByDegrees 12 = .ok (.istore_n 2, 1) := by decide +kernel
theorem dX5_groupByDegrees_13 : decode cX5_groupByDegrees 13 = .ok (.iconst 0, 1) := by decide +kernel
theorem dX5_groupByDegrees_14 : decode cX5_groupByDegrees 14 = .ok (.istore_n 3, 1) := by decide +kernel
theorem dX5_groupByDegrees_15 : decode cX5_groupByDegrees 15 = .ok (.iload_n 3, 1) := by decide +kernel
theorem dX5_groupByDegrees_16 : decode cX5_groupByDegrees 16 = .ok (.iload_n 2, 1) := by decide +kernel
theorem dX5_groupByDegrees_17 : decode cX5_groupByDegrees 17 = .ok (.if_icmp .ge 19, 3) := by decide +kernel
theorem dX5_groupByDegrees_20 : decode cX5_groupByDegrees 20 = .ok (.aload_n 1, 1) := by decide +kernel
theorem dX5_groupByDegrees_21 : decode cX5_groupByDegrees 21 = .ok (.iload_n 3, 1) := by decide +kernel
theorem dX5_groupByDegrees_22 : decode cX5_groupByDegrees 22 = .ok (.aaload, 1) := by decide +kernel
theorem dX5_groupByDegrees_23 : decode cX5_groupByDegrees 23 = .ok (.astore 4, 2) := by decide +kernel
theorem dX5_groupByDegrees_25 : decode cX5_groupByDegrees 25 = .ok (.aload 4, 2) := by decide +kernel
theorem dX5_groupByDegrees_27 : decode cX5_groupByDegrees 27 = .ok (.invokevirtual 77, 3) := by decide +kernel
theorem dX5_groupByDegrees_30 : decode cX5_groupByDegrees 30 = .ok (.iinc 3 1, 3) := by decide +kernel
theorem dX5_groupByDegrees_33 : decode cX5_groupByDegrees 33 = .ok (.goto (-18), 3) := by decide +kernel
theorem dX5_groupByDegrees_36 : decode cX5_groupByDegrees 36 = .ok (.aload_n 0, 1) := by decide +kernel
theorem dX5_groupByDegrees_37 : decode cX5_groupByDegrees 37 = .ok (.getfield 25, 3) := by decide +kernel
theorem dX5_groupByDegrees_40 : decode cX5_groupByDegrees 40 = .ok (.aload_n 0, 1) := by decide +kernel
theorem dX5_groupByDegrees_41 : decode cX5_groupByDegrees 41 = .ok (.getfield 21, 3) := by decide +kernel
theorem dX5_groupByDegrees_44 : decode cX5_groupByDegrees 44 = .ok (.invokevirtual 80, 3) := by decide +kernel
theorem dX5_groupByDegrees_47 : decode cX5_groupByDegrees 47 = .ok (.iconst 1, 1) := by decide +kernel
theorem dX5_groupByDegrees_48 : decode cX5_groupByDegrees 48 = .ok (.istore_n 1, 1) := by decide +kernel
theorem dX5_groupByDegrees_49 : decode cX5_groupByDegrees 49 = .ok (.iload_n 1, 1) := by decide +kernel
theorem dX5_groupByDegrees_50 : decode cX5_groupByDegrees 50 = .ok (.iconst 3, 1) := by decide +kernel
theorem dX5_groupByDegrees_51 : decode cX5_groupByDegrees 51 = .ok (.if_icmp .gt 127, 3) := by decide +kernel
theorem dX5_groupByDegrees_54 : decode cX5_groupByDegrees 54 = .ok (.iconst 2, 1) := by decide +kernel
theorem dX5_groupByDegrees_55 : decode cX5_groupByDegrees 55 = .ok (.iload_n 1, 1) := by decide +kernel
theorem dX5_groupByDegrees_56 : decode cX5_groupByDegrees 56 = .ok (.imul, 1) := by decide +kernel
theorem dX5_groupByDegrees_57 : decode cX5_groupByDegrees 57 = .ok (.aload_n 0, 1) := by decide +kernel
theorem dX5_groupByDegrees_58 : decode cX5_groupByDegrees 58 = .ok (.getfield 25, 3) := by decide +kernel
theorem dX5_groupByDegrees_61 : decode cX5_groupByDegrees 61 = .ok (.getfield 63, 3) := by decide +kernel
theorem dX5_groupByDegrees_64 : decode cX5_groupByDegrees 64 = .ok (.if_icmp .gt 114, 3) := by decide +kernel
theorem dX5_groupByDegrees_67 : decode cX5_groupByDegrees 67 = .ok (.aload_n 0, 1) := by decide +kernel
theorem dX5_groupByDegrees_68 : decode cX5_groupByDegrees 68 = .ok (.iload_n 1, 1) := by decide +kernel
theorem dX5_groupByDegrees_69 : decode cX5_groupByDegrees 69 = .ok (.invokevirtual 83, 3) := by decide +kernel
theorem dX5_groupByDegrees_72 : decode cX5_groupByDegrees 72 = .ok (.aload_n 0, 1) := by decide +kernel
theorem dX5_groupByDegrees_73 : decode cX5_groupByDegrees 73 = .ok (.getfield 31, 3) := by decide +kernel
theorem dX5_groupByDegrees_76 : decode cX5_groupByDegrees 76 = .ok (.aload_n 0, 1) := by decide +kernel
theorem dX5_groupByDegrees_77 : decode cX5_groupByDegrees 77 = .ok (.getfield 41, 3) := by decide +kernel
theorem dX5_groupByDegrees_80 : decode cX5_groupByDegrees 80 = .ok (.iload_n 1, 1) := by decide +kernel
theorem dX5_groupByDegrees_81 : decode cX5_groupByDegrees 81 = .ok (.aaload, 1) := by decide +kernel
theorem dX5_groupByDegrees_82 : decode cX5_groupByDegrees 82 = .ok (.invokevirtual 80, 3) := by decide +kernel
theorem dX5_groupByDegrees_85 : decode cX5_groupByDegrees 85 = .ok (.aload_n 0, 1) := by decide +kernel
theorem dX5_groupByDegrees_86 : decode cX5_groupByDegrees 86 = .ok (.getfield 12, 3) := by decide +kernel
theorem dX5_groupByDegrees_89 : decode cX5_groupByDegrees 89 = .ok (.aload_n 0, 1) := by decide +kernel
theorem dX5_groupByDegrees_90 : decode cX5_groupByDegrees 90 = .ok (.getfield 31, 3) := by decide +kernel
theorem dX5_groupByDegrees_93 : decode cX5_groupByDegrees 93 = .ok (.iconst 1, 1) := by decide +kernel
theorem dX5_groupByDegrees_94 : decode cX5_groupByDegrees 94 = .ok (.ldc2_w 87, 3) := by decide +kernel
theorem dX5_groupByDegrees_97 : decode cX5_groupByDegrees 97 = .ok (.invokevirtual 89, 3) := by decide +kernel
theorem dX5_groupByDegrees_100 : decode cX5_groupByDegrees 100 = .ok (.aload_n 0, 1) := by decide +kernel
theorem dX5_groupByDegrees_101 : decode cX5_groupByDegrees 101 = .ok (.getfield 12, 3) := by decide +kernel
theorem dX5_groupByDegrees_104 : decode cX5_groupByDegrees 104 = .ok (.aload_n 0, 1) := by decide +kernel
theorem dX5_groupByDegrees_105 : decode cX5_groupByDegrees 105 = .ok (.getfield 34, 3) := by decide +kernel
theorem dX5_groupByDegrees_108 : decode cX5_groupByDegrees 108 = .ok (.aload_n 0, 1) := by decide +kernel
theorem dX5_groupByDegrees_109 : decode cX5_groupByDegrees 109 = .ok (.getfield 31, 3) := by decide +kernel
theorem dX5_groupByDegrees_112 : decode cX5_groupByDegrees 112 = .ok (.aload_n 0, 1) := by decide +kernel
theorem dX5_groupByDegrees_113 : decode cX5_groupByDegrees 113 = .ok (.getfield 25, 3) := by decide +kernel
theorem dX5_groupByDegrees_116 : decode cX5_groupByDegrees 116 = .ok (.invokevirtual 73, 3) := by decide +kernel
theorem dX5_groupByDegrees_119 : decode cX5_groupByDegrees 119 = .ok (.aload_n 0, 1) := by decide +kernel
theorem dX5_groupByDegrees_120 : decode cX5_groupByDegrees 120 = .ok (.getfield 34, 3) := by decide +kernel
theorem dX5_groupByDegrees_123 : decode cX5_groupByDegrees 123 = .ok (.getfield 63, 3) := by decide +kernel
theorem dX5_groupByDegrees_126 : decode cX5_groupByDegrees 126 = .ok (.ifCond .le 46, 3) := by decide +kernel
theorem dX5_groupByDegrees_129 : decode cX5_groupByDegrees 129 = .ok (.aload_n 0, 1) := by decide +kernel
theorem dX5_groupByDegrees_130 : decode cX5_groupByDegrees 130 = .ok (.getfield 45, 3) := by decide +kernel
theorem dX5_groupByDegrees_133 : decode cX5_groupByDegrees 133 = .ok (.iload_n 1, 1) := by decide +kernel
theorem dX5_groupByDegrees_134 : decode cX5_groupByDegrees 134 = .ok (.aaload, 1) := by decide +kernel
theorem dX5_groupByDegrees_135 : decode cX5_groupByDegrees 135 = .ok (.aload_n 0, 1) := by decide +kernel
theorem dX5_groupByDegrees_136 : decode cX5_groupByDegrees 136 = .ok (.getfield 34, 3) := by decide +kernel
theorem dX5_groupByDegrees_139 : decode cX5_groupByDegrees 139 = .ok (.invokevirtual 80, 3) := by decide +kernel
theorem dX5_groupByDegrees_142 : decode cX5_groupByDegrees 142 = .ok (.aload_n 0, 1) := by decide +kernel
theorem dX5_groupByDegrees_143 : decode cX5_groupByDegrees 143 = .ok (.getfield 12, 3) := by decide +kernel
theorem dX5_groupByDegrees_146 : decode cX5_groupByDegrees 146 = .ok (.aload_n 0, 1) := by decide +kernel
theorem dX5_groupByDegrees_147 : decode cX5_groupByDegrees 147 = .ok (.getfield 31, 3) := by decide +kernel
theorem dX5_groupByDegrees_150 : decode cX5_groupByDegrees 150 = .ok (.aload_n 0, 1) := by decide +kernel
theorem dX5_groupByDegrees_151 : decode cX5_groupByDegrees 151 = .ok (.getfield 25, 3) := by decide +kernel
theorem dX5_groupByDegrees_154 : decode cX5_groupByDegrees 154 = .ok (.aload_n 0, 1) := by decide +kernel
theorem dX5_groupByDegrees_155 : decode cX5_groupByDegrees 155 = .ok (.getfield 34, 3) := by decide +kernel
theorem dX5_groupByDegrees_158 : decode cX5_groupByDegrees 158 = .ok (.invokevirtual 93, 3) := by decide +kernel
theorem dX5_groupByDegrees_161 : decode cX5_groupByDegrees 161 = .ok (.aload_n 0, 1) := by decide +kernel
theorem dX5_groupByDegrees_162 : decode cX5_groupByDegrees 162 = .ok (.getfield 25, 3) := by decide +kernel
theorem dX5_groupByDegrees_165 : decode cX5_groupByDegrees 165 = .ok (.aload_n 0, 1) := by decide +kernel
theorem dX5_groupByDegrees_166 : decode cX5_groupByDegrees 166 = .ok (.getfield 31, 3) := by decide +kernel
theorem dX5_groupByDegrees_169 : decode cX5_groupByDegrees 169 = .ok (.invokevirtual 80, 3) := by decide +kernel
theorem dX5_groupByDegrees_172 : decode cX5_groupByDegrees 172 = .ok (.iinc 1 1, 3) := by decide +kernel
theorem dX5_groupByDegrees_175 : decode cX5_groupByDegrees 175 = .ok (.goto (-126), 3) := by decide +kernel
theorem dX5_groupByDegrees_178 : decode cX5_groupByDegrees 178 = .ok (.aload_n 0, 1) := by decide +kernel
theorem dX5_groupByDegrees_179 : decode cX5_groupByDegrees 179 = .ok (.getfield 25, 3) := by decide +kernel
theorem dX5_groupByDegrees_182 : decode cX5_groupByDegrees 182 = .ok (.getfield 63, 3) := by decide +kernel
theorem dX5_groupByDegrees_185 : decode cX5_groupByDegrees 185 = .ok (.ifCond .le 22, 3) := by decide +kernel
theorem dX5_groupByDegrees_188 : decode cX5_groupByDegrees 188 = .ok (.aload_n 0, 1) := by decide +kernel
theorem dX5_groupByDegrees_189 : decode cX5_groupByDegrees 189 = .ok (.getfield 45, 3) := by decide +kernel
theorem dX5_groupByDegrees_192 : decode cX5_groupByDegrees 192 = .ok (.aload_n 0, 1) := by decide +kernel
theorem dX5_groupByDegrees_193 : decode cX5_groupByDegrees 193 = .ok (.getfield 25, 3) := by decide +kernel
theorem dX5_groupByDegrees_196 : decode cX5_groupByDegrees 196 = .ok (.getfield 63, 3) := by decide +kernel
theorem dX5_groupByDegrees_199 : decode cX5_groupByDegrees 199 = .ok (.aaload, 1) := by decide +kernel
theorem dX5_groupByDegrees_200 : decode cX5_groupByDegrees 200 = .ok (.aload_n 0, 1) := by decide +kernel
theorem dX5_groupByDegrees_201 : decode cX5_groupByDegrees 201 = .ok (.getfield 25, 3) := by decide +kernel
theorem dX5_groupByDegrees_204 : decode cX5_groupByDegrees 204 = .ok (.invokevirtual 80, 3) := by decide +kernel
theorem dX5_groupByDegrees_207 : decode cX5_groupByDegrees 207 = .ok (.return_, 1) := by decide +kernel
set_option maxRecDepth 20000 in
theorem ggX5_findConjugate_X3_compose : GoodIn wsX5_findConjugate wsX3_compose := goodIn_r _ [10, 11, 12, 13, 14, 15, 16, 17, 18, 19, 20, 21, 22, 9, 23, 24, 25, 26, 27, 28, 29, 30, 31, 32, 33, 34, 35, 36, 37, 38, 39, 40, 41, 42, 43, 44, 45, 73, 74, 69, 70, 71, 72] (by decide +kernel) (by decide +kernel)
set_option maxRecDepth 20000 in
theorem gX5_findConjugate_X3_compose : GoodIn wsX5_findConjugate (wsV RX5 96 RX3 yX3_compose wsX3_compose) := goodIn_app (goodIn_of _ (by decide +kernel)) ggX5_findConjugate_X3_compose
set_option maxRecDepth 20000 in
theorem ggX5_findConjugate_X4_becomeLine : GoodIn wsX5_findConjugate wsX4_becomeLine := goodIn_r _ [49, 18, 19, 50, 14, 15, 16, 17, 73, 74] (by decide +kernel) (by decide +kernel)
set_option maxRecDepth 20000 in
theorem gX5_findConjugate_X4_becomeLine : GoodIn wsX5_findConjugate (wsV RX5 100 RX4 yX4_becomeLine wsX4_becomeLine) := goodIn_app (goodIn_of _ (by decide +kernel)) ggX5_findConjugate_X4_becomeLine
set_option maxRecDepth 20000 in
theorem ggX5_findConjugate_X3_raise : GoodIn wsX5_findConjugate wsX3_raise := goodIn_r _ [54, 55, 56, 57, 16, 58, 18, 19, 50, 14, 15, 17, 20, 21, 22, 9, 23, 24, 11, 12, 25, 26, 27, 28, 29, 30, 31, 32, 33, 34, 35, 36, 37, 38, 39, 40, 41, 73, 74, 69, 70, 71, 72] (by decide +kernel) (by decide +kernel)
set_option maxRecDepth 20000 in
theorem gX5_findConjugate_X3_raise : GoodIn wsX5_findConjugate (wsV RX5 107 RX3 yX3_raise wsX3_raise) := goodIn_app (goodIn_of _ (by decide +kernel)) ggX5_findConjugate_X3_raise
theorem dX5_findConjugate_0 : decode cX5_findConjugate 0 = .ok (.iload_n 1, 1) := by decide +kernel
theorem dX5_findConjugate_1 : decode cX5_findConjugate 1 = .ok (.iconst 1, 1) := by decide +kernel
theorem dX5_findConjugate_2 : decode cX5_findConjugate 2 = .ok (.if_icmp .le 37, 3) := by decide +kernel
theorem dX5_findConjugate_5 : decode cX5_findConjugate 5 = .ok (.aload_n 0, 1) := by decide +kernel
theorem dX5_findConjugate_6 : decode cX5_findConjugate 6 = .ok (.getfield 12, 3) := by decide +kernel
theorem dX5_findConjugate_9 : decode cX5_findConjugate 9 = .ok (.aload_n 0, 1) := by decide +kernel
theorem dX5_findConjugate_10 : decode cX5_findConjugate 10 = .ok (.getfield 41, 3) := by decide +kernel
theorem dX5_findConjugate_13 : decode cX5_findConjugate 13 = .ok (.iload_n 1, 1) := by decide +kernel
theorem dX5_findConjugate_14 : decode cX5_findConjugate 14 = .ok (.aaload, 1) := by decide +kernel
theorem dX5_findConjugate_15 : decode cX5_findConjugate 15 = .ok (.aload_n 0, 1) := by decide +kernel
theorem dX5_findConjugate_16 : decode cX5_findConjugate 16 = .ok (.getfield 41, 3) := by decide +kernel
theorem dX5_findConjugate_19 : decode cX5_findConjugate 19 = .ok (.iload_n 1, 1) := by decide +kernel
theorem dX5_findConjugate_20 : decode cX5_findConjugate 20 = .ok (.iconst 1, 1) := by decide +kernel
theorem dX5_findConjugate_21 : decode cX5_findConjugate 21 = .ok (.isub, 1) := by decide +kernel
theorem dX5_findConjugate_22 : decode cX5_findConjugate 22 = .ok (.aaload, 1) := by decide +kernel
theorem dX5_findConjugate_23 : decode cX5_findConjugate 23 = .ok (.aload_n 0, 1) := by decide +kernel
theorem dX5_findConjugate_24 : decode cX5_findConjugate 24 = .ok (.getfield 41, 3) := by decide +kernel
theorem dX5_findConjugate_27 : decode cX5_findConjugate 27 = .ok (.iconst 1, 1) := by decide +kernel
theorem dX5_findConjugate_28 : decode cX5_findConjugate 28 = .ok (.aaload, 1) := by decide +kernel
theorem dX5_findConjugate_29 : decode cX5_findConjugate 29 = .ok (.aload_n 0, 1) := by decide +kernel
theorem dX5_findConjugate_30 : decode cX5_findConjugate 30 = .ok (.getfield 21, 3) := by decide +kernel
theorem dX5_findConjugate_33 : decode cX5_findConjugate 33 = .ok (.invokevirtual 96, 3) := by decide +kernel
theorem dX5_findConjugate_36 : decode cX5_findConjugate 36 = .ok (.goto 39, 3) := by decide +kernel
theorem dX5_findConjugate_39 : decode cX5_findConjugate 39 = .ok (.aload_n 0, 1) := by decide +kernel
theorem dX5_findConjugate_40 : decode cX5_findConjugate 40 = .ok (.getfield 28, 3) := by decide +kernel
theorem dX5_findConjugate_43 : decode cX5_findConjugate 43 = .ok (.lconst 0, 1) := by decide +kernel
theorem dX5_findConjugate_44 : decode cX5_findConjugate 44 = .ok (.invokevirtual 100, 3) := by decide +kernel
theorem dX5_findConjugate_47 : decode cX5_findConjugate 47 = .ok (.aload_n 0, 1) := by decide +kernel
theorem dX5_findConjugate_48 : decode cX5_findConjugate 48 = .ok (.getfield 12, 3) := by decide +kernel
theorem dX5_findConjugate_51 : decode cX5_findConjugate 51 = .ok (.aload_n 0, 1) := by decide +kernel
theorem dX5_findConjugate_52 : decode cX5_findConjugate 52 = .ok (.getfield 41, 3) := by decide +kernel
theorem dX5_findConjugate_55 : decode cX5_findConjugate 55 = .ok (.iload_n 1, 1) := by decide +kernel
theorem dX5_findConjugate_56 : decode cX5_findConjugate 56 = .ok (.aaload, 1) := by decide +kernel
theorem dX5_findConjugate_57 : decode cX5_findConjugate 57 = .ok (.aload_n 0, 1) := by decide +kernel
theorem dX5_findConjugate_58 : decode cX5_findConjugate 58 = .ok (.getfield 28, 3) := by decide +kernel
theorem dX5_findConjugate_61 : decode cX5_findConjugate 61 = .ok (.aload_n 0, 1) := by decide +kernel
theorem dX5_findConjugate_62 : decode cX5_findConjugate 62 = .ok (.getfield 12, 3) := by decide +kernel
theorem dX5_findConjugate_65 : decode cX5_findConjugate 65 = .ok (.getfield 103, 3) := by decide +kernel
theorem dX5_findConjugate_68 : decode cX5_findConjugate 68 = .ok (.aload_n 0, 1) := by decide +kernel
theorem dX5_findConjugate_69 : decode cX5_findConjugate 69 = .ok (.getfield 21, 3) := by decide +kernel
theorem dX5_findConjugate_72 : decode cX5_findConjugate 72 = .ok (.invokevirtual 107, 3) := by decide +kernel
theorem dX5_findConjugate_75 : decode cX5_findConjugate 75 = .ok (.return_, 1) := by decide +kernel
set_option maxRecDepth 20000 in
theorem ggX5_separate_X4_become : GoodIn wsX5_separate wsX4_become := goodIn_r _ [10, 11, 12, 13, 14, 15, 16, 126, 127] (by decide +kernel) (by decide +kernel)
set_option maxRecDepth 20000 in
theorem gX5_separate_X4_become : GoodIn wsX5_separate (wsV RX5 80 RX4 yX4_become wsX4_become) := goodIn_app (goodIn_of _ (by decide +kernel)) ggX5_separate_X4_become
set_option maxRecDepth 20000 in
theorem ggX5_separate_X5_trySplit : GoodIn wsX5_separate wsX5_trySplit := goodIn_k _ [[21], [4, 17, 0, 0, 0, 0, 0, 0], [3], [1, 27, 0, 0], [20, 11, 0, 0, 0, 0], [9, 27], [11, 4, 21, 0, 0, 0], [6, 0, 0, 1, 1, 0, 0, 0, 26, 0, 0, 0, 0, 0, 0, 0, 0, 0, 0, 0, 0, 0, 0, 0, 0, 0, 0, 0, 0, 0, 0, 0, 0, 0, 0, 0, 0, 0, 0, 0, 0, 0, 0, 0, 0, 0, 0, 0, 0, 0, 0, 0, 0, 0, 0, 0, 0, 0, 0, 0, 0, 0, 0, 0, 0, 0, 0, 0, 0, 0, 0, 0, 0, 0, 0, 0, 0, 0, 0, 0, 0, 0, 0, 0, 0, 0, 0, 0, 0, 0, 0, 0, 2, 0, 0, 0], [126, 0]] rfl (by decide +kernel)
set_option maxRecDepth 20000 in
theorem gX5_separate_X5_trySplit : GoodIn wsX5_separate (wsV RX5 112 RX5 yX5_trySplit wsX5_trySplit) := goodIn_app (goodIn_of _ (by decide +kernel)) ggX5_separate_X5_trySplit
theorem dX5_separate_0 : decode cX5_separate 0 = .ok (.aload_n 0, 1) := by decide +kernel
theorem dX5_separate_1 : decode cX5_separate 1 = .ok (.getfield 51, 3) := by decide +kernel
theorem dX5_separate_4 : decode cX5_separate 4 = .ok (.istore_n 2, 1) := by decide +kernel
theorem dX5_separate_5 : decode cX5_separate 5 = .ok (.aload_n 0, 1) := by decide +kernel
theorem dX5_separate_6 : decode cX5_separate 6 = .ok (.getfield 45, 3) := by decide +kernel
theorem dX5_separate_9 : decode cX5_separate 9 = .ok (.iload_n 1, 1) := by decide +kernel
theorem dX5_separate_10 : decode cX5_separate 10 = .ok (.aaload, 1) := by decide +kernel
theorem dX5_separate_11 : decode cX5_separate 11 = .ok (.getfield 63, 3) := by decide +kernel
theorem dX5_separate_14 : decode cX5_separate 14 = .ok (.iload_n 1, 1) := by decide +kernel
theorem dX5_separate_15 : decode cX5_separate 15 = .ok (.if_icmp .lt 9, 3) := by decide +kernel
theorem dX5_separate_18 : decode cX5_separate 18 = .ok (.iload_n 2, 1) := by decide +kernel
theorem dX5_separate_19 : decode cX5_separate 19 = .ok (.bipush 6, 2) := by decide +kernel
theorem dX5_separate_21 : decode cX5_separate 21 = .ok (.if_icmp .lt 4, 3) := by decide +kernel
theorem dX5_separate_24 : decode cX5_separate 24 = .ok (.return_, 1) := by decide +kernel
theorem dX5_separate_25 : decode cX5_separate 25 = .ok (.aload_n 0, 1) := by decide +kernel
theorem dX5_separate_26 : decode cX5_separate 26 = .ok (.getfield 48, 3) := by decide +kernel
theorem dX5_separate_29 : decode cX5_separate 29 = .ok (.iload_n 2, 1) := by decide +kernel
theorem dX5_separate_30 : decode cX5_separate 30 = .ok (.aaload, 1) := by decide +kernel
theorem dX5_separate_31 : decode cX5_separate 31 = .ok (.aload_n 0, 1) := by decide +kernel
theorem dX5_separate_32 : decode cX5_separate 32 = .ok (.getfield 45, 3) := by decide +kernel
theorem dX5_separate_35 : decode cX5_separate 35 = .ok (.iload_n 1, 1) := by decide +kernel
theorem dX5_separate_36 : decode cX5_separate 36 = .ok (.aaload, 1) := by decide +kernel
theorem dX5_separate_37 : decode cX5_separate 37 = .ok (.invokevirtual 80, 3) := by decide +kernel
theorem dX5_separate_40 : decode cX5_separate 40 = .ok (.aload_n 0, 1) := by decide +kernel
theorem dX5_separate_41 : decode cX5_separate 41 = .ok (.dup, 1) := by decide +kernel
theorem dX5_separate_42 : decode cX5_separate 42 = .ok (.getfield 51, 3) := by decide +kernel
theorem dX5_separate_45 : decode cX5_separate 45 = .ok (.iconst 1, 1) := by decide +kernel
theorem dX5_separate_46 : decode cX5_separate 46 = .ok (.iadd, 1) := by decide +kernel
theorem dX5_separate_47 : decode cX5_separate 47 = .ok (.putfield 51, 3) := by decide +kernel
theorem dX5_separate_50 : decode cX5_separate 50 = .ok (.iload_n 2, 1) := by decide +kernel
theorem dX5_separate_51 : decode cX5_separate 51 = .ok (.aload_n 0, 1) := by decide +kernel
theorem dX5_separate_52 : decode cX5_separate 52 = .ok (.getfield 45, 3) := by decide +kernel
theorem dX5_separate_55 : decode cX5_separate 55 = .ok (.iload_n 1, 1) := by decide +kernel
theorem dX5_separate_56 : decode cX5_separate 56 = .ok (.aaload, 1) := by decide +kernel
theorem dX5_separate_57 : decode cX5_separate 57 = .ok (.getfield 63, 3) := by decide +kernel
theorem dX5_separate_60 : decode cX5_separate 60 = .ok (.iload_n 1, 1) := by decide +kernel
theorem dX5_separate_61 : decode cX5_separate 61 = .ok (.idiv, 1) := by decide +kernel
theorem dX5_separate_62 : decode cX5_separate 62 = .ok (.iadd, 1) := by decide +kernel
theorem dX5_separate_63 : decode cX5_separate 63 = .ok (.istore_n 3, 1) := by decide +kernel
theorem dX5_separate_64 : decode cX5_separate 64 = .ok (.iconst 0, 1) := by decide +kernel
theorem dX5_separate_65 : decode cX5_separate 65 = .ok (.istore 4, 2) := by decide +kernel
theorem dX5_separate_67 : decode cX5_separate 67 = .ok (.iload 4, 2) := by decide +kernel
theorem dX5_separate_69 : decode cX5_separate 69 = .ok (.ldc 111, 2) := by decide +kernel
theorem dX5_separate_71 : decode cX5_separate 71 = .ok (.if_icmp .ge 62, 3) := by decide +kernel
theorem dX5_separate_74 : decode cX5_separate 74 = .ok (.aload_n 0, 1) := by decide +kernel
theorem dX5_separate_75 : decode cX5_separate 75 = .ok (.getfield 51, 3) := by decide +kernel
theorem dX5_separate_78 : decode cX5_separate 78 = .ok (.iload_n 3, 1) := by decide +kernel
theorem dX5_separate_79 : decode cX5_separate 79 = .ok (.if_icmp .ge 54, 3) := by decide +kernel
theorem dX5_separate_82 : decode cX5_separate 82 = .ok (.aload_n 0, 1) := by decide +kernel
theorem dX5_separate_83 : decode cX5_separate 83 = .ok (.getfield 51, 3) := by decide +kernel
theorem dX5_separate_86 : decode cX5_separate 86 = .ok (.istore 5, 2) := by decide +kernel
theorem dX5_separate_88 : decode cX5_separate 88 = .ok (.iload_n 2, 1) := by decide +kernel
theorem dX5_separate_89 : decode cX5_separate 89 = .ok (.istore 6, 2) := by decide +kernel
theorem dX5_separate_91 : decode cX5_separate 91 = .ok (.iload 6, 2) := by decide +kernel
theorem dX5_separate_93 : decode cX5_separate 93 = .ok (.iload 5, 2) := by decide +kernel
theorem dX5_separate_95 : decode cX5_separate 95 = .ok (.if_icmp .ge 32, 3) := by decide +kernel
theorem dX5_separate_98 : decode cX5_separate 98 = .ok (.aload_n 0, 1) := by decide +kernel
theorem dX5_separate_99 : decode cX5_separate 99 = .ok (.getfield 48, 3) := by decide +kernel
theorem dX5_separate_102 : decode cX5_separate 102 = .ok (.iload 6, 2) := by decide +kernel
