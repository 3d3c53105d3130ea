set_option maxRecDepth 20000 in
theorem ggX0_init_X5_init : GoodIn wsX0_init wsX5_init := goodIn_r _ [25, 26, 2, 3, 27, 28, 29, 30, 31, 11, 12, 32, 33, 34, 35, 36, 37, 38, 39, 40, 41, 42, 43, 44, 45, 46, 47, 48, 49, 50, 51, 52, 53, 54, 55, 56, 57, 58, 59, 94, 95, 96, 97, 68, 69, 70, 71, 72, 73, 74, 75, 76, 77, 88, 89] (by decide +kernel) (by decide +kernel)
set_option maxRecDepth 20000 in
theorem gX0_init_X5_init_n11 : GoodIn wsX0_init (wsX5_init) := ggX0_init_X5_init
set_option maxRecDepth 20000 in
theorem ggX0_init_X4_init : GoodIn wsX0_init wsX4_init := goodIn_r _ [52, 53, 2, 3, 46, 54, 55, 88, 89] (by decide +kernel) (by decide +kernel)
set_option maxRecDepth 20000 in
theorem gX0_init_X4_init_n25 : GoodIn wsX0_init (wsX4_init) := ggX0_init_X4_init
set_option maxRecDepth 20000 in
theorem ggX0_init_X2_init : GoodIn wsX0_init wsX2_init := goodIn_r _ [61, 62, 2, 3, 63, 64, 65, 66, 67, 56, 57, 58, 59, 11, 12, 51, 52, 53, 46, 54, 55, 90, 91, 92, 93, 88, 89] (by decide +kernel) (by decide +kernel)
set_option maxRecDepth 20000 in
theorem gX0_init_X2_init_n50 : GoodIn wsX0_init (wsX2_init) := ggX0_init_X2_init
theorem dX0_init_0 : decode cX0_init 0 = .ok (.aload_n 0, 1) := by decide +kernel
theorem dX0_init_1 : decode cX0_init 1 = .ok (.invokespecial 3, 3) := by decide +kernel
theorem dX0_init_4 : decode cX0_init 4 = .ok (.aload_n 0, 1) := by decide +kernel
theorem dX0_init_5 : decode cX0_init 5 = .ok (.new 9, 3) := by decide +kernel
theorem dX0_init_8 : decode cX0_init 8 = .ok (.dup, 1) := by decide +kernel
theorem dX0_init_9 : decode cX0_init 9 = .ok (.invokespecial 11, 3) := by decide +kernel
theorem dX0_init_12 : decode cX0_init 12 = .ok (.putfield 12, 3) := by decide +kernel
theorem dX0_init_15 : decode cX0_init 15 = .ok (.aload_n 0, 1) := by decide +kernel
theorem dX0_init_16 : decode cX0_init 16 = .ok (.aload_n 0, 1) := by decide +kernel
theorem dX0_init_17 : decode cX0_init 17 = .ok (.getfield 12, 3) := by decide +kernel
theorem dX0_init_20 : decode cX0_init 20 = .ok (.getfield 18, 3) := by decide +kernel
theorem dX0_init_23 : decode cX0_init 23 = .ok (.putfield 22, 3) := by decide +kernel
theorem dX0_init_26 : decode cX0_init 26 = .ok (.aload_n 0, 1) := by decide +kernel
theorem dX0_init_27 : decode cX0_init 27 = .ok (.new 23, 3) := by decide +kernel
theorem dX0_init_30 : decode cX0_init 30 = .ok (.dup, 1) := by decide +kernel
theorem dX0_init_31 : decode cX0_init 31 = .ok (.invokespecial 25, 3) := by decide +kernel
theorem dX0_init_34 : decode cX0_init 34 = .ok (.putfield 26, 3) := by decide +kernel
theorem dX0_init_37 : decode cX0_init 37 = .ok (.aload_n 0, 1) := by decide +kernel
theorem dX0_init_38 : decode cX0_init 38 = .ok (.new 23, 3) := by decide +kernel
theorem dX0_init_41 : decode cX0_init 41 = .ok (.dup, 1) := by decide +kernel
theorem dX0_init_42 : decode cX0_init 42 = .ok (.invokespecial 25, 3) := by decide +kernel
theorem dX0_init_45 : decode cX0_init 45 = .ok (.putfield 30, 3) := by decide +kernel
theorem dX0_init_48 : decode cX0_init 48 = .ok (.aload_n 0, 1) := by decide +kernel
theorem dX0_init_49 : decode cX0_init 49 = .ok (.new 23, 3) := by decide +kernel
theorem dX0_init_52 : decode cX0_init 52 = .ok (.dup, 1) := by decide +kernel
theorem dX0_init_53 : decode cX0_init 53 = .ok (.invokespecial 25, 3) := by decide +kernel
theorem dX0_init_56 : decode cX0_init 56 = .ok (.putfield 33, 3) := by decide +kernel
theorem dX0_init_59 : decode cX0_init 59 = .ok (.aload_n 0, 1) := by decide +kernel
theorem dX0_init_60 : decode cX0_init 60 = .ok (.new 23, 3) := by decide +kernel
theorem dX0_init_63 : decode cX0_init 63 = .ok (.dup, 1) := by decide +kernel
theorem dX0_init_64 : decode cX0_init 64 = .ok (.invokespecial 25, 3) := by decide +kernel
theorem dX0_init_67 : decode cX0_init 67 = .ok (.putfield 36, 3) := by decide +kernel
theorem dX0_init_70 : decode cX0_init 70 = .ok (.aload_n 0, 1) := by decide +kernel
theorem dX0_init_71 : decode cX0_init 71 = .ok (.new 23, 3) := by decide +kernel
theorem dX0_init_74 : decode cX0_init 74 = .ok (.dup, 1) := by decide +kernel
theorem dX0_init_75 : decode cX0_init 75 = .ok (.invokespecial 25, 3) := by decide +kernel
theorem dX0_init_78 : decode cX0_init 78 = .ok (.putfield 39, 3) := by decide +kernel
theorem dX0_init_81 : decode cX0_init 81 = .ok (.aload_n 0, 1) := by decide +kernel
theorem dX0_init_82 : decode cX0_init 82 = .ok (.new 23, 3) := by decide +kernel
theorem dX0_init_85 : decode cX0_init 85 = .ok (.dup, 1) := by decide +kernel
theorem dX0_init_86 : decode cX0_init 86 = .ok (.invokespecial 25, 3) := by decide +kernel
theorem dX0_init_89 : decode cX0_init 89 = .ok (.putfield 42, 3) := by decide +kernel
theorem dX0_init_92 : decode cX0_init 92 = .ok (.aload_n 0, 1) := by decide +kernel
theorem dX0_init_93 : decode cX0_init 93 = .ok (.new 23, 3) := by decide +kernel
theorem dX0_init_96 : decode cX0_init 96 = .ok (.dup, 1) := by decide +kernel
theorem dX0_init_97 : decode cX0_init 97 = .ok (.invokespecial 25, 3) := by decide +kernel
theorem dX0_init_100 : decode cX0_init 100 = .ok (.putfield 45, 3) := by decide +kernel
theorem dX0_init_103 : decode cX0_init 103 = .ok (.aload_n 0, 1) := by decide +kernel
theorem dX0_init_104 : decode cX0_init 104 = .ok (.new 48, 3) := by decide +kernel
theorem dX0_init_107 : decode cX0_init 107 = .ok (.dup, 1) := by decide +kernel
theorem dX0_init_108 : decode cX0_init 108 = .ok (.invokespecial 50, 3) := by decide +kernel
theorem dX0_init_111 : decode cX0_init 111 = .ok (.putfield 51, 3) := by decide +kernel
theorem dX0_init_114 : decode cX0_init 114 = .ok (.return_, 1) := by decide +kernel
set_option maxRecDepth 20000 in
theorem ggX0_takeApart_X4_signedMeasure : GoodIn wsX0_takeApart wsX4_signedMeasure := goodIn_r _ [13, 14, 15, 16, 17, 18, 19, 20, 21, 22, 23, 24, 25, 12, 26, 27, 28, 29, 30, 288, 289] (by decide +kernel) (by decide +kernel)
set_option maxRecDepth 20000 in
theorem gX0_takeApart_X4_signedMeasure : GoodIn wsX0_takeApart (wsV RX0 55 RX4 yX4_signedMeasure wsX4_signedMeasure) := goodIn_app (goodIn_of _ (by decide +kernel)) ggX0_takeApart_X4_signedMeasure
set_option maxRecDepth 20000 in
theorem ggX0_takeApart_X2_begin : GoodIn wsX0_takeApart wsX2_begin := goodIn_r _ [35, 36, 37, 290, 291, 292, 293] (by decide +kernel) (by decide +kernel)
set_option maxRecDepth 20000 in
theorem gX0_takeApart_X2_begin : GoodIn wsX0_takeApart (wsV RX0 59 RX2 yX2_begin wsX2_begin) := goodIn_app (goodIn_of _ (by decide +kernel)) ggX0_takeApart_X2_begin
set_option maxRecDepth 20000 in
theorem ggX0_takeApart_X4_become : GoodIn wsX0_takeApart wsX4_become := goodIn_r _ [41, 15, 42, 43, 44, 45, 14, 288, 289] (by decide +kernel) (by decide +kernel)
set_option maxRecDepth 20000 in
theorem gX0_takeApart_X4_become : GoodIn wsX0_takeApart (wsV RX0 67 RX4 yX4_become wsX4_become) := goodIn_app (goodIn_of _ (by decide +kernel)) ggX0_takeApart_X4_become
set_option maxRecDepth 20000 in
theorem ggX0_takeApart_X4_makePrimitive : GoodIn wsX0_takeApart wsX4_makePrimitive := goodIn_r _ [49, 14, 15, 50, 10, 11, 12, 13, 16, 17, 18, 19, 20, 21, 22, 23, 24, 25, 26, 27, 28, 29, 30, 288, 289] (by decide +kernel) (by decide +kernel)
set_option maxRecDepth 20000 in
theorem gX0_takeApart_X4_makePrimitive : GoodIn wsX0_takeApart (wsV RX0 71 RX4 yX4_makePrimitive wsX4_makePrimitive) := goodIn_app (goodIn_of _ (by decide +kernel)) ggX0_takeApart_X4_makePrimitive
set_option maxRecDepth 20000 in
theorem ggX0_takeApart_X4_becomeSlope : GoodIn wsX0_takeApart wsX4_becomeSlope := goodIn_r _ [54, 14, 15, 55, 56, 57, 12, 58, 59, 60, 61, 62, 288, 289] (by decide +kernel) (by decide +kernel)
set_option maxRecDepth 20000 in
theorem gX0_takeApart_X4_becomeSlope : GoodIn wsX0_takeApart (wsV RX0 74 RX4 yX4_becomeSlope wsX4_becomeSlope) := goodIn_app (goodIn_of _ (by decide +kernel)) ggX0_takeApart_X4_becomeSlope
set_option maxRecDepth 20000 in
theorem ggX0_takeApart_X0_findCommon : GoodIn wsX0_takeApart wsX0_findCommon := goodIn_k _ [[67, 0, 0, 0], [7, 63], [24, 0], [12, 13], [14, 12, 0, 0, 0], [15, 0, 0, 0, 0, 0, 0, 0, 49, 0, 0, 0, 0, 0, 0, 0, 0, 0, 0, 0, 0, 0, 0, 0, 0], [60, 0, 0, 26, 0, 0, 0, 0, 0, 0, 0], [39, 0, 0, 0, 0, 0, 0, 51, 0, 0, 0, 0, 0, 0, 0, 0, 0, 0, 0, 0, 0, 0, 0, 0, 0, 0, 0, 0], [59, 58, 0, 0, 0, 0], [46, 0, 0, 0, 0], [10, 0, 1, 9, 99, 0, 0], [66, 59, 0, 0, 0, 0, 0, 0, 0, 0, 0, 0, 0], [55, 0, 0, 0, 79, 0, 0, 0, 0, 135, 0, 0, 0, 0, 0, 0, 0, 0, 0, 0, 0, 4, 0, 0, 0]] rfl (by decide +kernel)
set_option maxRecDepth 20000 in
theorem gX0_takeApart_X0_findCommon : GoodIn wsX0_takeApart (wsV RX0 77 RX0 yX0_findCommon wsX0_findCommon) := goodIn_app (goodIn_of _ (by decide +kernel)) ggX0_takeApart_X0_findCommon
set_option maxRecDepth 20000 in
theorem ggX0_takeApart_X4_becomeQuotient : GoodIn wsX0_takeApart wsX4_becomeQuotient := goodIn_r _ [135, 14, 15, 136, 20, 21, 22, 137, 55, 56, 57, 12, 58, 138, 39, 40, 41, 42, 43, 44, 45, 23, 24, 25, 26, 27, 28, 29, 30, 59, 60, 61, 62, 288, 289] (by decide +kernel) (by decide +kernel)
set_option maxRecDepth 20000 in
theorem gX0_takeApart_X4_becomeQuotient : GoodIn wsX0_takeApart (wsV RX0 81 RX4 yX4_becomeQuotient wsX4_becomeQuotient) := goodIn_app (goodIn_of _ (by decide +kernel)) ggX0_takeApart_X4_becomeQuotient
set_option maxRecDepth 20000 in
theorem ggX0_takeApart_X0_chooseModulus : GoodIn wsX0_takeApart wsX0_chooseModulus := goodIn_k _ [[146], [8], [6, 140, 0, 0, 0, 0, 0, 0, 0, 0, 0, 0, 0], [73, 0, 0, 0, 0, 0, 80], [80, 0, 0, 0, 0, 0, 0, 0, 0], [60, 0], [12, 49], [14, 0, 144], [98, 0, 0], [95, 5], [24, 0, 0, 0, 0, 0, 0, 71, 0, 0, 0, 55], [52, 0, 0, 0, 0, 0, 0, 0, 102], [90, 0, 0, 0, 0, 1], [39, 0, 0, 0, 0, 0, 0, 51, 8, 0, 0, 0, 0, 0, 0, 0, 164, 0, 0, 0, 0, 0, 0, 0, 0, 0, 10, 0, 0, 0, 0, 0, 0, 0, 0, 0], [288, 0, 4, 0, 0, 0]] rfl (by decide +kernel)
set_option maxRecDepth 20000 in
theorem gX0_takeApart_X0_chooseModulus : GoodIn wsX0_takeApart (wsV RX0 85 RX0 yX0_chooseModulus wsX0_chooseModulus) := goodIn_app (goodIn_of _ (by decide +kernel)) ggX0_takeApart_X0_chooseModulus
set_option maxRecDepth 20000 in
theorem ggX0_takeApart_X5_groupByDegrees : GoodIn wsX0_takeApart wsX5_groupByDegrees := goodIn_k _ [[166, 0, 0], [156], [153, 0, 0, 13], [152, 17], [157, 13], [56, 0], [12, 45], [15], [14, 157], [39, 0, 0, 0, 0, 0, 0, 127, 0, 0], [150, 25, 0, 0, 0, 0, 0], [75, 106], [95], [83, 99, 0, 0, 0, 0, 0, 0, 0], [21, 169], [78, 113, 0, 0, 0], [84, 0, 0, 0, 0], [60, 0, 0, 133, 0, 0, 0, 0, 0, 0, 0], [55, 148, 0, 0, 0, 0], [140, 0, 0, 66], [162], [90, 0, 0, 0, 0, 1, 0, 0, 0, 0, 0], [24, 0, 0, 0, 0, 0, 0, 71, 0, 0, 0, 0, 0, 0, 0, 0, 0, 0, 0, 96, 0, 0, 0, 84, 0, 0, 0, 0, 0, 0, 0, 0, 0], [288, 0, 4, 0, 0, 0]] rfl (by decide +kernel)
set_option maxRecDepth 20000 in
theorem gX0_takeApart_X5_groupByDegrees : GoodIn wsX0_takeApart (wsV RX0 88 RX5 yX5_groupByDegrees wsX5_groupByDegrees) := goodIn_app (goodIn_of _ (by decide +kernel)) ggX0_takeApart_X5_groupByDegrees
set_option maxRecDepth 20000 in
theorem ggX0_takeApart_X5_separate : GoodIn wsX0_takeApart wsX5_separate := goodIn_k _ [[217], [167, 0], [154, 63, 0], [172], [39, 0], [12, 28], [15, 26, 0, 0, 0], [14, 205, 0, 0], [150, 72], [152, 2, 21, 0, 45], [170], [157, 67, 0, 0, 0], [169, 30, 0, 0, 0], [55, 0, 0, 0, 150], [197, 0], [75, 123], [83], [78, 5, 0, 0, 0, 0], [60, 0, 0, 166], [185, 0, 0, 0], [95, 93, 0], [21, 169, 0, 0, 0, 0, 8, 0, 0, 0, 0], [140, 0, 0, 41], [162], [90, 0, 0, 0, 0, 1, 0, 0, 0, 0, 0], [24, 0, 0, 0, 0, 0, 0, 71, 0, 0, 0, 0, 0, 0, 0, 0, 0, 0, 0, 96, 0, 0, 0], [183, 114, 0, 0, 0, 0, 0, 0, 0, 0, 0], [288, 0, 4, 0, 0, 0]] rfl (by decide +kernel)
set_option maxRecDepth 20000 in
theorem gX0_takeApart_X5_separate : GoodIn wsX0_takeApart (wsV RX0 91 RX5 yX5_separate wsX5_separate) := goodIn_app (goodIn_of _ (by decide +kernel)) ggX0_takeApart_X5_separate
set_option maxRecDepth 20000 in
theorem ggX0_takeApart_X0_recombine : GoodIn wsX0_takeApart wsX0_recombine := goodIn_k _ [[233], [8, 225, 0, 0, 0], [66, 171], [69], [6, 0, 231], [68], [5], [1, 68, 0], [24, 0], [12, 13], [14, 12, 0, 0, 0], [15, 123, 0, 0, 0], [55, 0, 0, 0, 181, 0, 0, 0], [59, 0, 0, 0, 16, 0, 0], [75, 6, 0], [78, 5, 0, 0, 0, 0, 29, 0, 0, 0], [95], [77, 44], [46, 0, 0, 0, 0], [10, 0, 1, 2, 0, 0, 0, 0, 0, 0, 0, 99, 0, 0, 0, 0, 0, 0, 0, 0, 0, 0, 0, 0, 0, 0, 0], [39, 0, 0, 0, 0, 0, 0, 198, 0, 0], [34, 212], [36, 211, 0, 0], [38, 239, 0, 0, 0, 0, 0, 0, 0, 0, 0, 10, 0, 0, 0, 0, 0, 0, 0, 0, 0], [288, 0, 4, 0, 0, 0], [290, 0, 0, 0]] rfl (by decide +kernel)
set_option maxRecDepth 20000 in
theorem gX0_takeApart_X0_recombine : GoodIn wsX0_takeApart (wsV RX0 94 RX0 yX0_recombine wsX0_recombine) := goodIn_app (goodIn_of _ (by decide +kernel)) ggX0_takeApart_X0_recombine
set_option maxRecDepth 20000 in
theorem ggX0_takeApart_X0_countEach : GoodIn wsX0_takeApart wsX0_countEach := goodIn_r _ [254, 1, 255, 70, 3, 256, 7, 257, 132, 133, 134, 12, 135, 14, 15, 136, 20, 21, 22, 137, 55, 56, 57, 58, 138, 39, 40, 41, 42, 43, 44, 45, 23, 24, 25, 26, 27, 28, 29, 30, 59, 60, 61, 62, 38, 278, 279, 280, 281, 282, 283, 284, 285, 286, 287, 290, 291, 292, 293, 288, 289] (by decide +kernel) (by decide +kernel)
set_option maxRecDepth 20000 in
theorem gX0_takeApart_X0_countEach : GoodIn wsX0_takeApart (wsV RX0 97 RX0 yX0_countEach wsX0_countEach) := goodIn_app (goodIn_of _ (by decide +kernel)) ggX0_takeApart_X0_countEach
set_option maxRecDepth 20000 in
theorem ggX0_takeApart_X2_sort : GoodIn wsX0_takeApart wsX2_sort := goodIn_r _ [261, 36, 248, 262, 263, 264, 12, 265, 14, 15, 266, 267, 268, 269, 270, 271, 272, 273, 274, 275, 276, 34, 277, 249, 290, 291, 292, 293, 288, 289] (by decide +kernel) (by decide +kernel)
set_option maxRecDepth 20000 in
theorem gX0_takeApart_X2_sort : GoodIn wsX0_takeApart (wsV RX0 100 RX2 yX2_sort wsX2_sort) := goodIn_app (goodIn_of _ (by decide +kernel)) ggX0_takeApart_X2_sort
theorem dX0_takeApart_0 : decode cX0_takeApart 0 = .ok (.aload_n 0, 1) := by decide +kernel
theorem dX0_takeApart_1 : decode cX0_takeApart 1 = .ok (.getfield 51, 3) := by decide +kernel
theorem dX0_takeApart_4 : decode cX0_takeApart 4 = .ok (.aload_n 1, 1) := by decide +kernel
theorem dX0_takeApart_5 : decode cX0_takeApart 5 = .ok (.invokevirtual 55, 3) := by decide +kernel
theorem dX0_takeApart_8 : decode cX0_takeApart 8 = .ok (.l2i, 1) := by decide +kernel
theorem dX0_takeApart_9 : decode cX0_takeApart 9 = .ok (.invokevirtual 59, 3) := by decide +kernel
theorem dX0_takeApart_12 : decode cX0_takeApart 12 = .ok (.aload_n 1, 1) := by decide +kernel
theorem dX0_takeApart_13 : decode cX0_takeApart 13 = .ok (.getfield 63, 3) := by decide +kernel
theorem dX0_takeApart_16 : decode cX0_takeApart 16 = .ok (.iconst 1, 1) := by decide +kernel
theorem dX0_takeApart_17 : decode cX0_takeApart 17 = .ok (.if_icmp .ge 4, 3) := by decide +kernel
theorem dX0_takeApart_20 : decode cX0_takeApart 20 = .ok (.return_, 1) := by decide +kernel
theorem dX0_takeApart_21 : decode cX0_takeApart 21 = .ok (.aload_n 0, 1) := by decide +kernel
theorem dX0_takeApart_22 : decode cX0_takeApart 22 = .ok (.getfield 26, 3) := by decide +kernel
theorem dX0_takeApart_25 : decode cX0_takeApart 25 = .ok (.aload_n 1, 1) := by decide +kernel
theorem dX0_takeApart_26 : decode cX0_takeApart 26 = .ok (.invokevirtual 67, 3) := by decide +kernel
theorem dX0_takeApart_29 : decode cX0_takeApart 29 = .ok (.aload_n 0, 1) := by decide +kernel
theorem dX0_takeApart_30 : decode cX0_takeApart 30 = .ok (.getfield 26, 3) := by decide +kernel
theorem dX0_takeApart_33 : decode cX0_takeApart 33 = .ok (.invokevirtual 71, 3) := by decide +kernel
theorem dX0_takeApart_36 : decode cX0_takeApart 36 = .ok (.aload_n 0, 1) := by decide +kernel
theorem dX0_takeApart_37 : decode cX0_takeApart 37 = .ok (.getfield 33, 3) := by decide +kernel
theorem dX0_takeApart_40 : decode cX0_takeApart 40 = .ok (.aload_n 0, 1) := by decide +kernel
theorem dX0_takeApart_41 : decode cX0_takeApart 41 = .ok (.getfield 26, 3) := by decide +kernel
theorem dX0_takeApart_44 : decode cX0_takeApart 44 = .ok (.invokevirtual 74, 3) := by decide +kernel
theorem dX0_takeApart_47 : decode cX0_takeApart 47 = .ok (.aload_n 0, 1) := by decide +kernel
theorem dX0_takeApart_48 : decode cX0_takeApart 48 = .ok (.aload_n 0, 1) := by decide +kernel
theorem dX0_takeApart_49 : decode cX0_takeApart 49 = .ok (.getfield 36, 3) := by decide +kernel
theorem dX0_takeApart_52 : decode cX0_takeApart 52 = .ok (.aload_n 0, 1) := by decide +kernel
theorem dX0_takeApart_53 : decode cX0_takeApart 53 = .ok (.getfield 26, 3) := by decide +kernel
theorem dX0_takeApart_56 : decode cX0_takeApart 56 = .ok (.aload_n 0, 1) := by decide +kernel
theorem dX0_takeApart_57 : decode cX0_takeApart 57 = .ok (.getfield 33, 3) := by decide +kernel
theorem dX0_takeApart_60 : decode cX0_takeApart 60 = .ok (.invokevirtual 77, 3) := by decide +kernel
theorem dX0_takeApart_63 : decode cX0_takeApart 63 = .ok (.aload_n 0, 1) := by decide +kernel
theorem dX0_takeApart_64 : decode cX0_takeApart 64 = .ok (.getfield 30, 3) := by decide +kernel
theorem dX0_takeApart_67 : decode cX0_takeApart 67 = .ok (.aload_n 0, 1) := by decide +kernel
theorem dX0_takeApart_68 : decode cX0_takeApart 68 = .ok (.getfield 26, 3) := by decide +kernel
theorem dX0_takeApart_71 : decode cX0_takeApart 71 = .ok (.aload_n 0, 1) := by decide +kernel
theorem dX0_takeApart_72 : decode cX0_takeApart 72 = .ok (.getfield 36, 3) := by decide +kernel
theorem dX0_takeApart_75 : decode cX0_takeApart 75 = .ok (.aload_n 0, 1) := by decide +kernel
theorem dX0_takeApart_76 : decode cX0_takeApart 76 = .ok (.getfield 45, 3) := by decide +kernel
theorem dX0_takeApart_79 : decode cX0_takeApart 79 = .ok (.invokevirtual 81, 3) := by decide +kernel
theorem dX0_takeApart_82 : decode cX0_takeApart 82 = .ok (.pop, 1) := by decide +kernel
theorem dX0_takeApart_83 : decode cX0_takeApart 83 = .ok (.aload_n 0, 1) := by decide +kernel
theorem dX0_takeApart_84 : decode cX0_takeApart 84 = .ok (.invokevirtual 85, 3) := by decide +kernel
theorem dX0_takeApart_87 : decode cX0_takeApart 87 = .ok (.aload_n 0, 1) := by decide +kernel
theorem dX0_takeApart_88 : decode cX0_takeApart 88 = .ok (.getfield 12, 3) := by decide +kernel
theorem dX0_takeApart_91 : decode cX0_takeApart 91 = .ok (.invokevirtual 88, 3) := by decide +kernel
theorem dX0_takeApart_94 : decode cX0_takeApart 94 = .ok (.iconst 1, 1) := by decide +kernel
theorem dX0_takeApart_95 : decode cX0_takeApart 95 = .ok (.istore_n 2, 1) := by decide +kernel
theorem dX0_takeApart_96 : decode cX0_takeApart 96 = .ok (.iload_n 2, 1) := by decide +kernel
theorem dX0_takeApart_97 : decode cX0_takeApart 97 = .ok (.bipush 6, 2) := by decide +kernel
theorem dX0_takeApart_99 : decode cX0_takeApart 99 = .ok (.if_icmp .gt 17, 3) := by decide +kernel
theorem dX0_takeApart_102 : decode cX0_takeApart 102 = .ok (.aload_n 0, 1) := by decide +kernel
theorem dX0_takeApart_103 : decode cX0_takeApart 103 = .ok (.getfield 12, 3) := by decide +kernel
theorem dX0_takeApart_106 : decode cX0_takeApart 106 = .ok (.iload_n 2, 1) := by decide +kernel
theorem dX0_takeApart_107 : decode cX0_takeApart 107 = .ok (.invokevirtual 91, 3) := by decide +kernel
theorem dX0_takeApart_110 : decode cX0_takeApart 110 = .ok (.iinc 2 1, 3) := by decide +kernel
theorem dX0_takeApart_113 : decode cX0_takeApart 113 = .ok (.goto (-17), 3) := by decide +kernel
theorem dX0_takeApart_116 : decode cX0_takeApart 116 = .ok (.aload_n 0, 1) := by decide +kernel
theorem dX0_takeApart_117 : decode cX0_takeApart 117 = .ok (.invokevirtual 94, 3) := by decide +kernel
theorem dX0_takeApart_120 : decode cX0_takeApart 120 = .ok (.aload_n 0, 1) := by decide +kernel
theorem dX0_takeApart_121 : decode cX0_takeApart 121 = .ok (.invokevirtual 97, 3) := by decide +kernel
theorem dX0_takeApart_124 : decode cX0_takeApart 124 = .ok (.aload_n 0, 1) := by decide +kernel
theorem dX0_takeApart_125 : decode cX0_takeApart 125 = .ok (.getfield 51, 3) := by decide +kernel
theorem dX0_takeApart_128 : decode cX0_takeApart 128 = .ok (.invokevirtual 100, 3) := by decide +kernel
theorem dX0_takeApart_131 : decode cX0_takeApart 131 = .ok (.return_, 1) := by decide +kernel
set_option maxRecDepth 20000 in
theorem ggX0_findCommon_X4_lead : GoodIn wsX0_findCommon wsX4_lead := goodIn_r _ [9, 10, 11, 12, 13, 8, 14, 15, 129, 130] (by decide +kernel) (by decide +kernel)
set_option maxRecDepth 20000 in
theorem gX0_findCommon_X4_lead : GoodIn wsX0_findCommon (wsV RX0 103 RX4 yX4_lead wsX4_lead) := goodIn_app (goodIn_of _ (by decide +kernel)) ggX0_findCommon_X4_lead
set_option maxRecDepth 20000 in
theorem ggX0_findCommon_X6_greatestDivisor : GoodIn wsX0_findCommon wsX6_greatestDivisor := goodIn_r _ [18, 19, 20, 21, 22] (by decide +kernel) (by decide +kernel)
set_option maxRecDepth 20000 in
theorem gX0_findCommon_X6_greatestDivisor_n106 : GoodIn wsX0_findCommon (wsX6_greatestDivisor) := ggX0_findCommon_X6_greatestDivisor
set_option maxRecDepth 20000 in
theorem ggX0_findCommon_X3_useModulus : GoodIn wsX0_findCommon wsX3_useModulus := goodIn_r _ [27, 28, 29, 131, 132, 133, 134] (by decide +kernel) (by decide +kernel)
set_option maxRecDepth 20000 in
theorem gX0_findCommon_X3_useModulus : GoodIn wsX0_findCommon (wsV RX0 114 RX3 yX3_useModulus wsX3_useModulus) := goodIn_app (goodIn_of _ (by decide +kernel)) ggX0_findCommon_X3_useModulus
set_option maxRecDepth 20000 in
theorem ggX0_findCommon_X3_reduce : GoodIn wsX0_findCommon wsX3_reduce := goodIn_r _ [33, 34, 29, 35, 36, 37, 38, 39, 40, 41, 8, 42, 10, 15, 129, 130, 131, 132, 133, 134] (by decide +kernel) (by decide +kernel)
set_option maxRecDepth 20000 in
theorem gX0_findCommon_X3_reduce : GoodIn wsX0_findCommon (wsV RX0 120 RX3 yX3_reduce wsX3_reduce) := goodIn_app (goodIn_of _ (by decide +kernel)) ggX0_findCommon_X3_reduce
set_option maxRecDepth 20000 in
theorem ggX0_findCommon_X3_findCommon : GoodIn wsX0_findCommon wsX3_findCommon := goodIn_r _ [46, 47, 48, 49, 50, 51, 52, 8, 53, 15, 54, 55, 56, 57, 10, 58, 59, 60, 26, 61, 34, 29, 62, 6, 7, 9, 11, 12, 13, 14, 63, 64, 65, 66, 67, 68, 69, 70, 71, 72, 73, 74, 39, 40, 41, 42, 131, 132, 133, 134, 129, 130] (by decide +kernel) (by decide +kernel)
set_option maxRecDepth 20000 in
theorem gX0_findCommon_X3_findCommon : GoodIn wsX0_findCommon (wsV RX0 124 RX3 yX3_findCommon wsX3_findCommon) := goodIn_app (goodIn_of _ (by decide +kernel)) ggX0_findCommon_X3_findCommon
set_option maxRecDepth 20000 in
theorem ggX0_findCommon_X4_becomeSum : GoodIn wsX0_findCommon wsX4_becomeSum := goodIn_r _ [78, 15, 79, 40, 41, 8, 42, 10, 129, 130] (by decide +kernel) (by decide +kernel)
set_option maxRecDepth 20000 in
theorem gX0_findCommon_X4_becomeSum : GoodIn wsX0_findCommon (wsV RX0 125 RX4 yX4_becomeSum wsX4_becomeSum) := goodIn_app (goodIn_of _ (by decide +kernel)) ggX0_findCommon_X4_becomeSum
set_option maxRecDepth 20000 in
theorem ggX0_findCommon_X3_lift : GoodIn wsX0_findCommon wsX3_lift := goodIn_r _ [83, 49, 34, 29, 28, 84, 31, 32, 26, 33, 35, 36, 37, 38, 39, 40, 41, 8, 42, 10, 15, 129, 130, 131, 132, 133, 134] (by decide +kernel) (by decide +kernel)
set_option maxRecDepth 20000 in
theorem gX0_findCommon_X3_lift : GoodIn wsX0_findCommon (wsV RX0 129 RX3 yX3_lift wsX3_lift) := goodIn_app (goodIn_of _ (by decide +kernel)) ggX0_findCommon_X3_lift
set_option maxRecDepth 20000 in
theorem ggX0_findCommon_X4_makePrimitive : GoodIn wsX0_findCommon wsX4_makePrimitive := goodIn_r _ [88, 10, 15, 89, 90, 91, 8, 92, 16, 17, 18, 19, 20, 21, 22, 93, 6, 7, 9, 11, 12, 13, 14, 129, 130] (by decide +kernel) (by decide +kernel)
set_option maxRecDepth 20000 in
theorem gX0_findCommon_X4_makePrimitive : GoodIn wsX0_findCommon (wsV RX0 71 RX4 yX4_makePrimitive wsX4_makePrimitive) := goodIn_app (goodIn_of _ (by decide +kernel)) ggX0_findCommon_X4_makePrimitive
set_option maxRecDepth 20000 in
theorem ggX0_findCommon_X0_divides : GoodIn wsX0_findCommon wsX0_divides := goodIn_r _ [98, 99, 3, 4, 100, 101, 102, 8, 103, 10, 15, 104, 105, 106, 107, 108, 20, 21, 22, 109, 110, 111, 112, 113, 114, 51, 52, 53, 54, 55, 56, 57, 93, 6, 7, 9, 11, 12, 13, 14, 79, 40, 41, 42, 119, 120, 121, 122, 123, 124, 125, 126, 127, 128, 129, 130] (by decide +kernel) (by decide +kernel)
set_option maxRecDepth 20000 in
theorem gX0_findCommon_X0_divides : GoodIn wsX0_findCommon (wsV RX0 132 RX0 yX0_divides wsX0_divides) := goodIn_app (goodIn_of _ (by decide +kernel)) ggX0_findCommon_X0_divides
set_option maxRecDepth 20000 in
theorem ggX0_findCommon_X4_becomeNumber : GoodIn wsX0_findCommon wsX4_becomeNumber := goodIn_r _ [118, 15, 10, 110, 111, 112, 8, 113, 129, 130] (by decide +kernel) (by decide +kernel)
set_option maxRecDepth 20000 in
theorem gX0_findCommon_X4_becomeNumber : GoodIn wsX0_findCommon (wsV RX0 136 RX4 yX4_becomeNumber wsX4_becomeNumber) := goodIn_app (goodIn_of _ (by decide +kernel)) ggX0_findCommon_X4_becomeNumber
theorem dX0_findCommon_0 : decode cX0_findCommon 0 = .ok (.aload_n 2, 1) := by decide +kernel
theorem dX0_findCommon_1 : decode cX0_findCommon 1 = .ok (.invokevirtual 103, 3) := by decide +kernel
theorem dX0_findCommon_4 : decode cX0_findCommon 4 = .ok (.aload_n 3, 1) := by decide +kernel
theorem dX0_findCommon_5 : decode cX0_findCommon 5 = .ok (.invokevirtual 103, 3) := by decide +kernel
theorem dX0_findCommon_8 : decode cX0_findCommon 8 = .ok (.invokestatic 106, 3) := by decide +kernel
theorem dX0_findCommon_11 : decode cX0_findCommon 11 = .ok (.lstore 4, 2) := by decide +kernel
theorem dX0_findCommon_13 : decode cX0_findCommon 13 = .ok (.getstatic 110, 3) := by decide +kernel
theorem dX0_findCommon_16 : decode cX0_findCommon 16 = .ok (.astore 6, 2) := by decide +kernel
theorem dX0_findCommon_18 : decode cX0_findCommon 18 = .ok (.aload 6, 2) := by decide +kernel
theorem dX0_findCommon_20 : decode cX0_findCommon 20 = .ok (.arraylength, 1) := by decide +kernel
theorem dX0_findCommon_21 : decode cX0_findCommon 21 = .ok (.istore 7, 2) := by decide +kernel
theorem dX0_findCommon_23 : decode cX0_findCommon 23 = .ok (.iconst 0, 1) := by decide +kernel
theorem dX0_findCommon_24 : decode cX0_findCommon 24 = .ok (.istore 8, 2) := by decide +kernel
theorem dX0_findCommon_26 : decode cX0_findCommon 26 = .ok (.iload 8, 2) := by decide +kernel
theorem dX0_findCommon_28 : decode cX0_findCommon 28 = .ok (.iload 7, 2) := by decide +kernel
theorem dX0_findCommon_30 : decode cX0_findCommon 30 = .ok (.if_icmp .ge 121, 3) := by decide +kernel
theorem dX0_findCommon_33 : decode cX0_findCommon 33 = .ok (.aload 6, 2) := by decide +kernel
theorem dX0_findCommon_35 : decode cX0_findCommon 35 = .ok (.iload 8, 2) := by decide +kernel
theorem dX0_findCommon_37 : decode cX0_findCommon 37 = .ok (.laload, 1) := by decide +kernel
theorem dX0_findCommon_38 : decode cX0_findCommon 38 = .ok (.lstore 9, 2) := by decide +kernel
theorem dX0_findCommon_40 : decode cX0_findCommon 40 = .ok (.aload_n 0, 1) := by decide +kernel
theorem dX0_findCommon_41 : decode cX0_findCommon 41 = .ok (.getfield 22, 3) := by decide +kernel
theorem dX0_findCommon_44 : decode cX0_findCommon 44 = .ok (.lload 9, 2) := by decide +kernel
theorem dX0_findCommon_46 : decode cX0_findCommon 46 = .ok (.invokevirtual 114, 3) := by decide +kernel
theorem dX0_findCommon_49 : decode cX0_findCommon 49 = .ok (.aload_n 0, 1) := by decide +kernel
theorem dX0_findCommon_50 : decode cX0_findCommon 50 = .ok (.getfield 22, 3) := by decide +kernel
theorem dX0_findCommon_53 : decode cX0_findCommon 53 = .ok (.aload_n 0, 1) := by decide +kernel
theorem dX0_findCommon_54 : decode cX0_findCommon 54 = .ok (.getfield 39, 3) := by decide +kernel
theorem dX0_findCommon_57 : decode cX0_findCommon 57 = .ok (.aload_n 2, 1) := by decide +kernel
theorem dX0_findCommon_58 : decode cX0_findCommon 58 = .ok (.invokevirtual 120, 3) := by decide +kernel
theorem dX0_findCommon_61 : decode cX0_findCommon 61 = .ok (.aload_n 0, 1) := by decide +kernel
theorem dX0_findCommon_62 : decode cX0_findCommon 62 = .ok (.getfield 22, 3) := by decide +kernel
theorem dX0_findCommon_65 : decode cX0_findCommon 65 = .ok (.aload_n 0, 1) := by decide +kernel
theorem dX0_findCommon_66 : decode cX0_findCommon 66 = .ok (.getfield 42, 3) := by decide +kernel
theorem dX0_findCommon_69 : decode cX0_findCommon 69 = .ok (.aload_n 3, 1) := by decide +kernel
theorem dX0_findCommon_70 : decode cX0_findCommon 70 = .ok (.invokevirtual 120, 3) := by decide +kernel
theorem dX0_findCommon_73 : decode cX0_findCommon 73 = .ok (.aload_n 0, 1) := by decide +kernel
theorem dX0_findCommon_74 : decode cX0_findCommon 74 = .ok (.getfield 22, 3) := by decide +kernel
theorem dX0_findCommon_77 : decode cX0_findCommon 77 = .ok (.aload_n 0, 1) := by decide +kernel
theorem dX0_findCommon_78 : decode cX0_findCommon 78 = .ok (.getfield 45, 3) := by decide +kernel
theorem dX0_findCommon_81 : decode cX0_findCommon 81 = .ok (.aload_n 0, 1) := by decide +kernel
theorem dX0_findCommon_82 : decode cX0_findCommon 82 = .ok (.getfield 39, 3) := by decide +kernel
theorem dX0_findCommon_85 : decode cX0_findCommon 85 = .ok (.aload_n 0, 1) := by decide +kernel
theorem dX0_findCommon_86 : decode cX0_findCommon 86 = .ok (.getfield 42, 3) := by decide +kernel
theorem dX0_findCommon_89 : decode cX0_findCommon 89 = .ok (.invokevirtual 124, 3) := by decide +kernel
theorem dX0_findCommon_92 : decode cX0_findCommon 92 = .ok (.aload_n 0, 1) := by decide +kernel
theorem dX0_findCommon_93 : decode cX0_findCommon 93 = .ok (.getfield 39, 3) := by decide +kernel
theorem dX0_findCommon_96 : decode cX0_findCommon 96 = .ok (.aload_n 0, 1) := by decide +kernel
theorem dX0_findCommon_97 : decode cX0_findCommon 97 = .ok (.getfield 45, 3) := by decide +kernel
theorem dX0_findCommon_100 : decode cX0_findCommon 100 = .ok (.lload 4, 2) := by decide +kernel
theorem dX0_findCommon_102 : decode cX0_findCommon 102 = .ok (.aload_n 0, 1) := by decide +kernel
theorem dX0_findCommon_103 : decode cX0_findCommon 103 = .ok (.getfield 45, 3) := by decide +kernel
theorem dX0_findCommon_106 : decode cX0_findCommon 106 = .ok (.lconst 0, 1) := by decide +kernel
theorem dX0_findCommon_107 : decode cX0_findCommon 107 = .ok (.invokevirtual 125, 3) := by decide +kernel
theorem dX0_findCommon_110 : decode cX0_findCommon 110 = .ok (.aload_n 0, 1) := by decide +kernel
theorem dX0_findCommon_111 : decode cX0_findCommon 111 = .ok (.getfield 22, 3) := by decide +kernel
theorem dX0_findCommon_114 : decode cX0_findCommon 114 = .ok (.aload_n 1, 1) := by decide +kernel
theorem dX0_findCommon_115 : decode cX0_findCommon 115 = .ok (.aload_n 0, 1) := by decide +kernel
theorem dX0_findCommon_116 : decode cX0_findCommon 116 = .ok (.getfield 39, 3) := by decide +kernel
theorem dX0_findCommon_119 : decode cX0_findCommon 119 = .ok (.invokevirtual 129, 3) := by decide +kernel
theorem dX0_findCommon_122 : decode cX0_findCommon 122 = .ok (.aload_n 1, 1) := by decide +kernel
theorem dX0_findCommon_123 : decode cX0_findCommon 123 = .ok (.invokevirtual 71, 3) := by decide +kernel
theorem dX0_findCommon_126 : decode cX0_findCommon 126 = .ok (.aload_n 0, 1) := by decide +kernel
theorem dX0_findCommon_127 : decode cX0_findCommon 127 = .ok (.aload_n 1, 1) := by decide +kernel
theorem dX0_findCommon_128 : decode cX0_findCommon 128 = .ok (.aload_n 2, 1) := by decide +kernel
theorem dX0_findCommon_129 : decode cX0_findCommon 129 = .ok (.invokevirtual 132, 3) := by decide +kernel
theorem dX0_findCommon_132 : decode cX0_findCommon 132 = .ok (.ifCond .eq 13, 3) := by decide +kernel
theorem dX0_findCommon_135 : decode cX0_findCommon 135 = .ok (.aload_n 0, 1) := by decide +kernel
theorem dX0_findCommon_136 : decode cX0_findCommon 136 = .ok (.aload_n 1, 1) := by decide +kernel
theorem dX0_findCommon_137 : decode cX0_findCommon 137 = .ok (.aload_n 3, 1) := by decide +kernel
theorem dX0_findCommon_138 : decode cX0_findCommon 138 = .ok (.invokevirtual 132, 3) := by decide +kernel
theorem dX0_findCommon_141 : decode cX0_findCommon 141 = .ok (.ifCond .eq 4, 3) := by decide +kernel
theorem dX0_findCommon_144 : decode cX0_findCommon 144 = .ok (.return_, 1) := by decide +kernel
theorem dX0_findCommon_145 : decode cX0_findCommon 145 = .ok (.iinc 8 1, 3) := by decide +kernel
theorem dX0_findCommon_148 : decode cX0_findCommon 148 = .ok (.goto (-122), 3) := by decide +kernel
theorem dX0_findCommon_151 : decode cX0_findCommon 151 = .ok (.aload_n 1, 1) := by decide +kernel
theorem dX0_findCommon_152 : decode cX0_findCommon 152 = .ok (.lconst 1, 1) := by decide +kernel
theorem dX0_findCommon_153 : decode cX0_findCommon 153 = .ok (.invokevirtual 136, 3) := by decide +kernel
theorem dX0_findCommon_156 : decode cX0_findCommon 156 = .ok (.return_, 1) := by decide +kernel
set_option maxRecDepth 20000 in
theorem ggX0_divides_X4_isWithin : GoodIn wsX0_divides wsX4_isWithin := goodIn_r _ [8, 9, 10, 54, 55] (by decide +kernel) (by decide +kernel)
set_option maxRecDepth 20000 in
theorem gX0_divides_X4_isWithin : GoodIn wsX0_divides (wsV RX0 141 RX4 yX4_isWithin wsX4_isWithin) := goodIn_app (goodIn_of _ (by decide +kernel)) ggX0_divides_X4_isWithin
set_option maxRecDepth 20000 in
theorem ggX0_divides_X4_becomeQuotient : GoodIn wsX0_divides wsX4_becomeQuotient := goodIn_r _ [14, 9, 10, 15, 16, 17, 18, 19, 20, 21, 22, 7, 23, 24, 25, 26, 27, 28, 29, 30, 31, 32, 33, 34, 35, 36, 37, 38, 39, 40, 41, 42, 43, 54, 55] (by decide +kernel) (by decide +kernel)
set_option maxRecDepth 20000 in
theorem gX0_divides_X4_becomeQuotient : GoodIn wsX0_divides (wsV RX0 81 RX4 yX4_becomeQuotient wsX4_becomeQuotient) := goodIn_app (goodIn_of _ (by decide +kernel)) ggX0_divides_X4_becomeQuotient
theorem dX0_divides_0 : decode cX0_divides 0 = .ok (.aload_n 1, 1) := by decide +kernel
theorem dX0_divides_1 : decode cX0_divides 1 = .ok (.ldc2_w 139, 3) := by decide +kernel
theorem dX0_divides_4 : decode cX0_divides 4 = .ok (.invokevirtual 141, 3) := by decide +kernel
theorem dX0_divides_7 : decode cX0_divides 7 = .ok (.ifCond .eq 23, 3) := by decide +kernel
theorem dX0_divides_10 : decode cX0_divides 10 = .ok (.aload_n 0, 1) := by decide +kernel
theorem dX0_divides_11 : decode cX0_divides 11 = .ok (.getfield 42, 3) := by decide +kernel
theorem dX0_divides_14 : decode cX0_divides 14 = .ok (.aload_n 2, 1) := by decide +kernel
theorem dX0_divides_15 : decode cX0_divides 15 = .ok (.aload_n 1, 1) := by decide +kernel
theorem dX0_divides_16 : decode cX0_divides 16 = .ok (.aload_n 0, 1) := by decide +kernel
theorem dX0_divides_17 : decode cX0_divides 17 = .ok (.getfield 45, 3) := by decide +kernel
theorem dX0_divides_20 : decode cX0_divides 20 = .ok (.invokevirtual 81, 3) := by decide +kernel
theorem dX0_divides_23 : decode cX0_divides 23 = .ok (.ifCond .eq 7, 3) := by decide +kernel
theorem dX0_divides_26 : decode cX0_divides 26 = .ok (.iconst 1, 1) := by decide +kernel
theorem dX0_divides_27 : decode cX0_divides 27 = .ok (.goto 4, 3) := by decide +kernel
theorem dX0_divides_30 : decode cX0_divides 30 = .ok (.iconst 0, 1) := by decide +kernel
theorem dX0_divides_31 : decode cX0_divides 31 = .ok (.ireturn, 1) := by decide +kernel
set_option maxRecDepth 20000 in
theorem ggX0_chooseModulus_X5_load : GoodIn wsX0_chooseModulus wsX5_load := goodIn_r _ [7, 8, 9, 10, 11, 12, 13, 14, 15, 16, 17, 18, 19, 20, 21, 22, 23, 24, 25, 26, 27, 28, 29, 30, 31, 32, 33, 34, 35, 36, 37, 38, 39, 40, 41, 42, 43, 44, 45, 46, 47, 48, 49, 50, 51, 52, 53, 54, 55, 56, 57, 58, 59, 60, 61, 62, 63, 64, 65, 66, 67, 68, 69, 70, 71, 72, 73, 74, 75, 76, 77, 78, 79, 80, 81, 82, 83, 84, 85, 96, 97, 98, 99, 100, 101, 102, 103, 104, 105, 106, 107, 108, 109, 110, 111] (by decide +kernel) (by decide +kernel)
set_option maxRecDepth 20000 in
theorem gX0_chooseModulus_X5_load : GoodIn wsX0_chooseModulus (wsV RX0 145 RX5 yX5_load wsX5_load) := goodIn_app (goodIn_of _ (by decide +kernel)) ggX0_chooseModulus_X5_load
theorem dX0_chooseModulus_0 : decode cX0_chooseModulus 0 = .ok (.getstatic 110, 3) := by decide +kernel
theorem dX0_chooseModulus_3 : decode cX0_chooseModulus 3 = .ok (.astore_n 1, 1) := by decide +kernel
theorem dX0_chooseModulus_4 : decode cX0_chooseModulus 4 = .ok (.aload_n 1, 1) := by decide +kernel
theorem dX0_chooseModulus_5 : decode cX0_chooseModulus 5 = .ok (.arraylength, 1) := by decide +kernel
theorem dX0_chooseModulus_6 : decode cX0_chooseModulus 6 = .ok (.istore_n 2, 1) := by decide +kernel
theorem dX0_chooseModulus_7 : decode cX0_chooseModulus 7 = .ok (.iconst 0, 1) := by decide +kernel
theorem dX0_chooseModulus_8 : decode cX0_chooseModulus 8 = .ok (.istore_n 3, 1) := by decide +kernel
theorem dX0_chooseModulus_9 : decode cX0_chooseModulus 9 = .ok (.iload_n 3, 1) := by decide +kernel
theorem dX0_chooseModulus_10 : decode cX0_chooseModulus 10 = .ok (.iload_n 2, 1) := by decide +kernel
theorem dX0_chooseModulus_11 : decode cX0_chooseModulus 11 = .ok (.if_icmp .ge 31, 3) := by decide +kernel
theorem dX0_chooseModulus_14 : decode cX0_chooseModulus 14 = .ok (.aload_n 1, 1) := by decide +kernel
theorem dX0_chooseModulus_15 : decode cX0_chooseModulus 15 = .ok (.iload_n 3, 1) := by decide +kernel
theorem dX0_chooseModulus_16 : decode cX0_chooseModulus 16 = .ok (.laload, 1) := by decide +kernel
theorem dX0_chooseModulus_17 : decode cX0_chooseModulus 17 = .ok (.lstore 4, 2) := by decide +kernel
theorem dX0_chooseModulus_19 : decode cX0_chooseModulus 19 = .ok (.aload_n 0, 1) := by decide +kernel
theorem dX0_chooseModulus_20 : decode cX0_chooseModulus 20 = .ok (.getfield 12, 3) := by decide +kernel
theorem dX0_chooseModulus_23 : decode cX0_chooseModulus 23 = .ok (.aload_n 0, 1) := by decide +kernel
theorem dX0_chooseModulus_24 : decode cX0_chooseModulus 24 = .ok (.getfield 30, 3) := by decide +kernel
theorem dX0_chooseModulus_27 : decode cX0_chooseModulus 27 = .ok (.lload 4, 2) := by decide +kernel
theorem dX0_chooseModulus_29 : decode cX0_chooseModulus 29 = .ok (.invokevirtual 145, 3) := by decide +kernel
theorem dX0_chooseModulus_32 : decode cX0_chooseModulus 32 = .ok (.ifCond .eq 4, 3) := by decide +kernel
theorem dX0_chooseModulus_35 : decode cX0_chooseModulus 35 = .ok (.return_, 1) := by decide +kernel
theorem dX0_chooseModulus_36 : decode cX0_chooseModulus 36 = .ok (.iinc 3 1, 3) := by decide +kernel
theorem dX0_chooseModulus_39 : decode cX0_chooseModulus 39 = .ok (.goto (-30), 3) := by decide +kernel
theorem dX0_chooseModulus_42 : decode cX0_chooseModulus 42 = .ok (.return_, 1) := by decide +kernel
set_option maxRecDepth 20000 in
theorem ggX0_recombine_X0_takeOut : GoodIn wsX0_recombine wsX0_takeOut := goodIn_k _ [[7, 0, 0], [1, 0, 7, 0, 0, 0, 0, 0, 0, 0, 0, 0, 0, 0, 0, 0, 0, 0, 0, 0, 0, 0, 0, 0, 0, 0, 0, 0, 0, 0, 0, 0, 0, 0, 0, 0, 0, 0, 0, 0, 0, 0, 0, 0, 0, 0, 0, 0, 0, 0, 0, 0, 0, 0, 0, 0, 0, 0, 0, 0, 0, 0, 0, 0, 0, 0, 0, 0, 0, 0, 0, 0, 0], [6, 74, 0, 0, 0, 0, 0, 0, 0, 0, 0, 0, 0, 0, 0, 0, 0, 0, 0, 0, 0, 0, 0, 0, 0, 0, 0, 0, 0, 0, 0, 0, 0, 0, 0, 0, 0, 0, 0, 0, 0, 0, 0, 0, 0, 0, 0, 0, 0, 0, 0, 0, 0, 0, 0, 0, 0, 0, 0, 0, 0]] rfl (by decide +kernel)
set_option maxRecDepth 20000 in
theorem gX0_recombine_X0_takeOut : GoodIn wsX0_recombine (wsV RX0 152 RX0 yX0_takeOut wsX0_takeOut) := goodIn_app (goodIn_of _ (by decide +kernel)) ggX0_recombine_X0_takeOut
theorem dX0_recombine_0 : decode cX0_recombine 0 = .ok (.iconst 0, 1) := by decide +kernel
theorem dX0_recombine_1 : decode cX0_recombine 1 = .ok (.istore_n 1, 1) := by decide +kernel
theorem dX0_recombine_2 : decode cX0_recombine 2 = .ok (.iconst 1, 1) := by decide +kernel
theorem dX0_recombine_3 : decode cX0_recombine 3 = .ok (.istore_n 2, 1) := by decide +kernel
theorem dX0_recombine_4 : decode cX0_recombine 4 = .ok (.iload_n 2, 1) := by decide +kernel
theorem dX0_recombine_5 : decode cX0_recombine 5 = .ok (.iconst 1, 1) := by decide +kernel
theorem dX0_recombine_6 : decode cX0_recombine 6 = .ok (.aload_n 0, 1) := by decide +kernel
theorem dX0_recombine_7 : decode cX0_recombine 7 = .ok (.getfield 12, 3) := by decide +kernel
theorem dX0_recombine_10 : decode cX0_recombine 10 = .ok (.getfield 149, 3) := by decide +kernel
theorem dX0_recombine_13 : decode cX0_recombine 13 = .ok (.ishl, 1) := by decide +kernel
theorem dX0_recombine_14 : decode cX0_recombine 14 = .ok (.if_icmp .ge 27, 3) := by decide +kernel
theorem dX0_recombine_17 : decode cX0_recombine 17 = .ok (.iload_n 2, 1) := by decide +kernel
theorem dX0_recombine_18 : decode cX0_recombine 18 = .ok (.iload_n 1, 1) := by decide +kernel
theorem dX0_recombine_19 : decode cX0_recombine 19 = .ok (.iand, 1) := by decide +kernel
theorem dX0_recombine_20 : decode cX0_recombine 20 = .ok (.ifCond .ne 15, 3) := by decide +kernel
theorem dX0_recombine_23 : decode cX0_recombine 23 = .ok (.aload_n 0, 1) := by decide +kernel
theorem dX0_recombine_24 : decode cX0_recombine 24 = .ok (.iload_n 2, 1) := by decide +kernel
theorem dX0_recombine_25 : decode cX0_recombine 25 = .ok (.invokevirtual 152, 3) := by decide +kernel
theorem dX0_recombine_28 : decode cX0_recombine 28 = .ok (.ifCond .eq 7, 3) := by decide +kernel
theorem dX0_recombine_31 : decode cX0_recombine 31 = .ok (.iload_n 1, 1) := by decide +kernel
theorem dX0_recombine_32 : decode cX0_recombine 32 = .ok (.iload_n 2, 1) := by decide +kernel
theorem dX0_recombine_33 : decode cX0_recombine 33 = .ok (.ior, 1) := by decide +kernel
theorem dX0_recombine_34 : decode cX0_recombine 34 = .ok (.istore_n 1, 1) := by decide +kernel
theorem dX0_recombine_35 : decode cX0_recombine 35 = .ok (.iinc 2 1, 3) := by decide +kernel
theorem dX0_recombine_38 : decode cX0_recombine 38 = .ok (.goto (-34), 3) := by decide +kernel
theorem dX0_recombine_41 : decode cX0_recombine 41 = .ok (.return_, 1) := by decide +kernel
set_option maxRecDepth 20000 in
theorem ggX0_takeOut_X4_lead : GoodIn wsX0_takeOut wsX4_lead := goodIn_r _ [15, 16, 17, 18, 19, 14, 20, 21, 127, 128] (by decide +kernel) (by decide +kernel)
set_option maxRecDepth 20000 in
theorem gX0_takeOut_X4_lead : GoodIn wsX0_takeOut (wsV RX0 103 RX4 yX4_lead wsX4_lead) := goodIn_app (goodIn_of _ (by decide +kernel)) ggX0_takeOut_X4_lead
set_option maxRecDepth 20000 in
theorem ggX0_takeOut_X4_becomeNumber : GoodIn wsX0_takeOut wsX4_becomeNumber := goodIn_r _ [25, 21, 16, 26, 27, 28, 14, 29, 127, 128] (by decide +kernel) (by decide +kernel)
set_option maxRecDepth 20000 in
theorem gX0_takeOut_X4_becomeNumber : GoodIn wsX0_takeOut (wsV RX0 136 RX4 yX4_becomeNumber wsX4_becomeNumber) := goodIn_app (goodIn_of _ (by decide +kernel)) ggX0_takeOut_X4_becomeNumber
set_option maxRecDepth 20000 in
theorem ggX0_takeOut_X4_becomeProduct : GoodIn wsX0_takeOut wsX4_becomeProduct := goodIn_r _ [33, 16, 21, 26, 27, 28, 14, 29, 34, 35, 36, 37, 127, 128] (by decide +kernel) (by decide +kernel)
set_option maxRecDepth 20000 in
theorem gX0_takeOut_X4_becomeProduct : GoodIn wsX0_takeOut (wsV RX0 160 RX4 yX4_becomeProduct wsX4_becomeProduct) := goodIn_app (goodIn_of _ (by decide +kernel)) ggX0_takeOut_X4_becomeProduct
set_option maxRecDepth 20000 in
theorem ggX0_takeOut_X3_reduce : GoodIn wsX0_takeOut wsX3_reduce := goodIn_r _ [42, 43, 44, 45, 46, 47, 48, 49, 35, 36, 14, 37, 16, 21, 127, 128, 129, 130, 131, 132] (by decide +kernel) (by decide +kernel)
set_option maxRecDepth 20000 in
theorem gX0_takeOut_X3_reduce : GoodIn wsX0_takeOut (wsV RX0 120 RX3 yX3_reduce wsX3_reduce) := goodIn_app (goodIn_of _ (by decide +kernel)) ggX0_takeOut_X3_reduce
set_option maxRecDepth 20000 in
theorem ggX0_takeOut_X3_lift : GoodIn wsX0_takeOut wsX3_lift := goodIn_r _ [53, 54, 43, 44, 55, 56, 39, 40, 41, 42, 45, 46, 47, 48, 49, 35, 36, 14, 37, 16, 21, 127, 128, 129, 130, 131, 132] (by decide +kernel) (by decide +kernel)
set_option maxRecDepth 20000 in
theorem gX0_takeOut_X3_lift : GoodIn wsX0_takeOut (wsV RX0 129 RX3 yX3_lift wsX3_lift) := goodIn_app (goodIn_of _ (by decide +kernel)) ggX0_takeOut_X3_lift
set_option maxRecDepth 20000 in
theorem ggX0_takeOut_X4_makePrimitive : GoodIn wsX0_takeOut wsX4_makePrimitive := goodIn_r _ [60, 16, 21, 61, 62, 63, 14, 64, 65, 66, 67, 68, 69, 70, 71, 72, 12, 13, 15, 17, 18, 19, 20, 127, 128] (by decide +kernel) (by decide +kernel)
set_option maxRecDepth 20000 in
theorem gX0_takeOut_X4_makePrimitive : GoodIn wsX0_takeOut (wsV RX0 71 RX4 yX4_makePrimitive wsX4_makePrimitive) := goodIn_app (goodIn_of _ (by decide +kernel)) ggX0_takeOut_X4_makePrimitive
set_option maxRecDepth 20000 in
theorem ggX0_takeOut_X0_divides : GoodIn wsX0_takeOut wsX0_divides := goodIn_r _ [77, 78, 10, 5, 79, 80, 81, 14, 82, 16, 21, 83, 84, 85, 86, 87, 69, 70, 71, 88, 26, 27, 28, 29, 89, 90, 91, 92, 93, 94, 95, 96, 72, 12, 13, 15, 17, 18, 19, 20, 34, 35, 36, 37, 107, 108, 109, 110, 111, 112, 113, 114, 115, 116, 127, 128] (by decide +kernel) (by decide +kernel)
set_option maxRecDepth 20000 in
theorem gX0_takeOut_X0_divides : GoodIn wsX0_takeOut (wsV RX0 132 RX0 yX0_divides wsX0_divides) := goodIn_app (goodIn_of _ (by decide +kernel)) ggX0_takeOut_X0_divides
set_option maxRecDepth 20000 in
theorem ggX0_takeOut_X2_append : GoodIn wsX0_takeOut wsX2_append := goodIn_r _ [101, 102, 103, 104, 105, 90, 91, 14, 92, 21, 93, 94, 95, 96, 16, 133, 134, 135, 136, 127, 128] (by decide +kernel) (by decide +kernel)
set_option maxRecDepth 20000 in
theorem gX0_takeOut_X2_append : GoodIn wsX0_takeOut (wsV RX0 163 RX2 yX2_append wsX2_append) := goodIn_app (goodIn_of _ (by decide +kernel)) ggX0_takeOut_X2_append
set_option maxRecDepth 20000 in
theorem ggX0_takeOut_X4_become : GoodIn wsX0_takeOut wsX4_become := goodIn_r _ [92, 21, 93, 94, 95, 96, 16, 127, 128] (by decide +kernel) (by decide +kernel)
set_option maxRecDepth 20000 in
theorem gX0_takeOut_X4_become : GoodIn wsX0_takeOut (wsV RX0 67 RX4 yX4_become wsX4_become) := goodIn_app (goodIn_of _ (by decide +kernel)) ggX0_takeOut_X4_become
theorem dX0_takeOut_0 : decode cX0_takeOut 0 = .ok (.aload_n 0, 1) := by decide +kernel
theorem dX0_takeOut_1 : decode cX0_takeOut 1 = .ok (.getfield 39, 3) := by decide +kernel
theorem dX0_takeOut_4 : decode cX0_takeOut 4 = .ok (.aload_n 0, 1) := by decide +kernel
theorem dX0_takeOut_5 : decode cX0_takeOut 5 = .ok (.getfield 30, 3) := by decide +kernel
theorem dX0_takeOut_8 : decode cX0_takeOut 8 = .ok (.invokevirtual 103, 3) := by decide +kernel
theorem dX0_takeOut_11 : decode cX0_takeOut 11 = .ok (.invokevirtual 136, 3) := by decide +kernel
theorem dX0_takeOut_14 : decode cX0_takeOut 14 = .ok (.iconst 0, 1) := by decide +kernel
theorem dX0_takeOut_15 : decode cX0_takeOut 15 = .ok (.istore_n 2, 1) := by decide +kernel
