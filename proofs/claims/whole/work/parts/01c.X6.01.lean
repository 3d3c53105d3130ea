theorem dX6_times_8 : decode cX6_times 8 = .ok (.ifCond .eq 15, 3) := by decide +kernel
theorem dX6_times_11 : decode cX6_times 11 = .ok (.aload_n 0, 1) := by decide +kernel
theorem dX6_times_12 : decode cX6_times 12 = .ok (.getfield 33, 3) := by decide +kernel
theorem dX6_times_15 : decode cX6_times 15 = .ok (.getfield 135, 3) := by decide +kernel
theorem dX6_times_18 : decode cX6_times 18 = .ok (.iload_n 1, 1) := by decide +kernel
theorem dX6_times_19 : decode cX6_times 19 = .ok (.iaload, 1) := by decide +kernel
theorem dX6_times_20 : decode cX6_times 20 = .ok (.goto 4, 3) := by decide +kernel
theorem dX6_times_23 : decode cX6_times 23 = .ok (.iconst 0, 1) := by decide +kernel
theorem dX6_times_24 : decode cX6_times 24 = .ok (.ireturn, 1) := by decide +kernel
theorem dX6_content_0 : decode cX6_content 0 = .ok (.aload_n 0, 1) := by decide +kernel
theorem dX6_content_1 : decode cX6_content 1 = .ok (.getfield 33, 3) := by decide +kernel
theorem dX6_content_4 : decode cX6_content 4 = .ok (.getfield 138, 3) := by decide +kernel
theorem dX6_content_7 : decode cX6_content 7 = .ok (.ireturn, 1) := by decide +kernel
set_option maxRecDepth 20000 in
theorem ggX6_pattern_X6_checkSlot : GoodIn wsX6_pattern wsX6_checkSlot := goodIn_ca (goodIn_r _ [8, 9, 10] (by decide +kernel) (by decide +kernel)) (goodIn_sub (fun _ h => List.mem_cons_of_mem _ (List.mem_append_right _ h)) (by decide +kernel))
set_option maxRecDepth 20000 in
theorem gX6_pattern_X6_checkSlot : GoodIn wsX6_pattern (va_wsS RX6 57 yX6_checkSlot wsX6_checkSlot) := goodIn_app (goodIn_of _ (by decide +kernel)) ggX6_pattern_X6_checkSlot
set_option maxRecDepth 20000 in
theorem ggX6_pattern_X6_checkPrime : GoodIn wsX6_pattern wsX6_checkPrime := goodIn_ca (goodIn_r _ [13, 9, 10] (by decide +kernel) (by decide +kernel)) (goodIn_sub (fun _ h => List.mem_cons_of_mem _ (List.mem_append_right _ h)) (by decide +kernel))
set_option maxRecDepth 20000 in
theorem gX6_pattern_X6_checkPrime : GoodIn wsX6_pattern (va_wsS RX6 141 yX6_checkPrime wsX6_checkPrime) := goodIn_app (goodIn_of _ (by decide +kernel)) ggX6_pattern_X6_checkPrime
set_option maxRecDepth 20000 in
theorem ggX6_pattern_X5_load : GoodIn wsX6_pattern wsX5_load := goodIn_r _ [18, 19, 20, 21, 22, 23, 24, 25, 26, 27, 28, 29, 30, 31, 32, 33, 34, 35, 36, 37, 38, 39, 40, 41, 42, 43, 44, 45, 46, 47, 48, 49, 50, 51, 52, 53, 54, 55, 56, 57, 58, 59, 60, 61, 62, 63, 64, 65, 66, 67, 68, 69, 70, 71, 72, 73, 74, 75, 76, 77, 78, 79, 80, 81, 82, 83, 84, 85, 86, 87, 88, 89, 90, 91, 92, 93, 94, 95, 96, 169, 170, 171, 172, 173, 174, 175, 176, 177, 178, 167, 168, 179, 180, 181, 182] (by decide +kernel) (by decide +kernel)
set_option maxRecDepth 20000 in
theorem gX6_pattern_X5_load : GoodIn wsX6_pattern (wsV RX6 144 RX5 yX5_load wsX5_load) := goodIn_app (goodIn_of _ (by decide +kernel)) ggX6_pattern_X5_load
set_option maxRecDepth 20000 in
theorem ggX6_pattern_X5_groupByDegrees : GoodIn wsX6_pattern wsX5_groupByDegrees := goodIn_k _ [[100, 0, 0], [23], [20, 0, 0, 80], [19, 84], [24, 80], [70, 0], [44, 27], [47], [46, 59], [81, 0, 0, 0, 0, 0, 0, 19, 0, 0], [17, 92, 0, 0, 0, 0, 0], [28, 87], [52], [36, 80, 0, 0, 0, 0, 0, 0, 0, 0, 0], [31, 95, 0, 0, 0], [37, 0, 0, 0, 0, 0, 0, 1, 85, 0, 0, 0, 0, 0, 0, 0], [69, 69, 0, 0, 0, 0, 0, 0, 0, 0], [74, 0, 0, 0, 0, 0, 0, 7], [49, 0, 0, 1, 0, 0, 0, 0, 0, 0, 0, 0, 0, 0, 0, 24, 0, 0, 0, 0, 0, 0, 0, 51, 0, 0, 0, 17, 0, 0, 0, 0, 0, 0, 0, 0, 0], [167, 0, 10, 0, 0, 0]] rfl (by decide +kernel)
set_option maxRecDepth 20000 in
theorem gX6_pattern_X5_groupByDegrees : GoodIn wsX6_pattern (wsV RX6 150 RX5 yX5_groupByDegrees wsX5_groupByDegrees) := goodIn_app (goodIn_of _ (by decide +kernel)) ggX6_pattern_X5_groupByDegrees
set_option maxRecDepth 20000 in
theorem ggX6_pattern_X6_tellPattern : GoodIn wsX6_pattern wsX6_tellPattern := goodIn_r _ [155, 4, 156, 3, 1, 157, 158, 159, 160, 161, 162, 163, 164, 165, 166, 169, 170, 171, 172, 173, 174, 175, 176, 177, 178, 167, 168] (by decide +kernel) (by decide +kernel)
set_option maxRecDepth 20000 in
theorem gX6_pattern_X6_tellPattern : GoodIn wsX6_pattern (wsV RX6 153 RX6 yX6_tellPattern wsX6_tellPattern) := goodIn_app (goodIn_of _ (by decide +kernel)) ggX6_pattern_X6_tellPattern
theorem dX6_pattern_0 : decode cX6_pattern 0 = .ok (.iload_n 1, 1) := by decide +kernel
theorem dX6_pattern_1 : decode cX6_pattern 1 = .ok (.invokestatic 57, 3) := by decide +kernel
theorem dX6_pattern_4 : decode cX6_pattern 4 = .ok (.iload_n 2, 1) := by decide +kernel
theorem dX6_pattern_5 : decode cX6_pattern 5 = .ok (.invokestatic 141, 3) := by decide +kernel
theorem dX6_pattern_8 : decode cX6_pattern 8 = .ok (.aload_n 0, 1) := by decide +kernel
theorem dX6_pattern_9 : decode cX6_pattern 9 = .ok (.iconst 0, 1) := by decide +kernel
theorem dX6_pattern_10 : decode cX6_pattern 10 = .ok (.putfield 41, 3) := by decide +kernel
theorem dX6_pattern_13 : decode cX6_pattern 13 = .ok (.aload_n 0, 1) := by decide +kernel
theorem dX6_pattern_14 : decode cX6_pattern 14 = .ok (.getfield 13, 3) := by decide +kernel
theorem dX6_pattern_17 : decode cX6_pattern 17 = .ok (.iload_n 1, 1) := by decide +kernel
theorem dX6_pattern_18 : decode cX6_pattern 18 = .ok (.aaload, 1) := by decide +kernel
theorem dX6_pattern_19 : decode cX6_pattern 19 = .ok (.getfield 75, 3) := by decide +kernel
theorem dX6_pattern_22 : decode cX6_pattern 22 = .ok (.iconst 1, 1) := by decide +kernel
theorem dX6_pattern_23 : decode cX6_pattern 23 = .ok (.if_icmp .ge 6, 3) := by decide +kernel
theorem dX6_pattern_26 : decode cX6_pattern 26 = .ok (.bipush (-3), 2) := by decide +kernel
theorem dX6_pattern_28 : decode cX6_pattern 28 = .ok (.ireturn, 1) := by decide +kernel
theorem dX6_pattern_29 : decode cX6_pattern 29 = .ok (.aload_n 0, 1) := by decide +kernel
theorem dX6_pattern_30 : decode cX6_pattern 30 = .ok (.getfield 56, 3) := by decide +kernel
theorem dX6_pattern_33 : decode cX6_pattern 33 = .ok (.aload_n 0, 1) := by decide +kernel
theorem dX6_pattern_34 : decode cX6_pattern 34 = .ok (.getfield 13, 3) := by decide +kernel
theorem dX6_pattern_37 : decode cX6_pattern 37 = .ok (.iload_n 1, 1) := by decide +kernel
theorem dX6_pattern_38 : decode cX6_pattern 38 = .ok (.aaload, 1) := by decide +kernel
theorem dX6_pattern_39 : decode cX6_pattern 39 = .ok (.iload_n 2, 1) := by decide +kernel
theorem dX6_pattern_40 : decode cX6_pattern 40 = .ok (.i2l, 1) := by decide +kernel
theorem dX6_pattern_41 : decode cX6_pattern 41 = .ok (.invokevirtual 144, 3) := by decide +kernel
theorem dX6_pattern_44 : decode cX6_pattern 44 = .ok (.ifCond .ne 5, 3) := by decide +kernel
theorem dX6_pattern_47 : decode cX6_pattern 47 = .ok (.iconst (-1), 1) := by decide +kernel
theorem dX6_pattern_48 : decode cX6_pattern 48 = .ok (.ireturn, 1) := by decide +kernel
theorem dX6_pattern_49 : decode cX6_pattern 49 = .ok (.aload_n 0, 1) := by decide +kernel
theorem dX6_pattern_50 : decode cX6_pattern 50 = .ok (.getfield 56, 3) := by decide +kernel
theorem dX6_pattern_53 : decode cX6_pattern 53 = .ok (.invokevirtual 150, 3) := by decide +kernel
theorem dX6_pattern_56 : decode cX6_pattern 56 = .ok (.aload_n 0, 1) := by decide +kernel
theorem dX6_pattern_57 : decode cX6_pattern 57 = .ok (.invokevirtual 153, 3) := by decide +kernel
theorem dX6_pattern_60 : decode cX6_pattern 60 = .ok (.aload_n 0, 1) := by decide +kernel
theorem dX6_pattern_61 : decode cX6_pattern 61 = .ok (.getfield 41, 3) := by decide +kernel
theorem dX6_pattern_64 : decode cX6_pattern 64 = .ok (.ireturn, 1) := by decide +kernel
theorem dX6_degree_0 : decode cX6_degree 0 = .ok (.iload_n 1, 1) := by decide +kernel
theorem dX6_degree_1 : decode cX6_degree 1 = .ok (.ifCond .lt 11, 3) := by decide +kernel
theorem dX6_degree_4 : decode cX6_degree 4 = .ok (.iload_n 1, 1) := by decide +kernel
theorem dX6_degree_5 : decode cX6_degree 5 = .ok (.aload_n 0, 1) := by decide +kernel
theorem dX6_degree_6 : decode cX6_degree 6 = .ok (.getfield 41, 3) := by decide +kernel
theorem dX6_degree_9 : decode cX6_degree 9 = .ok (.if_icmp .lt 7, 3) := by decide +kernel
theorem dX6_degree_12 : decode cX6_degree 12 = .ok (.iconst 0, 1) := by decide +kernel
theorem dX6_degree_13 : decode cX6_degree 13 = .ok (.goto 9, 3) := by decide +kernel
theorem dX6_degree_16 : decode cX6_degree 16 = .ok (.aload_n 0, 1) := by decide +kernel
theorem dX6_degree_17 : decode cX6_degree 17 = .ok (.getfield 37, 3) := by decide +kernel
theorem dX6_degree_20 : decode cX6_degree 20 = .ok (.iload_n 1, 1) := by decide +kernel
theorem dX6_degree_21 : decode cX6_degree 21 = .ok (.iaload, 1) := by decide +kernel
theorem dX6_degree_22 : decode cX6_degree 22 = .ok (.ireturn, 1) := by decide +kernel
set_option maxRecDepth 20000 in
theorem ggX6_galois_X6_checkSlot : GoodIn wsX6_galois wsX6_checkSlot := goodIn_ca (goodIn_r _ [9, 10, 11] (by decide +kernel) (by decide +kernel)) (goodIn_sub (fun _ h => List.mem_cons_of_mem _ (List.mem_append_right _ h)) (by decide +kernel))
set_option maxRecDepth 20000 in
theorem gX6_galois_X6_checkSlot : GoodIn wsX6_galois (va_wsS RX6 57 yX6_checkSlot wsX6_checkSlot) := goodIn_app (goodIn_of _ (by decide +kernel)) ggX6_galois_X6_checkSlot
set_option maxRecDepth 20000 in
theorem ggX6_galois_X0_takeApart : GoodIn wsX6_galois wsX0_takeApart := goodIn_k _ [[16, 0, 0, 0, 0, 0, 0, 0, 0, 0, 0, 0, 0, 0, 0, 0, 0], [8, 24, 0, 0, 0, 0, 0, 0, 0, 0, 0, 0, 0, 0, 0, 0, 0, 0, 0, 0, 0, 0, 0, 0, 0, 0, 0, 0, 0, 0, 0, 0, 0, 0, 0, 0, 0, 0, 0, 0, 0, 0, 0, 0, 0, 0, 0, 0, 0], [15, 65, 0, 0, 0, 0, 0, 0, 0, 0, 0, 0, 0, 0, 0, 0, 0, 0, 0, 0, 0, 0, 0, 0, 0, 0, 0, 0, 0, 0, 0, 0, 0, 0, 0, 0, 0, 0, 0, 0, 0, 0, 0, 0, 0, 0, 0, 0, 0, 0, 0, 0, 0, 0, 0, 0, 0, 0, 0, 0, 0, 0, 0, 0, 0, 0, 0, 0, 0, 0, 0, 0, 0, 0, 0, 0, 0, 0, 0, 0, 0, 0, 0, 0, 0, 0, 0, 0, 0, 0, 0, 0, 0, 0, 0, 0, 0, 0, 0, 0, 0, 0, 0, 0, 0, 0, 0, 0, 0, 0, 0, 0, 0, 0, 0, 0, 0, 0, 0, 0, 0, 0, 0, 0, 0, 0, 0, 0, 0, 0, 0, 0, 0, 0, 0, 0, 0, 0, 0, 0, 0, 0, 0, 0, 0, 0, 0, 0, 0, 0, 0, 0, 0, 0, 0, 0, 0, 0, 0, 0, 0, 0, 0, 0, 0, 0, 0, 0, 0, 0, 0, 0, 0, 0, 0, 0, 0, 0, 0, 0, 0, 0, 0, 0, 0, 0, 0, 0, 0, 0, 0, 0, 0, 0, 0, 0, 0, 0, 0, 0, 0, 0, 0, 0, 0, 0, 0, 0, 0, 0, 0, 0, 45, 0, 0, 0, 0, 0, 0, 0, 0, 0], [335, 0, 10, 0, 0, 0, 0, 0, 0, 0, 0, 0, 0, 0, 0, 0, 0, 0, 0, 0]] rfl (by decide +kernel)
set_option maxRecDepth 20000 in
theorem gX6_galois_X0_takeApart : GoodIn wsX6_galois (wsV RX6 112 RX0 yX0_takeApart wsX0_takeApart) := goodIn_app (goodIn_of _ (by decide +kernel)) ggX6_galois_X0_takeApart
set_option maxRecDepth 20000 in
theorem ggX6_galois_X2_isSingle : GoodIn wsX6_galois wsX2_isSingle := goodIn_r _ [295, 51, 263, 347, 348, 349, 350] (by decide +kernel) (by decide +kernel)
set_option maxRecDepth 20000 in
theorem gX6_galois_X2_isSingle : GoodIn wsX6_galois (wsV RX6 156 RX2 yX2_isSingle wsX2_isSingle) := goodIn_app (goodIn_of _ (by decide +kernel)) ggX6_galois_X2_isSingle
set_option maxRecDepth 20000 in
theorem ggX6_galois_X1_of : GoodIn wsX6_galois wsX1_of := goodIn_r _ [299, 300, 301, 302, 298, 303, 304, 305, 306, 307, 43, 44, 28, 45, 31, 308, 309, 310, 311, 312, 313, 314, 315, 316, 317, 318, 319, 320, 321, 322, 35, 36, 37, 32, 8, 33, 34, 323, 324, 325, 335, 336] (by decide +kernel) (by decide +kernel)
set_option maxRecDepth 20000 in
theorem gX6_galois_X1_of : GoodIn wsX6_galois (va_wsS RX6 160 yX1_of wsX1_of) := goodIn_app (goodIn_of _ (by decide +kernel)) ggX6_galois_X1_of
theorem dX6_galois_0 : decode cX6_galois 0 = .ok (.iload_n 1, 1) := by decide +kernel
theorem dX6_galois_1 : decode cX6_galois 1 = .ok (.invokestatic 57, 3) := by decide +kernel
theorem dX6_galois_4 : decode cX6_galois 4 = .ok (.aload_n 0, 1) := by decide +kernel
theorem dX6_galois_5 : decode cX6_galois 5 = .ok (.getfield 13, 3) := by decide +kernel
theorem dX6_galois_8 : decode cX6_galois 8 = .ok (.iload_n 1, 1) := by decide +kernel
theorem dX6_galois_9 : decode cX6_galois 9 = .ok (.aaload, 1) := by decide +kernel
theorem dX6_galois_10 : decode cX6_galois 10 = .ok (.getfield 75, 3) := by decide +kernel
theorem dX6_galois_13 : decode cX6_galois 13 = .ok (.istore_n 2, 1) := by decide +kernel
theorem dX6_galois_14 : decode cX6_galois 14 = .ok (.iload_n 2, 1) := by decide +kernel
theorem dX6_galois_15 : decode cX6_galois 15 = .ok (.iconst 1, 1) := by decide +kernel
theorem dX6_galois_16 : decode cX6_galois 16 = .ok (.if_icmp .lt 8, 3) := by decide +kernel
theorem dX6_galois_19 : decode cX6_galois 19 = .ok (.iload_n 2, 1) := by decide +kernel
theorem dX6_galois_20 : decode cX6_galois 20 = .ok (.iconst 4, 1) := by decide +kernel
theorem dX6_galois_21 : decode cX6_galois 21 = .ok (.if_icmp .le 5, 3) := by decide +kernel
theorem dX6_galois_24 : decode cX6_galois 24 = .ok (.iconst 0, 1) := by decide +kernel
theorem dX6_galois_25 : decode cX6_galois 25 = .ok (.ireturn, 1) := by decide +kernel
theorem dX6_galois_26 : decode cX6_galois 26 = .ok (.aload_n 0, 1) := by decide +kernel
theorem dX6_galois_27 : decode cX6_galois 27 = .ok (.getfield 48, 3) := by decide +kernel
theorem dX6_galois_30 : decode cX6_galois 30 = .ok (.aload_n 0, 1) := by decide +kernel
theorem dX6_galois_31 : decode cX6_galois 31 = .ok (.getfield 13, 3) := by decide +kernel
theorem dX6_galois_34 : decode cX6_galois 34 = .ok (.iload_n 1, 1) := by decide +kernel
theorem dX6_galois_35 : decode cX6_galois 35 = .ok (.aaload, 1) := by decide +kernel
theorem dX6_galois_36 : decode cX6_galois 36 = .ok (.invokevirtual 112, 3) := by decide +kernel
theorem dX6_galois_39 : decode cX6_galois 39 = .ok (.aload_n 0, 1) := by decide +kernel
theorem dX6_galois_40 : decode cX6_galois 40 = .ok (.getfield 48, 3) := by decide +kernel
theorem dX6_galois_43 : decode cX6_galois 43 = .ok (.getfield 115, 3) := by decide +kernel
theorem dX6_galois_46 : decode cX6_galois 46 = .ok (.invokevirtual 156, 3) := by decide +kernel
theorem dX6_galois_49 : decode cX6_galois 49 = .ok (.ifCond .ne 5, 3) := by decide +kernel
theorem dX6_galois_52 : decode cX6_galois 52 = .ok (.iconst 0, 1) := by decide +kernel
theorem dX6_galois_53 : decode cX6_galois 53 = .ok (.ireturn, 1) := by decide +kernel
theorem dX6_galois_54 : decode cX6_galois 54 = .ok (.aload_n 0, 1) := by decide +kernel
theorem dX6_galois_55 : decode cX6_galois 55 = .ok (.getfield 48, 3) := by decide +kernel
theorem dX6_galois_58 : decode cX6_galois 58 = .ok (.getfield 115, 3) := by decide +kernel
theorem dX6_galois_61 : decode cX6_galois 61 = .ok (.getfield 128, 3) := by decide +kernel
theorem dX6_galois_64 : decode cX6_galois 64 = .ok (.iconst 0, 1) := by decide +kernel
theorem dX6_galois_65 : decode cX6_galois 65 = .ok (.aaload, 1) := by decide +kernel
theorem dX6_galois_66 : decode cX6_galois 66 = .ok (.invokestatic 160, 3) := by decide +kernel
theorem dX6_galois_69 : decode cX6_galois 69 = .ok (.ireturn, 1) := by decide +kernel
theorem dX6_tellPattern_0 : decode cX6_tellPattern 0 = .ok (.iconst 1, 1) := by decide +kernel
theorem dX6_tellPattern_1 : decode cX6_tellPattern 1 = .ok (.istore_n 1, 1) := by decide +kernel
theorem dX6_tellPattern_2 : decode cX6_tellPattern 2 = .ok (.iload_n 1, 1) := by decide +kernel
theorem dX6_tellPattern_3 : decode cX6_tellPattern 3 = .ok (.bipush 6, 2) := by decide +kernel
theorem dX6_tellPattern_5 : decode cX6_tellPattern 5 = .ok (.if_icmp .gt 63, 3) := by decide +kernel
theorem dX6_tellPattern_8 : decode cX6_tellPattern 8 = .ok (.iload_n 1, 1) := by decide +kernel
theorem dX6_tellPattern_9 : decode cX6_tellPattern 9 = .ok (.istore_n 2, 1) := by decide +kernel
theorem dX6_tellPattern_10 : decode cX6_tellPattern 10 = .ok (.iload_n 2, 1) := by decide +kernel
theorem dX6_tellPattern_11 : decode cX6_tellPattern 11 = .ok (.aload_n 0, 1) := by decide +kernel
theorem dX6_tellPattern_12 : decode cX6_tellPattern 12 = .ok (.getfield 56, 3) := by decide +kernel
theorem dX6_tellPattern_15 : decode cX6_tellPattern 15 = .ok (.getfield 166, 3) := by decide +kernel
theorem dX6_tellPattern_18 : decode cX6_tellPattern 18 = .ok (.iload_n 1, 1) := by decide +kernel
theorem dX6_tellPattern_19 : decode cX6_tellPattern 19 = .ok (.aaload, 1) := by decide +kernel
theorem dX6_tellPattern_20 : decode cX6_tellPattern 20 = .ok (.getfield 75, 3) := by decide +kernel
theorem dX6_tellPattern_23 : decode cX6_tellPattern 23 = .ok (.if_icmp .gt 39, 3) := by decide +kernel
theorem dX6_tellPattern_26 : decode cX6_tellPattern 26 = .ok (.aload_n 0, 1) := by decide +kernel
theorem dX6_tellPattern_27 : decode cX6_tellPattern 27 = .ok (.getfield 41, 3) := by decide +kernel
theorem dX6_tellPattern_30 : decode cX6_tellPattern 30 = .ok (.bipush 6, 2) := by decide +kernel
theorem dX6_tellPattern_32 : decode cX6_tellPattern 32 = .ok (.if_icmp .ge 30, 3) := by decide +kernel
theorem dX6_tellPattern_35 : decode cX6_tellPattern 35 = .ok (.aload_n 0, 1) := by decide +kernel
theorem dX6_tellPattern_36 : decode cX6_tellPattern 36 = .ok (.getfield 37, 3) := by decide +kernel
theorem dX6_tellPattern_39 : decode cX6_tellPattern 39 = .ok (.aload_n 0, 1) := by decide +kernel
theorem dX6_tellPattern_40 : decode cX6_tellPattern 40 = .ok (.getfield 41, 3) := by decide +kernel
theorem dX6_tellPattern_43 : decode cX6_tellPattern 43 = .ok (.iload_n 1, 1) := by decide +kernel
theorem dX6_tellPattern_44 : decode cX6_tellPattern 44 = .ok (.iastore, 1) := by decide +kernel
theorem dX6_tellPattern_45 : decode cX6_tellPattern 45 = .ok (.aload_n 0, 1) := by decide +kernel
theorem dX6_tellPattern_46 : decode cX6_tellPattern 46 = .ok (.dup, 1) := by decide +kernel
theorem dX6_tellPattern_47 : decode cX6_tellPattern 47 = .ok (.getfield 41, 3) := by decide +kernel
theorem dX6_tellPattern_50 : decode cX6_tellPattern 50 = .ok (.iconst 1, 1) := by decide +kernel
theorem dX6_tellPattern_51 : decode cX6_tellPattern 51 = .ok (.iadd, 1) := by decide +kernel
theorem dX6_tellPattern_52 : decode cX6_tellPattern 52 = .ok (.putfield 41, 3) := by decide +kernel
theorem dX6_tellPattern_55 : decode cX6_tellPattern 55 = .ok (.iload_n 2, 1) := by decide +kernel
theorem dX6_tellPattern_56 : decode cX6_tellPattern 56 = .ok (.iload_n 1, 1) := by decide +kernel
theorem dX6_tellPattern_57 : decode cX6_tellPattern 57 = .ok (.iadd, 1) := by decide +kernel
theorem dX6_tellPattern_58 : decode cX6_tellPattern 58 = .ok (.istore_n 2, 1) := by decide +kernel
theorem dX6_tellPattern_59 : decode cX6_tellPattern 59 = .ok (.goto (-49), 3) := by decide +kernel
theorem dX6_tellPattern_62 : decode cX6_tellPattern 62 = .ok (.iinc 1 1, 3) := by decide +kernel
theorem dX6_tellPattern_65 : decode cX6_tellPattern 65 = .ok (.goto (-63), 3) := by decide +kernel
theorem dX6_tellPattern_68 : decode cX6_tellPattern 68 = .ok (.return_, 1) := by decide +kernel
set_option maxRecDepth 20000 in
theorem ggX6_keepResult_X4_isWithin : GoodIn wsX6_keepResult wsX4_isWithin := goodIn_r _ [9, 10, 11, 29, 30] (by decide +kernel) (by decide +kernel)
set_option maxRecDepth 20000 in
theorem gX6_keepResult_X4_isWithin : GoodIn wsX6_keepResult (wsV RX6 171 RX4 yX4_isWithin wsX4_isWithin) := goodIn_app (goodIn_of _ (by decide +kernel)) ggX6_keepResult_X4_isWithin
set_option maxRecDepth 20000 in
theorem ggX6_keepResult_X4_become : GoodIn wsX6_keepResult wsX4_become := goodIn_r _ [15, 11, 16, 17, 18, 19, 10, 29, 30] (by decide +kernel) (by decide +kernel)
set_option maxRecDepth 20000 in
theorem gX6_keepResult_X4_become : GoodIn wsX6_keepResult (wsV RX6 102 RX4 yX4_become wsX4_become) := goodIn_app (goodIn_of _ (by decide +kernel)) ggX6_keepResult_X4_become
theorem dX6_keepResult_0 : decode cX6_keepResult 0 = .ok (.aload_n 0, 1) := by decide +kernel
theorem dX6_keepResult_1 : decode cX6_keepResult 1 = .ok (.getfield 20, 3) := by decide +kernel
theorem dX6_keepResult_4 : decode cX6_keepResult 4 = .ok (.getfield 75, 3) := by decide +kernel
theorem dX6_keepResult_7 : decode cX6_keepResult 7 = .ok (.bipush 6, 2) := by decide +kernel
theorem dX6_keepResult_9 : decode cX6_keepResult 9 = .ok (.if_icmp .gt 16, 3) := by decide +kernel
theorem dX6_keepResult_12 : decode cX6_keepResult 12 = .ok (.aload_n 0, 1) := by decide +kernel
theorem dX6_keepResult_13 : decode cX6_keepResult 13 = .ok (.getfield 20, 3) := by decide +kernel
theorem dX6_keepResult_16 : decode cX6_keepResult 16 = .ok (.ldc2_w 169, 3) := by decide +kernel
theorem dX6_keepResult_19 : decode cX6_keepResult 19 = .ok (.invokevirtual 171, 3) := by decide +kernel
theorem dX6_keepResult_22 : decode cX6_keepResult 22 = .ok (.ifCond .ne 6, 3) := by decide +kernel
theorem dX6_keepResult_25 : decode cX6_keepResult 25 = .ok (.bipush (-2), 2) := by decide +kernel
theorem dX6_keepResult_27 : decode cX6_keepResult 27 = .ok (.ireturn, 1) := by decide +kernel
theorem dX6_keepResult_28 : decode cX6_keepResult 28 = .ok (.aload_n 0, 1) := by decide +kernel
theorem dX6_keepResult_29 : decode cX6_keepResult 29 = .ok (.getfield 13, 3) := by decide +kernel
theorem dX6_keepResult_32 : decode cX6_keepResult 32 = .ok (.iload_n 1, 1) := by decide +kernel
theorem dX6_keepResult_33 : decode cX6_keepResult 33 = .ok (.aaload, 1) := by decide +kernel
theorem dX6_keepResult_34 : decode cX6_keepResult 34 = .ok (.aload_n 0, 1) := by decide +kernel
theorem dX6_keepResult_35 : decode cX6_keepResult 35 = .ok (.getfield 20, 3) := by decide +kernel
theorem dX6_keepResult_38 : decode cX6_keepResult 38 = .ok (.invokevirtual 102, 3) := by decide +kernel
theorem dX6_keepResult_41 : decode cX6_keepResult 41 = .ok (.aload_n 0, 1) := by decide +kernel
theorem dX6_keepResult_42 : decode cX6_keepResult 42 = .ok (.getfield 20, 3) := by decide +kernel
theorem dX6_keepResult_45 : decode cX6_keepResult 45 = .ok (.getfield 75, 3) := by decide +kernel
theorem dX6_keepResult_48 : decode cX6_keepResult 48 = .ok (.ireturn, 1) := by decide +kernel
set_option maxRecDepth 20000 in
theorem ggX6_checkThreeSlots_X6_checkSlot : GoodIn wsX6_checkThreeSlots wsX6_checkSlot := goodIn_ca (goodIn_r _ [4, 5, 6] (by decide +kernel) (by decide +kernel)) (goodIn_sub (fun _ h => List.mem_cons_of_mem _ (List.mem_append_right _ h)) (by decide +kernel))
set_option maxRecDepth 20000 in
theorem gX6_checkThreeSlots_X6_checkSlot : GoodIn wsX6_checkThreeSlots (va_wsS RX6 57 yX6_checkSlot wsX6_checkSlot) := goodIn_app (goodIn_of _ (by decide +kernel)) ggX6_checkThreeSlots_X6_checkSlot
theorem dX6_checkThreeSlots_0 : decode cX6_checkThreeSlots 0 = .ok (.iload_n 0, 1) := by decide +kernel
theorem dX6_checkThreeSlots_1 : decode cX6_checkThreeSlots 1 = .ok (.invokestatic 57, 3) := by decide +kernel
theorem dX6_checkThreeSlots_4 : decode cX6_checkThreeSlots 4 = .ok (.iload_n 1, 1) := by decide +kernel
theorem dX6_checkThreeSlots_5 : decode cX6_checkThreeSlots 5 = .ok (.invokestatic 57, 3) := by decide +kernel
theorem dX6_checkThreeSlots_8 : decode cX6_checkThreeSlots 8 = .ok (.iload_n 2, 1) := by decide +kernel
theorem dX6_checkThreeSlots_9 : decode cX6_checkThreeSlots 9 = .ok (.invokestatic 57, 3) := by decide +kernel
theorem dX6_checkThreeSlots_12 : decode cX6_checkThreeSlots 12 = .ok (.return_, 1) := by decide +kernel
theorem dX6_checkSlot_0 : decode cX6_checkSlot 0 = .ok (.iload_n 0, 1) := by decide +kernel
theorem dX6_checkSlot_1 : decode cX6_checkSlot 1 = .ok (.ifCond .lt 9, 3) := by decide +kernel
theorem dX6_checkSlot_4 : decode cX6_checkSlot 4 = .ok (.iload_n 0, 1) := by decide +kernel
theorem dX6_checkSlot_5 : decode cX6_checkSlot 5 = .ok (.bipush 8, 2) := by decide +kernel
theorem dX6_checkSlot_7 : decode cX6_checkSlot 7 = .ok (.if_icmp .lt 13, 3) := by decide +kernel
theorem dX6_checkSlot_10 : decode cX6_checkSlot 10 = .ok (.new 175, 3) := by decide +kernel
theorem dX6_checkSlot_13 : decode cX6_checkSlot 13 = .ok (.dup, 1) := by decide +kernel
theorem dX6_checkSlot_14 : decode cX6_checkSlot 14 = .ok (.ldc 177, 2) := by decide +kernel
theorem dX6_checkSlot_16 : decode cX6_checkSlot 16 = .ok (.invokespecial 179, 3) := by decide +kernel
theorem dX6_checkSlot_19 : decode cX6_checkSlot 19 = .ok (.athrow, 1) := by decide +kernel
theorem dX6_checkSlot_20 : decode cX6_checkSlot 20 = .ok (.return_, 1) := by decide +kernel
theorem dX6_checkPlace_0 : decode cX6_checkPlace 0 = .ok (.iload_n 0, 1) := by decide +kernel
theorem dX6_checkPlace_1 : decode cX6_checkPlace 1 = .ok (.ifCond .lt 9, 3) := by decide +kernel
theorem dX6_checkPlace_4 : decode cX6_checkPlace 4 = .ok (.iload_n 0, 1) := by decide +kernel
theorem dX6_checkPlace_5 : decode cX6_checkPlace 5 = .ok (.bipush 6, 2) := by decide +kernel
theorem dX6_checkPlace_7 : decode cX6_checkPlace 7 = .ok (.if_icmp .le 13, 3) := by decide +kernel
theorem dX6_checkPlace_10 : decode cX6_checkPlace 10 = .ok (.new 175, 3) := by decide +kernel
theorem dX6_checkPlace_13 : decode cX6_checkPlace 13 = .ok (.dup, 1) := by decide +kernel
theorem dX6_checkPlace_14 : decode cX6_checkPlace 14 = .ok (.ldc 182, 2) := by decide +kernel
theorem dX6_checkPlace_16 : decode cX6_checkPlace 16 = .ok (.invokespecial 179, 3) := by decide +kernel
theorem dX6_checkPlace_19 : decode cX6_checkPlace 19 = .ok (.athrow, 1) := by decide +kernel
theorem dX6_checkPlace_20 : decode cX6_checkPlace 20 = .ok (.return_, 1) := by decide +kernel
theorem dX6_checkWithin_0 : decode cX6_checkWithin 0 = .ok (.iload_n 0, 1) := by decide +kernel
theorem dX6_checkWithin_1 : decode cX6_checkWithin 1 = .ok (.iload_n 1, 1) := by decide +kernel
theorem dX6_checkWithin_2 : decode cX6_checkWithin 2 = .ok (.ineg, 1) := by decide +kernel
theorem dX6_checkWithin_3 : decode cX6_checkWithin 3 = .ok (.if_icmp .lt 8, 3) := by decide +kernel
theorem dX6_checkWithin_6 : decode cX6_checkWithin 6 = .ok (.iload_n 0, 1) := by decide +kernel
theorem dX6_checkWithin_7 : decode cX6_checkWithin 7 = .ok (.iload_n 1, 1) := by decide +kernel
theorem dX6_checkWithin_8 : decode cX6_checkWithin 8 = .ok (.if_icmp .le 13, 3) := by decide +kernel
theorem dX6_checkWithin_11 : decode cX6_checkWithin 11 = .ok (.new 175, 3) := by decide +kernel
theorem dX6_checkWithin_14 : decode cX6_checkWithin 14 = .ok (.dup, 1) := by decide +kernel
theorem dX6_checkWithin_15 : decode cX6_checkWithin 15 = .ok (.ldc 184, 2) := by decide +kernel
theorem dX6_checkWithin_17 : decode cX6_checkWithin 17 = .ok (.invokespecial 179, 3) := by decide +kernel
theorem dX6_checkWithin_20 : decode cX6_checkWithin 20 = .ok (.athrow, 1) := by decide +kernel
theorem dX6_checkWithin_21 : decode cX6_checkWithin 21 = .ok (.return_, 1) := by decide +kernel
theorem dX6_checkPrime_0 : decode cX6_checkPrime 0 = .ok (.iload_n 0, 1) := by decide +kernel
theorem dX6_checkPrime_1 : decode cX6_checkPrime 1 = .ok (.iconst 2, 1) := by decide +kernel
theorem dX6_checkPrime_2 : decode cX6_checkPrime 2 = .ok (.if_icmp .lt 10, 3) := by decide +kernel
theorem dX6_checkPrime_5 : decode cX6_checkPrime 5 = .ok (.iload_n 0, 1) := by decide +kernel
theorem dX6_checkPrime_6 : decode cX6_checkPrime 6 = .ok (.sipush 997, 3) := by decide +kernel
theorem dX6_checkPrime_9 : decode cX6_checkPrime 9 = .ok (.if_icmp .le 13, 3) := by decide +kernel
theorem dX6_checkPrime_12 : decode cX6_checkPrime 12 = .ok (.new 175, 3) := by decide +kernel
theorem dX6_checkPrime_15 : decode cX6_checkPrime 15 = .ok (.dup, 1) := by decide +kernel
theorem dX6_checkPrime_16 : decode cX6_checkPrime 16 = .ok (.ldc 186, 2) := by decide +kernel
theorem dX6_checkPrime_18 : decode cX6_checkPrime 18 = .ok (.invokespecial 179, 3) := by decide +kernel
theorem dX6_checkPrime_21 : decode cX6_checkPrime 21 = .ok (.athrow, 1) := by decide +kernel
theorem dX6_checkPrime_22 : decode cX6_checkPrime 22 = .ok (.iconst 2, 1) := by decide +kernel
theorem dX6_checkPrime_23 : decode cX6_checkPrime 23 = .ok (.istore_n 1, 1) := by decide +kernel
theorem dX6_checkPrime_24 : decode cX6_checkPrime 24 = .ok (.iload_n 1, 1) := by decide +kernel
theorem dX6_checkPrime_25 : decode cX6_checkPrime 25 = .ok (.iload_n 1, 1) := by decide +kernel
theorem dX6_checkPrime_26 : decode cX6_checkPrime 26 = .ok (.imul, 1) := by decide +kernel
theorem dX6_checkPrime_27 : decode cX6_checkPrime 27 = .ok (.iload_n 0, 1) := by decide +kernel
theorem dX6_checkPrime_28 : decode cX6_checkPrime 28 = .ok (.if_icmp .gt 25, 3) := by decide +kernel
theorem dX6_checkPrime_31 : decode cX6_checkPrime 31 = .ok (.iload_n 0, 1) := by decide +kernel
theorem dX6_checkPrime_32 : decode cX6_checkPrime 32 = .ok (.iload_n 1, 1) := by decide +kernel
theorem dX6_checkPrime_33 : decode cX6_checkPrime 33 = .ok (.irem, 1) := by decide +kernel
theorem dX6_checkPrime_34 : decode cX6_checkPrime 34 = .ok (.ifCond .ne 13, 3) := by decide +kernel
theorem dX6_checkPrime_37 : decode cX6_checkPrime 37 = .ok (.new 175, 3) := by decide +kernel
theorem dX6_checkPrime_40 : decode cX6_checkPrime 40 = .ok (.dup, 1) := by decide +kernel
theorem dX6_checkPrime_41 : decode cX6_checkPrime 41 = .ok (.ldc 188, 2) := by decide +kernel
theorem dX6_checkPrime_43 : decode cX6_checkPrime 43 = .ok (.invokespecial 179, 3) := by decide +kernel
theorem dX6_checkPrime_46 : decode cX6_checkPrime 46 = .ok (.athrow, 1) := by decide +kernel
theorem dX6_checkPrime_47 : decode cX6_checkPrime 47 = .ok (.iinc 1 1, 3) := by decide +kernel
theorem dX6_checkPrime_50 : decode cX6_checkPrime 50 = .ok (.goto (-26), 3) := by decide +kernel
theorem dX6_checkPrime_53 : decode cX6_checkPrime 53 = .ok (.return_, 1) := by decide +kernel
set_option maxRecDepth 20000 in
theorem ggX6_freshRows_X4_init : GoodIn wsX6_freshRows wsX4_init := goodIn_r _ [5, 6, 7, 8, 9, 10, 11, 12, 13] (by decide +kernel) (by decide +kernel)
set_option maxRecDepth 20000 in
theorem gX6_freshRows_X4_init_n19 : GoodIn wsX6_freshRows (wsX4_init) := ggX6_freshRows_X4_init
theorem dX6_freshRows_0 : decode cX6_freshRows 0 = .ok (.iload_n 0, 1) := by decide +kernel
theorem dX6_freshRows_1 : decode cX6_freshRows 1 = .ok (.anewarray 17, 3) := by decide +kernel
theorem dX6_freshRows_4 : decode cX6_freshRows 4 = .ok (.astore_n 1, 1) := by decide +kernel
theorem dX6_freshRows_5 : decode cX6_freshRows 5 = .ok (.iconst 0, 1) := by decide +kernel
theorem dX6_freshRows_6 : decode cX6_freshRows 6 = .ok (.istore_n 2, 1) := by decide +kernel
theorem dX6_freshRows_7 : decode cX6_freshRows 7 = .ok (.iload_n 2, 1) := by decide +kernel
theorem dX6_freshRows_8 : decode cX6_freshRows 8 = .ok (.iload_n 0, 1) := by decide +kernel
theorem dX6_freshRows_9 : decode cX6_freshRows 9 = .ok (.if_icmp .ge 19, 3) := by decide +kernel
theorem dX6_freshRows_12 : decode cX6_freshRows 12 = .ok (.aload_n 1, 1) := by decide +kernel
theorem dX6_freshRows_13 : decode cX6_freshRows 13 = .ok (.iload_n 2, 1) := by decide +kernel
theorem dX6_freshRows_14 : decode cX6_freshRows 14 = .ok (.new 17, 3) := by decide +kernel
theorem dX6_freshRows_17 : decode cX6_freshRows 17 = .ok (.dup, 1) := by decide +kernel
theorem dX6_freshRows_18 : decode cX6_freshRows 18 = .ok (.invokespecial 19, 3) := by decide +kernel
theorem dX6_freshRows_21 : decode cX6_freshRows 21 = .ok (.aastore, 1) := by decide +kernel
theorem dX6_freshRows_22 : decode cX6_freshRows 22 = .ok (.iinc 2 1, 3) := by decide +kernel
theorem dX6_freshRows_25 : decode cX6_freshRows 25 = .ok (.goto (-18), 3) := by decide +kernel
theorem dX6_freshRows_28 : decode cX6_freshRows 28 = .ok (.aload_n 1, 1) := by decide +kernel
theorem dX6_freshRows_29 : decode cX6_freshRows 29 = .ok (.areturn, 1) := by decide +kernel
theorem dX6_greatestDivisor_0 : decode cX6_greatestDivisor 0 = .ok (.lload_n 0, 1) := by decide +kernel
theorem dX6_greatestDivisor_1 : decode cX6_greatestDivisor 1 = .ok (.invokestatic 190, 3) := by decide +kernel
theorem dX6_greatestDivisor_4 : decode cX6_greatestDivisor 4 = .ok (.lstore 4, 2) := by decide +kernel
theorem dX6_greatestDivisor_6 : decode cX6_greatestDivisor 6 = .ok (.lload_n 2, 1) := by decide +kernel
theorem dX6_greatestDivisor_7 : decode cX6_greatestDivisor 7 = .ok (.invokestatic 190, 3) := by decide +kernel
theorem dX6_greatestDivisor_10 : decode cX6_greatestDivisor 10 = .ok (.lstore 6, 2) := by decide +kernel
theorem dX6_greatestDivisor_12 : decode cX6_greatestDivisor 12 = .ok (.iconst 0, 1) := by decide +kernel
theorem dX6_greatestDivisor_13 : decode cX6_greatestDivisor 13 = .ok (.istore 8, 2) := by decide +kernel
theorem dX6_greatestDivisor_15 : decode cX6_greatestDivisor 15 = .ok (.iload 8, 2) := by decide +kernel
theorem dX6_greatestDivisor_17 : decode cX6_greatestDivisor 17 = .ok (.bipush 100, 2) := by decide +kernel
theorem dX6_greatestDivisor_19 : decode cX6_greatestDivisor 19 = .ok (.if_icmp .ge 31, 3) := by decide +kernel
theorem dX6_greatestDivisor_22 : decode cX6_greatestDivisor 22 = .ok (.lload 6, 2) := by decide +kernel
theorem dX6_greatestDivisor_24 : decode cX6_greatestDivisor 24 = .ok (.lconst 0, 1) := by decide +kernel
theorem dX6_greatestDivisor_25 : decode cX6_greatestDivisor 25 = .ok (.lcmp, 1) := by decide +kernel
theorem dX6_greatestDivisor_26 : decode cX6_greatestDivisor 26 = .ok (.ifCond .eq 24, 3) := by decide +kernel
theorem dX6_greatestDivisor_29 : decode cX6_greatestDivisor 29 = .ok (.lload 4, 2) := by decide +kernel
theorem dX6_greatestDivisor_31 : decode cX6_greatestDivisor 31 = .ok (.lload 6, 2) := by decide +kernel
theorem dX6_greatestDivisor_33 : decode cX6_greatestDivisor 33 = .ok (.lrem, 1) := by decide +kernel
theorem dX6_greatestDivisor_34 : decode cX6_greatestDivisor 34 = .ok (.lstore 9, 2) := by decide +kernel
theorem dX6_greatestDivisor_36 : decode cX6_greatestDivisor 36 = .ok (.lload 6, 2) := by decide +kernel
theorem dX6_greatestDivisor_38 : decode cX6_greatestDivisor 38 = .ok (.lstore 4, 2) := by decide +kernel
theorem dX6_greatestDivisor_40 : decode cX6_greatestDivisor 40 = .ok (.lload 9, 2) := by decide +kernel
theorem dX6_greatestDivisor_42 : decode cX6_greatestDivisor 42 = .ok (.lstore 6, 2) := by decide +kernel
theorem dX6_greatestDivisor_44 : decode cX6_greatestDivisor 44 = .ok (.iinc 8 1, 3) := by decide +kernel
theorem dX6_greatestDivisor_47 : decode cX6_greatestDivisor 47 = .ok (.goto (-32), 3) := by decide +kernel
theorem dX6_greatestDivisor_50 : decode cX6_greatestDivisor 50 = .ok (.lload 4, 2) := by decide +kernel
theorem dX6_greatestDivisor_52 : decode cX6_greatestDivisor 52 = .ok (.lreturn, 1) := by decide +kernel
