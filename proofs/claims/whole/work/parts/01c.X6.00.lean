set_option maxRecDepth 20000 in
theorem ggX6_init_X6_freshRows : GoodIn wsX6_init wsX6_freshRows := goodIn_r _ [27, 5, 6, 7, 28, 29, 30, 2, 3, 31, 32, 33, 95, 96] (by decide +kernel) (by decide +kernel)
set_option maxRecDepth 20000 in
theorem gX6_init_X6_freshRows : GoodIn wsX6_init (va_wsS RX6 9 yX6_freshRows wsX6_freshRows) := goodIn_app (goodIn_of _ (by decide +kernel)) ggX6_init_X6_freshRows
set_option maxRecDepth 20000 in
theorem ggX6_init_X4_init : GoodIn wsX6_init wsX4_init := goodIn_r _ [29, 30, 2, 3, 31, 32, 33, 95, 96] (by decide +kernel) (by decide +kernel)
set_option maxRecDepth 20000 in
theorem gX6_init_X4_init_n19 : GoodIn wsX6_init (wsX4_init) := ggX6_init_X4_init
set_option maxRecDepth 20000 in
theorem ggX6_init_X2_init : GoodIn wsX6_init wsX2_init := goodIn_r _ [35, 36, 2, 3, 37, 15, 38, 39, 40, 25, 26, 27, 5, 6, 7, 28, 29, 30, 31, 32, 33, 97, 98, 99, 100, 95, 96] (by decide +kernel) (by decide +kernel)
set_option maxRecDepth 20000 in
theorem gX6_init_X2_init_n32 : GoodIn wsX6_init (wsX2_init) := ggX6_init_X2_init
set_option maxRecDepth 20000 in
theorem ggX6_init_X0_init : GoodIn wsX6_init wsX0_init := goodIn_r _ [42, 43, 2, 3, 44, 45, 46, 47, 48, 49, 50, 6, 7, 51, 52, 53, 54, 55, 56, 57, 58, 12, 13, 59, 60, 61, 62, 63, 64, 65, 66, 67, 68, 69, 70, 71, 72, 73, 74, 75, 76, 77, 78, 79, 80, 81, 31, 82, 83, 84, 85, 28, 29, 30, 32, 33, 25, 26, 27, 5, 34, 35, 36, 37, 15, 38, 39, 40, 111, 112, 113, 114, 115, 116, 117, 118, 119, 120, 101, 102, 103, 104, 105, 106, 107, 108, 109, 110, 95, 96, 97, 98, 99, 100, 121, 122, 123, 124] (by decide +kernel) (by decide +kernel)
set_option maxRecDepth 20000 in
theorem gX6_init_X0_init_n47 : GoodIn wsX6_init (wsX0_init) := ggX6_init_X0_init
theorem dX6_init_0 : decode cX6_init 0 = .ok (.aload_n 0, 1) := by decide +kernel
theorem dX6_init_1 : decode cX6_init 1 = .ok (.invokespecial 3, 3) := by decide +kernel
theorem dX6_init_4 : decode cX6_init 4 = .ok (.aload_n 0, 1) := by decide +kernel
theorem dX6_init_5 : decode cX6_init 5 = .ok (.bipush 8, 2) := by decide +kernel
theorem dX6_init_7 : decode cX6_init 7 = .ok (.invokestatic 9, 3) := by decide +kernel
theorem dX6_init_10 : decode cX6_init 10 = .ok (.putfield 13, 3) := by decide +kernel
theorem dX6_init_13 : decode cX6_init 13 = .ok (.aload_n 0, 1) := by decide +kernel
theorem dX6_init_14 : decode cX6_init 14 = .ok (.new 17, 3) := by decide +kernel
theorem dX6_init_17 : decode cX6_init 17 = .ok (.dup, 1) := by decide +kernel
theorem dX6_init_18 : decode cX6_init 18 = .ok (.invokespecial 19, 3) := by decide +kernel
theorem dX6_init_21 : decode cX6_init 21 = .ok (.putfield 20, 3) := by decide +kernel
theorem dX6_init_24 : decode cX6_init 24 = .ok (.aload_n 0, 1) := by decide +kernel
theorem dX6_init_25 : decode cX6_init 25 = .ok (.new 17, 3) := by decide +kernel
theorem dX6_init_28 : decode cX6_init 28 = .ok (.dup, 1) := by decide +kernel
theorem dX6_init_29 : decode cX6_init 29 = .ok (.invokespecial 19, 3) := by decide +kernel
theorem dX6_init_32 : decode cX6_init 32 = .ok (.putfield 24, 3) := by decide +kernel
theorem dX6_init_35 : decode cX6_init 35 = .ok (.aload_n 0, 1) := by decide +kernel
theorem dX6_init_36 : decode cX6_init 36 = .ok (.new 17, 3) := by decide +kernel
theorem dX6_init_39 : decode cX6_init 39 = .ok (.dup, 1) := by decide +kernel
theorem dX6_init_40 : decode cX6_init 40 = .ok (.invokespecial 19, 3) := by decide +kernel
theorem dX6_init_43 : decode cX6_init 43 = .ok (.putfield 27, 3) := by decide +kernel
theorem dX6_init_46 : decode cX6_init 46 = .ok (.aload_n 0, 1) := by decide +kernel
theorem dX6_init_47 : decode cX6_init 47 = .ok (.new 30, 3) := by decide +kernel
theorem dX6_init_50 : decode cX6_init 50 = .ok (.dup, 1) := by decide +kernel
theorem dX6_init_51 : decode cX6_init 51 = .ok (.invokespecial 32, 3) := by decide +kernel
theorem dX6_init_54 : decode cX6_init 54 = .ok (.putfield 33, 3) := by decide +kernel
theorem dX6_init_57 : decode cX6_init 57 = .ok (.aload_n 0, 1) := by decide +kernel
theorem dX6_init_58 : decode cX6_init 58 = .ok (.bipush 6, 2) := by decide +kernel
theorem dX6_init_60 : decode cX6_init 60 = .ok (.newarray .int, 2) := by decide +kernel
theorem dX6_init_62 : decode cX6_init 62 = .ok (.putfield 37, 3) := by decide +kernel
theorem dX6_init_65 : decode cX6_init 65 = .ok (.aload_n 0, 1) := by decide +kernel
theorem dX6_init_66 : decode cX6_init 66 = .ok (.iconst 0, 1) := by decide +kernel
theorem dX6_init_67 : decode cX6_init 67 = .ok (.putfield 41, 3) := by decide +kernel
theorem dX6_init_70 : decode cX6_init 70 = .ok (.aload_n 0, 1) := by decide +kernel
theorem dX6_init_71 : decode cX6_init 71 = .ok (.new 45, 3) := by decide +kernel
theorem dX6_init_74 : decode cX6_init 74 = .ok (.dup, 1) := by decide +kernel
theorem dX6_init_75 : decode cX6_init 75 = .ok (.invokespecial 47, 3) := by decide +kernel
theorem dX6_init_78 : decode cX6_init 78 = .ok (.putfield 48, 3) := by decide +kernel
theorem dX6_init_81 : decode cX6_init 81 = .ok (.aload_n 0, 1) := by decide +kernel
theorem dX6_init_82 : decode cX6_init 82 = .ok (.aload_n 0, 1) := by decide +kernel
theorem dX6_init_83 : decode cX6_init 83 = .ok (.getfield 48, 3) := by decide +kernel
theorem dX6_init_86 : decode cX6_init 86 = .ok (.getfield 52, 3) := by decide +kernel
theorem dX6_init_89 : decode cX6_init 89 = .ok (.putfield 56, 3) := by decide +kernel
theorem dX6_init_92 : decode cX6_init 92 = .ok (.return_, 1) := by decide +kernel
set_option maxRecDepth 20000 in
theorem ggX6_set_X6_checkSlot : GoodIn wsX6_set wsX6_checkSlot := goodIn_ca (goodIn_r _ [7, 8, 9] (by decide +kernel) (by decide +kernel)) (goodIn_sub (fun _ h => List.mem_cons_of_mem _ (List.mem_append_right _ h)) (by decide +kernel))
set_option maxRecDepth 20000 in
theorem gX6_set_X6_checkSlot : GoodIn wsX6_set (va_wsS RX6 57 yX6_checkSlot wsX6_checkSlot) := goodIn_app (goodIn_of _ (by decide +kernel)) ggX6_set_X6_checkSlot
set_option maxRecDepth 20000 in
theorem ggX6_set_X6_checkPlace : GoodIn wsX6_set wsX6_checkPlace := goodIn_ca (goodIn_r _ [12, 8, 9] (by decide +kernel) (by decide +kernel)) (goodIn_sub (fun _ h => List.mem_cons_of_mem _ (List.mem_append_right _ h)) (by decide +kernel))
set_option maxRecDepth 20000 in
theorem gX6_set_X6_checkPlace : GoodIn wsX6_set (va_wsS RX6 61 yX6_checkPlace wsX6_checkPlace) := goodIn_app (goodIn_of _ (by decide +kernel)) ggX6_set_X6_checkPlace
set_option maxRecDepth 20000 in
theorem ggX6_set_X6_checkWithin : GoodIn wsX6_set wsX6_checkWithin := goodIn_ca (goodIn_r _ [15, 8, 9] (by decide +kernel) (by decide +kernel)) (goodIn_sub (fun _ h => List.mem_cons_of_mem _ (List.mem_append_right _ h)) (by decide +kernel))
set_option maxRecDepth 20000 in
theorem gX6_set_X6_checkWithin : GoodIn wsX6_set (va_wsS RX6 64 yX6_checkWithin wsX6_checkWithin) := goodIn_app (goodIn_of _ (by decide +kernel)) ggX6_set_X6_checkWithin
set_option maxRecDepth 20000 in
theorem ggX6_set_X4_settle : GoodIn wsX6_set wsX4_settle := goodIn_r _ [20, 21, 22, 32, 33] (by decide +kernel) (by decide +kernel)
set_option maxRecDepth 20000 in
theorem gX6_set_X4_settle : GoodIn wsX6_set (wsV RX6 72 RX4 yX4_settle wsX4_settle) := goodIn_app (goodIn_of _ (by decide +kernel)) ggX6_set_X4_settle
theorem dX6_set_0 : decode cX6_set 0 = .ok (.iload_n 1, 1) := by decide +kernel
theorem dX6_set_1 : decode cX6_set 1 = .ok (.invokestatic 57, 3) := by decide +kernel
theorem dX6_set_4 : decode cX6_set 4 = .ok (.iload_n 2, 1) := by decide +kernel
theorem dX6_set_5 : decode cX6_set 5 = .ok (.invokestatic 61, 3) := by decide +kernel
theorem dX6_set_8 : decode cX6_set 8 = .ok (.iload_n 3, 1) := by decide +kernel
theorem dX6_set_9 : decode cX6_set 9 = .ok (.sipush 300, 3) := by decide +kernel
theorem dX6_set_12 : decode cX6_set 12 = .ok (.invokestatic 64, 3) := by decide +kernel
theorem dX6_set_15 : decode cX6_set 15 = .ok (.aload_n 0, 1) := by decide +kernel
theorem dX6_set_16 : decode cX6_set 16 = .ok (.getfield 13, 3) := by decide +kernel
theorem dX6_set_19 : decode cX6_set 19 = .ok (.iload_n 1, 1) := by decide +kernel
theorem dX6_set_20 : decode cX6_set 20 = .ok (.aaload, 1) := by decide +kernel
theorem dX6_set_21 : decode cX6_set 21 = .ok (.getfield 68, 3) := by decide +kernel
theorem dX6_set_24 : decode cX6_set 24 = .ok (.iload_n 2, 1) := by decide +kernel
theorem dX6_set_25 : decode cX6_set 25 = .ok (.iload_n 3, 1) := by decide +kernel
theorem dX6_set_26 : decode cX6_set 26 = .ok (.i2l, 1) := by decide +kernel
theorem dX6_set_27 : decode cX6_set 27 = .ok (.lastore, 1) := by decide +kernel
theorem dX6_set_28 : decode cX6_set 28 = .ok (.aload_n 0, 1) := by decide +kernel
theorem dX6_set_29 : decode cX6_set 29 = .ok (.getfield 13, 3) := by decide +kernel
theorem dX6_set_32 : decode cX6_set 32 = .ok (.iload_n 1, 1) := by decide +kernel
theorem dX6_set_33 : decode cX6_set 33 = .ok (.aaload, 1) := by decide +kernel
theorem dX6_set_34 : decode cX6_set 34 = .ok (.invokevirtual 72, 3) := by decide +kernel
theorem dX6_set_37 : decode cX6_set 37 = .ok (.aload_n 0, 1) := by decide +kernel
theorem dX6_set_38 : decode cX6_set 38 = .ok (.getfield 13, 3) := by decide +kernel
theorem dX6_set_41 : decode cX6_set 41 = .ok (.iload_n 1, 1) := by decide +kernel
theorem dX6_set_42 : decode cX6_set 42 = .ok (.aaload, 1) := by decide +kernel
theorem dX6_set_43 : decode cX6_set 43 = .ok (.getfield 75, 3) := by decide +kernel
theorem dX6_set_46 : decode cX6_set 46 = .ok (.ireturn, 1) := by decide +kernel
set_option maxRecDepth 20000 in
theorem ggX6_get_X6_checkSlot : GoodIn wsX6_get wsX6_checkSlot := goodIn_ca (goodIn_r _ [6, 7, 8] (by decide +kernel) (by decide +kernel)) (goodIn_sub (fun _ h => List.mem_cons_of_mem _ (List.mem_append_right _ h)) (by decide +kernel))
set_option maxRecDepth 20000 in
theorem gX6_get_X6_checkSlot : GoodIn wsX6_get (va_wsS RX6 57 yX6_checkSlot wsX6_checkSlot) := goodIn_app (goodIn_of _ (by decide +kernel)) ggX6_get_X6_checkSlot
set_option maxRecDepth 20000 in
theorem ggX6_get_X6_checkPlace : GoodIn wsX6_get wsX6_checkPlace := goodIn_ca (goodIn_r _ [11, 7, 8] (by decide +kernel) (by decide +kernel)) (goodIn_sub (fun _ h => List.mem_cons_of_mem _ (List.mem_append_right _ h)) (by decide +kernel))
set_option maxRecDepth 20000 in
theorem gX6_get_X6_checkPlace : GoodIn wsX6_get (va_wsS RX6 61 yX6_checkPlace wsX6_checkPlace) := goodIn_app (goodIn_of _ (by decide +kernel)) ggX6_get_X6_checkPlace
theorem dX6_get_0 : decode cX6_get 0 = .ok (.iload_n 1, 1) := by decide +kernel
theorem dX6_get_1 : decode cX6_get 1 = .ok (.invokestatic 57, 3) := by decide +kernel
theorem dX6_get_4 : decode cX6_get 4 = .ok (.iload_n 2, 1) := by decide +kernel
theorem dX6_get_5 : decode cX6_get 5 = .ok (.invokestatic 61, 3) := by decide +kernel
theorem dX6_get_8 : decode cX6_get 8 = .ok (.aload_n 0, 1) := by decide +kernel
theorem dX6_get_9 : decode cX6_get 9 = .ok (.getfield 13, 3) := by decide +kernel
theorem dX6_get_12 : decode cX6_get 12 = .ok (.iload_n 1, 1) := by decide +kernel
theorem dX6_get_13 : decode cX6_get 13 = .ok (.aaload, 1) := by decide +kernel
theorem dX6_get_14 : decode cX6_get 14 = .ok (.getfield 68, 3) := by decide +kernel
theorem dX6_get_17 : decode cX6_get 17 = .ok (.iload_n 2, 1) := by decide +kernel
theorem dX6_get_18 : decode cX6_get 18 = .ok (.laload, 1) := by decide +kernel
theorem dX6_get_19 : decode cX6_get 19 = .ok (.l2i, 1) := by decide +kernel
theorem dX6_get_20 : decode cX6_get 20 = .ok (.ireturn, 1) := by decide +kernel
set_option maxRecDepth 20000 in
theorem ggX6_add_X6_checkThreeSlots : GoodIn wsX6_add wsX6_checkThreeSlots := goodIn_ca (goodIn_r _ [6, 7, 8, 5, 9, 10, 11] (by decide +kernel) (by decide +kernel)) (goodIn_sub (fun _ h => List.mem_cons_of_mem _ (List.mem_append_right _ h)) (by decide +kernel))
set_option maxRecDepth 20000 in
theorem gX6_add_X6_checkThreeSlots : GoodIn wsX6_add (va_wsS RX6 78 yX6_checkThreeSlots wsX6_checkThreeSlots) := goodIn_app (goodIn_of _ (by decide +kernel)) ggX6_add_X6_checkThreeSlots
set_option maxRecDepth 20000 in
theorem ggX6_add_X6_checkWithin : GoodIn wsX6_add wsX6_checkWithin := goodIn_ca (goodIn_r _ [14, 10, 11] (by decide +kernel) (by decide +kernel)) (goodIn_sub (fun _ h => List.mem_cons_of_mem _ (List.mem_append_right _ h)) (by decide +kernel))
set_option maxRecDepth 20000 in
theorem gX6_add_X6_checkWithin : GoodIn wsX6_add (va_wsS RX6 64 yX6_checkWithin wsX6_checkWithin) := goodIn_app (goodIn_of _ (by decide +kernel)) ggX6_add_X6_checkWithin
set_option maxRecDepth 20000 in
theorem ggX6_add_X4_becomeSum : GoodIn wsX6_add wsX4_becomeSum := goodIn_r _ [19, 20, 21, 22, 23, 18, 24, 25, 53, 54] (by decide +kernel) (by decide +kernel)
set_option maxRecDepth 20000 in
theorem gX6_add_X4_becomeSum : GoodIn wsX6_add (wsV RX6 82 RX4 yX4_becomeSum wsX4_becomeSum) := goodIn_app (goodIn_of _ (by decide +kernel)) ggX6_add_X4_becomeSum
set_option maxRecDepth 20000 in
theorem ggX6_add_X6_keepResult : GoodIn wsX6_add wsX6_keepResult := goodIn_r _ [29, 1, 30, 31, 2, 32, 33, 34, 18, 35, 25, 20, 36, 37, 38, 39, 40, 41, 42, 43, 44, 45, 46, 47, 48, 49, 50, 51, 52, 53, 54] (by decide +kernel) (by decide +kernel)
set_option maxRecDepth 20000 in
theorem gX6_add_X6_keepResult : GoodIn wsX6_add (wsV RX6 86 RX6 yX6_keepResult wsX6_keepResult) := goodIn_app (goodIn_of _ (by decide +kernel)) ggX6_add_X6_keepResult
theorem dX6_add_0 : decode cX6_add 0 = .ok (.iload_n 1, 1) := by decide +kernel
theorem dX6_add_1 : decode cX6_add 1 = .ok (.iload_n 2, 1) := by decide +kernel
theorem dX6_add_2 : decode cX6_add 2 = .ok (.iload_n 3, 1) := by decide +kernel
theorem dX6_add_3 : decode cX6_add 3 = .ok (.invokestatic 78, 3) := by decide +kernel
theorem dX6_add_6 : decode cX6_add 6 = .ok (.iload 4, 2) := by decide +kernel
theorem dX6_add_8 : decode cX6_add 8 = .ok (.bipush 10, 2) := by decide +kernel
theorem dX6_add_10 : decode cX6_add 10 = .ok (.invokestatic 64, 3) := by decide +kernel
theorem dX6_add_13 : decode cX6_add 13 = .ok (.iload 5, 2) := by decide +kernel
theorem dX6_add_15 : decode cX6_add 15 = .ok (.bipush 10, 2) := by decide +kernel
theorem dX6_add_17 : decode cX6_add 17 = .ok (.invokestatic 64, 3) := by decide +kernel
theorem dX6_add_20 : decode cX6_add 20 = .ok (.aload_n 0, 1) := by decide +kernel
theorem dX6_add_21 : decode cX6_add 21 = .ok (.getfield 20, 3) := by decide +kernel
theorem dX6_add_24 : decode cX6_add 24 = .ok (.aload_n 0, 1) := by decide +kernel
theorem dX6_add_25 : decode cX6_add 25 = .ok (.getfield 13, 3) := by decide +kernel
theorem dX6_add_28 : decode cX6_add 28 = .ok (.iload_n 2, 1) := by decide +kernel
theorem dX6_add_29 : decode cX6_add 29 = .ok (.aaload, 1) := by decide +kernel
theorem dX6_add_30 : decode cX6_add 30 = .ok (.iload 4, 2) := by decide +kernel
theorem dX6_add_32 : decode cX6_add 32 = .ok (.i2l, 1) := by decide +kernel
theorem dX6_add_33 : decode cX6_add 33 = .ok (.aload_n 0, 1) := by decide +kernel
theorem dX6_add_34 : decode cX6_add 34 = .ok (.getfield 13, 3) := by decide +kernel
theorem dX6_add_37 : decode cX6_add 37 = .ok (.iload_n 3, 1) := by decide +kernel
theorem dX6_add_38 : decode cX6_add 38 = .ok (.aaload, 1) := by decide +kernel
theorem dX6_add_39 : decode cX6_add 39 = .ok (.iload 5, 2) := by decide +kernel
theorem dX6_add_41 : decode cX6_add 41 = .ok (.i2l, 1) := by decide +kernel
theorem dX6_add_42 : decode cX6_add 42 = .ok (.invokevirtual 82, 3) := by decide +kernel
theorem dX6_add_45 : decode cX6_add 45 = .ok (.aload_n 0, 1) := by decide +kernel
theorem dX6_add_46 : decode cX6_add 46 = .ok (.iload_n 1, 1) := by decide +kernel
theorem dX6_add_47 : decode cX6_add 47 = .ok (.invokevirtual 86, 3) := by decide +kernel
theorem dX6_add_50 : decode cX6_add 50 = .ok (.ireturn, 1) := by decide +kernel
set_option maxRecDepth 20000 in
theorem ggX6_multiply_X6_checkThreeSlots : GoodIn wsX6_multiply wsX6_checkThreeSlots := goodIn_ca (goodIn_r _ [6, 7, 8, 5, 9, 10, 11] (by decide +kernel) (by decide +kernel)) (goodIn_sub (fun _ h => List.mem_cons_of_mem _ (List.mem_append_right _ h)) (by decide +kernel))
set_option maxRecDepth 20000 in
theorem gX6_multiply_X6_checkThreeSlots : GoodIn wsX6_multiply (va_wsS RX6 78 yX6_checkThreeSlots wsX6_checkThreeSlots) := goodIn_app (goodIn_of _ (by decide +kernel)) ggX6_multiply_X6_checkThreeSlots
set_option maxRecDepth 20000 in
theorem ggX6_multiply_X4_becomeProduct : GoodIn wsX6_multiply wsX4_becomeProduct := goodIn_r _ [16, 17, 18, 19, 20, 21, 15, 22, 23, 24, 25, 26, 54, 55] (by decide +kernel) (by decide +kernel)
set_option maxRecDepth 20000 in
theorem gX6_multiply_X4_becomeProduct : GoodIn wsX6_multiply (wsV RX6 90 RX4 yX4_becomeProduct wsX4_becomeProduct) := goodIn_app (goodIn_of _ (by decide +kernel)) ggX6_multiply_X4_becomeProduct
set_option maxRecDepth 20000 in
theorem ggX6_multiply_X6_keepResult : GoodIn wsX6_multiply wsX6_keepResult := goodIn_r _ [30, 1, 31, 32, 2, 33, 34, 35, 15, 36, 17, 18, 37, 38, 39, 40, 41, 42, 43, 44, 45, 46, 47, 48, 49, 50, 51, 52, 53, 54, 55] (by decide +kernel) (by decide +kernel)
set_option maxRecDepth 20000 in
theorem gX6_multiply_X6_keepResult : GoodIn wsX6_multiply (wsV RX6 86 RX6 yX6_keepResult wsX6_keepResult) := goodIn_app (goodIn_of _ (by decide +kernel)) ggX6_multiply_X6_keepResult
theorem dX6_multiply_0 : decode cX6_multiply 0 = .ok (.iload_n 1, 1) := by decide +kernel
theorem dX6_multiply_1 : decode cX6_multiply 1 = .ok (.iload_n 2, 1) := by decide +kernel
theorem dX6_multiply_2 : decode cX6_multiply 2 = .ok (.iload_n 3, 1) := by decide +kernel
theorem dX6_multiply_3 : decode cX6_multiply 3 = .ok (.invokestatic 78, 3) := by decide +kernel
theorem dX6_multiply_6 : decode cX6_multiply 6 = .ok (.aload_n 0, 1) := by decide +kernel
theorem dX6_multiply_7 : decode cX6_multiply 7 = .ok (.getfield 20, 3) := by decide +kernel
theorem dX6_multiply_10 : decode cX6_multiply 10 = .ok (.aload_n 0, 1) := by decide +kernel
theorem dX6_multiply_11 : decode cX6_multiply 11 = .ok (.getfield 13, 3) := by decide +kernel
theorem dX6_multiply_14 : decode cX6_multiply 14 = .ok (.iload_n 2, 1) := by decide +kernel
theorem dX6_multiply_15 : decode cX6_multiply 15 = .ok (.aaload, 1) := by decide +kernel
theorem dX6_multiply_16 : decode cX6_multiply 16 = .ok (.aload_n 0, 1) := by decide +kernel
theorem dX6_multiply_17 : decode cX6_multiply 17 = .ok (.getfield 13, 3) := by decide +kernel
theorem dX6_multiply_20 : decode cX6_multiply 20 = .ok (.iload_n 3, 1) := by decide +kernel
theorem dX6_multiply_21 : decode cX6_multiply 21 = .ok (.aaload, 1) := by decide +kernel
theorem dX6_multiply_22 : decode cX6_multiply 22 = .ok (.invokevirtual 90, 3) := by decide +kernel
theorem dX6_multiply_25 : decode cX6_multiply 25 = .ok (.aload_n 0, 1) := by decide +kernel
theorem dX6_multiply_26 : decode cX6_multiply 26 = .ok (.iload_n 1, 1) := by decide +kernel
theorem dX6_multiply_27 : decode cX6_multiply 27 = .ok (.invokevirtual 86, 3) := by decide +kernel
theorem dX6_multiply_30 : decode cX6_multiply 30 = .ok (.ireturn, 1) := by decide +kernel
set_option maxRecDepth 20000 in
theorem ggX6_derive_X6_checkSlot : GoodIn wsX6_derive wsX6_checkSlot := goodIn_ca (goodIn_r _ [6, 7, 8] (by decide +kernel) (by decide +kernel)) (goodIn_sub (fun _ h => List.mem_cons_of_mem _ (List.mem_append_right _ h)) (by decide +kernel))
set_option maxRecDepth 20000 in
theorem gX6_derive_X6_checkSlot : GoodIn wsX6_derive (va_wsS RX6 57 yX6_checkSlot wsX6_checkSlot) := goodIn_app (goodIn_of _ (by decide +kernel)) ggX6_derive_X6_checkSlot
set_option maxRecDepth 20000 in
theorem ggX6_derive_X4_becomeSlope : GoodIn wsX6_derive wsX4_becomeSlope := goodIn_r _ [13, 14, 15, 16, 17, 18, 12, 19, 20, 21, 22, 23, 51, 52] (by decide +kernel) (by decide +kernel)
set_option maxRecDepth 20000 in
theorem gX6_derive_X4_becomeSlope : GoodIn wsX6_derive (wsV RX6 94 RX4 yX4_becomeSlope wsX4_becomeSlope) := goodIn_app (goodIn_of _ (by decide +kernel)) ggX6_derive_X4_becomeSlope
set_option maxRecDepth 20000 in
theorem ggX6_derive_X6_keepResult : GoodIn wsX6_derive wsX6_keepResult := goodIn_r _ [27, 1, 28, 29, 2, 30, 31, 32, 12, 33, 14, 15, 34, 35, 36, 37, 38, 39, 40, 41, 42, 43, 44, 45, 46, 47, 48, 49, 50, 51, 52] (by decide +kernel) (by decide +kernel)
set_option maxRecDepth 20000 in
theorem gX6_derive_X6_keepResult : GoodIn wsX6_derive (wsV RX6 86 RX6 yX6_keepResult wsX6_keepResult) := goodIn_app (goodIn_of _ (by decide +kernel)) ggX6_derive_X6_keepResult
theorem dX6_derive_0 : decode cX6_derive 0 = .ok (.iload_n 1, 1) := by decide +kernel
theorem dX6_derive_1 : decode cX6_derive 1 = .ok (.invokestatic 57, 3) := by decide +kernel
theorem dX6_derive_4 : decode cX6_derive 4 = .ok (.iload_n 2, 1) := by decide +kernel
theorem dX6_derive_5 : decode cX6_derive 5 = .ok (.invokestatic 57, 3) := by decide +kernel
theorem dX6_derive_8 : decode cX6_derive 8 = .ok (.aload_n 0, 1) := by decide +kernel
theorem dX6_derive_9 : decode cX6_derive 9 = .ok (.getfield 20, 3) := by decide +kernel
theorem dX6_derive_12 : decode cX6_derive 12 = .ok (.aload_n 0, 1) := by decide +kernel
theorem dX6_derive_13 : decode cX6_derive 13 = .ok (.getfield 13, 3) := by decide +kernel
theorem dX6_derive_16 : decode cX6_derive 16 = .ok (.iload_n 2, 1) := by decide +kernel
theorem dX6_derive_17 : decode cX6_derive 17 = .ok (.aaload, 1) := by decide +kernel
theorem dX6_derive_18 : decode cX6_derive 18 = .ok (.invokevirtual 94, 3) := by decide +kernel
theorem dX6_derive_21 : decode cX6_derive 21 = .ok (.aload_n 0, 1) := by decide +kernel
theorem dX6_derive_22 : decode cX6_derive 22 = .ok (.iload_n 1, 1) := by decide +kernel
theorem dX6_derive_23 : decode cX6_derive 23 = .ok (.invokevirtual 86, 3) := by decide +kernel
theorem dX6_derive_26 : decode cX6_derive 26 = .ok (.ireturn, 1) := by decide +kernel
set_option maxRecDepth 20000 in
theorem ggX6_divide_X6_checkThreeSlots : GoodIn wsX6_divide wsX6_checkThreeSlots := goodIn_ca (goodIn_r _ [8, 9, 10, 7, 11, 12, 13] (by decide +kernel) (by decide +kernel)) (goodIn_sub (fun _ h => List.mem_cons_of_mem _ (List.mem_append_right _ h)) (by decide +kernel))
set_option maxRecDepth 20000 in
theorem gX6_divide_X6_checkThreeSlots : GoodIn wsX6_divide (va_wsS RX6 78 yX6_checkThreeSlots wsX6_checkThreeSlots) := goodIn_app (goodIn_of _ (by decide +kernel)) ggX6_divide_X6_checkThreeSlots
set_option maxRecDepth 20000 in
theorem ggX6_divide_X4_becomeQuotient : GoodIn wsX6_divide wsX4_becomeQuotient := goodIn_r _ [18, 19, 20, 21, 22, 23, 24, 25, 26, 27, 28, 17, 29, 30, 31, 32, 33, 34, 35, 36, 37, 38, 39, 40, 41, 42, 43, 44, 45, 46, 47, 48, 49, 69, 70] (by decide +kernel) (by decide +kernel)
set_option maxRecDepth 20000 in
theorem gX6_divide_X4_becomeQuotient : GoodIn wsX6_divide (wsV RX6 98 RX4 yX4_becomeQuotient wsX4_becomeQuotient) := goodIn_app (goodIn_of _ (by decide +kernel)) ggX6_divide_X4_becomeQuotient
set_option maxRecDepth 20000 in
theorem ggX6_divide_X6_keepResult : GoodIn wsX6_divide wsX6_keepResult := goodIn_r _ [53, 3, 2, 54, 1, 55, 56, 57, 17, 58, 19, 20, 59, 31, 32, 33, 34, 35, 36, 37, 60, 61, 62, 63, 64, 65, 66, 67, 68, 69, 70] (by decide +kernel) (by decide +kernel)
set_option maxRecDepth 20000 in
theorem gX6_divide_X6_keepResult : GoodIn wsX6_divide (wsV RX6 86 RX6 yX6_keepResult wsX6_keepResult) := goodIn_app (goodIn_of _ (by decide +kernel)) ggX6_divide_X6_keepResult
theorem dX6_divide_0 : decode cX6_divide 0 = .ok (.iload_n 1, 1) := by decide +kernel
theorem dX6_divide_1 : decode cX6_divide 1 = .ok (.iload_n 2, 1) := by decide +kernel
theorem dX6_divide_2 : decode cX6_divide 2 = .ok (.iload_n 3, 1) := by decide +kernel
theorem dX6_divide_3 : decode cX6_divide 3 = .ok (.invokestatic 78, 3) := by decide +kernel
theorem dX6_divide_6 : decode cX6_divide 6 = .ok (.aload_n 0, 1) := by decide +kernel
theorem dX6_divide_7 : decode cX6_divide 7 = .ok (.getfield 13, 3) := by decide +kernel
theorem dX6_divide_10 : decode cX6_divide 10 = .ok (.iload_n 3, 1) := by decide +kernel
theorem dX6_divide_11 : decode cX6_divide 11 = .ok (.aaload, 1) := by decide +kernel
theorem dX6_divide_12 : decode cX6_divide 12 = .ok (.getfield 75, 3) := by decide +kernel
theorem dX6_divide_15 : decode cX6_divide 15 = .ok (.ifCond .ge 6, 3) := by decide +kernel
theorem dX6_divide_18 : decode cX6_divide 18 = .ok (.bipush (-3), 2) := by decide +kernel
theorem dX6_divide_20 : decode cX6_divide 20 = .ok (.ireturn, 1) := by decide +kernel
theorem dX6_divide_21 : decode cX6_divide 21 = .ok (.aload_n 0, 1) := by decide +kernel
theorem dX6_divide_22 : decode cX6_divide 22 = .ok (.getfield 20, 3) := by decide +kernel
theorem dX6_divide_25 : decode cX6_divide 25 = .ok (.aload_n 0, 1) := by decide +kernel
theorem dX6_divide_26 : decode cX6_divide 26 = .ok (.getfield 13, 3) := by decide +kernel
theorem dX6_divide_29 : decode cX6_divide 29 = .ok (.iload_n 2, 1) := by decide +kernel
theorem dX6_divide_30 : decode cX6_divide 30 = .ok (.aaload, 1) := by decide +kernel
theorem dX6_divide_31 : decode cX6_divide 31 = .ok (.aload_n 0, 1) := by decide +kernel
theorem dX6_divide_32 : decode cX6_divide 32 = .ok (.getfield 13, 3) := by decide +kernel
theorem dX6_divide_35 : decode cX6_divide 35 = .ok (.iload_n 3, 1) := by decide +kernel
theorem dX6_divide_36 : decode cX6_divide 36 = .ok (.aaload, 1) := by decide +kernel
theorem dX6_divide_37 : decode cX6_divide 37 = .ok (.aload_n 0, 1) := by decide +kernel
theorem dX6_divide_38 : decode cX6_divide 38 = .ok (.getfield 24, 3) := by decide +kernel
theorem dX6_divide_41 : decode cX6_divide 41 = .ok (.invokevirtual 98, 3) := by decide +kernel
theorem dX6_divide_44 : decode cX6_divide 44 = .ok (.ifCond .ne 5, 3) := by decide +kernel
theorem dX6_divide_47 : decode cX6_divide 47 = .ok (.iconst (-1), 1) := by decide +kernel
theorem dX6_divide_48 : decode cX6_divide 48 = .ok (.ireturn, 1) := by decide +kernel
theorem dX6_divide_49 : decode cX6_divide 49 = .ok (.aload_n 0, 1) := by decide +kernel
theorem dX6_divide_50 : decode cX6_divide 50 = .ok (.iload_n 1, 1) := by decide +kernel
theorem dX6_divide_51 : decode cX6_divide 51 = .ok (.invokevirtual 86, 3) := by decide +kernel
theorem dX6_divide_54 : decode cX6_divide 54 = .ok (.ireturn, 1) := by decide +kernel
set_option maxRecDepth 20000 in
theorem ggX6_common_X6_checkThreeSlots : GoodIn wsX6_common wsX6_checkThreeSlots := goodIn_ca (goodIn_r _ [10, 11, 12, 9, 13, 14, 15] (by decide +kernel) (by decide +kernel)) (goodIn_sub (fun _ h => List.mem_cons_of_mem _ (List.mem_append_right _ h)) (by decide +kernel))
set_option maxRecDepth 20000 in
theorem gX6_common_X6_checkThreeSlots : GoodIn wsX6_common (va_wsS RX6 78 yX6_checkThreeSlots wsX6_checkThreeSlots) := goodIn_app (goodIn_of _ (by decide +kernel)) ggX6_common_X6_checkThreeSlots
set_option maxRecDepth 20000 in
theorem ggX6_common_X4_become : GoodIn wsX6_common wsX4_become := goodIn_r _ [20, 21, 22, 23, 24, 25, 26, 154, 155] (by decide +kernel) (by decide +kernel)
set_option maxRecDepth 20000 in
theorem gX6_common_X4_become : GoodIn wsX6_common (wsV RX6 102 RX4 yX4_become wsX4_become) := goodIn_app (goodIn_of _ (by decide +kernel)) ggX6_common_X4_become
set_option maxRecDepth 20000 in
theorem ggX6_common_X4_makePrimitive : GoodIn wsX6_common wsX4_makePrimitive := goodIn_r _ [30, 26, 21, 31, 32, 33, 19, 34, 35, 9, 36, 37, 38, 39, 40, 41, 42, 43, 44, 45, 46, 47, 48, 154, 155] (by decide +kernel) (by decide +kernel)
set_option maxRecDepth 20000 in
theorem gX6_common_X4_makePrimitive : GoodIn wsX6_common (wsV RX6 105 RX4 yX4_makePrimitive wsX4_makePrimitive) := goodIn_app (goodIn_of _ (by decide +kernel)) ggX6_common_X4_makePrimitive
set_option maxRecDepth 20000 in
theorem ggX6_common_X0_findCommon : GoodIn wsX6_common wsX0_findCommon := goodIn_k _ [[53, 0, 0, 0, 0, 0], [42, 0], [19, 24], [26, 18, 0, 0, 0], [21, 13], [9, 26, 0, 0, 0, 0, 18, 0, 0, 0, 0, 0, 0, 0, 0, 0, 0, 0, 0, 0, 0, 0, 0, 0, 0, 0, 0, 0, 0, 0, 0, 0, 0, 0], [17, 0, 1, 1, 0, 0, 0, 61, 0, 0, 0, 0, 0, 0, 0, 0, 0, 0, 0, 0, 0, 0, 0, 0, 0, 0, 0, 0, 0, 0, 0, 0, 0, 0, 0], [28, 0, 0, 0, 0, 0, 0, 6, 73, 0, 0], [52, 65, 0, 0, 0, 0, 0, 0, 0, 0, 0, 0, 0, 0, 0, 0, 0, 0, 0, 0, 0, 0, 17, 0, 0, 0, 0, 0, 0, 0, 0, 0], [154, 0, 10, 0, 0, 0]] rfl (by decide +kernel)
set_option maxRecDepth 20000 in
theorem gX6_common_X0_findCommon : GoodIn wsX6_common (wsV RX6 108 RX0 yX0_findCommon wsX0_findCommon) := goodIn_app (goodIn_of _ (by decide +kernel)) ggX6_common_X0_findCommon
set_option maxRecDepth 20000 in
theorem ggX6_common_X6_keepResult : GoodIn wsX6_common wsX6_keepResult := goodIn_r _ [142, 5, 4, 143, 2, 144, 121, 122, 19, 123, 26, 21, 16, 17, 18, 20, 22, 23, 24, 25, 145, 146, 147, 148, 149, 150, 151, 152, 153, 154, 155] (by decide +kernel) (by decide +kernel)
set_option maxRecDepth 20000 in
theorem gX6_common_X6_keepResult : GoodIn wsX6_common (wsV RX6 86 RX6 yX6_keepResult wsX6_keepResult) := goodIn_app (goodIn_of _ (by decide +kernel)) ggX6_common_X6_keepResult
theorem dX6_common_0 : decode cX6_common 0 = .ok (.iload_n 1, 1) := by decide +kernel
theorem dX6_common_1 : decode cX6_common 1 = .ok (.iload_n 2, 1) := by decide +kernel
theorem dX6_common_2 : decode cX6_common 2 = .ok (.iload_n 3, 1) := by decide +kernel
theorem dX6_common_3 : decode cX6_common 3 = .ok (.invokestatic 78, 3) := by decide +kernel
theorem dX6_common_6 : decode cX6_common 6 = .ok (.aload_n 0, 1) := by decide +kernel
theorem dX6_common_7 : decode cX6_common 7 = .ok (.getfield 24, 3) := by decide +kernel
theorem dX6_common_10 : decode cX6_common 10 = .ok (.aload_n 0, 1) := by decide +kernel
theorem dX6_common_11 : decode cX6_common 11 = .ok (.getfield 13, 3) := by decide +kernel
theorem dX6_common_14 : decode cX6_common 14 = .ok (.iload_n 2, 1) := by decide +kernel
theorem dX6_common_15 : decode cX6_common 15 = .ok (.aaload, 1) := by decide +kernel
theorem dX6_common_16 : decode cX6_common 16 = .ok (.invokevirtual 102, 3) := by decide +kernel
theorem dX6_common_19 : decode cX6_common 19 = .ok (.aload_n 0, 1) := by decide +kernel
theorem dX6_common_20 : decode cX6_common 20 = .ok (.getfield 24, 3) := by decide +kernel
theorem dX6_common_23 : decode cX6_common 23 = .ok (.invokevirtual 105, 3) := by decide +kernel
theorem dX6_common_26 : decode cX6_common 26 = .ok (.aload_n 0, 1) := by decide +kernel
theorem dX6_common_27 : decode cX6_common 27 = .ok (.getfield 27, 3) := by decide +kernel
theorem dX6_common_30 : decode cX6_common 30 = .ok (.aload_n 0, 1) := by decide +kernel
theorem dX6_common_31 : decode cX6_common 31 = .ok (.getfield 13, 3) := by decide +kernel
theorem dX6_common_34 : decode cX6_common 34 = .ok (.iload_n 3, 1) := by decide +kernel
theorem dX6_common_35 : decode cX6_common 35 = .ok (.aaload, 1) := by decide +kernel
theorem dX6_common_36 : decode cX6_common 36 = .ok (.invokevirtual 102, 3) := by decide +kernel
theorem dX6_common_39 : decode cX6_common 39 = .ok (.aload_n 0, 1) := by decide +kernel
theorem dX6_common_40 : decode cX6_common 40 = .ok (.getfield 27, 3) := by decide +kernel
theorem dX6_common_43 : decode cX6_common 43 = .ok (.invokevirtual 105, 3) := by decide +kernel
theorem dX6_common_46 : decode cX6_common 46 = .ok (.aload_n 0, 1) := by decide +kernel
theorem dX6_common_47 : decode cX6_common 47 = .ok (.getfield 24, 3) := by decide +kernel
theorem dX6_common_50 : decode cX6_common 50 = .ok (.getfield 75, 3) := by decide +kernel
theorem dX6_common_53 : decode cX6_common 53 = .ok (.ifCond .ge 17, 3) := by decide +kernel
theorem dX6_common_56 : decode cX6_common 56 = .ok (.aload_n 0, 1) := by decide +kernel
theorem dX6_common_57 : decode cX6_common 57 = .ok (.getfield 20, 3) := by decide +kernel
theorem dX6_common_60 : decode cX6_common 60 = .ok (.aload_n 0, 1) := by decide +kernel
theorem dX6_common_61 : decode cX6_common 61 = .ok (.getfield 27, 3) := by decide +kernel
theorem dX6_common_64 : decode cX6_common 64 = .ok (.invokevirtual 102, 3) := by decide +kernel
theorem dX6_common_67 : decode cX6_common 67 = .ok (.goto 46, 3) := by decide +kernel
theorem dX6_common_70 : decode cX6_common 70 = .ok (.aload_n 0, 1) := by decide +kernel
theorem dX6_common_71 : decode cX6_common 71 = .ok (.getfield 27, 3) := by decide +kernel
theorem dX6_common_74 : decode cX6_common 74 = .ok (.getfield 75, 3) := by decide +kernel
theorem dX6_common_77 : decode cX6_common 77 = .ok (.ifCond .ge 17, 3) := by decide +kernel
theorem dX6_common_80 : decode cX6_common 80 = .ok (.aload_n 0, 1) := by decide +kernel
theorem dX6_common_81 : decode cX6_common 81 = .ok (.getfield 20, 3) := by decide +kernel
theorem dX6_common_84 : decode cX6_common 84 = .ok (.aload_n 0, 1) := by decide +kernel
theorem dX6_common_85 : decode cX6_common 85 = .ok (.getfield 24, 3) := by decide +kernel
theorem dX6_common_88 : decode cX6_common 88 = .ok (.invokevirtual 102, 3) := by decide +kernel
theorem dX6_common_91 : decode cX6_common 91 = .ok (.goto 22, 3) := by decide +kernel
theorem dX6_common_94 : decode cX6_common 94 = .ok (.aload_n 0, 1) := by decide +kernel
theorem dX6_common_95 : decode cX6_common 95 = .ok (.getfield 48, 3) := by decide +kernel
theorem dX6_common_98 : decode cX6_common 98 = .ok (.aload_n 0, 1) := by decide +kernel
theorem dX6_common_99 : decode cX6_common 99 = .ok (.getfield 20, 3) := by decide +kernel
theorem dX6_common_102 : decode cX6_common 102 = .ok (.aload_n 0, 1) := by decide +kernel
theorem dX6_common_103 : decode cX6_common 103 = .ok (.getfield 24, 3) := by decide +kernel
theorem dX6_common_106 : decode cX6_common 106 = .ok (.aload_n 0, 1) := by decide +kernel
theorem dX6_common_107 : decode cX6_common 107 = .ok (.getfield 27, 3) := by decide +kernel
theorem dX6_common_110 : decode cX6_common 110 = .ok (.invokevirtual 108, 3) := by decide +kernel
theorem dX6_common_113 : decode cX6_common 113 = .ok (.aload_n 0, 1) := by decide +kernel
theorem dX6_common_114 : decode cX6_common 114 = .ok (.iload_n 1, 1) := by decide +kernel
theorem dX6_common_115 : decode cX6_common 115 = .ok (.invokevirtual 86, 3) := by decide +kernel
theorem dX6_common_118 : decode cX6_common 118 = .ok (.ireturn, 1) := by decide +kernel
set_option maxRecDepth 20000 in
theorem ggX6_parts_X6_checkSlot : GoodIn wsX6_parts wsX6_checkSlot := goodIn_ca (goodIn_r _ [10, 11, 12] (by decide +kernel) (by decide +kernel)) (goodIn_sub (fun _ h => List.mem_cons_of_mem _ (List.mem_append_right _ h)) (by decide +kernel))
set_option maxRecDepth 20000 in
theorem gX6_parts_X6_checkSlot : GoodIn wsX6_parts (va_wsS RX6 57 yX6_checkSlot wsX6_checkSlot) := goodIn_app (goodIn_of _ (by decide +kernel)) ggX6_parts_X6_checkSlot
set_option maxRecDepth 20000 in
theorem ggX6_parts_X0_takeApart : GoodIn wsX6_parts wsX0_takeApart := goodIn_k _ [[17, 0, 0, 0, 0, 0, 0, 0, 0, 0, 0, 0, 0, 0, 0, 0, 0], [9, 24, 0, 0, 0, 0, 0, 0, 0, 0, 0, 0, 0, 0, 0, 0, 0, 0, 0, 0, 0, 0, 0, 0, 0, 0, 0, 0, 0, 0, 0, 0, 0, 0, 0, 0, 0, 0, 0, 0, 0, 0, 0, 0, 0, 0, 0, 0, 0], [16, 65, 0, 0, 0, 0, 0, 0, 0, 0, 0, 0, 0, 0, 0, 0, 0, 0, 0, 0, 0, 0, 0, 0, 0, 0, 0, 0, 0, 0, 0, 0, 0, 0, 0, 0, 0, 0, 0, 0, 0, 0, 0, 0, 0, 0, 0, 0, 0, 0, 0, 0, 0, 0, 0, 0, 0, 0, 0, 0, 0, 0, 0, 0, 0, 0, 0, 0, 0, 0, 0, 0, 0, 0, 0, 0, 0, 0, 0, 0, 0, 0, 0, 0, 0, 0, 0, 0, 0, 0, 0, 0, 0, 0, 0, 0, 0, 0, 0, 0, 0, 0, 0, 0, 0, 0, 0, 0, 0, 0, 0, 0, 0, 0, 0, 0, 0, 0, 0, 0, 0, 0, 0, 0, 0, 0, 0, 0, 0, 0, 0, 0, 0, 0, 0, 0, 0, 0, 0, 0, 0, 0, 0, 0, 0, 0, 0, 0, 0, 0, 0, 0, 0, 0, 0, 0, 0, 0, 0, 0, 0, 0, 0, 0, 0, 0, 0, 0, 0, 0, 0, 0, 0, 0, 0, 0, 0, 0, 0, 0, 0, 0, 0, 0, 0, 0, 0, 0, 0, 0, 0, 0, 0, 0, 0, 0, 0, 0, 0, 0, 0, 0, 0, 0, 0, 0, 0, 0, 0, 0, 0, 0, 15, 0, 0, 0, 0, 0, 0, 0, 0, 0], [306, 0, 10, 0, 0, 0, 0, 0, 0, 0, 0, 0, 0, 0, 0, 0, 0, 0, 0, 0]] rfl (by decide +kernel)
set_option maxRecDepth 20000 in
theorem gX6_parts_X0_takeApart : GoodIn wsX6_parts (wsV RX6 112 RX0 yX0_takeApart wsX0_takeApart) := goodIn_app (goodIn_of _ (by decide +kernel)) ggX6_parts_X0_takeApart
set_option maxRecDepth 20000 in
theorem ggX6_parts_X2_become : GoodIn wsX6_parts wsX2_become := goodIn_r _ [296, 52, 53, 263, 264, 265, 55, 56, 29, 57, 32, 58, 59, 60, 61, 31, 318, 319, 320, 321, 306, 307] (by decide +kernel) (by decide +kernel)
set_option maxRecDepth 20000 in
theorem gX6_parts_X2_become : GoodIn wsX6_parts (wsV RX6 118 RX2 yX2_become wsX2_become) := goodIn_app (goodIn_of _ (by decide +kernel)) ggX6_parts_X2_become
theorem dX6_parts_0 : decode cX6_parts 0 = .ok (.iload_n 1, 1) := by decide +kernel
theorem dX6_parts_1 : decode cX6_parts 1 = .ok (.invokestatic 57, 3) := by decide +kernel
theorem dX6_parts_4 : decode cX6_parts 4 = .ok (.aload_n 0, 1) := by decide +kernel
theorem dX6_parts_5 : decode cX6_parts 5 = .ok (.getfield 13, 3) := by decide +kernel
theorem dX6_parts_8 : decode cX6_parts 8 = .ok (.iload_n 1, 1) := by decide +kernel
theorem dX6_parts_9 : decode cX6_parts 9 = .ok (.aaload, 1) := by decide +kernel
theorem dX6_parts_10 : decode cX6_parts 10 = .ok (.getfield 75, 3) := by decide +kernel
theorem dX6_parts_13 : decode cX6_parts 13 = .ok (.ifCond .ge 6, 3) := by decide +kernel
theorem dX6_parts_16 : decode cX6_parts 16 = .ok (.bipush (-3), 2) := by decide +kernel
theorem dX6_parts_18 : decode cX6_parts 18 = .ok (.ireturn, 1) := by decide +kernel
theorem dX6_parts_19 : decode cX6_parts 19 = .ok (.aload_n 0, 1) := by decide +kernel
theorem dX6_parts_20 : decode cX6_parts 20 = .ok (.getfield 48, 3) := by decide +kernel
theorem dX6_parts_23 : decode cX6_parts 23 = .ok (.aload_n 0, 1) := by decide +kernel
theorem dX6_parts_24 : decode cX6_parts 24 = .ok (.getfield 13, 3) := by decide +kernel
theorem dX6_parts_27 : decode cX6_parts 27 = .ok (.iload_n 1, 1) := by decide +kernel
theorem dX6_parts_28 : decode cX6_parts 28 = .ok (.aaload, 1) := by decide +kernel
theorem dX6_parts_29 : decode cX6_parts 29 = .ok (.invokevirtual 112, 3) := by decide +kernel
theorem dX6_parts_32 : decode cX6_parts 32 = .ok (.aload_n 0, 1) := by decide +kernel
theorem dX6_parts_33 : decode cX6_parts 33 = .ok (.getfield 33, 3) := by decide +kernel
theorem dX6_parts_36 : decode cX6_parts 36 = .ok (.aload_n 0, 1) := by decide +kernel
theorem dX6_parts_37 : decode cX6_parts 37 = .ok (.getfield 48, 3) := by decide +kernel
theorem dX6_parts_40 : decode cX6_parts 40 = .ok (.getfield 115, 3) := by decide +kernel
theorem dX6_parts_43 : decode cX6_parts 43 = .ok (.invokevirtual 118, 3) := by decide +kernel
theorem dX6_parts_46 : decode cX6_parts 46 = .ok (.aload_n 0, 1) := by decide +kernel
theorem dX6_parts_47 : decode cX6_parts 47 = .ok (.getfield 33, 3) := by decide +kernel
theorem dX6_parts_50 : decode cX6_parts 50 = .ok (.getfield 121, 3) := by decide +kernel
theorem dX6_parts_53 : decode cX6_parts 53 = .ok (.ireturn, 1) := by decide +kernel
set_option maxRecDepth 20000 in
theorem ggX6_part_X2_holds : GoodIn wsX6_part wsX2_holds := goodIn_r _ [7, 8, 24, 25, 26, 27] (by decide +kernel) (by decide +kernel)
set_option maxRecDepth 20000 in
theorem gX6_part_X2_holds : GoodIn wsX6_part (wsV RX6 124 RX2 yX2_holds wsX2_holds) := goodIn_app (goodIn_of _ (by decide +kernel)) ggX6_part_X2_holds
set_option maxRecDepth 20000 in
theorem ggX6_part_X4_at : GoodIn wsX6_part wsX4_at := goodIn_r _ [13, 14, 28, 29] (by decide +kernel) (by decide +kernel)
set_option maxRecDepth 20000 in
theorem gX6_part_X4_at : GoodIn wsX6_part (wsV RX6 131 RX4 yX4_at wsX4_at) := goodIn_app (goodIn_of _ (by decide +kernel)) ggX6_part_X4_at
theorem dX6_part_0 : decode cX6_part 0 = .ok (.aload_n 0, 1) := by decide +kernel
theorem dX6_part_1 : decode cX6_part 1 = .ok (.getfield 33, 3) := by decide +kernel
theorem dX6_part_4 : decode cX6_part 4 = .ok (.iload_n 1, 1) := by decide +kernel
theorem dX6_part_5 : decode cX6_part 5 = .ok (.invokevirtual 124, 3) := by decide +kernel
theorem dX6_part_8 : decode cX6_part 8 = .ok (.ifCond .eq 19, 3) := by decide +kernel
theorem dX6_part_11 : decode cX6_part 11 = .ok (.aload_n 0, 1) := by decide +kernel
theorem dX6_part_12 : decode cX6_part 12 = .ok (.getfield 33, 3) := by decide +kernel
theorem dX6_part_15 : decode cX6_part 15 = .ok (.getfield 128, 3) := by decide +kernel
theorem dX6_part_18 : decode cX6_part 18 = .ok (.iload_n 1, 1) := by decide +kernel
theorem dX6_part_19 : decode cX6_part 19 = .ok (.aaload, 1) := by decide +kernel
theorem dX6_part_20 : decode cX6_part 20 = .ok (.iload_n 2, 1) := by decide +kernel
theorem dX6_part_21 : decode cX6_part 21 = .ok (.invokevirtual 131, 3) := by decide +kernel
theorem dX6_part_24 : decode cX6_part 24 = .ok (.goto 4, 3) := by decide +kernel
theorem dX6_part_27 : decode cX6_part 27 = .ok (.lconst 0, 1) := by decide +kernel
theorem dX6_part_28 : decode cX6_part 28 = .ok (.lreturn, 1) := by decide +kernel
set_option maxRecDepth 20000 in
theorem ggX6_times_X2_holds : GoodIn wsX6_times wsX2_holds := goodIn_r _ [7, 8, 18, 19, 20, 21] (by decide +kernel) (by decide +kernel)
set_option maxRecDepth 20000 in
theorem gX6_times_X2_holds : GoodIn wsX6_times (wsV RX6 124 RX2 yX2_holds wsX2_holds) := goodIn_app (goodIn_of _ (by decide +kernel)) ggX6_times_X2_holds
theorem dX6_times_0 : decode cX6_times 0 = .ok (.aload_n 0, 1) := by decide +kernel
theorem dX6_times_1 : decode cX6_times 1 = .ok (.getfield 33, 3) := by decide +kernel
theorem dX6_times_4 : decode cX6_times 4 = .ok (.iload_n 1, 1) := by decide +kernel
theorem dX6_times_5 : decode cX6_times 5 = .ok (.invokevirtual 124, 3) := by decide +kernel
