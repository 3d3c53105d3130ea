set_option maxRecDepth 20000 in
theorem ggX2_init_X6_freshRows : GoodIn wsX2_init wsX6_freshRows := goodIn_r _ [11, 12, 13, 14, 15, 16, 17, 2, 3, 18, 19, 20, 25, 26] (by decide +kernel) (by decide +kernel)
set_option maxRecDepth 20000 in
theorem gX2_init_X6_freshRows_n9 : GoodIn wsX2_init (wsX6_freshRows) := ggX2_init_X6_freshRows
theorem dX2_init_0 : decode cX2_init 0 = .ok (.aload_n 0, 1) := by decide +kernel
theorem dX2_init_1 : decode cX2_init 1 = .ok (.invokespecial 3, 3) := by decide +kernel
theorem dX2_init_4 : decode cX2_init 4 = .ok (.aload_n 0, 1) := by decide +kernel
theorem dX2_init_5 : decode cX2_init 5 = .ok (.bipush 6, 2) := by decide +kernel
theorem dX2_init_7 : decode cX2_init 7 = .ok (.invokestatic 9, 3) := by decide +kernel
theorem dX2_init_10 : decode cX2_init 10 = .ok (.putfield 13, 3) := by decide +kernel
theorem dX2_init_13 : decode cX2_init 13 = .ok (.aload_n 0, 1) := by decide +kernel
theorem dX2_init_14 : decode cX2_init 14 = .ok (.bipush 6, 2) := by decide +kernel
theorem dX2_init_16 : decode cX2_init 16 = .ok (.newarray .int, 2) := by decide +kernel
theorem dX2_init_18 : decode cX2_init 18 = .ok (.putfield 19, 3) := by decide +kernel
theorem dX2_init_21 : decode cX2_init 21 = .ok (.aload_n 0, 1) := by decide +kernel
theorem dX2_init_22 : decode cX2_init 22 = .ok (.iconst 0, 1) := by decide +kernel
theorem dX2_init_23 : decode cX2_init 23 = .ok (.putfield 23, 3) := by decide +kernel
theorem dX2_init_26 : decode cX2_init 26 = .ok (.aload_n 0, 1) := by decide +kernel
theorem dX2_init_27 : decode cX2_init 27 = .ok (.iconst 0, 1) := by decide +kernel
theorem dX2_init_28 : decode cX2_init 28 = .ok (.putfield 27, 3) := by decide +kernel
theorem dX2_init_31 : decode cX2_init 31 = .ok (.return_, 1) := by decide +kernel
theorem dX2_begin_0 : decode cX2_begin 0 = .ok (.aload_n 0, 1) := by decide +kernel
theorem dX2_begin_1 : decode cX2_begin 1 = .ok (.iconst 0, 1) := by decide +kernel
theorem dX2_begin_2 : decode cX2_begin 2 = .ok (.putfield 23, 3) := by decide +kernel
theorem dX2_begin_5 : decode cX2_begin 5 = .ok (.aload_n 0, 1) := by decide +kernel
theorem dX2_begin_6 : decode cX2_begin 6 = .ok (.iload_n 1, 1) := by decide +kernel
theorem dX2_begin_7 : decode cX2_begin 7 = .ok (.putfield 27, 3) := by decide +kernel
theorem dX2_begin_10 : decode cX2_begin 10 = .ok (.return_, 1) := by decide +kernel
set_option maxRecDepth 20000 in
theorem ggX2_append_X4_become : GoodIn wsX2_append wsX4_become := goodIn_r _ [8, 9, 10, 11, 12, 13, 14, 19, 20] (by decide +kernel) (by decide +kernel)
set_option maxRecDepth 20000 in
theorem gX2_append_X4_become : GoodIn wsX2_append (wsV RX2 30 RX4 yX4_become wsX4_become) := goodIn_app (goodIn_of _ (by decide +kernel)) ggX2_append_X4_become
theorem dX2_append_0 : decode cX2_append 0 = .ok (.aload_n 0, 1) := by decide +kernel
theorem dX2_append_1 : decode cX2_append 1 = .ok (.getfield 23, 3) := by decide +kernel
theorem dX2_append_4 : decode cX2_append 4 = .ok (.bipush 6, 2) := by decide +kernel
theorem dX2_append_6 : decode cX2_append 6 = .ok (.if_icmp .ge 36, 3) := by decide +kernel
theorem dX2_append_9 : decode cX2_append 9 = .ok (.aload_n 0, 1) := by decide +kernel
theorem dX2_append_10 : decode cX2_append 10 = .ok (.getfield 13, 3) := by decide +kernel
theorem dX2_append_13 : decode cX2_append 13 = .ok (.aload_n 0, 1) := by decide +kernel
theorem dX2_append_14 : decode cX2_append 14 = .ok (.getfield 23, 3) := by decide +kernel
theorem dX2_append_17 : decode cX2_append 17 = .ok (.aaload, 1) := by decide +kernel
theorem dX2_append_18 : decode cX2_append 18 = .ok (.aload_n 1, 1) := by decide +kernel
theorem dX2_append_19 : decode cX2_append 19 = .ok (.invokevirtual 30, 3) := by decide +kernel
theorem dX2_append_22 : decode cX2_append 22 = .ok (.aload_n 0, 1) := by decide +kernel
theorem dX2_append_23 : decode cX2_append 23 = .ok (.getfield 19, 3) := by decide +kernel
theorem dX2_append_26 : decode cX2_append 26 = .ok (.aload_n 0, 1) := by decide +kernel
theorem dX2_append_27 : decode cX2_append 27 = .ok (.getfield 23, 3) := by decide +kernel
theorem dX2_append_30 : decode cX2_append 30 = .ok (.iconst 0, 1) := by decide +kernel
theorem dX2_append_31 : decode cX2_append 31 = .ok (.iastore, 1) := by decide +kernel
theorem dX2_append_32 : decode cX2_append 32 = .ok (.aload_n 0, 1) := by decide +kernel
theorem dX2_append_33 : decode cX2_append 33 = .ok (.dup, 1) := by decide +kernel
theorem dX2_append_34 : decode cX2_append 34 = .ok (.getfield 23, 3) := by decide +kernel
theorem dX2_append_37 : decode cX2_append 37 = .ok (.iconst 1, 1) := by decide +kernel
theorem dX2_append_38 : decode cX2_append 38 = .ok (.iadd, 1) := by decide +kernel
theorem dX2_append_39 : decode cX2_append 39 = .ok (.putfield 23, 3) := by decide +kernel
theorem dX2_append_42 : decode cX2_append 42 = .ok (.return_, 1) := by decide +kernel
theorem dX2_holds_0 : decode cX2_holds 0 = .ok (.iload_n 1, 1) := by decide +kernel
theorem dX2_holds_1 : decode cX2_holds 1 = .ok (.ifCond .lt 15, 3) := by decide +kernel
theorem dX2_holds_4 : decode cX2_holds 4 = .ok (.iload_n 1, 1) := by decide +kernel
theorem dX2_holds_5 : decode cX2_holds 5 = .ok (.aload_n 0, 1) := by decide +kernel
theorem dX2_holds_6 : decode cX2_holds 6 = .ok (.getfield 23, 3) := by decide +kernel
theorem dX2_holds_9 : decode cX2_holds 9 = .ok (.if_icmp .ge 7, 3) := by decide +kernel
theorem dX2_holds_12 : decode cX2_holds 12 = .ok (.iconst 1, 1) := by decide +kernel
theorem dX2_holds_13 : decode cX2_holds 13 = .ok (.goto 4, 3) := by decide +kernel
theorem dX2_holds_16 : decode cX2_holds 16 = .ok (.iconst 0, 1) := by decide +kernel
theorem dX2_holds_17 : decode cX2_holds 17 = .ok (.ireturn, 1) := by decide +kernel
theorem dX2_isSingle_0 : decode cX2_isSingle 0 = .ok (.aload_n 0, 1) := by decide +kernel
theorem dX2_isSingle_1 : decode cX2_isSingle 1 = .ok (.getfield 23, 3) := by decide +kernel
theorem dX2_isSingle_4 : decode cX2_isSingle 4 = .ok (.iconst 1, 1) := by decide +kernel
theorem dX2_isSingle_5 : decode cX2_isSingle 5 = .ok (.if_icmp .ne 17, 3) := by decide +kernel
theorem dX2_isSingle_8 : decode cX2_isSingle 8 = .ok (.aload_n 0, 1) := by decide +kernel
theorem dX2_isSingle_9 : decode cX2_isSingle 9 = .ok (.getfield 19, 3) := by decide +kernel
theorem dX2_isSingle_12 : decode cX2_isSingle 12 = .ok (.iconst 0, 1) := by decide +kernel
theorem dX2_isSingle_13 : decode cX2_isSingle 13 = .ok (.iaload, 1) := by decide +kernel
theorem dX2_isSingle_14 : decode cX2_isSingle 14 = .ok (.iconst 1, 1) := by decide +kernel
theorem dX2_isSingle_15 : decode cX2_isSingle 15 = .ok (.if_icmp .ne 7, 3) := by decide +kernel
theorem dX2_isSingle_18 : decode cX2_isSingle 18 = .ok (.iconst 1, 1) := by decide +kernel
theorem dX2_isSingle_19 : decode cX2_isSingle 19 = .ok (.goto 4, 3) := by decide +kernel
theorem dX2_isSingle_22 : decode cX2_isSingle 22 = .ok (.iconst 0, 1) := by decide +kernel
theorem dX2_isSingle_23 : decode cX2_isSingle 23 = .ok (.ireturn, 1) := by decide +kernel
set_option maxRecDepth 20000 in
theorem ggX2_become_X4_become : GoodIn wsX2_become wsX4_become := goodIn_r _ [9, 10, 11, 12, 13, 14, 15, 20, 21] (by decide +kernel) (by decide +kernel)
set_option maxRecDepth 20000 in
theorem gX2_become_X4_become : GoodIn wsX2_become (wsV RX2 30 RX4 yX4_become wsX4_become) := goodIn_app (goodIn_of _ (by decide +kernel)) ggX2_become_X4_become
theorem dX2_become_0 : decode cX2_become 0 = .ok (.aload_n 0, 1) := by decide +kernel
theorem dX2_become_1 : decode cX2_become 1 = .ok (.aload_n 1, 1) := by decide +kernel
theorem dX2_become_2 : decode cX2_become 2 = .ok (.getfield 23, 3) := by decide +kernel
theorem dX2_become_5 : decode cX2_become 5 = .ok (.putfield 23, 3) := by decide +kernel
theorem dX2_become_8 : decode cX2_become 8 = .ok (.aload_n 0, 1) := by decide +kernel
theorem dX2_become_9 : decode cX2_become 9 = .ok (.aload_n 1, 1) := by decide +kernel
theorem dX2_become_10 : decode cX2_become 10 = .ok (.getfield 27, 3) := by decide +kernel
theorem dX2_become_13 : decode cX2_become 13 = .ok (.putfield 27, 3) := by decide +kernel
theorem dX2_become_16 : decode cX2_become 16 = .ok (.iconst 0, 1) := by decide +kernel
theorem dX2_become_17 : decode cX2_become 17 = .ok (.istore_n 2, 1) := by decide +kernel
theorem dX2_become_18 : decode cX2_become 18 = .ok (.iload_n 2, 1) := by decide +kernel
theorem dX2_become_19 : decode cX2_become 19 = .ok (.aload_n 0, 1) := by decide +kernel
theorem dX2_become_20 : decode cX2_become 20 = .ok (.getfield 23, 3) := by decide +kernel
theorem dX2_become_23 : decode cX2_become 23 = .ok (.if_icmp .ge 36, 3) := by decide +kernel
theorem dX2_become_26 : decode cX2_become 26 = .ok (.aload_n 0, 1) := by decide +kernel
theorem dX2_become_27 : decode cX2_become 27 = .ok (.getfield 13, 3) := by decide +kernel
theorem dX2_become_30 : decode cX2_become 30 = .ok (.iload_n 2, 1) := by decide +kernel
theorem dX2_become_31 : decode cX2_become 31 = .ok (.aaload, 1) := by decide +kernel
theorem dX2_become_32 : decode cX2_become 32 = .ok (.aload_n 1, 1) := by decide +kernel
theorem dX2_become_33 : decode cX2_become 33 = .ok (.getfield 13, 3) := by decide +kernel
theorem dX2_become_36 : decode cX2_become 36 = .ok (.iload_n 2, 1) := by decide +kernel
theorem dX2_become_37 : decode cX2_become 37 = .ok (.aaload, 1) := by decide +kernel
theorem dX2_become_38 : decode cX2_become 38 = .ok (.invokevirtual 30, 3) := by decide +kernel
theorem dX2_become_41 : decode cX2_become 41 = .ok (.aload_n 0, 1) := by decide +kernel
theorem dX2_become_42 : decode cX2_become 42 = .ok (.getfield 19, 3) := by decide +kernel
theorem dX2_become_45 : decode cX2_become 45 = .ok (.iload_n 2, 1) := by decide +kernel
theorem dX2_become_46 : decode cX2_become 46 = .ok (.aload_n 1, 1) := by decide +kernel
theorem dX2_become_47 : decode cX2_become 47 = .ok (.getfield 19, 3) := by decide +kernel
theorem dX2_become_50 : decode cX2_become 50 = .ok (.iload_n 2, 1) := by decide +kernel
theorem dX2_become_51 : decode cX2_become 51 = .ok (.iaload, 1) := by decide +kernel
theorem dX2_become_52 : decode cX2_become 52 = .ok (.iastore, 1) := by decide +kernel
theorem dX2_become_53 : decode cX2_become 53 = .ok (.iinc 2 1, 3) := by decide +kernel
theorem dX2_become_56 : decode cX2_become 56 = .ok (.goto (-38), 3) := by decide +kernel
theorem dX2_become_59 : decode cX2_become 59 = .ok (.return_, 1) := by decide +kernel
set_option maxRecDepth 20000 in
theorem ggX2_sort_X4_compareWith : GoodIn wsX2_sort wsX4_compareWith := goodIn_r _ [7, 8, 9, 10, 11, 12, 13, 14, 15, 16, 17, 28, 29] (by decide +kernel) (by decide +kernel)
set_option maxRecDepth 20000 in
theorem gX2_sort_X4_compareWith : GoodIn wsX2_sort (wsV RX2 36 RX4 yX4_compareWith wsX4_compareWith) := goodIn_app (goodIn_of _ (by decide +kernel)) ggX2_sort_X4_compareWith
set_option maxRecDepth 20000 in
theorem ggX2_sort_X2_swapWithPrevious : GoodIn wsX2_sort wsX2_swapWithPrevious := goodIn_r _ [22, 2, 23, 24, 25, 26, 27] (by decide +kernel) (by decide +kernel)
set_option maxRecDepth 20000 in
theorem gX2_sort_X2_swapWithPrevious : GoodIn wsX2_sort (wsV RX2 40 RX2 yX2_swapWithPrevious wsX2_swapWithPrevious) := goodIn_app (goodIn_of _ (by decide +kernel)) ggX2_sort_X2_swapWithPrevious
theorem dX2_sort_0 : decode cX2_sort 0 = .ok (.iconst 1, 1) := by decide +kernel
theorem dX2_sort_1 : decode cX2_sort 1 = .ok (.istore_n 1, 1) := by decide +kernel
theorem dX2_sort_2 : decode cX2_sort 2 = .ok (.iload_n 1, 1) := by decide +kernel
theorem dX2_sort_3 : decode cX2_sort 3 = .ok (.aload_n 0, 1) := by decide +kernel
theorem dX2_sort_4 : decode cX2_sort 4 = .ok (.getfield 23, 3) := by decide +kernel
theorem dX2_sort_7 : decode cX2_sort 7 = .ok (.if_icmp .ge 46, 3) := by decide +kernel
theorem dX2_sort_10 : decode cX2_sort 10 = .ok (.iload_n 1, 1) := by decide +kernel
theorem dX2_sort_11 : decode cX2_sort 11 = .ok (.istore_n 2, 1) := by decide +kernel
theorem dX2_sort_12 : decode cX2_sort 12 = .ok (.iload_n 2, 1) := by decide +kernel
theorem dX2_sort_13 : decode cX2_sort 13 = .ok (.ifCond .le 34, 3) := by decide +kernel
theorem dX2_sort_16 : decode cX2_sort 16 = .ok (.aload_n 0, 1) := by decide +kernel
theorem dX2_sort_17 : decode cX2_sort 17 = .ok (.getfield 13, 3) := by decide +kernel
theorem dX2_sort_20 : decode cX2_sort 20 = .ok (.iload_n 2, 1) := by decide +kernel
theorem dX2_sort_21 : decode cX2_sort 21 = .ok (.aaload, 1) := by decide +kernel
theorem dX2_sort_22 : decode cX2_sort 22 = .ok (.aload_n 0, 1) := by decide +kernel
theorem dX2_sort_23 : decode cX2_sort 23 = .ok (.getfield 13, 3) := by decide +kernel
theorem dX2_sort_26 : decode cX2_sort 26 = .ok (.iload_n 2, 1) := by decide +kernel
theorem dX2_sort_27 : decode cX2_sort 27 = .ok (.iconst 1, 1) := by decide +kernel
theorem dX2_sort_28 : decode cX2_sort 28 = .ok (.isub, 1) := by decide +kernel
theorem dX2_sort_29 : decode cX2_sort 29 = .ok (.aaload, 1) := by decide +kernel
theorem dX2_sort_30 : decode cX2_sort 30 = .ok (.invokevirtual 36, 3) := by decide +kernel
theorem dX2_sort_33 : decode cX2_sort 33 = .ok (.ifCond .ge 14, 3) := by decide +kernel
theorem dX2_sort_36 : decode cX2_sort 36 = .ok (.aload_n 0, 1) := by decide +kernel
theorem dX2_sort_37 : decode cX2_sort 37 = .ok (.iload_n 2, 1) := by decide +kernel
theorem dX2_sort_38 : decode cX2_sort 38 = .ok (.invokevirtual 40, 3) := by decide +kernel
theorem dX2_sort_41 : decode cX2_sort 41 = .ok (.iinc 2 (-1), 3) := by decide +kernel
theorem dX2_sort_44 : decode cX2_sort 44 = .ok (.goto (-32), 3) := by decide +kernel
theorem dX2_sort_47 : decode cX2_sort 47 = .ok (.iinc 1 1, 3) := by decide +kernel
theorem dX2_sort_50 : decode cX2_sort 50 = .ok (.goto (-48), 3) := by decide +kernel
theorem dX2_sort_53 : decode cX2_sort 53 = .ok (.return_, 1) := by decide +kernel
theorem dX2_swapWithPrevious_0 : decode cX2_swapWithPrevious 0 = .ok (.aload_n 0, 1) := by decide +kernel
theorem dX2_swapWithPrevious_1 : decode cX2_swapWithPrevious 1 = .ok (.getfield 13, 3) := by decide +kernel
theorem dX2_swapWithPrevious_4 : decode cX2_swapWithPrevious 4 = .ok (.iload_n 1, 1) := by decide +kernel
theorem dX2_swapWithPrevious_5 : decode cX2_swapWithPrevious 5 = .ok (.aaload, 1) := by decide +kernel
theorem dX2_swapWithPrevious_6 : decode cX2_swapWithPrevious 6 = .ok (.astore_n 2, 1) := by decide +kernel
theorem dX2_swapWithPrevious_7 : decode cX2_swapWithPrevious 7 = .ok (.aload_n 0, 1) := by decide +kernel
theorem dX2_swapWithPrevious_8 : decode cX2_swapWithPrevious 8 = .ok (.getfield 13, 3) := by decide +kernel
theorem dX2_swapWithPrevious_11 : decode cX2_swapWithPrevious 11 = .ok (.iload_n 1, 1) := by decide +kernel
theorem dX2_swapWithPrevious_12 : decode cX2_swapWithPrevious 12 = .ok (.aload_n 0, 1) := by decide +kernel
theorem dX2_swapWithPrevious_13 : decode cX2_swapWithPrevious 13 = .ok (.getfield 13, 3) := by decide +kernel
theorem dX2_swapWithPrevious_16 : decode cX2_swapWithPrevious 16 = .ok (.iload_n 1, 1) := by decide +kernel
theorem dX2_swapWithPrevious_17 : decode cX2_swapWithPrevious 17 = .ok (.iconst 1, 1) := by decide +kernel
theorem dX2_swapWithPrevious_18 : decode cX2_swapWithPrevious 18 = .ok (.isub, 1) := by decide +kernel
theorem dX2_swapWithPrevious_19 : decode cX2_swapWithPrevious 19 = .ok (.aaload, 1) := by decide +kernel
theorem dX2_swapWithPrevious_20 : decode cX2_swapWithPrevious 20 = .ok (.aastore, 1) := by decide +kernel
theorem dX2_swapWithPrevious_21 : decode cX2_swapWithPrevious 21 = .ok (.aload_n 0, 1) := by decide +kernel
theorem dX2_swapWithPrevious_22 : decode cX2_swapWithPrevious 22 = .ok (.getfield 13, 3) := by decide +kernel
theorem dX2_swapWithPrevious_25 : decode cX2_swapWithPrevious 25 = .ok (.iload_n 1, 1) := by decide +kernel
theorem dX2_swapWithPrevious_26 : decode cX2_swapWithPrevious 26 = .ok (.iconst 1, 1) := by decide +kernel
theorem dX2_swapWithPrevious_27 : decode cX2_swapWithPrevious 27 = .ok (.isub, 1) := by decide +kernel
theorem dX2_swapWithPrevious_28 : decode cX2_swapWithPrevious 28 = .ok (.aload_n 2, 1) := by decide +kernel
theorem dX2_swapWithPrevious_29 : decode cX2_swapWithPrevious 29 = .ok (.aastore, 1) := by decide +kernel
theorem dX2_swapWithPrevious_30 : decode cX2_swapWithPrevious 30 = .ok (.aload_n 0, 1) := by decide +kernel
theorem dX2_swapWithPrevious_31 : decode cX2_swapWithPrevious 31 = .ok (.getfield 19, 3) := by decide +kernel
theorem dX2_swapWithPrevious_34 : decode cX2_swapWithPrevious 34 = .ok (.iload_n 1, 1) := by decide +kernel
theorem dX2_swapWithPrevious_35 : decode cX2_swapWithPrevious 35 = .ok (.iaload, 1) := by decide +kernel
theorem dX2_swapWithPrevious_36 : decode cX2_swapWithPrevious 36 = .ok (.istore_n 3, 1) := by decide +kernel
theorem dX2_swapWithPrevious_37 : decode cX2_swapWithPrevious 37 = .ok (.aload_n 0, 1) := by decide +kernel
theorem dX2_swapWithPrevious_38 : decode cX2_swapWithPrevious 38 = .ok (.getfield 19, 3) := by decide +kernel
theorem dX2_swapWithPrevious_41 : decode cX2_swapWithPrevious 41 = .ok (.iload_n 1, 1) := by decide +kernel
theorem dX2_swapWithPrevious_42 : decode cX2_swapWithPrevious 42 = .ok (.aload_n 0, 1) := by decide +kernel
theorem dX2_swapWithPrevious_43 : decode cX2_swapWithPrevious 43 = .ok (.getfield 19, 3) := by decide +kernel
theorem dX2_swapWithPrevious_46 : decode cX2_swapWithPrevious 46 = .ok (.iload_n 1, 1) := by decide +kernel
theorem dX2_swapWithPrevious_47 : decode cX2_swapWithPrevious 47 = .ok (.iconst 1, 1) := by decide +kernel
theorem dX2_swapWithPrevious_48 : decode cX2_swapWithPrevious 48 = .ok (.isub, 1) := by decide +kernel
theorem dX2_swapWithPrevious_49 : decode cX2_swapWithPrevious 49 = .ok (.iaload, 1) := by decide +kernel
theorem dX2_swapWithPrevious_50 : decode cX2_swapWithPrevious 50 = .ok (.iastore, 1) := by decide +kernel
theorem dX2_swapWithPrevious_51 : decode cX2_swapWithPrevious 51 = .ok (.aload_n 0, 1) := by decide +kernel
theorem dX2_swapWithPrevious_52 : decode cX2_swapWithPrevious 52 = .ok (.getfield 19, 3) := by decide +kernel
theorem dX2_swapWithPrevious_55 : decode cX2_swapWithPrevious 55 = .ok (.iload_n 1, 1) := by decide +kernel
theorem dX2_swapWithPrevious_56 : decode cX2_swapWithPrevious 56 = .ok (.iconst 1, 1) := by decide +kernel
theorem dX2_swapWithPrevious_57 : decode cX2_swapWithPrevious 57 = .ok (.isub, 1) := by decide +kernel
theorem dX2_swapWithPrevious_58 : decode cX2_swapWithPrevious 58 = .ok (.iload_n 3, 1) := by decide +kernel
theorem dX2_swapWithPrevious_59 : decode cX2_swapWithPrevious 59 = .ok (.iastore, 1) := by decide +kernel
theorem dX2_swapWithPrevious_60 : decode cX2_swapWithPrevious 60 = .ok (.return_, 1) := by decide +kernel
