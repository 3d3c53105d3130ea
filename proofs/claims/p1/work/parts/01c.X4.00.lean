theorem dX4_init_0 : decode cX4_init 0 = .ok (.aload_n 0, 1) := by decide +kernel
theorem dX4_init_1 : decode cX4_init 1 = .ok (.invokespecial 3, 3) := by decide +kernel
theorem dX4_init_4 : decode cX4_init 4 = .ok (.aload_n 0, 1) := by decide +kernel
theorem dX4_init_5 : decode cX4_init 5 = .ok (.bipush 13, 2) := by decide +kernel
theorem dX4_init_7 : decode cX4_init 7 = .ok (.newarray .long, 2) := by decide +kernel
theorem dX4_init_9 : decode cX4_init 9 = .ok (.putfield 9, 3) := by decide +kernel
theorem dX4_init_12 : decode cX4_init 12 = .ok (.aload_n 0, 1) := by decide +kernel
theorem dX4_init_13 : decode cX4_init 13 = .ok (.iconst (-1), 1) := by decide +kernel
theorem dX4_init_14 : decode cX4_init 14 = .ok (.putfield 15, 3) := by decide +kernel
theorem dX4_init_17 : decode cX4_init 17 = .ok (.return_, 1) := by decide +kernel
theorem dX4_clear_0 : decode cX4_clear 0 = .ok (.iconst 0, 1) := by decide +kernel
theorem dX4_clear_1 : decode cX4_clear 1 = .ok (.istore_n 1, 1) := by decide +kernel
theorem dX4_clear_2 : decode cX4_clear 2 = .ok (.iload_n 1, 1) := by decide +kernel
theorem dX4_clear_3 : decode cX4_clear 3 = .ok (.bipush 13, 2) := by decide +kernel
theorem dX4_clear_5 : decode cX4_clear 5 = .ok (.if_icmp .ge 16, 3) := by decide +kernel
theorem dX4_clear_8 : decode cX4_clear 8 = .ok (.aload_n 0, 1) := by decide +kernel
theorem dX4_clear_9 : decode cX4_clear 9 = .ok (.getfield 9, 3) := by decide +kernel
theorem dX4_clear_12 : decode cX4_clear 12 = .ok (.iload_n 1, 1) := by decide +kernel
theorem dX4_clear_13 : decode cX4_clear 13 = .ok (.lconst 0, 1) := by decide +kernel
theorem dX4_clear_14 : decode cX4_clear 14 = .ok (.lastore, 1) := by decide +kernel
theorem dX4_clear_15 : decode cX4_clear 15 = .ok (.iinc 1 1, 3) := by decide +kernel
theorem dX4_clear_18 : decode cX4_clear 18 = .ok (.goto (-16), 3) := by decide +kernel
theorem dX4_clear_21 : decode cX4_clear 21 = .ok (.aload_n 0, 1) := by decide +kernel
theorem dX4_clear_22 : decode cX4_clear 22 = .ok (.iconst (-1), 1) := by decide +kernel
theorem dX4_clear_23 : decode cX4_clear 23 = .ok (.putfield 15, 3) := by decide +kernel
theorem dX4_clear_26 : decode cX4_clear 26 = .ok (.return_, 1) := by decide +kernel
theorem dX4_become_0 : decode cX4_become 0 = .ok (.aload_n 1, 1) := by decide +kernel
theorem dX4_become_1 : decode cX4_become 1 = .ok (.getfield 9, 3) := by decide +kernel
theorem dX4_become_4 : decode cX4_become 4 = .ok (.iconst 0, 1) := by decide +kernel
theorem dX4_become_5 : decode cX4_become 5 = .ok (.aload_n 0, 1) := by decide +kernel
theorem dX4_become_6 : decode cX4_become 6 = .ok (.getfield 9, 3) := by decide +kernel
theorem dX4_become_9 : decode cX4_become 9 = .ok (.iconst 0, 1) := by decide +kernel
theorem dX4_become_10 : decode cX4_become 10 = .ok (.bipush 13, 2) := by decide +kernel
theorem dX4_become_12 : decode cX4_become 12 = .ok (.invokestatic 19, 3) := by decide +kernel
theorem dX4_become_15 : decode cX4_become 15 = .ok (.aload_n 0, 1) := by decide +kernel
theorem dX4_become_16 : decode cX4_become 16 = .ok (.aload_n 1, 1) := by decide +kernel
theorem dX4_become_17 : decode cX4_become 17 = .ok (.getfield 15, 3) := by decide +kernel
theorem dX4_become_20 : decode cX4_become 20 = .ok (.putfield 15, 3) := by decide +kernel
theorem dX4_become_23 : decode cX4_become 23 = .ok (.return_, 1) := by decide +kernel
theorem dX4_settle_0 : decode cX4_settle 0 = .ok (.aload_n 0, 1) := by decide +kernel
theorem dX4_settle_1 : decode cX4_settle 1 = .ok (.iconst (-1), 1) := by decide +kernel
theorem dX4_settle_2 : decode cX4_settle 2 = .ok (.putfield 15, 3) := by decide +kernel
theorem dX4_settle_5 : decode cX4_settle 5 = .ok (.iconst 0, 1) := by decide +kernel
theorem dX4_settle_6 : decode cX4_settle 6 = .ok (.istore_n 1, 1) := by decide +kernel
theorem dX4_settle_7 : decode cX4_settle 7 = .ok (.iload_n 1, 1) := by decide +kernel
theorem dX4_settle_8 : decode cX4_settle 8 = .ok (.bipush 13, 2) := by decide +kernel
theorem dX4_settle_10 : decode cX4_settle 10 = .ok (.if_icmp .ge 25, 3) := by decide +kernel
theorem dX4_settle_13 : decode cX4_settle 13 = .ok (.aload_n 0, 1) := by decide +kernel
theorem dX4_settle_14 : decode cX4_settle 14 = .ok (.getfield 9, 3) := by decide +kernel
theorem dX4_settle_17 : decode cX4_settle 17 = .ok (.iload_n 1, 1) := by decide +kernel
theorem dX4_settle_18 : decode cX4_settle 18 = .ok (.laload, 1) := by decide +kernel
theorem dX4_settle_19 : decode cX4_settle 19 = .ok (.lconst 0, 1) := by decide +kernel
theorem dX4_settle_20 : decode cX4_settle 20 = .ok (.lcmp, 1) := by decide +kernel
theorem dX4_settle_21 : decode cX4_settle 21 = .ok (.ifCond .eq 8, 3) := by decide +kernel
theorem dX4_settle_24 : decode cX4_settle 24 = .ok (.aload_n 0, 1) := by decide +kernel
theorem dX4_settle_25 : decode cX4_settle 25 = .ok (.iload_n 1, 1) := by decide +kernel
theorem dX4_settle_26 : decode cX4_settle 26 = .ok (.putfield 15, 3) := by decide +kernel
theorem dX4_settle_29 : decode cX4_settle 29 = .ok (.iinc 1 1, 3) := by decide +kernel
theorem dX4_settle_32 : decode cX4_settle 32 = .ok (.goto (-25), 3) := by decide +kernel
theorem dX4_settle_35 : decode cX4_settle 35 = .ok (.return_, 1) := by decide +kernel
theorem dX4_at_0 : decode cX4_at 0 = .ok (.iload_n 1, 1) := by decide +kernel
theorem dX4_at_1 : decode cX4_at 1 = .ok (.ifCond .lt 9, 3) := by decide +kernel
theorem dX4_at_4 : decode cX4_at 4 = .ok (.iload_n 1, 1) := by decide +kernel
theorem dX4_at_5 : decode cX4_at 5 = .ok (.bipush 13, 2) := by decide +kernel
theorem dX4_at_7 : decode cX4_at 7 = .ok (.if_icmp .lt 7, 3) := by decide +kernel
theorem dX4_at_10 : decode cX4_at 10 = .ok (.lconst 0, 1) := by decide +kernel
theorem dX4_at_11 : decode cX4_at 11 = .ok (.goto 9, 3) := by decide +kernel
theorem dX4_at_14 : decode cX4_at 14 = .ok (.aload_n 0, 1) := by decide +kernel
theorem dX4_at_15 : decode cX4_at 15 = .ok (.getfield 9, 3) := by decide +kernel
theorem dX4_at_18 : decode cX4_at 18 = .ok (.iload_n 1, 1) := by decide +kernel
theorem dX4_at_19 : decode cX4_at 19 = .ok (.laload, 1) := by decide +kernel
theorem dX4_at_20 : decode cX4_at 20 = .ok (.lreturn, 1) := by decide +kernel
set_option maxRecDepth 20000 in
theorem ggX4_lead_X4_at : GoodIn wsX4_lead wsX4_at := goodIn_r _ [6, 7, 8, 9] (by decide +kernel) (by decide +kernel)
set_option maxRecDepth 20000 in
theorem gX4_lead_X4_at : GoodIn wsX4_lead (wsV RX4 28 RX4 yX4_at wsX4_at) := goodIn_app (goodIn_of _ (by decide +kernel)) ggX4_lead_X4_at
theorem dX4_lead_0 : decode cX4_lead 0 = .ok (.aload_n 0, 1) := by decide +kernel
theorem dX4_lead_1 : decode cX4_lead 1 = .ok (.aload_n 0, 1) := by decide +kernel
theorem dX4_lead_2 : decode cX4_lead 2 = .ok (.getfield 15, 3) := by decide +kernel
theorem dX4_lead_5 : decode cX4_lead 5 = .ok (.invokevirtual 28, 3) := by decide +kernel
theorem dX4_lead_8 : decode cX4_lead 8 = .ok (.lreturn, 1) := by decide +kernel
theorem dX4_isWithin_0 : decode cX4_isWithin 0 = .ok (.iconst 0, 1) := by decide +kernel
theorem dX4_isWithin_1 : decode cX4_isWithin 1 = .ok (.istore_n 3, 1) := by decide +kernel
theorem dX4_isWithin_2 : decode cX4_isWithin 2 = .ok (.iload_n 3, 1) := by decide +kernel
theorem dX4_isWithin_3 : decode cX4_isWithin 3 = .ok (.aload_n 0, 1) := by decide +kernel
theorem dX4_isWithin_4 : decode cX4_isWithin 4 = .ok (.getfield 15, 3) := by decide +kernel
theorem dX4_isWithin_7 : decode cX4_isWithin 7 = .ok (.if_icmp .gt 34, 3) := by decide +kernel
theorem dX4_isWithin_10 : decode cX4_isWithin 10 = .ok (.aload_n 0, 1) := by decide +kernel
theorem dX4_isWithin_11 : decode cX4_isWithin 11 = .ok (.getfield 9, 3) := by decide +kernel
theorem dX4_isWithin_14 : decode cX4_isWithin 14 = .ok (.iload_n 3, 1) := by decide +kernel
theorem dX4_isWithin_15 : decode cX4_isWithin 15 = .ok (.laload, 1) := by decide +kernel
theorem dX4_isWithin_16 : decode cX4_isWithin 16 = .ok (.lload_n 1, 1) := by decide +kernel
theorem dX4_isWithin_17 : decode cX4_isWithin 17 = .ok (.lcmp, 1) := by decide +kernel
theorem dX4_isWithin_18 : decode cX4_isWithin 18 = .ok (.ifCond .gt 15, 3) := by decide +kernel
theorem dX4_isWithin_21 : decode cX4_isWithin 21 = .ok (.aload_n 0, 1) := by decide +kernel
theorem dX4_isWithin_22 : decode cX4_isWithin 22 = .ok (.getfield 9, 3) := by decide +kernel
theorem dX4_isWithin_25 : decode cX4_isWithin 25 = .ok (.iload_n 3, 1) := by decide +kernel
theorem dX4_isWithin_26 : decode cX4_isWithin 26 = .ok (.laload, 1) := by decide +kernel
theorem dX4_isWithin_27 : decode cX4_isWithin 27 = .ok (.lload_n 1, 1) := by decide +kernel
theorem dX4_isWithin_28 : decode cX4_isWithin 28 = .ok (.lneg, 1) := by decide +kernel
theorem dX4_isWithin_29 : decode cX4_isWithin 29 = .ok (.lcmp, 1) := by decide +kernel
theorem dX4_isWithin_30 : decode cX4_isWithin 30 = .ok (.ifCond .ge 5, 3) := by decide +kernel
theorem dX4_isWithin_33 : decode cX4_isWithin 33 = .ok (.iconst 0, 1) := by decide +kernel
theorem dX4_isWithin_34 : decode cX4_isWithin 34 = .ok (.ireturn, 1) := by decide +kernel
theorem dX4_isWithin_35 : decode cX4_isWithin 35 = .ok (.iinc 3 1, 3) := by decide +kernel
theorem dX4_isWithin_38 : decode cX4_isWithin 38 = .ok (.goto (-36), 3) := by decide +kernel
theorem dX4_isWithin_41 : decode cX4_isWithin 41 = .ok (.iconst 1, 1) := by decide +kernel
theorem dX4_isWithin_42 : decode cX4_isWithin 42 = .ok (.ireturn, 1) := by decide +kernel
set_option maxRecDepth 20000 in
theorem ggX4_becomeSum_X4_settle : GoodIn wsX4_becomeSum wsX4_settle := goodIn_r _ [6, 7, 1, 8, 9] (by decide +kernel) (by decide +kernel)
set_option maxRecDepth 20000 in
theorem gX4_becomeSum_X4_settle : GoodIn wsX4_becomeSum (wsV RX4 32 RX4 yX4_settle wsX4_settle) := goodIn_app (goodIn_of _ (by decide +kernel)) ggX4_becomeSum_X4_settle
theorem dX4_becomeSum_0 : decode cX4_becomeSum 0 = .ok (.iconst 0, 1) := by decide +kernel
theorem dX4_becomeSum_1 : decode cX4_becomeSum 1 = .ok (.istore 7, 2) := by decide +kernel
theorem dX4_becomeSum_3 : decode cX4_becomeSum 3 = .ok (.iload 7, 2) := by decide +kernel
theorem dX4_becomeSum_5 : decode cX4_becomeSum 5 = .ok (.bipush 13, 2) := by decide +kernel
theorem dX4_becomeSum_7 : decode cX4_becomeSum 7 = .ok (.if_icmp .ge 37, 3) := by decide +kernel
theorem dX4_becomeSum_10 : decode cX4_becomeSum 10 = .ok (.aload_n 0, 1) := by decide +kernel
theorem dX4_becomeSum_11 : decode cX4_becomeSum 11 = .ok (.getfield 9, 3) := by decide +kernel
theorem dX4_becomeSum_14 : decode cX4_becomeSum 14 = .ok (.iload 7, 2) := by decide +kernel
theorem dX4_becomeSum_16 : decode cX4_becomeSum 16 = .ok (.lload_n 2, 1) := by decide +kernel
theorem dX4_becomeSum_17 : decode cX4_becomeSum 17 = .ok (.aload_n 1, 1) := by decide +kernel
theorem dX4_becomeSum_18 : decode cX4_becomeSum 18 = .ok (.getfield 9, 3) := by decide +kernel
theorem dX4_becomeSum_21 : decode cX4_becomeSum 21 = .ok (.iload 7, 2) := by decide +kernel
theorem dX4_becomeSum_23 : decode cX4_becomeSum 23 = .ok (.laload, 1) := by decide +kernel
theorem dX4_becomeSum_24 : decode cX4_becomeSum 24 = .ok (.lmul, 1) := by decide +kernel
theorem dX4_becomeSum_25 : decode cX4_becomeSum 25 = .ok (.lload 5, 2) := by decide +kernel
theorem dX4_becomeSum_27 : decode cX4_becomeSum 27 = .ok (.aload 4, 2) := by decide +kernel
theorem dX4_becomeSum_29 : decode cX4_becomeSum 29 = .ok (.getfield 9, 3) := by decide +kernel
theorem dX4_becomeSum_32 : decode cX4_becomeSum 32 = .ok (.iload 7, 2) := by decide +kernel
theorem dX4_becomeSum_34 : decode cX4_becomeSum 34 = .ok (.laload, 1) := by decide +kernel
theorem dX4_becomeSum_35 : decode cX4_becomeSum 35 = .ok (.lmul, 1) := by decide +kernel
theorem dX4_becomeSum_36 : decode cX4_becomeSum 36 = .ok (.ladd, 1) := by decide +kernel
theorem dX4_becomeSum_37 : decode cX4_becomeSum 37 = .ok (.lastore, 1) := by decide +kernel
theorem dX4_becomeSum_38 : decode cX4_becomeSum 38 = .ok (.iinc 7 1, 3) := by decide +kernel
theorem dX4_becomeSum_41 : decode cX4_becomeSum 41 = .ok (.goto (-38), 3) := by decide +kernel
theorem dX4_becomeSum_44 : decode cX4_becomeSum 44 = .ok (.aload_n 0, 1) := by decide +kernel
theorem dX4_becomeSum_45 : decode cX4_becomeSum 45 = .ok (.invokevirtual 32, 3) := by decide +kernel
theorem dX4_becomeSum_48 : decode cX4_becomeSum 48 = .ok (.return_, 1) := by decide +kernel
set_option maxRecDepth 20000 in
theorem ggX4_becomeProduct_X4_clear : GoodIn wsX4_becomeProduct wsX4_clear := goodIn_r _ [7, 2, 1, 12, 13] (by decide +kernel) (by decide +kernel)
set_option maxRecDepth 20000 in
theorem gX4_becomeProduct_X4_clear : GoodIn wsX4_becomeProduct (wsV RX4 25 RX4 yX4_clear wsX4_clear) := goodIn_app (goodIn_of _ (by decide +kernel)) ggX4_becomeProduct_X4_clear
set_option maxRecDepth 20000 in
theorem ggX4_becomeProduct_X4_settle : GoodIn wsX4_becomeProduct wsX4_settle := goodIn_r _ [11, 1, 2, 12, 13] (by decide +kernel) (by decide +kernel)
set_option maxRecDepth 20000 in
theorem gX4_becomeProduct_X4_settle : GoodIn wsX4_becomeProduct (wsV RX4 32 RX4 yX4_settle wsX4_settle) := goodIn_app (goodIn_of _ (by decide +kernel)) ggX4_becomeProduct_X4_settle
theorem dX4_becomeProduct_0 : decode cX4_becomeProduct 0 = .ok (.aload_n 0, 1) := by decide +kernel
theorem dX4_becomeProduct_1 : decode cX4_becomeProduct 1 = .ok (.invokevirtual 25, 3) := by decide +kernel
theorem dX4_becomeProduct_4 : decode cX4_becomeProduct 4 = .ok (.iconst 0, 1) := by decide +kernel
theorem dX4_becomeProduct_5 : decode cX4_becomeProduct 5 = .ok (.istore_n 3, 1) := by decide +kernel
theorem dX4_becomeProduct_6 : decode cX4_becomeProduct 6 = .ok (.iload_n 3, 1) := by decide +kernel
theorem dX4_becomeProduct_7 : decode cX4_becomeProduct 7 = .ok (.aload_n 1, 1) := by decide +kernel
theorem dX4_becomeProduct_8 : decode cX4_becomeProduct 8 = .ok (.getfield 15, 3) := by decide +kernel
theorem dX4_becomeProduct_11 : decode cX4_becomeProduct 11 = .ok (.if_icmp .gt 62, 3) := by decide +kernel
theorem dX4_becomeProduct_14 : decode cX4_becomeProduct 14 = .ok (.iconst 0, 1) := by decide +kernel
theorem dX4_becomeProduct_15 : decode cX4_becomeProduct 15 = .ok (.istore 4, 2) := by decide +kernel
theorem dX4_becomeProduct_17 : decode cX4_becomeProduct 17 = .ok (.iload 4, 2) := by decide +kernel
theorem dX4_becomeProduct_19 : decode cX4_becomeProduct 19 = .ok (.aload_n 2, 1) := by decide +kernel
theorem dX4_becomeProduct_20 : decode cX4_becomeProduct 20 = .ok (.getfield 15, 3) := by decide +kernel
theorem dX4_becomeProduct_23 : decode cX4_becomeProduct 23 = .ok (.if_icmp .gt 44, 3) := by decide +kernel
theorem dX4_becomeProduct_26 : decode cX4_becomeProduct 26 = .ok (.iload_n 3, 1) := by decide +kernel
theorem dX4_becomeProduct_27 : decode cX4_becomeProduct 27 = .ok (.iload 4, 2) := by decide +kernel
theorem dX4_becomeProduct_29 : decode cX4_becomeProduct 29 = .ok (.iadd, 1) := by decide +kernel
theorem dX4_becomeProduct_30 : decode cX4_becomeProduct 30 = .ok (.bipush 13, 2) := by decide +kernel
theorem dX4_becomeProduct_32 : decode cX4_becomeProduct 32 = .ok (.if_icmp .ge 35, 3) := by decide +kernel
theorem dX4_becomeProduct_35 : decode cX4_becomeProduct 35 = .ok (.aload_n 0, 1) := by decide +kernel
theorem dX4_becomeProduct_36 : decode cX4_becomeProduct 36 = .ok (.getfield 9, 3) := by decide +kernel
theorem dX4_becomeProduct_39 : decode cX4_becomeProduct 39 = .ok (.iload_n 3, 1) := by decide +kernel
theorem dX4_becomeProduct_40 : decode cX4_becomeProduct 40 = .ok (.iload 4, 2) := by decide +kernel
theorem dX4_becomeProduct_42 : decode cX4_becomeProduct 42 = .ok (.iadd, 1) := by decide +kernel
theorem dX4_becomeProduct_43 : decode cX4_becomeProduct 43 = .ok (.dup2, 1) := by decide +kernel
theorem dX4_becomeProduct_44 : decode cX4_becomeProduct 44 = .ok (.laload, 1) := by decide +kernel
theorem dX4_becomeProduct_45 : decode cX4_becomeProduct 45 = .ok (.aload_n 1, 1) := by decide +kernel
theorem dX4_becomeProduct_46 : decode cX4_becomeProduct 46 = .ok (.getfield 9, 3) := by decide +kernel
theorem dX4_becomeProduct_49 : decode cX4_becomeProduct 49 = .ok (.iload_n 3, 1) := by decide +kernel
theorem dX4_becomeProduct_50 : decode cX4_becomeProduct 50 = .ok (.laload, 1) := by decide +kernel
theorem dX4_becomeProduct_51 : decode cX4_becomeProduct 51 = .ok (.aload_n 2, 1) := by decide +kernel
theorem dX4_becomeProduct_52 : decode cX4_becomeProduct 52 = .ok (.getfield 9, 3) := by decide +kernel
theorem dX4_becomeProduct_55 : decode cX4_becomeProduct 55 = .ok (.iload 4, 2) := by decide +kernel
theorem dX4_becomeProduct_57 : decode cX4_becomeProduct 57 = .ok (.laload, 1) := by decide +kernel
theorem dX4_becomeProduct_58 : decode cX4_becomeProduct 58 = .ok (.lmul, 1) := by decide +kernel
theorem dX4_becomeProduct_59 : decode cX4_becomeProduct 59 = .ok (.ladd, 1) := by decide +kernel
theorem dX4_becomeProduct_60 : decode cX4_becomeProduct 60 = .ok (.lastore, 1) := by decide +kernel
theorem dX4_becomeProduct_61 : decode cX4_becomeProduct 61 = .ok (.iinc 4 1, 3) := by decide +kernel
theorem dX4_becomeProduct_64 : decode cX4_becomeProduct 64 = .ok (.goto (-47), 3) := by decide +kernel
theorem dX4_becomeProduct_67 : decode cX4_becomeProduct 67 = .ok (.iinc 3 1, 3) := by decide +kernel
theorem dX4_becomeProduct_70 : decode cX4_becomeProduct 70 = .ok (.goto (-64), 3) := by decide +kernel
theorem dX4_becomeProduct_73 : decode cX4_becomeProduct 73 = .ok (.aload_n 0, 1) := by decide +kernel
theorem dX4_becomeProduct_74 : decode cX4_becomeProduct 74 = .ok (.invokevirtual 32, 3) := by decide +kernel
theorem dX4_becomeProduct_77 : decode cX4_becomeProduct 77 = .ok (.return_, 1) := by decide +kernel
set_option maxRecDepth 20000 in
theorem ggX4_becomeSlope_X4_clear : GoodIn wsX4_becomeSlope wsX4_clear := goodIn_r _ [7, 2, 1, 12, 13] (by decide +kernel) (by decide +kernel)
set_option maxRecDepth 20000 in
theorem gX4_becomeSlope_X4_clear : GoodIn wsX4_becomeSlope (wsV RX4 25 RX4 yX4_clear wsX4_clear) := goodIn_app (goodIn_of _ (by decide +kernel)) ggX4_becomeSlope_X4_clear
set_option maxRecDepth 20000 in
theorem ggX4_becomeSlope_X4_settle : GoodIn wsX4_becomeSlope wsX4_settle := goodIn_r _ [11, 1, 2, 12, 13] (by decide +kernel) (by decide +kernel)
set_option maxRecDepth 20000 in
theorem gX4_becomeSlope_X4_settle : GoodIn wsX4_becomeSlope (wsV RX4 32 RX4 yX4_settle wsX4_settle) := goodIn_app (goodIn_of _ (by decide +kernel)) ggX4_becomeSlope_X4_settle
theorem dX4_becomeSlope_0 : decode cX4_becomeSlope 0 = .ok (.aload_n 0, 1) := by decide +kernel
theorem dX4_becomeSlope_1 : decode cX4_becomeSlope 1 = .ok (.invokevirtual 25, 3) := by decide +kernel
theorem dX4_becomeSlope_4 : decode cX4_becomeSlope 4 = .ok (.iconst 1, 1) := by decide +kernel
theorem dX4_becomeSlope_5 : decode cX4_becomeSlope 5 = .ok (.istore_n 2, 1) := by decide +kernel
theorem dX4_becomeSlope_6 : decode cX4_becomeSlope 6 = .ok (.iload_n 2, 1) := by decide +kernel
theorem dX4_becomeSlope_7 : decode cX4_becomeSlope 7 = .ok (.aload_n 1, 1) := by decide +kernel
theorem dX4_becomeSlope_8 : decode cX4_becomeSlope 8 = .ok (.getfield 15, 3) := by decide +kernel
theorem dX4_becomeSlope_11 : decode cX4_becomeSlope 11 = .ok (.if_icmp .gt 26, 3) := by decide +kernel
theorem dX4_becomeSlope_14 : decode cX4_becomeSlope 14 = .ok (.aload_n 0, 1) := by decide +kernel
theorem dX4_becomeSlope_15 : decode cX4_becomeSlope 15 = .ok (.getfield 9, 3) := by decide +kernel
theorem dX4_becomeSlope_18 : decode cX4_becomeSlope 18 = .ok (.iload_n 2, 1) := by decide +kernel
theorem dX4_becomeSlope_19 : decode cX4_becomeSlope 19 = .ok (.iconst 1, 1) := by decide +kernel
theorem dX4_becomeSlope_20 : decode cX4_becomeSlope 20 = .ok (.isub, 1) := by decide +kernel
theorem dX4_becomeSlope_21 : decode cX4_becomeSlope 21 = .ok (.iload_n 2, 1) := by decide +kernel
theorem dX4_becomeSlope_22 : decode cX4_becomeSlope 22 = .ok (.i2l, 1) := by decide +kernel
theorem dX4_becomeSlope_23 : decode cX4_becomeSlope 23 = .ok (.aload_n 1, 1) := by decide +kernel
theorem dX4_becomeSlope_24 : decode cX4_becomeSlope 24 = .ok (.getfield 9, 3) := by decide +kernel
theorem dX4_becomeSlope_27 : decode cX4_becomeSlope 27 = .ok (.iload_n 2, 1) := by decide +kernel
theorem dX4_becomeSlope_28 : decode cX4_becomeSlope 28 = .ok (.laload, 1) := by decide +kernel
theorem dX4_becomeSlope_29 : decode cX4_becomeSlope 29 = .ok (.lmul, 1) := by decide +kernel
theorem dX4_becomeSlope_30 : decode cX4_becomeSlope 30 = .ok (.lastore, 1) := by decide +kernel
theorem dX4_becomeSlope_31 : decode cX4_becomeSlope 31 = .ok (.iinc 2 1, 3) := by decide +kernel
theorem dX4_becomeSlope_34 : decode cX4_becomeSlope 34 = .ok (.goto (-28), 3) := by decide +kernel
theorem dX4_becomeSlope_37 : decode cX4_becomeSlope 37 = .ok (.aload_n 0, 1) := by decide +kernel
theorem dX4_becomeSlope_38 : decode cX4_becomeSlope 38 = .ok (.invokevirtual 32, 3) := by decide +kernel
theorem dX4_becomeSlope_41 : decode cX4_becomeSlope 41 = .ok (.return_, 1) := by decide +kernel
set_option maxRecDepth 20000 in
theorem ggX4_signedMeasure_X4_lead : GoodIn wsX4_signedMeasure wsX4_lead := goodIn_r _ [14, 1, 15, 16, 17, 13, 18, 2, 19, 20] (by decide +kernel) (by decide +kernel)
set_option maxRecDepth 20000 in
theorem gX4_signedMeasure_X4_lead : GoodIn wsX4_signedMeasure (wsV RX4 39 RX4 yX4_lead wsX4_lead) := goodIn_app (goodIn_of _ (by decide +kernel)) ggX4_signedMeasure_X4_lead
theorem dX4_signedMeasure_0 : decode cX4_signedMeasure 0 = .ok (.lconst 0, 1) := by decide +kernel
theorem dX4_signedMeasure_1 : decode cX4_signedMeasure 1 = .ok (.lstore_n 1, 1) := by decide +kernel
theorem dX4_signedMeasure_2 : decode cX4_signedMeasure 2 = .ok (.iconst 0, 1) := by decide +kernel
theorem dX4_signedMeasure_3 : decode cX4_signedMeasure 3 = .ok (.istore_n 3, 1) := by decide +kernel
theorem dX4_signedMeasure_4 : decode cX4_signedMeasure 4 = .ok (.iload_n 3, 1) := by decide +kernel
theorem dX4_signedMeasure_5 : decode cX4_signedMeasure 5 = .ok (.aload_n 0, 1) := by decide +kernel
theorem dX4_signedMeasure_6 : decode cX4_signedMeasure 6 = .ok (.getfield 15, 3) := by decide +kernel
theorem dX4_signedMeasure_9 : decode cX4_signedMeasure 9 = .ok (.if_icmp .gt 20, 3) := by decide +kernel
theorem dX4_signedMeasure_12 : decode cX4_signedMeasure 12 = .ok (.lload_n 1, 1) := by decide +kernel
theorem dX4_signedMeasure_13 : decode cX4_signedMeasure 13 = .ok (.aload_n 0, 1) := by decide +kernel
theorem dX4_signedMeasure_14 : decode cX4_signedMeasure 14 = .ok (.getfield 9, 3) := by decide +kernel
theorem dX4_signedMeasure_17 : decode cX4_signedMeasure 17 = .ok (.iload_n 3, 1) := by decide +kernel
theorem dX4_signedMeasure_18 : decode cX4_signedMeasure 18 = .ok (.laload, 1) := by decide +kernel
theorem dX4_signedMeasure_19 : decode cX4_signedMeasure 19 = .ok (.invokestatic 51, 3) := by decide +kernel
theorem dX4_signedMeasure_22 : decode cX4_signedMeasure 22 = .ok (.lstore_n 1, 1) := by decide +kernel
theorem dX4_signedMeasure_23 : decode cX4_signedMeasure 23 = .ok (.iinc 3 1, 3) := by decide +kernel
theorem dX4_signedMeasure_26 : decode cX4_signedMeasure 26 = .ok (.goto (-22), 3) := by decide +kernel
theorem dX4_signedMeasure_29 : decode cX4_signedMeasure 29 = .ok (.aload_n 0, 1) := by decide +kernel
theorem dX4_signedMeasure_30 : decode cX4_signedMeasure 30 = .ok (.invokevirtual 39, 3) := by decide +kernel
theorem dX4_signedMeasure_33 : decode cX4_signedMeasure 33 = .ok (.lconst 0, 1) := by decide +kernel
theorem dX4_signedMeasure_34 : decode cX4_signedMeasure 34 = .ok (.lcmp, 1) := by decide +kernel
theorem dX4_signedMeasure_35 : decode cX4_signedMeasure 35 = .ok (.ifCond .ge 8, 3) := by decide +kernel
theorem dX4_signedMeasure_38 : decode cX4_signedMeasure 38 = .ok (.lload_n 1, 1) := by decide +kernel
theorem dX4_signedMeasure_39 : decode cX4_signedMeasure 39 = .ok (.lneg, 1) := by decide +kernel
theorem dX4_signedMeasure_40 : decode cX4_signedMeasure 40 = .ok (.goto 4, 3) := by decide +kernel
theorem dX4_signedMeasure_43 : decode cX4_signedMeasure 43 = .ok (.lload_n 1, 1) := by decide +kernel
theorem dX4_signedMeasure_44 : decode cX4_signedMeasure 44 = .ok (.lreturn, 1) := by decide +kernel
set_option maxRecDepth 20000 in
theorem ggX4_makePrimitive_X4_signedMeasure : GoodIn wsX4_makePrimitive wsX4_signedMeasure := goodIn_r _ [7, 1, 2, 8, 9, 10, 11, 12, 13, 14, 15, 16, 17, 6, 18, 19, 20, 21, 22, 23, 24] (by decide +kernel) (by decide +kernel)
set_option maxRecDepth 20000 in
theorem gX4_makePrimitive_X4_signedMeasure : GoodIn wsX4_makePrimitive (wsV RX4 55 RX4 yX4_signedMeasure wsX4_signedMeasure) := goodIn_app (goodIn_of _ (by decide +kernel)) ggX4_makePrimitive_X4_signedMeasure
theorem dX4_makePrimitive_0 : decode cX4_makePrimitive 0 = .ok (.aload_n 0, 1) := by decide +kernel
theorem dX4_makePrimitive_1 : decode cX4_makePrimitive 1 = .ok (.invokevirtual 55, 3) := by decide +kernel
theorem dX4_makePrimitive_4 : decode cX4_makePrimitive 4 = .ok (.lstore_n 1, 1) := by decide +kernel
theorem dX4_makePrimitive_5 : decode cX4_makePrimitive 5 = .ok (.lload_n 1, 1) := by decide +kernel
theorem dX4_makePrimitive_6 : decode cX4_makePrimitive 6 = .ok (.lconst 0, 1) := by decide +kernel
theorem dX4_makePrimitive_7 : decode cX4_makePrimitive 7 = .ok (.lcmp, 1) := by decide +kernel
theorem dX4_makePrimitive_8 : decode cX4_makePrimitive 8 = .ok (.ifCond .ne 4, 3) := by decide +kernel
theorem dX4_makePrimitive_11 : decode cX4_makePrimitive 11 = .ok (.return_, 1) := by decide +kernel
theorem dX4_makePrimitive_12 : decode cX4_makePrimitive 12 = .ok (.iconst 0, 1) := by decide +kernel
theorem dX4_makePrimitive_13 : decode cX4_makePrimitive 13 = .ok (.istore_n 3, 1) := by decide +kernel
theorem dX4_makePrimitive_14 : decode cX4_makePrimitive 14 = .ok (.iload_n 3, 1) := by decide +kernel
theorem dX4_makePrimitive_15 : decode cX4_makePrimitive 15 = .ok (.aload_n 0, 1) := by decide +kernel
theorem dX4_makePrimitive_16 : decode cX4_makePrimitive 16 = .ok (.getfield 15, 3) := by decide +kernel
theorem dX4_makePrimitive_19 : decode cX4_makePrimitive 19 = .ok (.if_icmp .gt 19, 3) := by decide +kernel
theorem dX4_makePrimitive_22 : decode cX4_makePrimitive 22 = .ok (.aload_n 0, 1) := by decide +kernel
theorem dX4_makePrimitive_23 : decode cX4_makePrimitive 23 = .ok (.getfield 9, 3) := by decide +kernel
theorem dX4_makePrimitive_26 : decode cX4_makePrimitive 26 = .ok (.iload_n 3, 1) := by decide +kernel
theorem dX4_makePrimitive_27 : decode cX4_makePrimitive 27 = .ok (.dup2, 1) := by decide +kernel
theorem dX4_makePrimitive_28 : decode cX4_makePrimitive 28 = .ok (.laload, 1) := by decide +kernel
theorem dX4_makePrimitive_29 : decode cX4_makePrimitive 29 = .ok (.lload_n 1, 1) := by decide +kernel
theorem dX4_makePrimitive_30 : decode cX4_makePrimitive 30 = .ok (.ldiv, 1) := by decide +kernel
theorem dX4_makePrimitive_31 : decode cX4_makePrimitive 31 = .ok (.lastore, 1) := by decide +kernel
theorem dX4_makePrimitive_32 : decode cX4_makePrimitive 32 = .ok (.iinc 3 1, 3) := by decide +kernel
theorem dX4_makePrimitive_35 : decode cX4_makePrimitive 35 = .ok (.goto (-21), 3) := by decide +kernel
theorem dX4_makePrimitive_38 : decode cX4_makePrimitive 38 = .ok (.return_, 1) := by decide +kernel
