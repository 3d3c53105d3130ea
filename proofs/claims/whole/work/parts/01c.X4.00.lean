theorem dX4_init_0 : decode cX4_init 0 = .ok (.aload_n 0, 1) := by decide +kernel
theorem dX4_init_1 : decode cX4_init 1 = .ok (.invokespecial 3, 3) := by decide +kernel
theorem dX4_init_4 : decode cX4_init 4 = .ok (.aload_n 0, 1) := by decide +kernel
theorem dX4_init_5 : decode cX4_init 5 = .ok (.bipush 13, 2) := by decide +kernel
theorem dX4_init_7 : decode cX4_init 7 = .ok (.newarray .long, 2) := by decide +kernel
theorem dX4_init_9 : decode cX4_init 9 = .ok (.putfield 9, 3) := by decide +kernel
theorem dX4_init_12 : decode cX4_init 12 = .ok (.aload_n 0, 1) := by decide +kernel
theorem dX4_init_13 : decode cX4_init 13 = .ok (.iconst (-1), 1) := by decide +kernel
theorem dX4_init_14 : decode cX4_init 14 = .ok (.putfield 15, 3) := by decide +kernel
theorem dX4_init_17 : decode cX4_init 17 = .ok (.return_, 1) := by decide +kernel
theorem dX4_clear_0 : decode cX4_clear 0 = .ok (.iconst 0, 1) := by decide +kernel
theorem dX4_clear_1 : decode cX4_clear 1 = .ok (.istore_n 1, 1) := by decide +kernel
theorem dX4_clear_2 : decode cX4_clear 2 = .ok (.iload_n 1, 1) := by decide +kernel
theorem dX4_clear_3 : decode cX4_clear 3 = .ok (.bipush 13, 2) := by decide +kernel
theorem dX4_clear_5 : decode cX4_clear 5 = .ok (.if_icmp .ge 16, 3) := by decide +kernel
theorem dX4_clear_8 : decode cX4_clear 8 = .ok (.aload_n 0, 1) := by decide +kernel
theorem dX4_clear_9 : decode cX4_clear 9 = .ok (.getfield 9, 3) := by decide +kernel
theorem dX4_clear_12 : decode cX4_clear 12 = .ok (.iload_n 1, 1) := by decide +kernel
theorem dX4_clear_13 : decode cX4_clear 13 = .ok (.lconst 0, 1) := by decide +kernel
theorem dX4_clear_14 : decode cX4_clear 14 = .ok (.lastore, 1) := by decide +kernel
theorem dX4_clear_15 : decode cX4_clear 15 = .ok (.iinc 1 1, 3) := by decide +kernel
theorem dX4_clear_18 : decode cX4_clear 18 = .ok (.goto (-16), 3) := by decide +kernel
theorem dX4_clear_21 : decode cX4_clear 21 = .ok (.aload_n 0, 1) := by decide +kernel
theorem dX4_clear_22 : decode cX4_clear 22 = .ok (.iconst (-1), 1) := by decide +kernel
theorem dX4_clear_23 : decode cX4_clear 23 = .ok (.putfield 15, 3) := by decide +kernel
theorem dX4_clear_26 : decode cX4_clear 26 = .ok (.return_, 1) := by decide +kernel
theorem dX4_become_0 : decode cX4_become 0 = .ok (.aload_n 1, 1) := by decide +kernel
theorem dX4_become_1 : decode cX4_become 1 = .ok (.getfield 9, 3) := by decide +kernel
theorem dX4_become_4 : decode cX4_become 4 = .ok (.iconst 0, 1) := by decide +kernel
theorem dX4_become_5 : decode cX4_become 5 = .ok (.aload_n 0, 1) := by decide +kernel
theorem dX4_become_6 : decode cX4_become 6 = .ok (.getfield 9, 3) := by decide +kernel
theorem dX4_become_9 : decode cX4_become 9 = .ok (.iconst 0, 1) := by decide +kernel
theorem dX4_become_10 : decode cX4_become 10 = .ok (.bipush 13, 2) := by decide +kernel
theorem dX4_become_12 : decode cX4_become 12 = .ok (.invokestatic 19, 3) := by decide +kernel
theorem dX4_become_15 : decode cX4_become 15 = .ok (.aload_n 0, 1) := by decide +kernel
theorem dX4_become_16 : decode cX4_become 16 = .ok (.aload_n 1, 1) := by decide +kernel
theorem dX4_become_17 : decode cX4_become 17 = .ok (.getfield 15, 3) := by decide +kernel
theorem dX4_become_20 : decode cX4_become 20 = .ok (.putfield 15, 3) := by decide +kernel
theorem dX4_become_23 : decode cX4_become 23 = .ok (.return_, 1) := by decide +kernel
set_option maxRecDepth 20000 in
theorem ggX4_becomeNumber_X4_clear : GoodIn wsX4_becomeNumber wsX4_clear := goodIn_r _ [7, 1, 2, 8, 9] (by decide +kernel) (by decide +kernel)
set_option maxRecDepth 20000 in
theorem gX4_becomeNumber_X4_clear : GoodIn wsX4_becomeNumber (wsV RX4 25 RX4 yX4_clear wsX4_clear) := goodIn_app (goodIn_of _ (by decide +kernel)) ggX4_becomeNumber_X4_clear
theorem dX4_becomeNumber_0 : decode cX4_becomeNumber 0 = .ok (.aload_n 0, 1) := by decide +kernel
theorem dX4_becomeNumber_1 : decode cX4_becomeNumber 1 = .ok (.invokevirtual 25, 3) := by decide +kernel
theorem dX4_becomeNumber_4 : decode cX4_becomeNumber 4 = .ok (.aload_n 0, 1) := by decide +kernel
theorem dX4_becomeNumber_5 : decode cX4_becomeNumber 5 = .ok (.getfield 9, 3) := by decide +kernel
theorem dX4_becomeNumber_8 : decode cX4_becomeNumber 8 = .ok (.iconst 0, 1) := by decide +kernel
theorem dX4_becomeNumber_9 : decode cX4_becomeNumber 9 = .ok (.lload_n 1, 1) := by decide +kernel
theorem dX4_becomeNumber_10 : decode cX4_becomeNumber 10 = .ok (.lastore, 1) := by decide +kernel
theorem dX4_becomeNumber_11 : decode cX4_becomeNumber 11 = .ok (.aload_n 0, 1) := by decide +kernel
theorem dX4_becomeNumber_12 : decode cX4_becomeNumber 12 = .ok (.lload_n 1, 1) := by decide +kernel
theorem dX4_becomeNumber_13 : decode cX4_becomeNumber 13 = .ok (.lconst 0, 1) := by decide +kernel
theorem dX4_becomeNumber_14 : decode cX4_becomeNumber 14 = .ok (.lcmp, 1) := by decide +kernel
theorem dX4_becomeNumber_15 : decode cX4_becomeNumber 15 = .ok (.ifCond .ne 7, 3) := by decide +kernel
theorem dX4_becomeNumber_18 : decode cX4_becomeNumber 18 = .ok (.iconst (-1), 1) := by decide +kernel
theorem dX4_becomeNumber_19 : decode cX4_becomeNumber 19 = .ok (.goto 4, 3) := by decide +kernel
theorem dX4_becomeNumber_22 : decode cX4_becomeNumber 22 = .ok (.iconst 0, 1) := by decide +kernel
theorem dX4_becomeNumber_23 : decode cX4_becomeNumber 23 = .ok (.putfield 15, 3) := by decide +kernel
theorem dX4_becomeNumber_26 : decode cX4_becomeNumber 26 = .ok (.return_, 1) := by decide +kernel
set_option maxRecDepth 20000 in
theorem ggX4_becomeLine_X4_clear : GoodIn wsX4_becomeLine wsX4_clear := goodIn_r _ [7, 1, 2, 8, 9] (by decide +kernel) (by decide +kernel)
set_option maxRecDepth 20000 in
theorem gX4_becomeLine_X4_clear : GoodIn wsX4_becomeLine (wsV RX4 25 RX4 yX4_clear wsX4_clear) := goodIn_app (goodIn_of _ (by decide +kernel)) ggX4_becomeLine_X4_clear
theorem dX4_becomeLine_0 : decode cX4_becomeLine 0 = .ok (.aload_n 0, 1) := by decide +kernel
theorem dX4_becomeLine_1 : decode cX4_becomeLine 1 = .ok (.invokevirtual 25, 3) := by decide +kernel
theorem dX4_becomeLine_4 : decode cX4_becomeLine 4 = .ok (.aload_n 0, 1) := by decide +kernel
theorem dX4_becomeLine_5 : decode cX4_becomeLine 5 = .ok (.getfield 9, 3) := by decide +kernel
theorem dX4_becomeLine_8 : decode cX4_becomeLine 8 = .ok (.iconst 0, 1) := by decide +kernel
theorem dX4_becomeLine_9 : decode cX4_becomeLine 9 = .ok (.lload_n 1, 1) := by decide +kernel
theorem dX4_becomeLine_10 : decode cX4_becomeLine 10 = .ok (.lastore, 1) := by decide +kernel
theorem dX4_becomeLine_11 : decode cX4_becomeLine 11 = .ok (.aload_n 0, 1) := by decide +kernel
theorem dX4_becomeLine_12 : decode cX4_becomeLine 12 = .ok (.getfield 9, 3) := by decide +kernel
theorem dX4_becomeLine_15 : decode cX4_becomeLine 15 = .ok (.iconst 1, 1) := by decide +kernel
theorem dX4_becomeLine_16 : decode cX4_becomeLine 16 = .ok (.lconst 1, 1) := by decide +kernel
theorem dX4_becomeLine_17 : decode cX4_becomeLine 17 = .ok (.lastore, 1) := by decide +kernel
theorem dX4_becomeLine_18 : decode cX4_becomeLine 18 = .ok (.aload_n 0, 1) := by decide +kernel
theorem dX4_becomeLine_19 : decode cX4_becomeLine 19 = .ok (.iconst 1, 1) := by decide +kernel
theorem dX4_becomeLine_20 : decode cX4_becomeLine 20 = .ok (.putfield 15, 3) := by decide +kernel
theorem dX4_becomeLine_23 : decode cX4_becomeLine 23 = .ok (.return_, 1) := by decide +kernel
theorem dX4_settle_0 : decode cX4_settle 0 = .ok (.aload_n 0, 1) := by decide +kernel
theorem dX4_settle_1 : decode cX4_settle 1 = .ok (.iconst (-1), 1) := by decide +kernel
theorem dX4_settle_2 : decode cX4_settle 2 = .ok (.putfield 15, 3) := by decide +kernel
theorem dX4_settle_5 : decode cX4_settle 5 = .ok (.iconst 0, 1) := by decide +kernel
theorem dX4_settle_6 : decode cX4_settle 6 = .ok (.istore_n 1, 1) := by decide +kernel
theorem dX4_settle_7 : decode cX4_settle 7 = .ok (.iload_n 1, 1) := by decide +kernel
theorem dX4_settle_8 : decode cX4_settle 8 = .ok (.bipush 13, 2) := by decide +kernel
theorem dX4_settle_10 : decode cX4_settle 10 = .ok (.if_icmp .ge 25, 3) := by decide +kernel
theorem dX4_settle_13 : decode cX4_settle 13 = .ok (.aload_n 0, 1) := by decide +kernel
theorem dX4_settle_14 : decode cX4_settle 14 = .ok (.getfield 9, 3) := by decide +kernel
theorem dX4_settle_17 : decode cX4_settle 17 = .ok (.iload_n 1, 1) := by decide +kernel
theorem dX4_settle_18 : decode cX4_settle 18 = .ok (.laload, 1) := by decide +kernel
theorem dX4_settle_19 : decode cX4_settle 19 = .ok (.lconst 0, 1) := by decide +kernel
theorem dX4_settle_20 : decode cX4_settle 20 = .ok (.lcmp, 1) := by decide +kernel
theorem dX4_settle_21 : decode cX4_settle 21 = .ok (.ifCond .eq 8, 3) := by decide +kernel
theorem dX4_settle_24 : decode cX4_settle 24 = .ok (.aload_n 0, 1) := by decide +kernel
theorem dX4_settle_25 : decode cX4_settle 25 = .ok (.iload_n 1, 1) := by decide +kernel
theorem dX4_settle_26 : decode cX4_settle 26 = .ok (.putfield 15, 3) := by decide +kernel
theorem dX4_settle_29 : decode cX4_settle 29 = .ok (.iinc 1 1, 3) := by decide +kernel
theorem dX4_settle_32 : decode cX4_settle 32 = .ok (.goto (-25), 3) := by decide +kernel
theorem dX4_settle_35 : decode cX4_settle 35 = .ok (.return_, 1) := by decide +kernel
theorem dX4_at_0 : decode cX4_at 0 = .ok (.iload_n 1, 1) := by decide +kernel
theorem dX4_at_1 : decode cX4_at 1 = .ok (.ifCond .lt 9, 3) := by decide +kernel
theorem dX4_at_4 : decode cX4_at 4 = .ok (.iload_n 1, 1) := by decide +kernel
theorem dX4_at_5 : decode cX4_at 5 = .ok (.bipush 13, 2) := by decide +kernel
theorem dX4_at_7 : decode cX4_at 7 = .ok (.if_icmp .lt 7, 3) := by decide +kernel
theorem dX4_at_10 : decode cX4_at 10 = .ok (.lconst 0, 1) := by decide +kernel
theorem dX4_at_11 : decode cX4_at 11 = .ok (.goto 9, 3) := by decide +kernel
theorem dX4_at_14 : decode cX4_at 14 = .ok (.aload_n 0, 1) := by decide +kernel
theorem dX4_at_15 : decode cX4_at 15 = .ok (.getfield 9, 3) := by decide +kernel
theorem dX4_at_18 : decode cX4_at 18 = .ok (.iload_n 1, 1) := by decide +kernel
theorem dX4_at_19 : decode cX4_at 19 = .ok (.laload, 1) := by decide +kernel
theorem dX4_at_20 : decode cX4_at 20 = .ok (.lreturn, 1) := by decide +kernel
set_option maxRecDepth 20000 in
theorem ggX4_lead_X4_at : GoodIn wsX4_lead wsX4_at := goodIn_r _ [6, 7, 8, 9] (by decide +kernel) (by decide +kernel)
set_option maxRecDepth 20000 in
theorem gX4_lead_X4_at : GoodIn wsX4_lead (wsV RX4 28 RX4 yX4_at wsX4_at) := goodIn_app (goodIn_of _ (by decide +kernel)) ggX4_lead_X4_at
theorem dX4_lead_0 : decode cX4_lead 0 = .ok (.aload_n 0, 1) := by decide +kernel
theorem dX4_lead_1 : decode cX4_lead 1 = .ok (.aload_n 0, 1) := by decide +kernel
theorem dX4_lead_2 : decode cX4_lead 2 = .ok (.getfield 15, 3) := by decide +kernel
theorem dX4_lead_5 : decode cX4_lead 5 = .ok (.invokevirtual 28, 3) := by decide +kernel
theorem dX4_lead_8 : decode cX4_lead 8 = .ok (.lreturn, 1) := by decide +kernel
theorem dX4_isWithin_0 : decode cX4_isWithin 0 = .ok (.iconst 0, 1) := by decide +kernel
theorem dX4_isWithin_1 : decode cX4_isWithin 1 = .ok (.istore_n 3, 1) := by decide +kernel
theorem dX4_isWithin_2 : decode cX4_isWithin 2 = .ok (.iload_n 3, 1) := by decide +kernel
theorem dX4_isWithin_3 : decode cX4_isWithin 3 = .ok (.aload_n 0, 1) := by decide +kernel
theorem dX4_isWithin_4 : decode cX4_isWithin 4 = .ok (.getfield 15, 3) := by decide +kernel
theorem dX4_isWithin_7 : decode cX4_isWithin 7 = .ok (.if_icmp .gt 34, 3) := by decide +kernel
theorem dX4_isWithin_10 : decode cX4_isWithin 10 = .ok (.aload_n 0, 1) := by decide +kernel
theorem dX4_isWithin_11 : decode cX4_isWithin 11 = .ok (.getfield 9, 3) := by decide +kernel
theorem dX4_isWithin_14 : decode cX4_isWithin 14 = .ok (.iload_n 3, 1) := by decide +kernel
theorem dX4_isWithin_15 : decode cX4_isWithin 15 = .ok (.laload, 1) := by decide +kernel
theorem dX4_isWithin_16 : decode cX4_isWithin 16 = .ok (.lload_n 1, 1) := by decide +kernel
theorem dX4_isWithin_17 : decode cX4_isWithin 17 = .ok (.lcmp, 1) := by decide +kernel
theorem dX4_isWithin_18 : decode cX4_isWithin 18 = .ok (.ifCond .gt 15, 3) := by decide +kernel
theorem dX4_isWithin_21 : decode cX4_isWithin 21 = .ok (.aload_n 0, 1) := by decide +kernel
theorem dX4_isWithin_22 : decode cX4_isWithin 22 = .ok (.getfield 9, 3) := by decide +kernel
theorem dX4_isWithin_25 : decode cX4_isWithin 25 = .ok (.iload_n 3, 1) := by decide +kernel
theorem dX4_isWithin_26 : decode cX4_isWithin 26 = .ok (.laload, 1) := by decide +kernel
theorem dX4_isWithin_27 : decode cX4_isWithin 27 = .ok (.lload_n 1, 1) := by decide +kernel
theorem dX4_isWithin_28 : decode cX4_isWithin 28 = .ok (.lneg, 1) := by decide +kernel
theorem dX4_isWithin_29 : decode cX4_isWithin 29 = .ok (.lcmp, 1) := by decide +kernel
theorem dX4_isWithin_30 : decode cX4_isWithin 30 = .ok (.ifCond .ge 5, 3) := by decide +kernel
theorem dX4_isWithin_33 : decode cX4_isWithin 33 = .ok (.iconst 0, 1) := by decide +kernel
theorem dX4_isWithin_34 : decode cX4_isWithin 34 = .ok (.ireturn, 1) := by decide +kernel
theorem dX4_isWithin_35 : decode cX4_isWithin 35 = .ok (.iinc 3 1, 3) := by decide +kernel
theorem dX4_isWithin_38 : decode cX4_isWithin 38 = .ok (.goto (-36), 3) := by decide +kernel
theorem dX4_isWithin_41 : decode cX4_isWithin 41 = .ok (.iconst 1, 1) := by decide +kernel
theorem dX4_isWithin_42 : decode cX4_isWithin 42 = .ok (.ireturn, 1) := by decide +kernel
set_option maxRecDepth 20000 in
theorem ggX4_becomeSum_X4_settle : GoodIn wsX4_becomeSum wsX4_settle := goodIn_r _ [6, 7, 1, 8, 9] (by decide +kernel) (by decide +kernel)
set_option maxRecDepth 20000 in
theorem gX4_becomeSum_X4_settle : GoodIn wsX4_becomeSum (wsV RX4 32 RX4 yX4_settle wsX4_settle) := goodIn_app (goodIn_of _ (by decide +kernel)) ggX4_becomeSum_X4_settle
theorem dX4_becomeSum_0 : decode cX4_becomeSum 0 = .ok (.iconst 0, 1) := by decide +kernel
theorem dX4_becomeSum_1 : decode cX4_becomeSum 1 = .ok (.istore 7, 2) := by decide +kernel
theorem dX4_becomeSum_3 : decode cX4_becomeSum 3 = .ok (.iload 7, 2) := by decide +kernel
theorem dX4_becomeSum_5 : decode cX4_becomeSum 5 = .ok (.bipush 13, 2) := by decide +kernel
theorem dX4_becomeSum_7 : decode cX4_becomeSum 7 = .ok (.if_icmp .ge 37, 3) := by decide +kernel
theorem dX4_becomeSum_10 : decode cX4_becomeSum 10 = .ok (.aload_n 0, 1) := by decide +kernel
theorem dX4_becomeSum_11 : decode cX4_becomeSum 11 = .ok (.getfield 9, 3) := by decide +kernel
theorem dX4_becomeSum_14 : decode cX4_becomeSum 14 = .ok (.iload 7, 2) := by decide +kernel
theorem dX4_becomeSum_16 : decode cX4_becomeSum 16 = .ok (.lload_n 2, 1) := by decide +kernel
theorem dX4_becomeSum_17 : decode cX4_becomeSum 17 = .ok (.aload_n 1, 1) := by decide +kernel
theorem dX4_becomeSum_18 : decode cX4_becomeSum 18 = .ok (.getfield 9, 3) := by decide +kernel
theorem dX4_becomeSum_21 : decode cX4_becomeSum 21 = .ok (.iload 7, 2) := by decide +kernel
theorem dX4_becomeSum_23 : decode cX4_becomeSum 23 = .ok (.laload, 1) := by decide +kernel
theorem dX4_becomeSum_24 : decode cX4_becomeSum 24 = .ok (.lmul, 1) := by decide +kernel
theorem dX4_becomeSum_25 : decode cX4_becomeSum 25 = .ok (.lload 5, 2) := by decide +kernel
theorem dX4_becomeSum_27 : decode cX4_becomeSum 27 = .ok (.aload 4, 2) := by decide +kernel
theorem dX4_becomeSum_29 : decode cX4_becomeSum 29 = .ok (.getfield 9, 3) := by decide +kernel
theorem dX4_becomeSum_32 : decode cX4_becomeSum 32 = .ok (.iload 7, 2) := by decide +kernel
theorem dX4_becomeSum_34 : decode cX4_becomeSum 34 = .ok (.laload, 1) := by decide +kernel
theorem dX4_becomeSum_35 : decode cX4_becomeSum 35 = .ok (.lmul, 1) := by decide +kernel
theorem dX4_becomeSum_36 : decode cX4_becomeSum 36 = .ok (.ladd, 1) := by decide +kernel
theorem dX4_becomeSum_37 : decode cX4_becomeSum 37 = .ok (.lastore, 1) := by decide +kernel
theorem dX4_becomeSum_38 : decode cX4_becomeSum 38 = .ok (.iinc 7 1, 3) := by decide +kernel
theorem dX4_becomeSum_41 : decode cX4_becomeSum 41 = .ok (.goto (-38), 3) := by decide +kernel
theorem dX4_becomeSum_44 : decode cX4_becomeSum 44 = .ok (.aload_n 0, 1) := by decide +kernel
theorem dX4_becomeSum_45 : decode cX4_becomeSum 45 = .ok (.invokevirtual 32, 3) := by decide +kernel
theorem dX4_becomeSum_48 : decode cX4_becomeSum 48 = .ok (.return_, 1) := by decide +kernel
set_option maxRecDepth 20000 in
theorem ggX4_becomeProduct_X4_clear : GoodIn wsX4_becomeProduct wsX4_clear := goodIn_r _ [7, 2, 1, 12, 13] (by decide +kernel) (by decide +kernel)
set_option maxRecDepth 20000 in
theorem gX4_becomeProduct_X4_clear : GoodIn wsX4_becomeProduct (wsV RX4 25 RX4 yX4_clear wsX4_clear) := goodIn_app (goodIn_of _ (by decide +kernel)) ggX4_becomeProduct_X4_clear
set_option maxRecDepth 20000 in
theorem ggX4_becomeProduct_X4_settle : GoodIn wsX4_becomeProduct wsX4_settle := goodIn_r _ [11, 1, 2, 12, 13] (by decide +kernel) (by decide +kernel)
set_option maxRecDepth 20000 in
theorem gX4_becomeProduct_X4_settle : GoodIn wsX4_becomeProduct (wsV RX4 32 RX4 yX4_settle wsX4_settle) := goodIn_app (goodIn_of _ (by decide +kernel)) ggX4_becomeProduct_X4_settle
theorem dX4_becomeProduct_0 : decode cX4_becomeProduct 0 = .ok (.aload_n 0, 1) := by decide +kernel
theorem dX4_becomeProduct_1 : decode cX4_becomeProduct 1 = .ok (.invokevirtual 25, 3) := by decide +kernel
theorem dX4_becomeProduct_4 : decode cX4_becomeProduct 4 = .ok (.iconst 0, 1) := by decide +kernel
theorem dX4_becomeProduct_5 : decode cX4_becomeProduct 5 = .ok (.istore_n 3, 1) := by decide +kernel
theorem dX4_becomeProduct_6 : decode cX4_becomeProduct 6 = .ok (.iload_n 3, 1) := by decide +kernel
theorem dX4_becomeProduct_7 : decode cX4_becomeProduct 7 = .ok (.aload_n 1, 1) := by decide +kernel
theorem dX4_becomeProduct_8 : decode cX4_becomeProduct 8 = .ok (.getfield 15, 3) := by decide +kernel
theorem dX4_becomeProduct_11 : decode cX4_becomeProduct 11 = .ok (.if_icmp .gt 62, 3) := by decide +kernel
theorem dX4_becomeProduct_14 : decode cX4_becomeProduct 14 = .ok (.iconst 0, 1) := by decide +kernel
theorem dX4_becomeProduct_15 : decode cX4_becomeProduct 15 = .ok (.istore 4, 2) := by decide +kernel
theorem dX4_becomeProduct_17 : decode cX4_becomeProduct 17 = .ok (.iload 4, 2) := by decide +kernel
theorem dX4_becomeProduct_19 : decode cX4_becomeProduct 19 = .ok (.aload_n 2, 1) := by decide +kernel
theorem dX4_becomeProduct_20 : decode cX4_becomeProduct 20 = .ok (.getfield 15, 3) := by decide +kernel
theorem dX4_becomeProduct_23 : decode cX4_becomeProduct 23 = .ok (.if_icmp .gt 44, 3) := by decide +kernel
theorem dX4_becomeProduct_26 : decode cX4_becomeProduct 26 = .ok (.iload_n 3, 1) := by decide +kernel
theorem dX4_becomeProduct_27 : decode cX4_becomeProduct 27 = .ok (.iload 4, 2) := by decide +kernel
theorem dX4_becomeProduct_29 : decode cX4_becomeProduct 29 = .ok (.iadd, 1) := by decide +kernel
theorem dX4_becomeProduct_30 : decode cX4_becomeProduct 30 = .ok (.bipush 13, 2) := by decide +kernel
theorem dX4_becomeProduct_32 : decode cX4_becomeProduct 32 = .ok (.if_icmp .ge 35, 3) := by decide +kernel
theorem dX4_becomeProduct_35 : decode cX4_becomeProduct 35 = .ok (.aload_n 0, 1) := by decide +kernel
theorem dX4_becomeProduct_36 : decode cX4_becomeProduct 36 = .ok (.getfield 9, 3) := by decide +kernel
theorem dX4_becomeProduct_39 : decode cX4_becomeProduct 39 = .ok (.iload_n 3, 1) := by decide +kernel
theorem dX4_becomeProduct_40 : decode cX4_becomeProduct 40 = .ok (.iload 4, 2) := by decide +kernel
theorem dX4_becomeProduct_42 : decode cX4_becomeProduct 42 = .ok (.iadd, 1) := by decide +kernel
theorem dX4_becomeProduct_43 : decode cX4_becomeProduct 43 = .ok (.dup2, 1) := by decide +kernel
theorem dX4_becomeProduct_44 : decode cX4_becomeProduct 44 = .ok (.laload, 1) := by decide +kernel
theorem dX4_becomeProduct_45 : decode cX4_becomeProduct 45 = .ok (.aload_n 1, 1) := by decide +kernel
theorem dX4_becomeProduct_46 : decode cX4_becomeProduct 46 = .ok (.getfield 9, 3) := by decide +kernel
theorem dX4_becomeProduct_49 : decode cX4_becomeProduct 49 = .ok (.iload_n 3, 1) := by decide +kernel
theorem dX4_becomeProduct_50 : decode cX4_becomeProduct 50 = .ok (.laload, 1) := by decide +kernel
theorem dX4_becomeProduct_51 : decode cX4_becomeProduct 51 = .ok (.aload_n 2, 1) := by decide +kernel
theorem dX4_becomeProduct_52 : decode cX4_becomeProduct 52 = .ok (.getfield 9, 3) := by decide +kernel
theorem dX4_becomeProduct_55 : decode cX4_becomeProduct 55 = .ok (.iload 4, 2) := by decide +kernel
theorem dX4_becomeProduct_57 : decode cX4_becomeProduct 57 = .ok (.laload, 1) := by decide +kernel
theorem dX4_becomeProduct_58 : decode cX4_becomeProduct 58 = .ok (.lmul, 1) := by decide +kernel
theorem dX4_becomeProduct_59 : decode cX4_becomeProduct 59 = .ok (.ladd, 1) := by decide +kernel
theorem dX4_becomeProduct_60 : decode cX4_becomeProduct 60 = .ok (.lastore, 1) := by decide +kernel
theorem dX4_becomeProduct_61 : decode cX4_becomeProduct 61 = .ok (.iinc 4 1, 3) := by decide +kernel
theorem dX4_becomeProduct_64 : decode cX4_becomeProduct 64 = .ok (.goto (-47), 3) := by decide +kernel
theorem dX4_becomeProduct_67 : decode cX4_becomeProduct 67 = .ok (.iinc 3 1, 3) := by decide +kernel
theorem dX4_becomeProduct_70 : decode cX4_becomeProduct 70 = .ok (.goto (-64), 3) := by decide +kernel
theorem dX4_becomeProduct_73 : decode cX4_becomeProduct 73 = .ok (.aload_n 0, 1) := by decide +kernel
theorem dX4_becomeProduct_74 : decode cX4_becomeProduct 74 = .ok (.invokevirtual 32, 3) := by decide +kernel
theorem dX4_becomeProduct_77 : decode cX4_becomeProduct 77 = .ok (.return_, 1) := by decide +kernel
set_option maxRecDepth 20000 in
theorem ggX4_becomeSlope_X4_clear : GoodIn wsX4_becomeSlope wsX4_clear := goodIn_r _ [7, 2, 1, 12, 13] (by decide +kernel) (by decide +kernel)
set_option maxRecDepth 20000 in
theorem gX4_becomeSlope_X4_clear : GoodIn wsX4_becomeSlope (wsV RX4 25 RX4 yX4_clear wsX4_clear) := goodIn_app (goodIn_of _ (by decide +kernel)) ggX4_becomeSlope_X4_clear
set_option maxRecDepth 20000 in
theorem ggX4_becomeSlope_X4_settle : GoodIn wsX4_becomeSlope wsX4_settle := goodIn_r _ [11, 1, 2, 12, 13] (by decide +kernel) (by decide +kernel)
set_option maxRecDepth 20000 in
theorem gX4_becomeSlope_X4_settle : GoodIn wsX4_becomeSlope (wsV RX4 32 RX4 yX4_settle wsX4_settle) := goodIn_app (goodIn_of _ (by decide +kernel)) ggX4_becomeSlope_X4_settle
theorem dX4_becomeSlope_0 : decode cX4_becomeSlope 0 = .ok (.aload_n 0, 1) := by decide +kernel
theorem dX4_becomeSlope_1 : decode cX4_becomeSlope 1 = .ok (.invokevirtual 25, 3) := by decide +kernel
theorem dX4_becomeSlope_4 : decode cX4_becomeSlope 4 = .ok (.iconst 1, 1) := by decide +kernel
theorem dX4_becomeSlope_5 : decode cX4_becomeSlope 5 = .ok (.istore_n 2, 1) := by decide +kernel
theorem dX4_becomeSlope_6 : decode cX4_becomeSlope 6 = .ok (.iload_n 2, 1) := by decide +kernel
theorem dX4_becomeSlope_7 : decode cX4_becomeSlope 7 = .ok (.aload_n 1, 1) := by decide +kernel
theorem dX4_becomeSlope_8 : decode cX4_becomeSlope 8 = .ok (.getfield 15, 3) := by decide +kernel
theorem dX4_becomeSlope_11 : decode cX4_becomeSlope 11 = .ok (.if_icmp .gt 26, 3) := by decide +kernel
theorem dX4_becomeSlope_14 : decode cX4_becomeSlope 14 = .ok (.aload_n 0, 1) := by decide +kernel
theorem dX4_becomeSlope_15 : decode cX4_becomeSlope 15 = .ok (.getfield 9, 3) := by decide +kernel
theorem dX4_becomeSlope_18 : decode cX4_becomeSlope 18 = .ok (.iload_n 2, 1) := by decide +kernel
theorem dX4_becomeSlope_19 : decode cX4_becomeSlope 19 = .ok (.iconst 1, 1) := by decide +kernel
theorem dX4_becomeSlope_20 : decode cX4_becomeSlope 20 = .ok (.isub, 1) := by decide +kernel
theorem dX4_becomeSlope_21 : decode cX4_becomeSlope 21 = .ok (.iload_n 2, 1) := by decide +kernel
theorem dX4_becomeSlope_22 : decode cX4_becomeSlope 22 = .ok (.i2l, 1) := by decide +kernel
theorem dX4_becomeSlope_23 : decode cX4_becomeSlope 23 = .ok (.aload_n 1, 1) := by decide +kernel
theorem dX4_becomeSlope_24 : decode cX4_becomeSlope 24 = .ok (.getfield 9, 3) := by decide +kernel
theorem dX4_becomeSlope_27 : decode cX4_becomeSlope 27 = .ok (.iload_n 2, 1) := by decide +kernel
theorem dX4_becomeSlope_28 : decode cX4_becomeSlope 28 = .ok (.laload, 1) := by decide +kernel
theorem dX4_becomeSlope_29 : decode cX4_becomeSlope 29 = .ok (.lmul, 1) := by decide +kernel
theorem dX4_becomeSlope_30 : decode cX4_becomeSlope 30 = .ok (.lastore, 1) := by decide +kernel
theorem dX4_becomeSlope_31 : decode cX4_becomeSlope 31 = .ok (.iinc 2 1, 3) := by decide +kernel
theorem dX4_becomeSlope_34 : decode cX4_becomeSlope 34 = .ok (.goto (-28), 3) := by decide +kernel
theorem dX4_becomeSlope_37 : decode cX4_becomeSlope 37 = .ok (.aload_n 0, 1) := by decide +kernel
theorem dX4_becomeSlope_38 : decode cX4_becomeSlope 38 = .ok (.invokevirtual 32, 3) := by decide +kernel
theorem dX4_becomeSlope_41 : decode cX4_becomeSlope 41 = .ok (.return_, 1) := by decide +kernel
set_option maxRecDepth 20000 in
theorem ggX4_becomeQuotient_X4_clear : GoodIn wsX4_becomeQuotient wsX4_clear := goodIn_r _ [12, 2, 1, 33, 34] (by decide +kernel) (by decide +kernel)
set_option maxRecDepth 20000 in
theorem gX4_becomeQuotient_X4_clear : GoodIn wsX4_becomeQuotient (wsV RX4 25 RX4 yX4_clear wsX4_clear) := goodIn_app (goodIn_of _ (by decide +kernel)) ggX4_becomeQuotient_X4_clear
set_option maxRecDepth 20000 in
theorem ggX4_becomeQuotient_X4_become : GoodIn wsX4_becomeQuotient wsX4_become := goodIn_r _ [16, 2, 17, 18, 19, 20, 1, 33, 34] (by decide +kernel) (by decide +kernel)
set_option maxRecDepth 20000 in
theorem gX4_becomeQuotient_X4_become : GoodIn wsX4_becomeQuotient (wsV RX4 35 RX4 yX4_become wsX4_become) := goodIn_app (goodIn_of _ (by decide +kernel)) ggX4_becomeQuotient_X4_become
set_option maxRecDepth 20000 in
theorem ggX4_becomeQuotient_X4_lead : GoodIn wsX4_becomeQuotient wsX4_lead := goodIn_r _ [24, 1, 25, 26, 27, 11, 28, 2, 33, 34] (by decide +kernel) (by decide +kernel)
set_option maxRecDepth 20000 in
theorem gX4_becomeQuotient_X4_lead : GoodIn wsX4_becomeQuotient (wsV RX4 39 RX4 yX4_lead wsX4_lead) := goodIn_app (goodIn_of _ (by decide +kernel)) ggX4_becomeQuotient_X4_lead
set_option maxRecDepth 20000 in
theorem ggX4_becomeQuotient_X4_settle : GoodIn wsX4_becomeQuotient wsX4_settle := goodIn_r _ [32, 1, 2, 33, 34] (by decide +kernel) (by decide +kernel)
set_option maxRecDepth 20000 in
theorem gX4_becomeQuotient_X4_settle : GoodIn wsX4_becomeQuotient (wsV RX4 32 RX4 yX4_settle wsX4_settle) := goodIn_app (goodIn_of _ (by decide +kernel)) ggX4_becomeQuotient_X4_settle
theorem dX4_becomeQuotient_0 : decode cX4_becomeQuotient 0 = .ok (.aload_n 0, 1) := by decide +kernel
theorem dX4_becomeQuotient_1 : decode cX4_becomeQuotient 1 = .ok (.invokevirtual 25, 3) := by decide +kernel
theorem dX4_becomeQuotient_4 : decode cX4_becomeQuotient 4 = .ok (.aload_n 3, 1) := by decide +kernel
theorem dX4_becomeQuotient_5 : decode cX4_becomeQuotient 5 = .ok (.aload_n 1, 1) := by decide +kernel
theorem dX4_becomeQuotient_6 : decode cX4_becomeQuotient 6 = .ok (.invokevirtual 35, 3) := by decide +kernel
theorem dX4_becomeQuotient_9 : decode cX4_becomeQuotient 9 = .ok (.aload_n 2, 1) := by decide +kernel
theorem dX4_becomeQuotient_10 : decode cX4_becomeQuotient 10 = .ok (.invokevirtual 39, 3) := by decide +kernel
theorem dX4_becomeQuotient_13 : decode cX4_becomeQuotient 13 = .ok (.lstore 4, 2) := by decide +kernel
theorem dX4_becomeQuotient_15 : decode cX4_becomeQuotient 15 = .ok (.lload 4, 2) := by decide +kernel
theorem dX4_becomeQuotient_17 : decode cX4_becomeQuotient 17 = .ok (.lconst 0, 1) := by decide +kernel
theorem dX4_becomeQuotient_18 : decode cX4_becomeQuotient 18 = .ok (.lcmp, 1) := by decide +kernel
theorem dX4_becomeQuotient_19 : decode cX4_becomeQuotient 19 = .ok (.ifCond .ne 5, 3) := by decide +kernel
theorem dX4_becomeQuotient_22 : decode cX4_becomeQuotient 22 = .ok (.iconst 0, 1) := by decide +kernel
theorem dX4_becomeQuotient_23 : decode cX4_becomeQuotient 23 = .ok (.ireturn, 1) := by decide +kernel
theorem dX4_becomeQuotient_24 : decode cX4_becomeQuotient 24 = .ok (.aload_n 1, 1) := by decide +kernel
theorem dX4_becomeQuotient_25 : decode cX4_becomeQuotient 25 = .ok (.getfield 15, 3) := by decide +kernel
theorem dX4_becomeQuotient_28 : decode cX4_becomeQuotient 28 = .ok (.aload_n 2, 1) := by decide +kernel
theorem dX4_becomeQuotient_29 : decode cX4_becomeQuotient 29 = .ok (.getfield 15, 3) := by decide +kernel
theorem dX4_becomeQuotient_32 : decode cX4_becomeQuotient 32 = .ok (.isub, 1) := by decide +kernel
theorem dX4_becomeQuotient_33 : decode cX4_becomeQuotient 33 = .ok (.istore 6, 2) := by decide +kernel
theorem dX4_becomeQuotient_35 : decode cX4_becomeQuotient 35 = .ok (.iload 6, 2) := by decide +kernel
theorem dX4_becomeQuotient_37 : decode cX4_becomeQuotient 37 = .ok (.ifCond .lt 104, 3) := by decide +kernel
theorem dX4_becomeQuotient_40 : decode cX4_becomeQuotient 40 = .ok (.aload_n 3, 1) := by decide +kernel
theorem dX4_becomeQuotient_41 : decode cX4_becomeQuotient 41 = .ok (.getfield 9, 3) := by decide +kernel
theorem dX4_becomeQuotient_44 : decode cX4_becomeQuotient 44 = .ok (.iload 6, 2) := by decide +kernel
theorem dX4_becomeQuotient_46 : decode cX4_becomeQuotient 46 = .ok (.aload_n 2, 1) := by decide +kernel
theorem dX4_becomeQuotient_47 : decode cX4_becomeQuotient 47 = .ok (.getfield 15, 3) := by decide +kernel
theorem dX4_becomeQuotient_50 : decode cX4_becomeQuotient 50 = .ok (.iadd, 1) := by decide +kernel
theorem dX4_becomeQuotient_51 : decode cX4_becomeQuotient 51 = .ok (.laload, 1) := by decide +kernel
theorem dX4_becomeQuotient_52 : decode cX4_becomeQuotient 52 = .ok (.lstore 7, 2) := by decide +kernel
theorem dX4_becomeQuotient_54 : decode cX4_becomeQuotient 54 = .ok (.lload 7, 2) := by decide +kernel
theorem dX4_becomeQuotient_56 : decode cX4_becomeQuotient 56 = .ok (.lload 4, 2) := by decide +kernel
theorem dX4_becomeQuotient_58 : decode cX4_becomeQuotient 58 = .ok (.ldiv, 1) := by decide +kernel
theorem dX4_becomeQuotient_59 : decode cX4_becomeQuotient 59 = .ok (.lstore 9, 2) := by decide +kernel
theorem dX4_becomeQuotient_61 : decode cX4_becomeQuotient 61 = .ok (.lload 7, 2) := by decide +kernel
theorem dX4_becomeQuotient_63 : decode cX4_becomeQuotient 63 = .ok (.lload 4, 2) := by decide +kernel
theorem dX4_becomeQuotient_65 : decode cX4_becomeQuotient 65 = .ok (.lrem, 1) := by decide +kernel
theorem dX4_becomeQuotient_66 : decode cX4_becomeQuotient 66 = .ok (.lconst 0, 1) := by decide +kernel
theorem dX4_becomeQuotient_67 : decode cX4_becomeQuotient 67 = .ok (.lcmp, 1) := by decide +kernel
theorem dX4_becomeQuotient_68 : decode cX4_becomeQuotient 68 = .ok (.ifCond .ne 15, 3) := by decide +kernel
theorem dX4_becomeQuotient_71 : decode cX4_becomeQuotient 71 = .ok (.lload 9, 2) := by decide +kernel
theorem dX4_becomeQuotient_73 : decode cX4_becomeQuotient 73 = .ok (.invokestatic 43, 3) := by decide +kernel
theorem dX4_becomeQuotient_76 : decode cX4_becomeQuotient 76 = .ok (.ldc2_w 49, 3) := by decide +kernel
theorem dX4_becomeQuotient_79 : decode cX4_becomeQuotient 79 = .ok (.lcmp, 1) := by decide +kernel
theorem dX4_becomeQuotient_80 : decode cX4_becomeQuotient 80 = .ok (.ifCond .le 5, 3) := by decide +kernel
theorem dX4_becomeQuotient_83 : decode cX4_becomeQuotient 83 = .ok (.iconst 0, 1) := by decide +kernel
theorem dX4_becomeQuotient_84 : decode cX4_becomeQuotient 84 = .ok (.ireturn, 1) := by decide +kernel
theorem dX4_becomeQuotient_85 : decode cX4_becomeQuotient 85 = .ok (.aload_n 0, 1) := by decide +kernel
theorem dX4_becomeQuotient_86 : decode cX4_becomeQuotient 86 = .ok (.getfield 9, 3) := by decide +kernel
theorem dX4_becomeQuotient_89 : decode cX4_becomeQuotient 89 = .ok (.iload 6, 2) := by decide +kernel
theorem dX4_becomeQuotient_91 : decode cX4_becomeQuotient 91 = .ok (.lload 9, 2) := by decide +kernel
theorem dX4_becomeQuotient_93 : decode cX4_becomeQuotient 93 = .ok (.lastore, 1) := by decide +kernel
theorem dX4_becomeQuotient_94 : decode cX4_becomeQuotient 94 = .ok (.iconst 0, 1) := by decide +kernel
theorem dX4_becomeQuotient_95 : decode cX4_becomeQuotient 95 = .ok (.istore 11, 2) := by decide +kernel
theorem dX4_becomeQuotient_97 : decode cX4_becomeQuotient 97 = .ok (.iload 11, 2) := by decide +kernel
theorem dX4_becomeQuotient_99 : decode cX4_becomeQuotient 99 = .ok (.aload_n 2, 1) := by decide +kernel
theorem dX4_becomeQuotient_100 : decode cX4_becomeQuotient 100 = .ok (.getfield 15, 3) := by decide +kernel
theorem dX4_becomeQuotient_103 : decode cX4_becomeQuotient 103 = .ok (.if_icmp .gt 32, 3) := by decide +kernel
theorem dX4_becomeQuotient_106 : decode cX4_becomeQuotient 106 = .ok (.aload_n 3, 1) := by decide +kernel
theorem dX4_becomeQuotient_107 : decode cX4_becomeQuotient 107 = .ok (.getfield 9, 3) := by decide +kernel
theorem dX4_becomeQuotient_110 : decode cX4_becomeQuotient 110 = .ok (.iload 6, 2) := by decide +kernel
theorem dX4_becomeQuotient_112 : decode cX4_becomeQuotient 112 = .ok (.iload 11, 2) := by decide +kernel
theorem dX4_becomeQuotient_114 : decode cX4_becomeQuotient 114 = .ok (.iadd, 1) := by decide +kernel
theorem dX4_becomeQuotient_115 : decode cX4_becomeQuotient 115 = .ok (.dup2, 1) := by decide +kernel
theorem dX4_becomeQuotient_116 : decode cX4_becomeQuotient 116 = .ok (.laload, 1) := by decide +kernel
theorem dX4_becomeQuotient_117 : decode cX4_becomeQuotient 117 = .ok (.lload 9, 2) := by decide +kernel
theorem dX4_becomeQuotient_119 : decode cX4_becomeQuotient 119 = .ok (.aload_n 2, 1) := by decide +kernel
theorem dX4_becomeQuotient_120 : decode cX4_becomeQuotient 120 = .ok (.getfield 9, 3) := by decide +kernel
theorem dX4_becomeQuotient_123 : decode cX4_becomeQuotient 123 = .ok (.iload 11, 2) := by decide +kernel
theorem dX4_becomeQuotient_125 : decode cX4_becomeQuotient 125 = .ok (.laload, 1) := by decide +kernel
theorem dX4_becomeQuotient_126 : decode cX4_becomeQuotient 126 = .ok (.lmul, 1) := by decide +kernel
theorem dX4_becomeQuotient_127 : decode cX4_becomeQuotient 127 = .ok (.lsub, 1) := by decide +kernel
theorem dX4_becomeQuotient_128 : decode cX4_becomeQuotient 128 = .ok (.lastore, 1) := by decide +kernel
theorem dX4_becomeQuotient_129 : decode cX4_becomeQuotient 129 = .ok (.iinc 11 1, 3) := by decide +kernel
theorem dX4_becomeQuotient_132 : decode cX4_becomeQuotient 132 = .ok (.goto (-35), 3) := by decide +kernel
theorem dX4_becomeQuotient_135 : decode cX4_becomeQuotient 135 = .ok (.iinc 6 (-1), 3) := by decide +kernel
theorem dX4_becomeQuotient_138 : decode cX4_becomeQuotient 138 = .ok (.goto (-103), 3) := by decide +kernel
theorem dX4_becomeQuotient_141 : decode cX4_becomeQuotient 141 = .ok (.aload_n 0, 1) := by decide +kernel
theorem dX4_becomeQuotient_142 : decode cX4_becomeQuotient 142 = .ok (.invokevirtual 32, 3) := by decide +kernel
theorem dX4_becomeQuotient_145 : decode cX4_becomeQuotient 145 = .ok (.aload_n 3, 1) := by decide +kernel
theorem dX4_becomeQuotient_146 : decode cX4_becomeQuotient 146 = .ok (.invokevirtual 32, 3) := by decide +kernel
theorem dX4_becomeQuotient_149 : decode cX4_becomeQuotient 149 = .ok (.aload_n 3, 1) := by decide +kernel
theorem dX4_becomeQuotient_150 : decode cX4_becomeQuotient 150 = .ok (.getfield 15, 3) := by decide +kernel
theorem dX4_becomeQuotient_153 : decode cX4_becomeQuotient 153 = .ok (.ifCond .ge 7, 3) := by decide +kernel
theorem dX4_becomeQuotient_156 : decode cX4_becomeQuotient 156 = .ok (.iconst 1, 1) := by decide +kernel
theorem dX4_becomeQuotient_157 : decode cX4_becomeQuotient 157 = .ok (.goto 4, 3) := by decide +kernel
theorem dX4_becomeQuotient_160 : decode cX4_becomeQuotient 160 = .ok (.iconst 0, 1) := by decide +kernel
theorem dX4_becomeQuotient_161 : decode cX4_becomeQuotient 161 = .ok (.ireturn, 1) := by decide +kernel
set_option maxRecDepth 20000 in
theorem ggX4_signedMeasure_X6_greatestDivisor : GoodIn wsX4_signedMeasure wsX6_greatestDivisor := goodIn_r _ [5, 6, 7, 8, 9] (by decide +kernel) (by decide +kernel)
set_option maxRecDepth 20000 in
theorem gX4_signedMeasure_X6_greatestDivisor_n51 : GoodIn wsX4_signedMeasure (wsX6_greatestDivisor) := ggX4_signedMeasure_X6_greatestDivisor
set_option maxRecDepth 20000 in
theorem ggX4_signedMeasure_X4_lead : GoodIn wsX4_signedMeasure wsX4_lead := goodIn_r _ [14, 1, 15, 16, 17, 13, 18, 2, 19, 20] (by decide +kernel) (by decide +kernel)
set_option maxRecDepth 20000 in
theorem gX4_signedMeasure_X4_lead : GoodIn wsX4_signedMeasure (wsV RX4 39 RX4 yX4_lead wsX4_lead) := goodIn_app (goodIn_of _ (by decide +kernel)) ggX4_signedMeasure_X4_lead
