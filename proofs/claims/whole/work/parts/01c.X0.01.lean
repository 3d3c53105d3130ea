theorem dX0_takeOut_16 : decode cX0_takeOut 16 = .ok (.iload_n 2, 1) := by decide +kernel
theorem dX0_takeOut_17 : decode cX0_takeOut 17 = .ok (.aload_n 0, 1) := by decide +kernel
theorem dX0_takeOut_18 : decode cX0_takeOut 18 = .ok (.getfield 12, 3) := by decide +kernel
theorem dX0_takeOut_21 : decode cX0_takeOut 21 = .ok (.getfield 149, 3) := by decide +kernel
theorem dX0_takeOut_24 : decode cX0_takeOut 24 = .ok (.if_icmp .ge 53, 3) := by decide +kernel
theorem dX0_takeOut_27 : decode cX0_takeOut 27 = .ok (.iload_n 1, 1) := by decide +kernel
theorem dX0_takeOut_28 : decode cX0_takeOut 28 = .ok (.iload_n 2, 1) := by decide +kernel
theorem dX0_takeOut_29 : decode cX0_takeOut 29 = .ok (.ishr, 1) := by decide +kernel
theorem dX0_takeOut_30 : decode cX0_takeOut 30 = .ok (.iconst 1, 1) := by decide +kernel
theorem dX0_takeOut_31 : decode cX0_takeOut 31 = .ok (.iand, 1) := by decide +kernel
theorem dX0_takeOut_32 : decode cX0_takeOut 32 = .ok (.iconst 1, 1) := by decide +kernel
theorem dX0_takeOut_33 : decode cX0_takeOut 33 = .ok (.if_icmp .ne 38, 3) := by decide +kernel
theorem dX0_takeOut_36 : decode cX0_takeOut 36 = .ok (.aload_n 0, 1) := by decide +kernel
theorem dX0_takeOut_37 : decode cX0_takeOut 37 = .ok (.getfield 45, 3) := by decide +kernel
theorem dX0_takeOut_40 : decode cX0_takeOut 40 = .ok (.aload_n 0, 1) := by decide +kernel
theorem dX0_takeOut_41 : decode cX0_takeOut 41 = .ok (.getfield 39, 3) := by decide +kernel
theorem dX0_takeOut_44 : decode cX0_takeOut 44 = .ok (.aload_n 0, 1) := by decide +kernel
theorem dX0_takeOut_45 : decode cX0_takeOut 45 = .ok (.getfield 12, 3) := by decide +kernel
theorem dX0_takeOut_48 : decode cX0_takeOut 48 = .ok (.getfield 156, 3) := by decide +kernel
theorem dX0_takeOut_51 : decode cX0_takeOut 51 = .ok (.iload_n 2, 1) := by decide +kernel
theorem dX0_takeOut_52 : decode cX0_takeOut 52 = .ok (.aaload, 1) := by decide +kernel
theorem dX0_takeOut_53 : decode cX0_takeOut 53 = .ok (.invokevirtual 160, 3) := by decide +kernel
theorem dX0_takeOut_56 : decode cX0_takeOut 56 = .ok (.aload_n 0, 1) := by decide +kernel
theorem dX0_takeOut_57 : decode cX0_takeOut 57 = .ok (.getfield 22, 3) := by decide +kernel
theorem dX0_takeOut_60 : decode cX0_takeOut 60 = .ok (.aload_n 0, 1) := by decide +kernel
theorem dX0_takeOut_61 : decode cX0_takeOut 61 = .ok (.getfield 39, 3) := by decide +kernel
theorem dX0_takeOut_64 : decode cX0_takeOut 64 = .ok (.aload_n 0, 1) := by decide +kernel
theorem dX0_takeOut_65 : decode cX0_takeOut 65 = .ok (.getfield 45, 3) := by decide +kernel
theorem dX0_takeOut_68 : decode cX0_takeOut 68 = .ok (.invokevirtual 120, 3) := by decide +kernel
theorem dX0_takeOut_71 : decode cX0_takeOut 71 = .ok (.iinc 2 1, 3) := by decide +kernel
theorem dX0_takeOut_74 : decode cX0_takeOut 74 = .ok (.goto (-58), 3) := by decide +kernel
theorem dX0_takeOut_77 : decode cX0_takeOut 77 = .ok (.aload_n 0, 1) := by decide +kernel
theorem dX0_takeOut_78 : decode cX0_takeOut 78 = .ok (.getfield 22, 3) := by decide +kernel
theorem dX0_takeOut_81 : decode cX0_takeOut 81 = .ok (.aload_n 0, 1) := by decide +kernel
theorem dX0_takeOut_82 : decode cX0_takeOut 82 = .ok (.getfield 36, 3) := by decide +kernel
theorem dX0_takeOut_85 : decode cX0_takeOut 85 = .ok (.aload_n 0, 1) := by decide +kernel
theorem dX0_takeOut_86 : decode cX0_takeOut 86 = .ok (.getfield 39, 3) := by decide +kernel
theorem dX0_takeOut_89 : decode cX0_takeOut 89 = .ok (.invokevirtual 129, 3) := by decide +kernel
theorem dX0_takeOut_92 : decode cX0_takeOut 92 = .ok (.aload_n 0, 1) := by decide +kernel
theorem dX0_takeOut_93 : decode cX0_takeOut 93 = .ok (.getfield 36, 3) := by decide +kernel
theorem dX0_takeOut_96 : decode cX0_takeOut 96 = .ok (.invokevirtual 71, 3) := by decide +kernel
theorem dX0_takeOut_99 : decode cX0_takeOut 99 = .ok (.aload_n 0, 1) := by decide +kernel
theorem dX0_takeOut_100 : decode cX0_takeOut 100 = .ok (.aload_n 0, 1) := by decide +kernel
theorem dX0_takeOut_101 : decode cX0_takeOut 101 = .ok (.getfield 36, 3) := by decide +kernel
theorem dX0_takeOut_104 : decode cX0_takeOut 104 = .ok (.aload_n 0, 1) := by decide +kernel
theorem dX0_takeOut_105 : decode cX0_takeOut 105 = .ok (.getfield 30, 3) := by decide +kernel
theorem dX0_takeOut_108 : decode cX0_takeOut 108 = .ok (.invokevirtual 132, 3) := by decide +kernel
theorem dX0_takeOut_111 : decode cX0_takeOut 111 = .ok (.ifCond .ne 5, 3) := by decide +kernel
theorem dX0_takeOut_114 : decode cX0_takeOut 114 = .ok (.iconst 0, 1) := by decide +kernel
theorem dX0_takeOut_115 : decode cX0_takeOut 115 = .ok (.ireturn, 1) := by decide +kernel
theorem dX0_takeOut_116 : decode cX0_takeOut 116 = .ok (.aload_n 0, 1) := by decide +kernel
theorem dX0_takeOut_117 : decode cX0_takeOut 117 = .ok (.getfield 51, 3) := by decide +kernel
theorem dX0_takeOut_120 : decode cX0_takeOut 120 = .ok (.aload_n 0, 1) := by decide +kernel
theorem dX0_takeOut_121 : decode cX0_takeOut 121 = .ok (.getfield 36, 3) := by decide +kernel
theorem dX0_takeOut_124 : decode cX0_takeOut 124 = .ok (.invokevirtual 163, 3) := by decide +kernel
theorem dX0_takeOut_127 : decode cX0_takeOut 127 = .ok (.aload_n 0, 1) := by decide +kernel
theorem dX0_takeOut_128 : decode cX0_takeOut 128 = .ok (.getfield 30, 3) := by decide +kernel
theorem dX0_takeOut_131 : decode cX0_takeOut 131 = .ok (.aload_n 0, 1) := by decide +kernel
theorem dX0_takeOut_132 : decode cX0_takeOut 132 = .ok (.getfield 42, 3) := by decide +kernel
theorem dX0_takeOut_135 : decode cX0_takeOut 135 = .ok (.invokevirtual 67, 3) := by decide +kernel
theorem dX0_takeOut_138 : decode cX0_takeOut 138 = .ok (.iconst 1, 1) := by decide +kernel
theorem dX0_takeOut_139 : decode cX0_takeOut 139 = .ok (.ireturn, 1) := by decide +kernel
set_option maxRecDepth 20000 in
theorem ggX0_countEach_X4_becomeQuotient : GoodIn wsX0_countEach wsX4_becomeQuotient := goodIn_r _ [12, 13, 14, 15, 16, 17, 18, 19, 20, 21, 22, 11, 23, 24, 25, 26, 27, 28, 29, 30, 31, 32, 33, 34, 35, 36, 37, 38, 39, 40, 41, 42, 43, 59, 60] (by decide +kernel) (by decide +kernel)
set_option maxRecDepth 20000 in
theorem gX0_countEach_X4_becomeQuotient : GoodIn wsX0_countEach (wsV RX0 81 RX4 yX4_becomeQuotient wsX4_becomeQuotient) := goodIn_app (goodIn_of _ (by decide +kernel)) ggX0_countEach_X4_becomeQuotient
set_option maxRecDepth 20000 in
theorem ggX0_countEach_X4_become : GoodIn wsX0_countEach wsX4_become := goodIn_r _ [27, 14, 28, 29, 30, 31, 13, 59, 60] (by decide +kernel) (by decide +kernel)
set_option maxRecDepth 20000 in
theorem gX0_countEach_X4_become : GoodIn wsX0_countEach (wsV RX0 67 RX4 yX4_become wsX4_become) := goodIn_app (goodIn_of _ (by decide +kernel)) ggX0_countEach_X4_become
theorem dX0_countEach_0 : decode cX0_countEach 0 = .ok (.iconst 0, 1) := by decide +kernel
theorem dX0_countEach_1 : decode cX0_countEach 1 = .ok (.istore_n 1, 1) := by decide +kernel
theorem dX0_countEach_2 : decode cX0_countEach 2 = .ok (.iload_n 1, 1) := by decide +kernel
theorem dX0_countEach_3 : decode cX0_countEach 3 = .ok (.aload_n 0, 1) := by decide +kernel
theorem dX0_countEach_4 : decode cX0_countEach 4 = .ok (.getfield 51, 3) := by decide +kernel
theorem dX0_countEach_7 : decode cX0_countEach 7 = .ok (.getfield 166, 3) := by decide +kernel
theorem dX0_countEach_10 : decode cX0_countEach 10 = .ok (.if_icmp .ge 74, 3) := by decide +kernel
theorem dX0_countEach_13 : decode cX0_countEach 13 = .ok (.iconst 0, 1) := by decide +kernel
theorem dX0_countEach_14 : decode cX0_countEach 14 = .ok (.istore_n 2, 1) := by decide +kernel
theorem dX0_countEach_15 : decode cX0_countEach 15 = .ok (.iload_n 2, 1) := by decide +kernel
theorem dX0_countEach_16 : decode cX0_countEach 16 = .ok (.bipush 6, 2) := by decide +kernel
theorem dX0_countEach_18 : decode cX0_countEach 18 = .ok (.if_icmp .ge 60, 3) := by decide +kernel
theorem dX0_countEach_21 : decode cX0_countEach 21 = .ok (.aload_n 0, 1) := by decide +kernel
theorem dX0_countEach_22 : decode cX0_countEach 22 = .ok (.getfield 42, 3) := by decide +kernel
theorem dX0_countEach_25 : decode cX0_countEach 25 = .ok (.aload_n 0, 1) := by decide +kernel
theorem dX0_countEach_26 : decode cX0_countEach 26 = .ok (.getfield 26, 3) := by decide +kernel
theorem dX0_countEach_29 : decode cX0_countEach 29 = .ok (.aload_n 0, 1) := by decide +kernel
theorem dX0_countEach_30 : decode cX0_countEach 30 = .ok (.getfield 51, 3) := by decide +kernel
theorem dX0_countEach_33 : decode cX0_countEach 33 = .ok (.getfield 169, 3) := by decide +kernel
theorem dX0_countEach_36 : decode cX0_countEach 36 = .ok (.iload_n 1, 1) := by decide +kernel
theorem dX0_countEach_37 : decode cX0_countEach 37 = .ok (.aaload, 1) := by decide +kernel
theorem dX0_countEach_38 : decode cX0_countEach 38 = .ok (.aload_n 0, 1) := by decide +kernel
theorem dX0_countEach_39 : decode cX0_countEach 39 = .ok (.getfield 45, 3) := by decide +kernel
theorem dX0_countEach_42 : decode cX0_countEach 42 = .ok (.invokevirtual 81, 3) := by decide +kernel
theorem dX0_countEach_45 : decode cX0_countEach 45 = .ok (.ifCond .eq 33, 3) := by decide +kernel
theorem dX0_countEach_48 : decode cX0_countEach 48 = .ok (.aload_n 0, 1) := by decide +kernel
theorem dX0_countEach_49 : decode cX0_countEach 49 = .ok (.getfield 26, 3) := by decide +kernel
theorem dX0_countEach_52 : decode cX0_countEach 52 = .ok (.aload_n 0, 1) := by decide +kernel
theorem dX0_countEach_53 : decode cX0_countEach 53 = .ok (.getfield 42, 3) := by decide +kernel
theorem dX0_countEach_56 : decode cX0_countEach 56 = .ok (.invokevirtual 67, 3) := by decide +kernel
theorem dX0_countEach_59 : decode cX0_countEach 59 = .ok (.aload_n 0, 1) := by decide +kernel
theorem dX0_countEach_60 : decode cX0_countEach 60 = .ok (.getfield 51, 3) := by decide +kernel
theorem dX0_countEach_63 : decode cX0_countEach 63 = .ok (.getfield 172, 3) := by decide +kernel
theorem dX0_countEach_66 : decode cX0_countEach 66 = .ok (.iload_n 1, 1) := by decide +kernel
theorem dX0_countEach_67 : decode cX0_countEach 67 = .ok (.dup2, 1) := by decide +kernel
theorem dX0_countEach_68 : decode cX0_countEach 68 = .ok (.iaload, 1) := by decide +kernel
theorem dX0_countEach_69 : decode cX0_countEach 69 = .ok (.iconst 1, 1) := by decide +kernel
theorem dX0_countEach_70 : decode cX0_countEach 70 = .ok (.iadd, 1) := by decide +kernel
theorem dX0_countEach_71 : decode cX0_countEach 71 = .ok (.iastore, 1) := by decide +kernel
theorem dX0_countEach_72 : decode cX0_countEach 72 = .ok (.iinc 2 1, 3) := by decide +kernel
theorem dX0_countEach_75 : decode cX0_countEach 75 = .ok (.goto (-60), 3) := by decide +kernel
theorem dX0_countEach_78 : decode cX0_countEach 78 = .ok (.iinc 1 1, 3) := by decide +kernel
theorem dX0_countEach_81 : decode cX0_countEach 81 = .ok (.goto (-79), 3) := by decide +kernel
theorem dX0_countEach_84 : decode cX0_countEach 84 = .ok (.return_, 1) := by decide +kernel
