set_option maxRecDepth 20000 in
theorem ggX7_galois_X7_quartic : GoodIn wsX7_galois wsX7_quartic := goodIn_r _ [127, 128, 129, 130, 131, 115, 132, 133, 113, 134, 114, 135, 136, 137, 138, 139, 140, 141, 142, 6, 143, 144, 145, 123, 146, 147, 148, 149, 150, 151, 152, 153, 119, 120, 121, 122, 154, 155, 156, 116, 117, 118, 157, 158, 159, 30, 31, 32, 160, 161, 162, 163, 164, 165, 166, 167, 168, 169, 170, 171, 172, 173, 174, 175, 176, 177, 178, 179, 180, 181, 182, 183, 184] (by decide +kernel) (by decide +kernel)
set_option maxRecDepth 20000 in
theorem gX7_galois_X7_quartic : GoodIn wsX7_galois (wsV RX7 270 RX7 yX7_quartic wsX7_quartic) := goodIn_app (goodIn_of _ (by decide +kernel)) ggX7_galois_X7_quartic
theorem dX7_galois_0 : decode cX7_galois 0 = .ok (.aload_n 0, 1) := by decide +kernel
theorem dX7_galois_1 : decode cX7_galois 1 = .ok (.iload_n 1, 1) := by decide +kernel
theorem dX7_galois_2 : decode cX7_galois 2 = .ok (.invokestatic 63, 3) := by decide +kernel
theorem dX7_galois_5 : decode cX7_galois 5 = .ok (.ifCond .eq 7, 3) := by decide +kernel
theorem dX7_galois_8 : decode cX7_galois 8 = .ok (.iconst 0, 1) := by decide +kernel
theorem dX7_galois_9 : decode cX7_galois 9 = .ok (.goto 4, 3) := by decide +kernel
theorem dX7_galois_12 : decode cX7_galois 12 = .ok (.iconst 1, 1) := by decide +kernel
theorem dX7_galois_13 : decode cX7_galois 13 = .ok (.invokevirtual 70, 3) := by decide +kernel
theorem dX7_galois_16 : decode cX7_galois 16 = .ok (.ifCond .eq 5, 3) := by decide +kernel
theorem dX7_galois_19 : decode cX7_galois 19 = .ok (.iconst 0, 1) := by decide +kernel
theorem dX7_galois_20 : decode cX7_galois 20 = .ok (.ireturn, 1) := by decide +kernel
theorem dX7_galois_21 : decode cX7_galois 21 = .ok (.aload_n 0, 1) := by decide +kernel
theorem dX7_galois_22 : decode cX7_galois 22 = .ok (.iload_n 1, 1) := by decide +kernel
theorem dX7_galois_23 : decode cX7_galois 23 = .ok (.invokevirtual 39, 3) := by decide +kernel
theorem dX7_galois_26 : decode cX7_galois 26 = .ok (.istore_n 2, 1) := by decide +kernel
theorem dX7_galois_27 : decode cX7_galois 27 = .ok (.iload_n 2, 1) := by decide +kernel
theorem dX7_galois_28 : decode cX7_galois 28 = .ok (.iconst 1, 1) := by decide +kernel
theorem dX7_galois_29 : decode cX7_galois 29 = .ok (.if_icmp .lt 8, 3) := by decide +kernel
theorem dX7_galois_32 : decode cX7_galois 32 = .ok (.iload_n 2, 1) := by decide +kernel
theorem dX7_galois_33 : decode cX7_galois 33 = .ok (.iconst 4, 1) := by decide +kernel
theorem dX7_galois_34 : decode cX7_galois 34 = .ok (.if_icmp .le 5, 3) := by decide +kernel

