theorem dX1_isSquare_47 : decode cX1_isSquare 47 = .ok (.goto 4, 3) := by decide +kernel
theorem dX1_isSquare_50 : decode cX1_isSquare 50 = .ok (.iconst 0, 1) := by decide +kernel
theorem dX1_isSquare_51 : decode cX1_isSquare 51 = .ok (.ireturn, 1) := by decide +kernel
