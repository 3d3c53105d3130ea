theorem dX7_galois_37 : decode cX7_galois 37 = .ok (.iconst 0, 1) := by decide +kernel
theorem dX7_galois_38 : decode cX7_galois 38 = .ok (.ireturn, 1) := by decide +kernel
theorem dX7_galois_39 : decode cX7_galois 39 = .ok (.aload_n 0, 1) := by decide +kernel
theorem dX7_galois_40 : decode cX7_galois 40 = .ok (.iload_n 1, 1) := by decide +kernel
theorem dX7_galois_41 : decode cX7_galois 41 = .ok (.invokevirtual 152, 3) := by decide +kernel
theorem dX7_galois_44 : decode cX7_galois 44 = .ok (.aload_n 0, 1) := by decide +kernel
theorem dX7_galois_45 : decode cX7_galois 45 = .ok (.getfield 83, 3) := by decide +kernel
theorem dX7_galois_48 : decode cX7_galois 48 = .ok (.iconst 1, 1) := by decide +kernel
theorem dX7_galois_49 : decode cX7_galois 49 = .ok (.if_icmp .ne 13, 3) := by decide +kernel
theorem dX7_galois_52 : decode cX7_galois 52 = .ok (.aload_n 0, 1) := by decide +kernel
theorem dX7_galois_53 : decode cX7_galois 53 = .ok (.getfield 13, 3) := by decide +kernel
theorem dX7_galois_56 : decode cX7_galois 56 = .ok (.iconst 0, 1) := by decide +kernel
theorem dX7_galois_57 : decode cX7_galois 57 = .ok (.iaload, 1) := by decide +kernel
theorem dX7_galois_58 : decode cX7_galois 58 = .ok (.iconst 1, 1) := by decide +kernel
theorem dX7_galois_59 : decode cX7_galois 59 = .ok (.if_icmp .eq 5, 3) := by decide +kernel
theorem dX7_galois_62 : decode cX7_galois 62 = .ok (.iconst 0, 1) := by decide +kernel
theorem dX7_galois_63 : decode cX7_galois 63 = .ok (.ireturn, 1) := by decide +kernel
theorem dX7_galois_64 : decode cX7_galois 64 = .ok (.bipush 96, 2) := by decide +kernel
theorem dX7_galois_66 : decode cX7_galois 66 = .ok (.istore_n 3, 1) := by decide +kernel
theorem dX7_galois_67 : decode cX7_galois 67 = .ok (.iload_n 2, 1) := by decide +kernel
theorem dX7_galois_68 : decode cX7_galois 68 = .ok (.iconst 3, 1) := by decide +kernel
theorem dX7_galois_69 : decode cX7_galois 69 = .ok (.if_icmp .ge 5, 3) := by decide +kernel
theorem dX7_galois_72 : decode cX7_galois 72 = .ok (.iload_n 2, 1) := by decide +kernel
theorem dX7_galois_73 : decode cX7_galois 73 = .ok (.ireturn, 1) := by decide +kernel
theorem dX7_galois_74 : decode cX7_galois 74 = .ok (.iload_n 2, 1) := by decide +kernel
theorem dX7_galois_75 : decode cX7_galois 75 = .ok (.iconst 3, 1) := by decide +kernel
theorem dX7_galois_76 : decode cX7_galois 76 = .ok (.if_icmp .ne 40, 3) := by decide +kernel
theorem dX7_galois_79 : decode cX7_galois 79 = .ok (.aload_n 0, 1) := by decide +kernel
theorem dX7_galois_80 : decode cX7_galois 80 = .ok (.aload_n 0, 1) := by decide +kernel
theorem dX7_galois_81 : decode cX7_galois 81 = .ok (.getfield 7, 3) := by decide +kernel
theorem dX7_galois_84 : decode cX7_galois 84 = .ok (.iload_n 3, 1) := by decide +kernel
theorem dX7_galois_85 : decode cX7_galois 85 = .ok (.iconst 3, 1) := by decide +kernel
theorem dX7_galois_86 : decode cX7_galois 86 = .ok (.iadd, 1) := by decide +kernel
theorem dX7_galois_87 : decode cX7_galois 87 = .ok (.laload, 1) := by decide +kernel
theorem dX7_galois_88 : decode cX7_galois 88 = .ok (.aload_n 0, 1) := by decide +kernel
theorem dX7_galois_89 : decode cX7_galois 89 = .ok (.getfield 7, 3) := by decide +kernel
theorem dX7_galois_92 : decode cX7_galois 92 = .ok (.iload_n 3, 1) := by decide +kernel
theorem dX7_galois_93 : decode cX7_galois 93 = .ok (.iconst 2, 1) := by decide +kernel
theorem dX7_galois_94 : decode cX7_galois 94 = .ok (.iadd, 1) := by decide +kernel
theorem dX7_galois_95 : decode cX7_galois 95 = .ok (.laload, 1) := by decide +kernel
theorem dX7_galois_96 : decode cX7_galois 96 = .ok (.aload_n 0, 1) := by decide +kernel
theorem dX7_galois_97 : decode cX7_galois 97 = .ok (.getfield 7, 3) := by decide +kernel
theorem dX7_galois_100 : decode cX7_galois 100 = .ok (.iload_n 3, 1) := by decide +kernel
theorem dX7_galois_101 : decode cX7_galois 101 = .ok (.iconst 1, 1) := by decide +kernel
theorem dX7_galois_102 : decode cX7_galois 102 = .ok (.iadd, 1) := by decide +kernel
theorem dX7_galois_103 : decode cX7_galois 103 = .ok (.laload, 1) := by decide +kernel
theorem dX7_galois_104 : decode cX7_galois 104 = .ok (.aload_n 0, 1) := by decide +kernel
theorem dX7_galois_105 : decode cX7_galois 105 = .ok (.getfield 7, 3) := by decide +kernel
theorem dX7_galois_108 : decode cX7_galois 108 = .ok (.iload_n 3, 1) := by decide +kernel
theorem dX7_galois_109 : decode cX7_galois 109 = .ok (.laload, 1) := by decide +kernel
theorem dX7_galois_110 : decode cX7_galois 110 = .ok (.invokevirtual 266, 3) := by decide +kernel
theorem dX7_galois_113 : decode cX7_galois 113 = .ok (.goto 45, 3) := by decide +kernel
theorem dX7_galois_116 : decode cX7_galois 116 = .ok (.aload_n 0, 1) := by decide +kernel
theorem dX7_galois_117 : decode cX7_galois 117 = .ok (.aload_n 0, 1) := by decide +kernel
theorem dX7_galois_118 : decode cX7_galois 118 = .ok (.getfield 7, 3) := by decide +kernel
theorem dX7_galois_121 : decode cX7_galois 121 = .ok (.iload_n 3, 1) := by decide +kernel
theorem dX7_galois_122 : decode cX7_galois 122 = .ok (.iconst 4, 1) := by decide +kernel
theorem dX7_galois_123 : decode cX7_galois 123 = .ok (.iadd, 1) := by decide +kernel
theorem dX7_galois_124 : decode cX7_galois 124 = .ok (.laload, 1) := by decide +kernel
theorem dX7_galois_125 : decode cX7_galois 125 = .ok (.aload_n 0, 1) := by decide +kernel
theorem dX7_galois_126 : decode cX7_galois 126 = .ok (.getfield 7, 3) := by decide +kernel
theorem dX7_galois_129 : decode cX7_galois 129 = .ok (.iload_n 3, 1) := by decide +kernel
theorem dX7_galois_130 : decode cX7_galois 130 = .ok (.iconst 3, 1) := by decide +kernel
theorem dX7_galois_131 : decode cX7_galois 131 = .ok (.iadd, 1) := by decide +kernel
theorem dX7_galois_132 : decode cX7_galois 132 = .ok (.laload, 1) := by decide +kernel
theorem dX7_galois_133 : decode cX7_galois 133 = .ok (.aload_n 0, 1) := by decide +kernel
theorem dX7_galois_134 : decode cX7_galois 134 = .ok (.getfield 7, 3) := by decide +kernel
theorem dX7_galois_137 : decode cX7_galois 137 = .ok (.iload_n 3, 1) := by decide +kernel
theorem dX7_galois_138 : decode cX7_galois 138 = .ok (.iconst 2, 1) := by decide +kernel
theorem dX7_galois_139 : decode cX7_galois 139 = .ok (.iadd, 1) := by decide +kernel
theorem dX7_galois_140 : decode cX7_galois 140 = .ok (.laload, 1) := by decide +kernel
theorem dX7_galois_141 : decode cX7_galois 141 = .ok (.aload_n 0, 1) := by decide +kernel
theorem dX7_galois_142 : decode cX7_galois 142 = .ok (.getfield 7, 3) := by decide +kernel
theorem dX7_galois_145 : decode cX7_galois 145 = .ok (.iload_n 3, 1) := by decide +kernel
theorem dX7_galois_146 : decode cX7_galois 146 = .ok (.iconst 1, 1) := by decide +kernel
theorem dX7_galois_147 : decode cX7_galois 147 = .ok (.iadd, 1) := by decide +kernel
theorem dX7_galois_148 : decode cX7_galois 148 = .ok (.laload, 1) := by decide +kernel
theorem dX7_galois_149 : decode cX7_galois 149 = .ok (.aload_n 0, 1) := by decide +kernel
theorem dX7_galois_150 : decode cX7_galois 150 = .ok (.getfield 7, 3) := by decide +kernel
theorem dX7_galois_153 : decode cX7_galois 153 = .ok (.iload_n 3, 1) := by decide +kernel
theorem dX7_galois_154 : decode cX7_galois 154 = .ok (.laload, 1) := by decide +kernel
theorem dX7_galois_155 : decode cX7_galois 155 = .ok (.invokevirtual 270, 3) := by decide +kernel
theorem dX7_galois_158 : decode cX7_galois 158 = .ok (.ireturn, 1) := by decide +kernel
