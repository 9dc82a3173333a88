theorem d_fmet_0 : decode prog_9_method_21_code 0 = .ok (.aload_n 0, 1) := by decide +kernel
theorem d_fmet_1 : decode prog_9_method_21_code 1 = .ok (.iload_n 1, 1) := by decide +kernel
theorem d_fmet_2 : decode prog_9_method_21_code 2 = .ok (.invokevirtual 62, 3) := by decide +kernel
theorem d_fmet_5 : decode prog_9_method_21_code 5 = .ok (.ifCond .ne 5, 3) := by decide +kernel
theorem d_fmet_8 : decode prog_9_method_21_code 8 = .ok (.iconst (-1), 1) := by decide +kernel
theorem d_fmet_9 : decode prog_9_method_21_code 9 = .ok (.ireturn, 1) := by decide +kernel
theorem d_fmet_10 : decode prog_9_method_21_code 10 = .ok (.iconst (-1), 1) := by decide +kernel
theorem d_fmet_11 : decode prog_9_method_21_code 11 = .ok (.istore_n 3, 1) := by decide +kernel
theorem d_fmet_12 : decode prog_9_method_21_code 12 = .ok (.aload_n 0, 1) := by decide +kernel
theorem d_fmet_13 : decode prog_9_method_21_code 13 = .ok (.getfield 44, 3) := by decide +kernel
theorem d_fmet_16 : decode prog_9_method_21_code 16 = .ok (.iconst 1, 1) := by decide +kernel
theorem d_fmet_17 : decode prog_9_method_21_code 17 = .ok (.isub, 1) := by decide +kernel
theorem d_fmet_18 : decode prog_9_method_21_code 18 = .ok (.istore 4, 2) := by decide +kernel
theorem d_fmet_20 : decode prog_9_method_21_code 20 = .ok (.iload 4, 2) := by decide +kernel
theorem d_fmet_22 : decode prog_9_method_21_code 22 = .ok (.ifCond .lt 32, 3) := by decide +kernel
theorem d_fmet_25 : decode prog_9_method_21_code 25 = .ok (.iload 4, 2) := by decide +kernel
theorem d_fmet_27 : decode prog_9_method_21_code 27 = .ok (.iload_n 2, 1) := by decide +kernel
theorem d_fmet_28 : decode prog_9_method_21_code 28 = .ok (.if_icmp .le 18, 3) := by decide +kernel
theorem d_fmet_31 : decode prog_9_method_21_code 31 = .ok (.aload_n 0, 1) := by decide +kernel
theorem d_fmet_32 : decode prog_9_method_21_code 32 = .ok (.iload_n 1, 1) := by decide +kernel
theorem d_fmet_33 : decode prog_9_method_21_code 33 = .ok (.iload 4, 2) := by decide +kernel
theorem d_fmet_35 : decode prog_9_method_21_code 35 = .ok (.invokevirtual 109, 3) := by decide +kernel
theorem d_fmet_38 : decode prog_9_method_21_code 38 = .ok (.ifCond .eq 8, 3) := by decide +kernel
theorem d_fmet_41 : decode prog_9_method_21_code 41 = .ok (.iload 4, 2) := by decide +kernel
theorem d_fmet_43 : decode prog_9_method_21_code 43 = .ok (.goto 4, 3) := by decide +kernel
theorem d_fmet_46 : decode prog_9_method_21_code 46 = .ok (.iload_n 3, 1) := by decide +kernel
theorem d_fmet_47 : decode prog_9_method_21_code 47 = .ok (.istore_n 3, 1) := by decide +kernel
theorem d_fmet_48 : decode prog_9_method_21_code 48 = .ok (.iinc 4 (-1), 3) := by decide +kernel
theorem d_fmet_51 : decode prog_9_method_21_code 51 = .ok (.goto (-31), 3) := by decide +kernel
theorem d_fmet_54 : decode prog_9_method_21_code 54 = .ok (.iload_n 3, 1) := by decide +kernel
theorem d_fmet_55 : decode prog_9_method_21_code 55 = .ok (.ireturn, 1) := by decide +kernel
theorem d_fcount_0 : decode prog_9_method_22_code 0 = .ok (.aload_n 0, 1) := by decide +kernel
theorem d_fcount_1 : decode prog_9_method_22_code 1 = .ok (.invokevirtual 89, 3) := by decide +kernel
theorem d_fcount_4 : decode prog_9_method_22_code 4 = .ok (.iconst 0, 1) := by decide +kernel
theorem d_fcount_5 : decode prog_9_method_22_code 5 = .ok (.istore_n 2, 1) := by decide +kernel
theorem d_fcount_6 : decode prog_9_method_22_code 6 = .ok (.iconst 0, 1) := by decide +kernel
theorem d_fcount_7 : decode prog_9_method_22_code 7 = .ok (.istore_n 3, 1) := by decide +kernel
theorem d_fcount_8 : decode prog_9_method_22_code 8 = .ok (.iconst (-1), 1) := by decide +kernel
theorem d_fcount_9 : decode prog_9_method_22_code 9 = .ok (.istore 4, 2) := by decide +kernel
theorem d_fcount_11 : decode prog_9_method_22_code 11 = .ok (.iconst 0, 1) := by decide +kernel
theorem d_fcount_12 : decode prog_9_method_22_code 12 = .ok (.istore 5, 2) := by decide +kernel
theorem d_fcount_14 : decode prog_9_method_22_code 14 = .ok (.aload_n 0, 1) := by decide +kernel
theorem d_fcount_15 : decode prog_9_method_22_code 15 = .ok (.getfield 44, 3) := by decide +kernel
theorem d_fcount_18 : decode prog_9_method_22_code 18 = .ok (.iconst 1, 1) := by decide +kernel
theorem d_fcount_19 : decode prog_9_method_22_code 19 = .ok (.isub, 1) := by decide +kernel
theorem d_fcount_20 : decode prog_9_method_22_code 20 = .ok (.istore 6, 2) := by decide +kernel
theorem d_fcount_22 : decode prog_9_method_22_code 22 = .ok (.iload 6, 2) := by decide +kernel
theorem d_fcount_24 : decode prog_9_method_22_code 24 = .ok (.ifCond .lt 112, 3) := by decide +kernel
theorem d_fcount_27 : decode prog_9_method_22_code 27 = .ok (.iload_n 1, 1) := by decide +kernel
theorem d_fcount_28 : decode prog_9_method_22_code 28 = .ok (.ifCond .le 108, 3) := by decide +kernel
theorem d_fcount_31 : decode prog_9_method_22_code 31 = .ok (.iload_n 1, 1) := by decide +kernel
theorem d_fcount_32 : decode prog_9_method_22_code 32 = .ok (.iconst 5, 1) := by decide +kernel
theorem d_fcount_33 : decode prog_9_method_22_code 33 = .ok (.if_icmp .ge 103, 3) := by decide +kernel
theorem d_fcount_36 : decode prog_9_method_22_code 36 = .ok (.aload_n 0, 1) := by decide +kernel
theorem d_fcount_37 : decode prog_9_method_22_code 37 = .ok (.getfield 28, 3) := by decide +kernel
theorem d_fcount_40 : decode prog_9_method_22_code 40 = .ok (.iload 6, 2) := by decide +kernel
theorem d_fcount_42 : decode prog_9_method_22_code 42 = .ok (.baload, 1) := by decide +kernel
theorem d_fcount_43 : decode prog_9_method_22_code 43 = .ok (.ifCond .eq 9, 3) := by decide +kernel
theorem d_fcount_46 : decode prog_9_method_22_code 46 = .ok (.iload_n 2, 1) := by decide +kernel
theorem d_fcount_47 : decode prog_9_method_22_code 47 = .ok (.iconst 1, 1) := by decide +kernel
theorem d_fcount_48 : decode prog_9_method_22_code 48 = .ok (.iadd, 1) := by decide +kernel
theorem d_fcount_49 : decode prog_9_method_22_code 49 = .ok (.goto 4, 3) := by decide +kernel
theorem d_fcount_52 : decode prog_9_method_22_code 52 = .ok (.iload_n 2, 1) := by decide +kernel
theorem d_fcount_53 : decode prog_9_method_22_code 53 = .ok (.istore_n 2, 1) := by decide +kernel
theorem d_fcount_54 : decode prog_9_method_22_code 54 = .ok (.aload_n 0, 1) := by decide +kernel
theorem d_fcount_55 : decode prog_9_method_22_code 55 = .ok (.getfield 7, 3) := by decide +kernel
theorem d_fcount_58 : decode prog_9_method_22_code 58 = .ok (.iload 6, 2) := by decide +kernel
theorem d_fcount_60 : decode prog_9_method_22_code 60 = .ok (.iaload, 1) := by decide +kernel
theorem d_fcount_61 : decode prog_9_method_22_code 61 = .ok (.iconst 1, 1) := by decide +kernel
theorem d_fcount_62 : decode prog_9_method_22_code 62 = .ok (.if_icmp .ne 10, 3) := by decide +kernel
theorem d_fcount_65 : decode prog_9_method_22_code 65 = .ok (.iload 5, 2) := by decide +kernel
theorem d_fcount_67 : decode prog_9_method_22_code 67 = .ok (.iconst 1, 1) := by decide +kernel
theorem d_fcount_68 : decode prog_9_method_22_code 68 = .ok (.iadd, 1) := by decide +kernel
theorem d_fcount_69 : decode prog_9_method_22_code 69 = .ok (.goto 5, 3) := by decide +kernel
theorem d_fcount_72 : decode prog_9_method_22_code 72 = .ok (.iload 5, 2) := by decide +kernel
theorem d_fcount_74 : decode prog_9_method_22_code 74 = .ok (.istore 5, 2) := by decide +kernel
theorem d_fcount_76 : decode prog_9_method_22_code 76 = .ok (.iload_n 1, 1) := by decide +kernel
theorem d_fcount_77 : decode prog_9_method_22_code 77 = .ok (.iconst 2, 1) := by decide +kernel
theorem d_fcount_78 : decode prog_9_method_22_code 78 = .ok (.if_icmp .eq 8, 3) := by decide +kernel
theorem d_fcount_81 : decode prog_9_method_22_code 81 = .ok (.iload_n 1, 1) := by decide +kernel
theorem d_fcount_82 : decode prog_9_method_22_code 82 = .ok (.iconst 3, 1) := by decide +kernel
theorem d_fcount_83 : decode prog_9_method_22_code 83 = .ok (.if_icmp .ne 17, 3) := by decide +kernel
theorem d_fcount_86 : decode prog_9_method_22_code 86 = .ok (.aload_n 0, 1) := by decide +kernel
theorem d_fcount_87 : decode prog_9_method_22_code 87 = .ok (.iload 6, 2) := by decide +kernel
theorem d_fcount_89 : decode prog_9_method_22_code 89 = .ok (.iconst (-1), 1) := by decide +kernel
theorem d_fcount_90 : decode prog_9_method_22_code 90 = .ok (.invokevirtual 112, 3) := by decide +kernel
theorem d_fcount_93 : decode prog_9_method_22_code 93 = .ok (.ifCond .lt 7, 3) := by decide +kernel
theorem d_fcount_96 : decode prog_9_method_22_code 96 = .ok (.iconst 1, 1) := by decide +kernel
theorem d_fcount_97 : decode prog_9_method_22_code 97 = .ok (.goto 4, 3) := by decide +kernel
theorem d_fcount_100 : decode prog_9_method_22_code 100 = .ok (.iconst 0, 1) := by decide +kernel
theorem d_fcount_101 : decode prog_9_method_22_code 101 = .ok (.istore 7, 2) := by decide +kernel
theorem d_fcount_103 : decode prog_9_method_22_code 103 = .ok (.iload 7, 2) := by decide +kernel
theorem d_fcount_105 : decode prog_9_method_22_code 105 = .ok (.ifCond .eq 9, 3) := by decide +kernel
theorem d_fcount_108 : decode prog_9_method_22_code 108 = .ok (.iload_n 3, 1) := by decide +kernel
theorem d_fcount_109 : decode prog_9_method_22_code 109 = .ok (.iconst 1, 1) := by decide +kernel
theorem d_fcount_110 : decode prog_9_method_22_code 110 = .ok (.iadd, 1) := by decide +kernel
theorem d_fcount_111 : decode prog_9_method_22_code 111 = .ok (.goto 4, 3) := by decide +kernel
theorem d_fcount_114 : decode prog_9_method_22_code 114 = .ok (.iload_n 3, 1) := by decide +kernel
theorem d_fcount_115 : decode prog_9_method_22_code 115 = .ok (.istore_n 3, 1) := by decide +kernel
theorem d_fcount_116 : decode prog_9_method_22_code 116 = .ok (.iload 7, 2) := by decide +kernel
theorem d_fcount_118 : decode prog_9_method_22_code 118 = .ok (.ifCond .eq 8, 3) := by decide +kernel
theorem d_fcount_121 : decode prog_9_method_22_code 121 = .ok (.iload 6, 2) := by decide +kernel
theorem d_fcount_123 : decode prog_9_method_22_code 123 = .ok (.goto 5, 3) := by decide +kernel
theorem d_fcount_126 : decode prog_9_method_22_code 126 = .ok (.iload 4, 2) := by decide +kernel
theorem d_fcount_128 : decode prog_9_method_22_code 128 = .ok (.istore 4, 2) := by decide +kernel
theorem d_fcount_130 : decode prog_9_method_22_code 130 = .ok (.iinc 6 (-1), 3) := by decide +kernel
theorem d_fcount_133 : decode prog_9_method_22_code 133 = .ok (.goto (-111), 3) := by decide +kernel
theorem d_fcount_136 : decode prog_9_method_22_code 136 = .ok (.iload_n 1, 1) := by decide +kernel
theorem d_fcount_137 : decode prog_9_method_22_code 137 = .ok (.ifCond .ne 10, 3) := by decide +kernel
theorem d_fcount_140 : decode prog_9_method_22_code 140 = .ok (.aload_n 0, 1) := by decide +kernel
theorem d_fcount_141 : decode prog_9_method_22_code 141 = .ok (.getfield 44, 3) := by decide +kernel
theorem d_fcount_144 : decode prog_9_method_22_code 144 = .ok (.goto 42, 3) := by decide +kernel
theorem d_fcount_147 : decode prog_9_method_22_code 147 = .ok (.iload_n 1, 1) := by decide +kernel
theorem d_fcount_148 : decode prog_9_method_22_code 148 = .ok (.iconst 1, 1) := by decide +kernel
theorem d_fcount_149 : decode prog_9_method_22_code 149 = .ok (.if_icmp .ne 7, 3) := by decide +kernel
theorem d_fcount_152 : decode prog_9_method_22_code 152 = .ok (.iload_n 2, 1) := by decide +kernel
theorem d_fcount_153 : decode prog_9_method_22_code 153 = .ok (.goto 33, 3) := by decide +kernel
theorem d_fcount_156 : decode prog_9_method_22_code 156 = .ok (.iload_n 1, 1) := by decide +kernel
theorem d_fcount_157 : decode prog_9_method_22_code 157 = .ok (.iconst 2, 1) := by decide +kernel
theorem d_fcount_158 : decode prog_9_method_22_code 158 = .ok (.if_icmp .ne 7, 3) := by decide +kernel
theorem d_fcount_161 : decode prog_9_method_22_code 161 = .ok (.iload_n 3, 1) := by decide +kernel
theorem d_fcount_162 : decode prog_9_method_22_code 162 = .ok (.goto 24, 3) := by decide +kernel
theorem d_fcount_165 : decode prog_9_method_22_code 165 = .ok (.iload_n 1, 1) := by decide +kernel
theorem d_fcount_166 : decode prog_9_method_22_code 166 = .ok (.iconst 3, 1) := by decide +kernel
theorem d_fcount_167 : decode prog_9_method_22_code 167 = .ok (.if_icmp .ne 8, 3) := by decide +kernel
theorem d_fcount_170 : decode prog_9_method_22_code 170 = .ok (.iload 4, 2) := by decide +kernel
theorem d_fcount_172 : decode prog_9_method_22_code 172 = .ok (.goto 14, 3) := by decide +kernel
theorem d_fcount_175 : decode prog_9_method_22_code 175 = .ok (.iload_n 1, 1) := by decide +kernel
theorem d_fcount_176 : decode prog_9_method_22_code 176 = .ok (.iconst 4, 1) := by decide +kernel
theorem d_fcount_177 : decode prog_9_method_22_code 177 = .ok (.if_icmp .ne 8, 3) := by decide +kernel
theorem d_fcount_180 : decode prog_9_method_22_code 180 = .ok (.iload 5, 2) := by decide +kernel
theorem d_fcount_182 : decode prog_9_method_22_code 182 = .ok (.goto 4, 3) := by decide +kernel
theorem d_fcount_185 : decode prog_9_method_22_code 185 = .ok (.iconst (-1), 1) := by decide +kernel
theorem d_fcount_186 : decode prog_9_method_22_code 186 = .ok (.ireturn, 1) := by decide +kernel
