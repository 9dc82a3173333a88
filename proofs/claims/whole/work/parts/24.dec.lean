theorem d_fIsReached_0 : decode prog_9_method_15_code 0 = .ok (.aload_n 0, 1) := by decide +kernel
theorem d_fIsReached_1 : decode prog_9_method_15_code 1 = .ok (.invokevirtual 89, 3) := by decide +kernel
theorem d_fIsReached_4 : decode prog_9_method_15_code 4 = .ok (.aload_n 0, 1) := by decide +kernel
theorem d_fIsReached_5 : decode prog_9_method_15_code 5 = .ok (.iload_n 1, 1) := by decide +kernel
theorem d_fIsReached_6 : decode prog_9_method_15_code 6 = .ok (.invokevirtual 62, 3) := by decide +kernel
theorem d_fIsReached_9 : decode prog_9_method_15_code 9 = .ok (.ifCond .eq 16, 3) := by decide +kernel
theorem d_fIsReached_12 : decode prog_9_method_15_code 12 = .ok (.aload_n 0, 1) := by decide +kernel
theorem d_fIsReached_13 : decode prog_9_method_15_code 13 = .ok (.getfield 28, 3) := by decide +kernel
theorem d_fIsReached_16 : decode prog_9_method_15_code 16 = .ok (.iload_n 1, 1) := by decide +kernel
theorem d_fIsReached_17 : decode prog_9_method_15_code 17 = .ok (.baload, 1) := by decide +kernel
theorem d_fIsReached_18 : decode prog_9_method_15_code 18 = .ok (.ifCond .eq 7, 3) := by decide +kernel
theorem d_fIsReached_21 : decode prog_9_method_15_code 21 = .ok (.iconst 1, 1) := by decide +kernel
theorem d_fIsReached_22 : decode prog_9_method_15_code 22 = .ok (.goto 4, 3) := by decide +kernel
theorem d_fIsReached_25 : decode prog_9_method_15_code 25 = .ok (.iconst 0, 1) := by decide +kernel
theorem d_fIsReached_26 : decode prog_9_method_15_code 26 = .ok (.ireturn, 1) := by decide +kernel
theorem d_fholders_0 : decode prog_9_method_16_code 0 = .ok (.aload_n 0, 1) := by decide +kernel
theorem d_fholders_1 : decode prog_9_method_16_code 1 = .ok (.invokevirtual 89, 3) := by decide +kernel
theorem d_fholders_4 : decode prog_9_method_16_code 4 = .ok (.aload_n 0, 1) := by decide +kernel
theorem d_fholders_5 : decode prog_9_method_16_code 5 = .ok (.iload_n 1, 1) := by decide +kernel
theorem d_fholders_6 : decode prog_9_method_16_code 6 = .ok (.invokevirtual 62, 3) := by decide +kernel
theorem d_fholders_9 : decode prog_9_method_16_code 9 = .ok (.ifCond .eq 25, 3) := by decide +kernel
theorem d_fholders_12 : decode prog_9_method_16_code 12 = .ok (.aload_n 0, 1) := by decide +kernel
theorem d_fholders_13 : decode prog_9_method_16_code 13 = .ok (.iload_n 2, 1) := by decide +kernel
theorem d_fholders_14 : decode prog_9_method_16_code 14 = .ok (.invokevirtual 62, 3) := by decide +kernel
theorem d_fholders_17 : decode prog_9_method_16_code 17 = .ok (.ifCond .eq 17, 3) := by decide +kernel
theorem d_fholders_20 : decode prog_9_method_16_code 20 = .ok (.aload_n 0, 1) := by decide +kernel
theorem d_fholders_21 : decode prog_9_method_16_code 21 = .ok (.getfield 35, 3) := by decide +kernel
theorem d_fholders_24 : decode prog_9_method_16_code 24 = .ok (.bipush 120, 2) := by decide +kernel
theorem d_fholders_26 : decode prog_9_method_16_code 26 = .ok (.iload_n 2, 1) := by decide +kernel
theorem d_fholders_27 : decode prog_9_method_16_code 27 = .ok (.imul, 1) := by decide +kernel
theorem d_fholders_28 : decode prog_9_method_16_code 28 = .ok (.iload_n 1, 1) := by decide +kernel
theorem d_fholders_29 : decode prog_9_method_16_code 29 = .ok (.iadd, 1) := by decide +kernel
theorem d_fholders_30 : decode prog_9_method_16_code 30 = .ok (.iaload, 1) := by decide +kernel
theorem d_fholders_31 : decode prog_9_method_16_code 31 = .ok (.goto 4, 3) := by decide +kernel
theorem d_fholders_34 : decode prog_9_method_16_code 34 = .ok (.iconst 0, 1) := by decide +kernel
theorem d_fholders_35 : decode prog_9_method_16_code 35 = .ok (.ireturn, 1) := by decide +kernel
theorem d_fused_0 : decode prog_9_method_17_code 0 = .ok (.aload_n 0, 1) := by decide +kernel
theorem d_fused_1 : decode prog_9_method_17_code 1 = .ok (.invokevirtual 89, 3) := by decide +kernel
theorem d_fused_4 : decode prog_9_method_17_code 4 = .ok (.aload_n 0, 1) := by decide +kernel
theorem d_fused_5 : decode prog_9_method_17_code 5 = .ok (.iload_n 1, 1) := by decide +kernel
theorem d_fused_6 : decode prog_9_method_17_code 6 = .ok (.invokevirtual 62, 3) := by decide +kernel
theorem d_fused_9 : decode prog_9_method_17_code 9 = .ok (.ifCond .eq 12, 3) := by decide +kernel
theorem d_fused_12 : decode prog_9_method_17_code 12 = .ok (.aload_n 0, 1) := by decide +kernel
theorem d_fused_13 : decode prog_9_method_17_code 13 = .ok (.getfield 32, 3) := by decide +kernel
theorem d_fused_16 : decode prog_9_method_17_code 16 = .ok (.iload_n 1, 1) := by decide +kernel
theorem d_fused_17 : decode prog_9_method_17_code 17 = .ok (.iaload, 1) := by decide +kernel
theorem d_fused_18 : decode prog_9_method_17_code 18 = .ok (.goto 4, 3) := by decide +kernel
theorem d_fused_21 : decode prog_9_method_17_code 21 = .ok (.iconst 0, 1) := by decide +kernel
theorem d_fused_22 : decode prog_9_method_17_code 22 = .ok (.ireturn, 1) := by decide +kernel
theorem d_fIsAlive_0 : decode prog_9_method_18_code 0 = .ok (.aload_n 0, 1) := by decide +kernel
theorem d_fIsAlive_1 : decode prog_9_method_18_code 1 = .ok (.iload_n 1, 1) := by decide +kernel
theorem d_fIsAlive_2 : decode prog_9_method_18_code 2 = .ok (.iload_n 2, 1) := by decide +kernel
theorem d_fIsAlive_3 : decode prog_9_method_18_code 3 = .ok (.invokevirtual 92, 3) := by decide +kernel
theorem d_fIsAlive_6 : decode prog_9_method_18_code 6 = .ok (.aload_n 0, 1) := by decide +kernel
theorem d_fIsAlive_7 : decode prog_9_method_18_code 7 = .ok (.iload_n 1, 1) := by decide +kernel
theorem d_fIsAlive_8 : decode prog_9_method_18_code 8 = .ok (.invokevirtual 96, 3) := by decide +kernel
theorem d_fIsAlive_11 : decode prog_9_method_18_code 11 = .ok (.iand, 1) := by decide +kernel
theorem d_fIsAlive_12 : decode prog_9_method_18_code 12 = .ok (.ifCond .eq 7, 3) := by decide +kernel
theorem d_fIsAlive_15 : decode prog_9_method_18_code 15 = .ok (.iconst 1, 1) := by decide +kernel
theorem d_fIsAlive_16 : decode prog_9_method_18_code 16 = .ok (.goto 4, 3) := by decide +kernel
theorem d_fIsAlive_19 : decode prog_9_method_18_code 19 = .ok (.iconst 0, 1) := by decide +kernel
theorem d_fIsAlive_20 : decode prog_9_method_18_code 20 = .ok (.ireturn, 1) := by decide +kernel
theorem d_fmeets_0 : decode prog_9_method_20_code 0 = .ok (.aload_n 0, 1) := by decide +kernel
theorem d_fmeets_1 : decode prog_9_method_20_code 1 = .ok (.iload_n 1, 1) := by decide +kernel
theorem d_fmeets_2 : decode prog_9_method_20_code 2 = .ok (.invokevirtual 100, 3) := by decide +kernel
theorem d_fmeets_5 : decode prog_9_method_20_code 5 = .ok (.ifCond .eq 60, 3) := by decide +kernel
theorem d_fmeets_8 : decode prog_9_method_20_code 8 = .ok (.aload_n 0, 1) := by decide +kernel
theorem d_fmeets_9 : decode prog_9_method_20_code 9 = .ok (.getfield 7, 3) := by decide +kernel
theorem d_fmeets_12 : decode prog_9_method_20_code 12 = .ok (.iload_n 1, 1) := by decide +kernel
theorem d_fmeets_13 : decode prog_9_method_20_code 13 = .ok (.iaload, 1) := by decide +kernel
theorem d_fmeets_14 : decode prog_9_method_20_code 14 = .ok (.iconst 1, 1) := by decide +kernel
theorem d_fmeets_15 : decode prog_9_method_20_code 15 = .ok (.if_icmp .eq 13, 3) := by decide +kernel
theorem d_fmeets_18 : decode prog_9_method_20_code 18 = .ok (.aload_n 0, 1) := by decide +kernel
theorem d_fmeets_19 : decode prog_9_method_20_code 19 = .ok (.getfield 7, 3) := by decide +kernel
theorem d_fmeets_22 : decode prog_9_method_20_code 22 = .ok (.iload_n 1, 1) := by decide +kernel
theorem d_fmeets_23 : decode prog_9_method_20_code 23 = .ok (.iaload, 1) := by decide +kernel
theorem d_fmeets_24 : decode prog_9_method_20_code 24 = .ok (.iconst 5, 1) := by decide +kernel
theorem d_fmeets_25 : decode prog_9_method_20_code 25 = .ok (.if_icmp .lt 40, 3) := by decide +kernel
theorem d_fmeets_28 : decode prog_9_method_20_code 28 = .ok (.aload_n 0, 1) := by decide +kernel
theorem d_fmeets_29 : decode prog_9_method_20_code 29 = .ok (.getfield 7, 3) := by decide +kernel
theorem d_fmeets_32 : decode prog_9_method_20_code 32 = .ok (.iload_n 2, 1) := by decide +kernel
theorem d_fmeets_33 : decode prog_9_method_20_code 33 = .ok (.iaload, 1) := by decide +kernel
theorem d_fmeets_34 : decode prog_9_method_20_code 34 = .ok (.iconst 1, 1) := by decide +kernel
theorem d_fmeets_35 : decode prog_9_method_20_code 35 = .ok (.if_icmp .ne 30, 3) := by decide +kernel
theorem d_fmeets_38 : decode prog_9_method_20_code 38 = .ok (.aload_n 0, 1) := by decide +kernel
theorem d_fmeets_39 : decode prog_9_method_20_code 39 = .ok (.iload_n 1, 1) := by decide +kernel
theorem d_fmeets_40 : decode prog_9_method_20_code 40 = .ok (.iload_n 2, 1) := by decide +kernel
theorem d_fmeets_41 : decode prog_9_method_20_code 41 = .ok (.invokevirtual 103, 3) := by decide +kernel
theorem d_fmeets_44 : decode prog_9_method_20_code 44 = .ok (.ifCond .eq 21, 3) := by decide +kernel
theorem d_fmeets_47 : decode prog_9_method_20_code 47 = .ok (.aload_n 0, 1) := by decide +kernel
theorem d_fmeets_48 : decode prog_9_method_20_code 48 = .ok (.getfield 16, 3) := by decide +kernel
theorem d_fmeets_51 : decode prog_9_method_20_code 51 = .ok (.iload_n 1, 1) := by decide +kernel
theorem d_fmeets_52 : decode prog_9_method_20_code 52 = .ok (.iaload, 1) := by decide +kernel
theorem d_fmeets_53 : decode prog_9_method_20_code 53 = .ok (.aload_n 0, 1) := by decide +kernel
theorem d_fmeets_54 : decode prog_9_method_20_code 54 = .ok (.getfield 16, 3) := by decide +kernel
theorem d_fmeets_57 : decode prog_9_method_20_code 57 = .ok (.iload_n 2, 1) := by decide +kernel
theorem d_fmeets_58 : decode prog_9_method_20_code 58 = .ok (.iaload, 1) := by decide +kernel
theorem d_fmeets_59 : decode prog_9_method_20_code 59 = .ok (.invokestatic 106, 3) := by decide +kernel
theorem d_fmeets_62 : decode prog_9_method_20_code 62 = .ok (.ifCond .ne 5, 3) := by decide +kernel
theorem d_fmeets_65 : decode prog_9_method_20_code 65 = .ok (.iconst 0, 1) := by decide +kernel
theorem d_fmeets_66 : decode prog_9_method_20_code 66 = .ok (.ireturn, 1) := by decide +kernel
theorem d_fmeets_67 : decode prog_9_method_20_code 67 = .ok (.aload_n 0, 1) := by decide +kernel
theorem d_fmeets_68 : decode prog_9_method_20_code 68 = .ok (.getfield 7, 3) := by decide +kernel
theorem d_fmeets_71 : decode prog_9_method_20_code 71 = .ok (.iload_n 1, 1) := by decide +kernel
theorem d_fmeets_72 : decode prog_9_method_20_code 72 = .ok (.iaload, 1) := by decide +kernel
theorem d_fmeets_73 : decode prog_9_method_20_code 73 = .ok (.bipush 6, 2) := by decide +kernel
theorem d_fmeets_75 : decode prog_9_method_20_code 75 = .ok (.if_icmp .eq 23, 3) := by decide +kernel
theorem d_fmeets_78 : decode prog_9_method_20_code 78 = .ok (.aload_n 0, 1) := by decide +kernel
theorem d_fmeets_79 : decode prog_9_method_20_code 79 = .ok (.getfield 7, 3) := by decide +kernel
theorem d_fmeets_82 : decode prog_9_method_20_code 82 = .ok (.iload_n 1, 1) := by decide +kernel
theorem d_fmeets_83 : decode prog_9_method_20_code 83 = .ok (.iaload, 1) := by decide +kernel
theorem d_fmeets_84 : decode prog_9_method_20_code 84 = .ok (.iconst 1, 1) := by decide +kernel
theorem d_fmeets_85 : decode prog_9_method_20_code 85 = .ok (.if_icmp .ne 17, 3) := by decide +kernel
theorem d_fmeets_88 : decode prog_9_method_20_code 88 = .ok (.aload_n 0, 1) := by decide +kernel
theorem d_fmeets_89 : decode prog_9_method_20_code 89 = .ok (.getfield 19, 3) := by decide +kernel
theorem d_fmeets_92 : decode prog_9_method_20_code 92 = .ok (.iload_n 1, 1) := by decide +kernel
theorem d_fmeets_93 : decode prog_9_method_20_code 93 = .ok (.iaload, 1) := by decide +kernel
theorem d_fmeets_94 : decode prog_9_method_20_code 94 = .ok (.iconst 1, 1) := by decide +kernel
theorem d_fmeets_95 : decode prog_9_method_20_code 95 = .ok (.if_icmp .ne 7, 3) := by decide +kernel
theorem d_fmeets_98 : decode prog_9_method_20_code 98 = .ok (.iconst 1, 1) := by decide +kernel
theorem d_fmeets_99 : decode prog_9_method_20_code 99 = .ok (.goto 4, 3) := by decide +kernel
theorem d_fmeets_102 : decode prog_9_method_20_code 102 = .ok (.iconst 0, 1) := by decide +kernel
theorem d_fmeets_103 : decode prog_9_method_20_code 103 = .ok (.istore_n 3, 1) := by decide +kernel
theorem d_fmeets_104 : decode prog_9_method_20_code 104 = .ok (.aload_n 0, 1) := by decide +kernel
theorem d_fmeets_105 : decode prog_9_method_20_code 105 = .ok (.getfield 7, 3) := by decide +kernel
theorem d_fmeets_108 : decode prog_9_method_20_code 108 = .ok (.iload_n 1, 1) := by decide +kernel
theorem d_fmeets_109 : decode prog_9_method_20_code 109 = .ok (.iaload, 1) := by decide +kernel
theorem d_fmeets_110 : decode prog_9_method_20_code 110 = .ok (.iconst 1, 1) := by decide +kernel
theorem d_fmeets_111 : decode prog_9_method_20_code 111 = .ok (.if_icmp .ne 30, 3) := by decide +kernel
theorem d_fmeets_114 : decode prog_9_method_20_code 114 = .ok (.aload_n 0, 1) := by decide +kernel
theorem d_fmeets_115 : decode prog_9_method_20_code 115 = .ok (.iload_n 1, 1) := by decide +kernel
theorem d_fmeets_116 : decode prog_9_method_20_code 116 = .ok (.iload_n 2, 1) := by decide +kernel
theorem d_fmeets_117 : decode prog_9_method_20_code 117 = .ok (.invokevirtual 92, 3) := by decide +kernel
theorem d_fmeets_120 : decode prog_9_method_20_code 120 = .ok (.aload_n 0, 1) := by decide +kernel
theorem d_fmeets_121 : decode prog_9_method_20_code 121 = .ok (.iload_n 1, 1) := by decide +kernel
theorem d_fmeets_122 : decode prog_9_method_20_code 122 = .ok (.invokevirtual 96, 3) := by decide +kernel
theorem d_fmeets_125 : decode prog_9_method_20_code 125 = .ok (.iand, 1) := by decide +kernel
theorem d_fmeets_126 : decode prog_9_method_20_code 126 = .ok (.iconst 1, 1) := by decide +kernel
theorem d_fmeets_127 : decode prog_9_method_20_code 127 = .ok (.aload_n 0, 1) := by decide +kernel
theorem d_fmeets_128 : decode prog_9_method_20_code 128 = .ok (.getfield 13, 3) := by decide +kernel
theorem d_fmeets_131 : decode prog_9_method_20_code 131 = .ok (.iload_n 1, 1) := by decide +kernel
theorem d_fmeets_132 : decode prog_9_method_20_code 132 = .ok (.iaload, 1) := by decide +kernel
theorem d_fmeets_133 : decode prog_9_method_20_code 133 = .ok (.ishl, 1) := by decide +kernel
theorem d_fmeets_134 : decode prog_9_method_20_code 134 = .ok (.if_icmp .ne 7, 3) := by decide +kernel
theorem d_fmeets_137 : decode prog_9_method_20_code 137 = .ok (.iconst 1, 1) := by decide +kernel
theorem d_fmeets_138 : decode prog_9_method_20_code 138 = .ok (.goto 4, 3) := by decide +kernel
theorem d_fmeets_141 : decode prog_9_method_20_code 141 = .ok (.iconst 0, 1) := by decide +kernel
theorem d_fmeets_142 : decode prog_9_method_20_code 142 = .ok (.istore 4, 2) := by decide +kernel
theorem d_fmeets_144 : decode prog_9_method_20_code 144 = .ok (.iload_n 3, 1) := by decide +kernel
theorem d_fmeets_145 : decode prog_9_method_20_code 145 = .ok (.ifCond .ne 13, 3) := by decide +kernel
theorem d_fmeets_148 : decode prog_9_method_20_code 148 = .ok (.aload_n 0, 1) := by decide +kernel
theorem d_fmeets_149 : decode prog_9_method_20_code 149 = .ok (.getfield 19, 3) := by decide +kernel
theorem d_fmeets_152 : decode prog_9_method_20_code 152 = .ok (.iload_n 2, 1) := by decide +kernel
theorem d_fmeets_153 : decode prog_9_method_20_code 153 = .ok (.iaload, 1) := by decide +kernel
theorem d_fmeets_154 : decode prog_9_method_20_code 154 = .ok (.iconst 1, 1) := by decide +kernel
theorem d_fmeets_155 : decode prog_9_method_20_code 155 = .ok (.if_icmp .ne 12, 3) := by decide +kernel
theorem d_fmeets_158 : decode prog_9_method_20_code 158 = .ok (.iload 4, 2) := by decide +kernel
theorem d_fmeets_160 : decode prog_9_method_20_code 160 = .ok (.ifCond .ne 7, 3) := by decide +kernel
theorem d_fmeets_163 : decode prog_9_method_20_code 163 = .ok (.iconst 1, 1) := by decide +kernel
theorem d_fmeets_164 : decode prog_9_method_20_code 164 = .ok (.goto 4, 3) := by decide +kernel
theorem d_fmeets_167 : decode prog_9_method_20_code 167 = .ok (.iconst 0, 1) := by decide +kernel
theorem d_fmeets_168 : decode prog_9_method_20_code 168 = .ok (.ireturn, 1) := by decide +kernel
