theorem d_flearn_0 : decode prog_9_method_14_code 0 = .ok (.aload_n 0, 1) := by decide +kernel
theorem d_flearn_1 : decode prog_9_method_14_code 1 = .ok (.getfield 55, 3) := by decide +kernel
theorem d_flearn_4 : decode prog_9_method_14_code 4 = .ok (.ifCond .eq 4, 3) := by decide +kernel
theorem d_flearn_7 : decode prog_9_method_14_code 7 = .ok (.return_, 1) := by decide +kernel
theorem d_flearn_8 : decode prog_9_method_14_code 8 = .ok (.aload_n 0, 1) := by decide +kernel
theorem d_flearn_9 : decode prog_9_method_14_code 9 = .ok (.iconst 1, 1) := by decide +kernel
theorem d_flearn_10 : decode prog_9_method_14_code 10 = .ok (.putfield 55, 3) := by decide +kernel
theorem d_flearn_13 : decode prog_9_method_14_code 13 = .ok (.aload_n 0, 1) := by decide +kernel
theorem d_flearn_14 : decode prog_9_method_14_code 14 = .ok (.invokevirtual 73, 3) := by decide +kernel
theorem d_flearn_17 : decode prog_9_method_14_code 17 = .ok (.aload_n 0, 1) := by decide +kernel
theorem d_flearn_18 : decode prog_9_method_14_code 18 = .ok (.iconst 0, 1) := by decide +kernel
theorem d_flearn_19 : decode prog_9_method_14_code 19 = .ok (.iconst 0, 1) := by decide +kernel
theorem d_flearn_20 : decode prog_9_method_14_code 20 = .ok (.invokevirtual 69, 3) := by decide +kernel
theorem d_flearn_23 : decode prog_9_method_14_code 23 = .ok (.iconst 0, 1) := by decide +kernel
theorem d_flearn_24 : decode prog_9_method_14_code 24 = .ok (.istore_n 1, 1) := by decide +kernel
theorem d_flearn_25 : decode prog_9_method_14_code 25 = .ok (.iload_n 1, 1) := by decide +kernel
theorem d_flearn_26 : decode prog_9_method_14_code 26 = .ok (.aload_n 0, 1) := by decide +kernel
theorem d_flearn_27 : decode prog_9_method_14_code 27 = .ok (.getfield 44, 3) := by decide +kernel
theorem d_flearn_30 : decode prog_9_method_14_code 30 = .ok (.if_icmp .ge 23, 3) := by decide +kernel
theorem d_flearn_33 : decode prog_9_method_14_code 33 = .ok (.aload_n 0, 1) := by decide +kernel
theorem d_flearn_34 : decode prog_9_method_14_code 34 = .ok (.getfield 28, 3) := by decide +kernel
theorem d_flearn_37 : decode prog_9_method_14_code 37 = .ok (.iload_n 1, 1) := by decide +kernel
theorem d_flearn_38 : decode prog_9_method_14_code 38 = .ok (.iconst 0, 1) := by decide +kernel
theorem d_flearn_39 : decode prog_9_method_14_code 39 = .ok (.bastore, 1) := by decide +kernel
theorem d_flearn_40 : decode prog_9_method_14_code 40 = .ok (.aload_n 0, 1) := by decide +kernel
theorem d_flearn_41 : decode prog_9_method_14_code 41 = .ok (.getfield 32, 3) := by decide +kernel
theorem d_flearn_44 : decode prog_9_method_14_code 44 = .ok (.iload_n 1, 1) := by decide +kernel
theorem d_flearn_45 : decode prog_9_method_14_code 45 = .ok (.iconst 0, 1) := by decide +kernel
theorem d_flearn_46 : decode prog_9_method_14_code 46 = .ok (.iastore, 1) := by decide +kernel
theorem d_flearn_47 : decode prog_9_method_14_code 47 = .ok (.iinc 1 1, 3) := by decide +kernel
theorem d_flearn_50 : decode prog_9_method_14_code 50 = .ok (.goto (-25), 3) := by decide +kernel
theorem d_flearn_53 : decode prog_9_method_14_code 53 = .ok (.aload_n 0, 1) := by decide +kernel
theorem d_flearn_54 : decode prog_9_method_14_code 54 = .ok (.getfield 59, 3) := by decide +kernel
theorem d_flearn_57 : decode prog_9_method_14_code 57 = .ok (.ifCond .le 58, 3) := by decide +kernel
theorem d_flearn_60 : decode prog_9_method_14_code 60 = .ok (.aload_n 0, 1) := by decide +kernel
theorem d_flearn_61 : decode prog_9_method_14_code 61 = .ok (.dup, 1) := by decide +kernel
theorem d_flearn_62 : decode prog_9_method_14_code 62 = .ok (.getfield 59, 3) := by decide +kernel
theorem d_flearn_65 : decode prog_9_method_14_code 65 = .ok (.iconst 1, 1) := by decide +kernel
theorem d_flearn_66 : decode prog_9_method_14_code 66 = .ok (.isub, 1) := by decide +kernel
theorem d_flearn_67 : decode prog_9_method_14_code 67 = .ok (.putfield 59, 3) := by decide +kernel
theorem d_flearn_70 : decode prog_9_method_14_code 70 = .ok (.aload_n 0, 1) := by decide +kernel
theorem d_flearn_71 : decode prog_9_method_14_code 71 = .ok (.getfield 38, 3) := by decide +kernel
theorem d_flearn_74 : decode prog_9_method_14_code 74 = .ok (.aload_n 0, 1) := by decide +kernel
theorem d_flearn_75 : decode prog_9_method_14_code 75 = .ok (.getfield 59, 3) := by decide +kernel
theorem d_flearn_78 : decode prog_9_method_14_code 78 = .ok (.iaload, 1) := by decide +kernel
theorem d_flearn_79 : decode prog_9_method_14_code 79 = .ok (.bipush 16, 2) := by decide +kernel
theorem d_flearn_81 : decode prog_9_method_14_code 81 = .ok (.idiv, 1) := by decide +kernel
theorem d_flearn_82 : decode prog_9_method_14_code 82 = .ok (.istore_n 1, 1) := by decide +kernel
theorem d_flearn_83 : decode prog_9_method_14_code 83 = .ok (.aload_n 0, 1) := by decide +kernel
theorem d_flearn_84 : decode prog_9_method_14_code 84 = .ok (.getfield 28, 3) := by decide +kernel
theorem d_flearn_87 : decode prog_9_method_14_code 87 = .ok (.iload_n 1, 1) := by decide +kernel
theorem d_flearn_88 : decode prog_9_method_14_code 88 = .ok (.iconst 1, 1) := by decide +kernel
theorem d_flearn_89 : decode prog_9_method_14_code 89 = .ok (.bastore, 1) := by decide +kernel
theorem d_flearn_90 : decode prog_9_method_14_code 90 = .ok (.aload_n 0, 1) := by decide +kernel
theorem d_flearn_91 : decode prog_9_method_14_code 91 = .ok (.aload_n 0, 1) := by decide +kernel
theorem d_flearn_92 : decode prog_9_method_14_code 92 = .ok (.getfield 22, 3) := by decide +kernel
theorem d_flearn_95 : decode prog_9_method_14_code 95 = .ok (.iload_n 1, 1) := by decide +kernel
theorem d_flearn_96 : decode prog_9_method_14_code 96 = .ok (.iaload, 1) := by decide +kernel
theorem d_flearn_97 : decode prog_9_method_14_code 97 = .ok (.iconst 0, 1) := by decide +kernel
theorem d_flearn_98 : decode prog_9_method_14_code 98 = .ok (.invokevirtual 69, 3) := by decide +kernel
theorem d_flearn_101 : decode prog_9_method_14_code 101 = .ok (.aload_n 0, 1) := by decide +kernel
theorem d_flearn_102 : decode prog_9_method_14_code 102 = .ok (.aload_n 0, 1) := by decide +kernel
theorem d_flearn_103 : decode prog_9_method_14_code 103 = .ok (.getfield 25, 3) := by decide +kernel
theorem d_flearn_106 : decode prog_9_method_14_code 106 = .ok (.iload_n 1, 1) := by decide +kernel
theorem d_flearn_107 : decode prog_9_method_14_code 107 = .ok (.iaload, 1) := by decide +kernel
theorem d_flearn_108 : decode prog_9_method_14_code 108 = .ok (.iconst 0, 1) := by decide +kernel
theorem d_flearn_109 : decode prog_9_method_14_code 109 = .ok (.invokevirtual 69, 3) := by decide +kernel
theorem d_flearn_112 : decode prog_9_method_14_code 112 = .ok (.goto (-59), 3) := by decide +kernel
theorem d_flearn_115 : decode prog_9_method_14_code 115 = .ok (.iconst 0, 1) := by decide +kernel
theorem d_flearn_116 : decode prog_9_method_14_code 116 = .ok (.istore_n 1, 1) := by decide +kernel
theorem d_flearn_117 : decode prog_9_method_14_code 117 = .ok (.iload_n 1, 1) := by decide +kernel
theorem d_flearn_118 : decode prog_9_method_14_code 118 = .ok (.aload_n 0, 1) := by decide +kernel
theorem d_flearn_119 : decode prog_9_method_14_code 119 = .ok (.getfield 44, 3) := by decide +kernel
theorem d_flearn_122 : decode prog_9_method_14_code 122 = .ok (.if_icmp .ge 57, 3) := by decide +kernel
theorem d_flearn_125 : decode prog_9_method_14_code 125 = .ok (.iconst 0, 1) := by decide +kernel
theorem d_flearn_126 : decode prog_9_method_14_code 126 = .ok (.istore_n 2, 1) := by decide +kernel
theorem d_flearn_127 : decode prog_9_method_14_code 127 = .ok (.iload_n 2, 1) := by decide +kernel
theorem d_flearn_128 : decode prog_9_method_14_code 128 = .ok (.bipush 16, 2) := by decide +kernel
theorem d_flearn_130 : decode prog_9_method_14_code 130 = .ok (.if_icmp .ge 43, 3) := by decide +kernel
theorem d_flearn_133 : decode prog_9_method_14_code 133 = .ok (.aload_n 0, 1) := by decide +kernel
theorem d_flearn_134 : decode prog_9_method_14_code 134 = .ok (.getfield 32, 3) := by decide +kernel
theorem d_flearn_137 : decode prog_9_method_14_code 137 = .ok (.iload_n 1, 1) := by decide +kernel
theorem d_flearn_138 : decode prog_9_method_14_code 138 = .ok (.aload_n 0, 1) := by decide +kernel
theorem d_flearn_139 : decode prog_9_method_14_code 139 = .ok (.iload_n 1, 1) := by decide +kernel
theorem d_flearn_140 : decode prog_9_method_14_code 140 = .ok (.iload_n 2, 1) := by decide +kernel
theorem d_flearn_141 : decode prog_9_method_14_code 141 = .ok (.invokevirtual 82, 3) := by decide +kernel
theorem d_flearn_144 : decode prog_9_method_14_code 144 = .ok (.ifCond .eq 16, 3) := by decide +kernel
theorem d_flearn_147 : decode prog_9_method_14_code 147 = .ok (.aload_n 0, 1) := by decide +kernel
theorem d_flearn_148 : decode prog_9_method_14_code 148 = .ok (.getfield 32, 3) := by decide +kernel
theorem d_flearn_151 : decode prog_9_method_14_code 151 = .ok (.iload_n 1, 1) := by decide +kernel
theorem d_flearn_152 : decode prog_9_method_14_code 152 = .ok (.iaload, 1) := by decide +kernel
theorem d_flearn_153 : decode prog_9_method_14_code 153 = .ok (.iconst 1, 1) := by decide +kernel
theorem d_flearn_154 : decode prog_9_method_14_code 154 = .ok (.iload_n 2, 1) := by decide +kernel
theorem d_flearn_155 : decode prog_9_method_14_code 155 = .ok (.ishl, 1) := by decide +kernel
theorem d_flearn_156 : decode prog_9_method_14_code 156 = .ok (.ior, 1) := by decide +kernel
theorem d_flearn_157 : decode prog_9_method_14_code 157 = .ok (.goto 9, 3) := by decide +kernel
theorem d_flearn_160 : decode prog_9_method_14_code 160 = .ok (.aload_n 0, 1) := by decide +kernel
theorem d_flearn_161 : decode prog_9_method_14_code 161 = .ok (.getfield 32, 3) := by decide +kernel
theorem d_flearn_164 : decode prog_9_method_14_code 164 = .ok (.iload_n 1, 1) := by decide +kernel
theorem d_flearn_165 : decode prog_9_method_14_code 165 = .ok (.iaload, 1) := by decide +kernel
theorem d_flearn_166 : decode prog_9_method_14_code 166 = .ok (.iastore, 1) := by decide +kernel
theorem d_flearn_167 : decode prog_9_method_14_code 167 = .ok (.iinc 2 1, 3) := by decide +kernel
theorem d_flearn_170 : decode prog_9_method_14_code 170 = .ok (.goto (-43), 3) := by decide +kernel
theorem d_flearn_173 : decode prog_9_method_14_code 173 = .ok (.iinc 1 1, 3) := by decide +kernel
theorem d_flearn_176 : decode prog_9_method_14_code 176 = .ok (.goto (-59), 3) := by decide +kernel
theorem d_flearn_179 : decode prog_9_method_14_code 179 = .ok (.iconst 0, 1) := by decide +kernel
theorem d_flearn_180 : decode prog_9_method_14_code 180 = .ok (.istore_n 1, 1) := by decide +kernel
theorem d_flearn_181 : decode prog_9_method_14_code 181 = .ok (.iload_n 1, 1) := by decide +kernel
theorem d_flearn_182 : decode prog_9_method_14_code 182 = .ok (.aload_n 0, 1) := by decide +kernel
theorem d_flearn_183 : decode prog_9_method_14_code 183 = .ok (.getfield 44, 3) := by decide +kernel
theorem d_flearn_186 : decode prog_9_method_14_code 186 = .ok (.if_icmp .ge 52, 3) := by decide +kernel
theorem d_flearn_189 : decode prog_9_method_14_code 189 = .ok (.iconst 0, 1) := by decide +kernel
theorem d_flearn_190 : decode prog_9_method_14_code 190 = .ok (.istore_n 2, 1) := by decide +kernel
theorem d_flearn_191 : decode prog_9_method_14_code 191 = .ok (.iload_n 2, 1) := by decide +kernel
theorem d_flearn_192 : decode prog_9_method_14_code 192 = .ok (.aload_n 0, 1) := by decide +kernel
theorem d_flearn_193 : decode prog_9_method_14_code 193 = .ok (.getfield 44, 3) := by decide +kernel
theorem d_flearn_196 : decode prog_9_method_14_code 196 = .ok (.if_icmp .ge 21, 3) := by decide +kernel
theorem d_flearn_199 : decode prog_9_method_14_code 199 = .ok (.aload_n 0, 1) := by decide +kernel
theorem d_flearn_200 : decode prog_9_method_14_code 200 = .ok (.getfield 35, 3) := by decide +kernel
theorem d_flearn_203 : decode prog_9_method_14_code 203 = .ok (.bipush 120, 2) := by decide +kernel
theorem d_flearn_205 : decode prog_9_method_14_code 205 = .ok (.iload_n 1, 1) := by decide +kernel
theorem d_flearn_206 : decode prog_9_method_14_code 206 = .ok (.imul, 1) := by decide +kernel
theorem d_flearn_207 : decode prog_9_method_14_code 207 = .ok (.iload_n 2, 1) := by decide +kernel
theorem d_flearn_208 : decode prog_9_method_14_code 208 = .ok (.iadd, 1) := by decide +kernel
theorem d_flearn_209 : decode prog_9_method_14_code 209 = .ok (.iconst 0, 1) := by decide +kernel
theorem d_flearn_210 : decode prog_9_method_14_code 210 = .ok (.iastore, 1) := by decide +kernel
theorem d_flearn_211 : decode prog_9_method_14_code 211 = .ok (.iinc 2 1, 3) := by decide +kernel
theorem d_flearn_214 : decode prog_9_method_14_code 214 = .ok (.goto (-23), 3) := by decide +kernel
theorem d_flearn_217 : decode prog_9_method_14_code 217 = .ok (.aload_n 0, 1) := by decide +kernel
theorem d_flearn_218 : decode prog_9_method_14_code 218 = .ok (.getfield 7, 3) := by decide +kernel
theorem d_flearn_221 : decode prog_9_method_14_code 221 = .ok (.iload_n 1, 1) := by decide +kernel
theorem d_flearn_222 : decode prog_9_method_14_code 222 = .ok (.iaload, 1) := by decide +kernel
theorem d_flearn_223 : decode prog_9_method_14_code 223 = .ok (.iconst 1, 1) := by decide +kernel
theorem d_flearn_224 : decode prog_9_method_14_code 224 = .ok (.if_icmp .ne 8, 3) := by decide +kernel
theorem d_flearn_227 : decode prog_9_method_14_code 227 = .ok (.aload_n 0, 1) := by decide +kernel
theorem d_flearn_228 : decode prog_9_method_14_code 228 = .ok (.iload_n 1, 1) := by decide +kernel
theorem d_flearn_229 : decode prog_9_method_14_code 229 = .ok (.invokevirtual 85, 3) := by decide +kernel
theorem d_flearn_232 : decode prog_9_method_14_code 232 = .ok (.iinc 1 1, 3) := by decide +kernel
theorem d_flearn_235 : decode prog_9_method_14_code 235 = .ok (.goto (-54), 3) := by decide +kernel
theorem d_flearn_238 : decode prog_9_method_14_code 238 = .ok (.return_, 1) := by decide +kernel
