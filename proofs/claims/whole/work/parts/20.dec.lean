theorem d_fIsRef_0 : decode prog_9_method_2_code 0 = .ok (.iload_n 0, 1) := by decide +kernel
theorem d_fIsRef_1 : decode prog_9_method_2_code 1 = .ok (.ifCond .lt 13, 3) := by decide +kernel
theorem d_fIsRef_4 : decode prog_9_method_2_code 4 = .ok (.iload_n 0, 1) := by decide +kernel
theorem d_fIsRef_5 : decode prog_9_method_2_code 5 = .ok (.bipush 16, 2) := by decide +kernel
theorem d_fIsRef_7 : decode prog_9_method_2_code 7 = .ok (.if_icmp .ge 7, 3) := by decide +kernel
theorem d_fIsRef_10 : decode prog_9_method_2_code 10 = .ok (.iconst 1, 1) := by decide +kernel
theorem d_fIsRef_11 : decode prog_9_method_2_code 11 = .ok (.goto 4, 3) := by decide +kernel
theorem d_fIsRef_14 : decode prog_9_method_2_code 14 = .ok (.iconst 0, 1) := by decide +kernel
theorem d_fIsRef_15 : decode prog_9_method_2_code 15 = .ok (.ireturn, 1) := by decide +kernel
theorem d_fIsPlace_0 : decode prog_9_method_3_code 0 = .ok (.iload_n 0, 1) := by decide +kernel
theorem d_fIsPlace_1 : decode prog_9_method_3_code 1 = .ok (.istore_n 1, 1) := by decide +kernel
theorem d_fIsPlace_2 : decode prog_9_method_3_code 2 = .ok (.iconst 0, 1) := by decide +kernel
theorem d_fIsPlace_3 : decode prog_9_method_3_code 3 = .ok (.istore_n 2, 1) := by decide +kernel
theorem d_fIsPlace_4 : decode prog_9_method_3_code 4 = .ok (.iload_n 0, 1) := by decide +kernel
theorem d_fIsPlace_5 : decode prog_9_method_3_code 5 = .ok (.ifCond .le 7, 3) := by decide +kernel
theorem d_fIsPlace_8 : decode prog_9_method_3_code 8 = .ok (.iconst 1, 1) := by decide +kernel
theorem d_fIsPlace_9 : decode prog_9_method_3_code 9 = .ok (.goto 4, 3) := by decide +kernel
theorem d_fIsPlace_12 : decode prog_9_method_3_code 12 = .ok (.iconst 0, 1) := by decide +kernel
theorem d_fIsPlace_13 : decode prog_9_method_3_code 13 = .ok (.istore_n 3, 1) := by decide +kernel
theorem d_fIsPlace_14 : decode prog_9_method_3_code 14 = .ok (.iload_n 1, 1) := by decide +kernel
theorem d_fIsPlace_15 : decode prog_9_method_3_code 15 = .ok (.ifCond .le 31, 3) := by decide +kernel
theorem d_fIsPlace_18 : decode prog_9_method_3_code 18 = .ok (.iload_n 3, 1) := by decide +kernel
theorem d_fIsPlace_19 : decode prog_9_method_3_code 19 = .ok (.ifCond .eq 14, 3) := by decide +kernel
theorem d_fIsPlace_22 : decode prog_9_method_3_code 22 = .ok (.iload_n 1, 1) := by decide +kernel
theorem d_fIsPlace_23 : decode prog_9_method_3_code 23 = .ok (.bipush 10, 2) := by decide +kernel
theorem d_fIsPlace_25 : decode prog_9_method_3_code 25 = .ok (.irem, 1) := by decide +kernel
theorem d_fIsPlace_26 : decode prog_9_method_3_code 26 = .ok (.ifCond .eq 7, 3) := by decide +kernel
theorem d_fIsPlace_29 : decode prog_9_method_3_code 29 = .ok (.iconst 1, 1) := by decide +kernel
theorem d_fIsPlace_30 : decode prog_9_method_3_code 30 = .ok (.goto 4, 3) := by decide +kernel
theorem d_fIsPlace_33 : decode prog_9_method_3_code 33 = .ok (.iconst 0, 1) := by decide +kernel
theorem d_fIsPlace_34 : decode prog_9_method_3_code 34 = .ok (.istore_n 3, 1) := by decide +kernel
theorem d_fIsPlace_35 : decode prog_9_method_3_code 35 = .ok (.iload_n 1, 1) := by decide +kernel
theorem d_fIsPlace_36 : decode prog_9_method_3_code 36 = .ok (.bipush 10, 2) := by decide +kernel
theorem d_fIsPlace_38 : decode prog_9_method_3_code 38 = .ok (.idiv, 1) := by decide +kernel
theorem d_fIsPlace_39 : decode prog_9_method_3_code 39 = .ok (.istore_n 1, 1) := by decide +kernel
theorem d_fIsPlace_40 : decode prog_9_method_3_code 40 = .ok (.iinc 2 1, 3) := by decide +kernel
theorem d_fIsPlace_43 : decode prog_9_method_3_code 43 = .ok (.goto (-29), 3) := by decide +kernel
theorem d_fIsPlace_46 : decode prog_9_method_3_code 46 = .ok (.iload_n 3, 1) := by decide +kernel
theorem d_fIsPlace_47 : decode prog_9_method_3_code 47 = .ok (.ifCond .eq 12, 3) := by decide +kernel
theorem d_fIsPlace_50 : decode prog_9_method_3_code 50 = .ok (.iload_n 2, 1) := by decide +kernel
theorem d_fIsPlace_51 : decode prog_9_method_3_code 51 = .ok (.iconst 5, 1) := by decide +kernel
theorem d_fIsPlace_52 : decode prog_9_method_3_code 52 = .ok (.if_icmp .ge 7, 3) := by decide +kernel
theorem d_fIsPlace_55 : decode prog_9_method_3_code 55 = .ok (.iconst 1, 1) := by decide +kernel
theorem d_fIsPlace_56 : decode prog_9_method_3_code 56 = .ok (.goto 4, 3) := by decide +kernel
theorem d_fIsPlace_59 : decode prog_9_method_3_code 59 = .ok (.iconst 0, 1) := by decide +kernel
theorem d_fIsPlace_60 : decode prog_9_method_3_code 60 = .ok (.ireturn, 1) := by decide +kernel
theorem d_foverlap_0 : decode prog_9_method_19_code 0 = .ok (.iload_n 0, 1) := by decide +kernel
theorem d_foverlap_1 : decode prog_9_method_19_code 1 = .ok (.istore_n 2, 1) := by decide +kernel
theorem d_foverlap_2 : decode prog_9_method_19_code 2 = .ok (.iload_n 1, 1) := by decide +kernel
theorem d_foverlap_3 : decode prog_9_method_19_code 3 = .ok (.istore_n 3, 1) := by decide +kernel
theorem d_foverlap_4 : decode prog_9_method_19_code 4 = .ok (.iload_n 2, 1) := by decide +kernel
theorem d_foverlap_5 : decode prog_9_method_19_code 5 = .ok (.iload_n 3, 1) := by decide +kernel
theorem d_foverlap_6 : decode prog_9_method_19_code 6 = .ok (.if_icmp .le 19, 3) := by decide +kernel
theorem d_foverlap_9 : decode prog_9_method_19_code 9 = .ok (.iload_n 2, 1) := by decide +kernel
theorem d_foverlap_10 : decode prog_9_method_19_code 10 = .ok (.bipush 10, 2) := by decide +kernel
theorem d_foverlap_12 : decode prog_9_method_19_code 12 = .ok (.idiv, 1) := by decide +kernel
theorem d_foverlap_13 : decode prog_9_method_19_code 13 = .ok (.iload_n 3, 1) := by decide +kernel
theorem d_foverlap_14 : decode prog_9_method_19_code 14 = .ok (.if_icmp .lt 11, 3) := by decide +kernel
theorem d_foverlap_17 : decode prog_9_method_19_code 17 = .ok (.iload_n 2, 1) := by decide +kernel
theorem d_foverlap_18 : decode prog_9_method_19_code 18 = .ok (.bipush 10, 2) := by decide +kernel
theorem d_foverlap_20 : decode prog_9_method_19_code 20 = .ok (.idiv, 1) := by decide +kernel
theorem d_foverlap_21 : decode prog_9_method_19_code 21 = .ok (.istore_n 2, 1) := by decide +kernel
theorem d_foverlap_22 : decode prog_9_method_19_code 22 = .ok (.goto (-18), 3) := by decide +kernel
theorem d_foverlap_25 : decode prog_9_method_19_code 25 = .ok (.iload_n 3, 1) := by decide +kernel
theorem d_foverlap_26 : decode prog_9_method_19_code 26 = .ok (.iload_n 2, 1) := by decide +kernel
theorem d_foverlap_27 : decode prog_9_method_19_code 27 = .ok (.if_icmp .le 19, 3) := by decide +kernel
theorem d_foverlap_30 : decode prog_9_method_19_code 30 = .ok (.iload_n 3, 1) := by decide +kernel
theorem d_foverlap_31 : decode prog_9_method_19_code 31 = .ok (.bipush 10, 2) := by decide +kernel
theorem d_foverlap_33 : decode prog_9_method_19_code 33 = .ok (.idiv, 1) := by decide +kernel
theorem d_foverlap_34 : decode prog_9_method_19_code 34 = .ok (.iload_n 2, 1) := by decide +kernel
theorem d_foverlap_35 : decode prog_9_method_19_code 35 = .ok (.if_icmp .lt 11, 3) := by decide +kernel
theorem d_foverlap_38 : decode prog_9_method_19_code 38 = .ok (.iload_n 3, 1) := by decide +kernel
theorem d_foverlap_39 : decode prog_9_method_19_code 39 = .ok (.bipush 10, 2) := by decide +kernel
theorem d_foverlap_41 : decode prog_9_method_19_code 41 = .ok (.idiv, 1) := by decide +kernel
theorem d_foverlap_42 : decode prog_9_method_19_code 42 = .ok (.istore_n 3, 1) := by decide +kernel
theorem d_foverlap_43 : decode prog_9_method_19_code 43 = .ok (.goto (-18), 3) := by decide +kernel
theorem d_foverlap_46 : decode prog_9_method_19_code 46 = .ok (.iload_n 2, 1) := by decide +kernel
theorem d_foverlap_47 : decode prog_9_method_19_code 47 = .ok (.iload_n 3, 1) := by decide +kernel
theorem d_foverlap_48 : decode prog_9_method_19_code 48 = .ok (.if_icmp .ne 7, 3) := by decide +kernel
theorem d_foverlap_51 : decode prog_9_method_19_code 51 = .ok (.iconst 1, 1) := by decide +kernel
theorem d_foverlap_52 : decode prog_9_method_19_code 52 = .ok (.goto 4, 3) := by decide +kernel
theorem d_foverlap_55 : decode prog_9_method_19_code 55 = .ok (.iconst 0, 1) := by decide +kernel
theorem d_foverlap_56 : decode prog_9_method_19_code 56 = .ok (.ireturn, 1) := by decide +kernel
theorem d_fIsPoint_0 : decode prog_9_method_6_code 0 = .ok (.iload_n 1, 1) := by decide +kernel
theorem d_fIsPoint_1 : decode prog_9_method_6_code 1 = .ok (.ifCond .lt 15, 3) := by decide +kernel
theorem d_fIsPoint_4 : decode prog_9_method_6_code 4 = .ok (.iload_n 1, 1) := by decide +kernel
theorem d_fIsPoint_5 : decode prog_9_method_6_code 5 = .ok (.aload_n 0, 1) := by decide +kernel
theorem d_fIsPoint_6 : decode prog_9_method_6_code 6 = .ok (.getfield 44, 3) := by decide +kernel
theorem d_fIsPoint_9 : decode prog_9_method_6_code 9 = .ok (.if_icmp .ge 7, 3) := by decide +kernel
theorem d_fIsPoint_12 : decode prog_9_method_6_code 12 = .ok (.iconst 1, 1) := by decide +kernel
theorem d_fIsPoint_13 : decode prog_9_method_6_code 13 = .ok (.goto 4, 3) := by decide +kernel
theorem d_fIsPoint_16 : decode prog_9_method_6_code 16 = .ok (.iconst 0, 1) := by decide +kernel
theorem d_fIsPoint_17 : decode prog_9_method_6_code 17 = .ok (.ireturn, 1) := by decide +kernel
theorem d_fpoint_0 : decode prog_9_method_4_code 0 = .ok (.iload_n 1, 1) := by decide +kernel
theorem d_fpoint_1 : decode prog_9_method_4_code 1 = .ok (.ifCond .lt 22, 3) := by decide +kernel
theorem d_fpoint_4 : decode prog_9_method_4_code 4 = .ok (.iload_n 1, 1) := by decide +kernel
theorem d_fpoint_5 : decode prog_9_method_4_code 5 = .ok (.bipush 6, 2) := by decide +kernel
theorem d_fpoint_7 : decode prog_9_method_4_code 7 = .ok (.if_icmp .gt 16, 3) := by decide +kernel
theorem d_fpoint_10 : decode prog_9_method_4_code 10 = .ok (.aload_n 0, 1) := by decide +kernel
theorem d_fpoint_11 : decode prog_9_method_4_code 11 = .ok (.getfield 44, 3) := by decide +kernel
theorem d_fpoint_14 : decode prog_9_method_4_code 14 = .ok (.bipush 120, 2) := by decide +kernel
theorem d_fpoint_16 : decode prog_9_method_4_code 16 = .ok (.if_icmp .ge 7, 3) := by decide +kernel
theorem d_fpoint_19 : decode prog_9_method_4_code 19 = .ok (.iconst 1, 1) := by decide +kernel
theorem d_fpoint_20 : decode prog_9_method_4_code 20 = .ok (.goto 4, 3) := by decide +kernel
theorem d_fpoint_23 : decode prog_9_method_4_code 23 = .ok (.iconst 0, 1) := by decide +kernel
theorem d_fpoint_24 : decode prog_9_method_4_code 24 = .ok (.istore 5, 2) := by decide +kernel
theorem d_fpoint_26 : decode prog_9_method_4_code 26 = .ok (.iload 5, 2) := by decide +kernel
theorem d_fpoint_28 : decode prog_9_method_4_code 28 = .ok (.ifCond .eq 24, 3) := by decide +kernel
theorem d_fpoint_31 : decode prog_9_method_4_code 31 = .ok (.iload_n 1, 1) := by decide +kernel
theorem d_fpoint_32 : decode prog_9_method_4_code 32 = .ok (.iconst 1, 1) := by decide +kernel
theorem d_fpoint_33 : decode prog_9_method_4_code 33 = .ok (.if_icmp .lt 15, 3) := by decide +kernel
theorem d_fpoint_36 : decode prog_9_method_4_code 36 = .ok (.iload_n 1, 1) := by decide +kernel
theorem d_fpoint_37 : decode prog_9_method_4_code 37 = .ok (.iconst 4, 1) := by decide +kernel
theorem d_fpoint_38 : decode prog_9_method_4_code 38 = .ok (.if_icmp .gt 10, 3) := by decide +kernel
theorem d_fpoint_41 : decode prog_9_method_4_code 41 = .ok (.iload_n 2, 1) := by decide +kernel
theorem d_fpoint_42 : decode prog_9_method_4_code 42 = .ok (.invokestatic 48, 3) := by decide +kernel
theorem d_fpoint_45 : decode prog_9_method_4_code 45 = .ok (.ifCond .eq 7, 3) := by decide +kernel
theorem d_fpoint_48 : decode prog_9_method_4_code 48 = .ok (.iconst 1, 1) := by decide +kernel
theorem d_fpoint_49 : decode prog_9_method_4_code 49 = .ok (.goto 4, 3) := by decide +kernel
theorem d_fpoint_52 : decode prog_9_method_4_code 52 = .ok (.iconst 0, 1) := by decide +kernel
theorem d_fpoint_53 : decode prog_9_method_4_code 53 = .ok (.istore 5, 2) := by decide +kernel
theorem d_fpoint_55 : decode prog_9_method_4_code 55 = .ok (.iload 5, 2) := by decide +kernel
theorem d_fpoint_57 : decode prog_9_method_4_code 57 = .ok (.ifCond .eq 19, 3) := by decide +kernel
theorem d_fpoint_60 : decode prog_9_method_4_code 60 = .ok (.iload_n 1, 1) := by decide +kernel
theorem d_fpoint_61 : decode prog_9_method_4_code 61 = .ok (.iconst 2, 1) := by decide +kernel
theorem d_fpoint_62 : decode prog_9_method_4_code 62 = .ok (.if_icmp .ne 10, 3) := by decide +kernel
theorem d_fpoint_65 : decode prog_9_method_4_code 65 = .ok (.iload_n 3, 1) := by decide +kernel
theorem d_fpoint_66 : decode prog_9_method_4_code 66 = .ok (.invokestatic 48, 3) := by decide +kernel
theorem d_fpoint_69 : decode prog_9_method_4_code 69 = .ok (.ifCond .eq 7, 3) := by decide +kernel
theorem d_fpoint_72 : decode prog_9_method_4_code 72 = .ok (.iconst 1, 1) := by decide +kernel
theorem d_fpoint_73 : decode prog_9_method_4_code 73 = .ok (.goto 4, 3) := by decide +kernel
theorem d_fpoint_76 : decode prog_9_method_4_code 76 = .ok (.iconst 0, 1) := by decide +kernel
theorem d_fpoint_77 : decode prog_9_method_4_code 77 = .ok (.istore 5, 2) := by decide +kernel
theorem d_fpoint_79 : decode prog_9_method_4_code 79 = .ok (.iload 5, 2) := by decide +kernel
theorem d_fpoint_81 : decode prog_9_method_4_code 81 = .ok (.ifCond .eq 30, 3) := by decide +kernel
theorem d_fpoint_84 : decode prog_9_method_4_code 84 = .ok (.iload_n 1, 1) := by decide +kernel
theorem d_fpoint_85 : decode prog_9_method_4_code 85 = .ok (.iconst 1, 1) := by decide +kernel
theorem d_fpoint_86 : decode prog_9_method_4_code 86 = .ok (.if_icmp .eq 14, 3) := by decide +kernel
theorem d_fpoint_89 : decode prog_9_method_4_code 89 = .ok (.iload_n 1, 1) := by decide +kernel
theorem d_fpoint_90 : decode prog_9_method_4_code 90 = .ok (.iconst 5, 1) := by decide +kernel
theorem d_fpoint_91 : decode prog_9_method_4_code 91 = .ok (.if_icmp .eq 9, 3) := by decide +kernel
theorem d_fpoint_94 : decode prog_9_method_4_code 94 = .ok (.iload_n 1, 1) := by decide +kernel
theorem d_fpoint_95 : decode prog_9_method_4_code 95 = .ok (.bipush 6, 2) := by decide +kernel
theorem d_fpoint_97 : decode prog_9_method_4_code 97 = .ok (.if_icmp .ne 10, 3) := by decide +kernel
theorem d_fpoint_100 : decode prog_9_method_4_code 100 = .ok (.iload_n 3, 1) := by decide +kernel
theorem d_fpoint_101 : decode prog_9_method_4_code 101 = .ok (.invokestatic 52, 3) := by decide +kernel
theorem d_fpoint_104 : decode prog_9_method_4_code 104 = .ok (.ifCond .eq 7, 3) := by decide +kernel
theorem d_fpoint_107 : decode prog_9_method_4_code 107 = .ok (.iconst 1, 1) := by decide +kernel
theorem d_fpoint_108 : decode prog_9_method_4_code 108 = .ok (.goto 4, 3) := by decide +kernel
theorem d_fpoint_111 : decode prog_9_method_4_code 111 = .ok (.iconst 0, 1) := by decide +kernel
theorem d_fpoint_112 : decode prog_9_method_4_code 112 = .ok (.istore 5, 2) := by decide +kernel
theorem d_fpoint_114 : decode prog_9_method_4_code 114 = .ok (.iload 5, 2) := by decide +kernel
theorem d_fpoint_116 : decode prog_9_method_4_code 116 = .ok (.ifCond .eq 23, 3) := by decide +kernel
theorem d_fpoint_119 : decode prog_9_method_4_code 119 = .ok (.iload_n 1, 1) := by decide +kernel
theorem d_fpoint_120 : decode prog_9_method_4_code 120 = .ok (.iconst 1, 1) := by decide +kernel
theorem d_fpoint_121 : decode prog_9_method_4_code 121 = .ok (.if_icmp .ne 14, 3) := by decide +kernel
theorem d_fpoint_124 : decode prog_9_method_4_code 124 = .ok (.iload 4, 2) := by decide +kernel
theorem d_fpoint_126 : decode prog_9_method_4_code 126 = .ok (.ifCond .eq 9, 3) := by decide +kernel
theorem d_fpoint_129 : decode prog_9_method_4_code 129 = .ok (.iload 4, 2) := by decide +kernel
theorem d_fpoint_131 : decode prog_9_method_4_code 131 = .ok (.iconst 1, 1) := by decide +kernel
theorem d_fpoint_132 : decode prog_9_method_4_code 132 = .ok (.if_icmp .ne 7, 3) := by decide +kernel
theorem d_fpoint_135 : decode prog_9_method_4_code 135 = .ok (.iconst 1, 1) := by decide +kernel
theorem d_fpoint_136 : decode prog_9_method_4_code 136 = .ok (.goto 4, 3) := by decide +kernel
theorem d_fpoint_139 : decode prog_9_method_4_code 139 = .ok (.iconst 0, 1) := by decide +kernel
theorem d_fpoint_140 : decode prog_9_method_4_code 140 = .ok (.istore 5, 2) := by decide +kernel
theorem d_fpoint_142 : decode prog_9_method_4_code 142 = .ok (.iload 5, 2) := by decide +kernel
theorem d_fpoint_144 : decode prog_9_method_4_code 144 = .ok (.ifCond .ne 5, 3) := by decide +kernel
theorem d_fpoint_147 : decode prog_9_method_4_code 147 = .ok (.iconst (-1), 1) := by decide +kernel
theorem d_fpoint_148 : decode prog_9_method_4_code 148 = .ok (.ireturn, 1) := by decide +kernel
theorem d_fpoint_149 : decode prog_9_method_4_code 149 = .ok (.aload_n 0, 1) := by decide +kernel
theorem d_fpoint_150 : decode prog_9_method_4_code 150 = .ok (.getfield 7, 3) := by decide +kernel
theorem d_fpoint_153 : decode prog_9_method_4_code 153 = .ok (.aload_n 0, 1) := by decide +kernel
theorem d_fpoint_154 : decode prog_9_method_4_code 154 = .ok (.getfield 44, 3) := by decide +kernel
theorem d_fpoint_157 : decode prog_9_method_4_code 157 = .ok (.iload_n 1, 1) := by decide +kernel
theorem d_fpoint_158 : decode prog_9_method_4_code 158 = .ok (.iastore, 1) := by decide +kernel
theorem d_fpoint_159 : decode prog_9_method_4_code 159 = .ok (.aload_n 0, 1) := by decide +kernel
theorem d_fpoint_160 : decode prog_9_method_4_code 160 = .ok (.getfield 13, 3) := by decide +kernel
theorem d_fpoint_163 : decode prog_9_method_4_code 163 = .ok (.aload_n 0, 1) := by decide +kernel
theorem d_fpoint_164 : decode prog_9_method_4_code 164 = .ok (.getfield 44, 3) := by decide +kernel
theorem d_fpoint_167 : decode prog_9_method_4_code 167 = .ok (.iload_n 2, 1) := by decide +kernel
theorem d_fpoint_168 : decode prog_9_method_4_code 168 = .ok (.iastore, 1) := by decide +kernel
theorem d_fpoint_169 : decode prog_9_method_4_code 169 = .ok (.aload_n 0, 1) := by decide +kernel
theorem d_fpoint_170 : decode prog_9_method_4_code 170 = .ok (.getfield 16, 3) := by decide +kernel
theorem d_fpoint_173 : decode prog_9_method_4_code 173 = .ok (.aload_n 0, 1) := by decide +kernel
theorem d_fpoint_174 : decode prog_9_method_4_code 174 = .ok (.getfield 44, 3) := by decide +kernel
theorem d_fpoint_177 : decode prog_9_method_4_code 177 = .ok (.iload_n 3, 1) := by decide +kernel
theorem d_fpoint_178 : decode prog_9_method_4_code 178 = .ok (.iastore, 1) := by decide +kernel
theorem d_fpoint_179 : decode prog_9_method_4_code 179 = .ok (.aload_n 0, 1) := by decide +kernel
theorem d_fpoint_180 : decode prog_9_method_4_code 180 = .ok (.getfield 19, 3) := by decide +kernel
theorem d_fpoint_183 : decode prog_9_method_4_code 183 = .ok (.aload_n 0, 1) := by decide +kernel
theorem d_fpoint_184 : decode prog_9_method_4_code 184 = .ok (.getfield 44, 3) := by decide +kernel
theorem d_fpoint_187 : decode prog_9_method_4_code 187 = .ok (.iload 4, 2) := by decide +kernel
theorem d_fpoint_189 : decode prog_9_method_4_code 189 = .ok (.iastore, 1) := by decide +kernel
theorem d_fpoint_190 : decode prog_9_method_4_code 190 = .ok (.aload_n 0, 1) := by decide +kernel
theorem d_fpoint_191 : decode prog_9_method_4_code 191 = .ok (.getfield 22, 3) := by decide +kernel
theorem d_fpoint_194 : decode prog_9_method_4_code 194 = .ok (.aload_n 0, 1) := by decide +kernel
theorem d_fpoint_195 : decode prog_9_method_4_code 195 = .ok (.getfield 44, 3) := by decide +kernel
theorem d_fpoint_198 : decode prog_9_method_4_code 198 = .ok (.aload_n 0, 1) := by decide +kernel
theorem d_fpoint_199 : decode prog_9_method_4_code 199 = .ok (.getfield 44, 3) := by decide +kernel
theorem d_fpoint_202 : decode prog_9_method_4_code 202 = .ok (.iconst 1, 1) := by decide +kernel
theorem d_fpoint_203 : decode prog_9_method_4_code 203 = .ok (.iadd, 1) := by decide +kernel
theorem d_fpoint_204 : decode prog_9_method_4_code 204 = .ok (.iastore, 1) := by decide +kernel
theorem d_fpoint_205 : decode prog_9_method_4_code 205 = .ok (.aload_n 0, 1) := by decide +kernel
theorem d_fpoint_206 : decode prog_9_method_4_code 206 = .ok (.getfield 25, 3) := by decide +kernel
theorem d_fpoint_209 : decode prog_9_method_4_code 209 = .ok (.aload_n 0, 1) := by decide +kernel
theorem d_fpoint_210 : decode prog_9_method_4_code 210 = .ok (.getfield 44, 3) := by decide +kernel
theorem d_fpoint_213 : decode prog_9_method_4_code 213 = .ok (.iconst (-1), 1) := by decide +kernel
theorem d_fpoint_214 : decode prog_9_method_4_code 214 = .ok (.iastore, 1) := by decide +kernel
theorem d_fpoint_215 : decode prog_9_method_4_code 215 = .ok (.aload_n 0, 1) := by decide +kernel
theorem d_fpoint_216 : decode prog_9_method_4_code 216 = .ok (.dup, 1) := by decide +kernel
theorem d_fpoint_217 : decode prog_9_method_4_code 217 = .ok (.getfield 44, 3) := by decide +kernel
theorem d_fpoint_220 : decode prog_9_method_4_code 220 = .ok (.iconst 1, 1) := by decide +kernel
theorem d_fpoint_221 : decode prog_9_method_4_code 221 = .ok (.iadd, 1) := by decide +kernel
theorem d_fpoint_222 : decode prog_9_method_4_code 222 = .ok (.putfield 44, 3) := by decide +kernel
theorem d_fpoint_225 : decode prog_9_method_4_code 225 = .ok (.aload_n 0, 1) := by decide +kernel
theorem d_fpoint_226 : decode prog_9_method_4_code 226 = .ok (.iconst 0, 1) := by decide +kernel
theorem d_fpoint_227 : decode prog_9_method_4_code 227 = .ok (.putfield 55, 3) := by decide +kernel
theorem d_fpoint_230 : decode prog_9_method_4_code 230 = .ok (.aload_n 0, 1) := by decide +kernel
theorem d_fpoint_231 : decode prog_9_method_4_code 231 = .ok (.getfield 44, 3) := by decide +kernel
theorem d_fpoint_234 : decode prog_9_method_4_code 234 = .ok (.iconst 1, 1) := by decide +kernel
theorem d_fpoint_235 : decode prog_9_method_4_code 235 = .ok (.isub, 1) := by decide +kernel
theorem d_fpoint_236 : decode prog_9_method_4_code 236 = .ok (.ireturn, 1) := by decide +kernel
theorem d_fnext_0 : decode prog_9_method_5_code 0 = .ok (.iload_n 1, 1) := by decide +kernel
theorem d_fnext_1 : decode prog_9_method_5_code 1 = .ok (.ifCond .lt 33, 3) := by decide +kernel
theorem d_fnext_4 : decode prog_9_method_5_code 4 = .ok (.iload_n 1, 1) := by decide +kernel
theorem d_fnext_5 : decode prog_9_method_5_code 5 = .ok (.aload_n 0, 1) := by decide +kernel
theorem d_fnext_6 : decode prog_9_method_5_code 6 = .ok (.getfield 44, 3) := by decide +kernel
theorem d_fnext_9 : decode prog_9_method_5_code 9 = .ok (.if_icmp .ge 25, 3) := by decide +kernel
theorem d_fnext_12 : decode prog_9_method_5_code 12 = .ok (.iload_n 2, 1) := by decide +kernel
theorem d_fnext_13 : decode prog_9_method_5_code 13 = .ok (.iconst (-1), 1) := by decide +kernel
theorem d_fnext_14 : decode prog_9_method_5_code 14 = .ok (.if_icmp .lt 20, 3) := by decide +kernel
theorem d_fnext_17 : decode prog_9_method_5_code 17 = .ok (.iload_n 2, 1) := by decide +kernel
theorem d_fnext_18 : decode prog_9_method_5_code 18 = .ok (.bipush 120, 2) := by decide +kernel
theorem d_fnext_20 : decode prog_9_method_5_code 20 = .ok (.if_icmp .ge 14, 3) := by decide +kernel
theorem d_fnext_23 : decode prog_9_method_5_code 23 = .ok (.iload_n 3, 1) := by decide +kernel
theorem d_fnext_24 : decode prog_9_method_5_code 24 = .ok (.iconst (-1), 1) := by decide +kernel
theorem d_fnext_25 : decode prog_9_method_5_code 25 = .ok (.if_icmp .lt 9, 3) := by decide +kernel
theorem d_fnext_28 : decode prog_9_method_5_code 28 = .ok (.iload_n 3, 1) := by decide +kernel
theorem d_fnext_29 : decode prog_9_method_5_code 29 = .ok (.bipush 120, 2) := by decide +kernel
theorem d_fnext_31 : decode prog_9_method_5_code 31 = .ok (.if_icmp .lt 5, 3) := by decide +kernel
theorem d_fnext_34 : decode prog_9_method_5_code 34 = .ok (.iconst 0, 1) := by decide +kernel
theorem d_fnext_35 : decode prog_9_method_5_code 35 = .ok (.ireturn, 1) := by decide +kernel
theorem d_fnext_36 : decode prog_9_method_5_code 36 = .ok (.aload_n 0, 1) := by decide +kernel
theorem d_fnext_37 : decode prog_9_method_5_code 37 = .ok (.getfield 22, 3) := by decide +kernel
theorem d_fnext_40 : decode prog_9_method_5_code 40 = .ok (.iload_n 1, 1) := by decide +kernel
theorem d_fnext_41 : decode prog_9_method_5_code 41 = .ok (.iload_n 2, 1) := by decide +kernel
theorem d_fnext_42 : decode prog_9_method_5_code 42 = .ok (.iastore, 1) := by decide +kernel
theorem d_fnext_43 : decode prog_9_method_5_code 43 = .ok (.aload_n 0, 1) := by decide +kernel
theorem d_fnext_44 : decode prog_9_method_5_code 44 = .ok (.getfield 25, 3) := by decide +kernel
theorem d_fnext_47 : decode prog_9_method_5_code 47 = .ok (.iload_n 1, 1) := by decide +kernel
theorem d_fnext_48 : decode prog_9_method_5_code 48 = .ok (.iload_n 3, 1) := by decide +kernel
theorem d_fnext_49 : decode prog_9_method_5_code 49 = .ok (.iastore, 1) := by decide +kernel
theorem d_fnext_50 : decode prog_9_method_5_code 50 = .ok (.aload_n 0, 1) := by decide +kernel
theorem d_fnext_51 : decode prog_9_method_5_code 51 = .ok (.iconst 0, 1) := by decide +kernel
theorem d_fnext_52 : decode prog_9_method_5_code 52 = .ok (.putfield 55, 3) := by decide +kernel
theorem d_fnext_55 : decode prog_9_method_5_code 55 = .ok (.iconst 1, 1) := by decide +kernel
theorem d_fnext_56 : decode prog_9_method_5_code 56 = .ok (.ireturn, 1) := by decide +kernel
theorem d_fclear_0 : decode prog_9_method_23_code 0 = .ok (.aload_n 0, 1) := by decide +kernel
theorem d_fclear_1 : decode prog_9_method_23_code 1 = .ok (.getfield 44, 3) := by decide +kernel
theorem d_fclear_4 : decode prog_9_method_23_code 4 = .ok (.istore_n 1, 1) := by decide +kernel
theorem d_fclear_5 : decode prog_9_method_23_code 5 = .ok (.aload_n 0, 1) := by decide +kernel
theorem d_fclear_6 : decode prog_9_method_23_code 6 = .ok (.iconst 0, 1) := by decide +kernel
theorem d_fclear_7 : decode prog_9_method_23_code 7 = .ok (.putfield 44, 3) := by decide +kernel
theorem d_fclear_10 : decode prog_9_method_23_code 10 = .ok (.aload_n 0, 1) := by decide +kernel
theorem d_fclear_11 : decode prog_9_method_23_code 11 = .ok (.iconst 0, 1) := by decide +kernel
theorem d_fclear_12 : decode prog_9_method_23_code 12 = .ok (.putfield 55, 3) := by decide +kernel
theorem d_fclear_15 : decode prog_9_method_23_code 15 = .ok (.iload_n 1, 1) := by decide +kernel
theorem d_fclear_16 : decode prog_9_method_23_code 16 = .ok (.ireturn, 1) := by decide +kernel
