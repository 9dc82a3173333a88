theorem d_ubehind_0 : decode prog_7_method_2_code 0 = .ok (.iload_n 1, 1) := by decide +kernel
theorem d_ubehind_1 : decode prog_7_method_2_code 1 = .ok (.invokestatic 15, 3) := by decide +kernel
theorem d_ubehind_4 : decode prog_7_method_2_code 4 = .ok (.ifCond .eq 12, 3) := by decide +kernel
theorem d_ubehind_7 : decode prog_7_method_2_code 7 = .ok (.aload_n 0, 1) := by decide +kernel
theorem d_ubehind_8 : decode prog_7_method_2_code 8 = .ok (.getfield 9, 3) := by decide +kernel
theorem d_ubehind_11 : decode prog_7_method_2_code 11 = .ok (.iload_n 1, 1) := by decide +kernel
theorem d_ubehind_12 : decode prog_7_method_2_code 12 = .ok (.iaload, 1) := by decide +kernel
theorem d_ubehind_13 : decode prog_7_method_2_code 13 = .ok (.goto 4, 3) := by decide +kernel
theorem d_ubehind_16 : decode prog_7_method_2_code 16 = .ok (.iconst 0, 1) := by decide +kernel
theorem d_ubehind_17 : decode prog_7_method_2_code 17 = .ok (.ireturn, 1) := by decide +kernel
theorem d_growAll_0 : decode prog_7_method_4_code 0 = .ok (.iconst 0, 1) := by decide +kernel
theorem d_growAll_1 : decode prog_7_method_4_code 1 = .ok (.istore_n 2, 1) := by decide +kernel
theorem d_growAll_2 : decode prog_7_method_4_code 2 = .ok (.aload_n 1, 1) := by decide +kernel
theorem d_growAll_3 : decode prog_7_method_4_code 3 = .ok (.invokevirtual 29, 3) := by decide +kernel
theorem d_growAll_6 : decode prog_7_method_4_code 6 = .ok (.bipush 120, 2) := by decide +kernel
theorem d_growAll_8 : decode prog_7_method_4_code 8 = .ok (.invokestatic 35, 3) := by decide +kernel
theorem d_growAll_11 : decode prog_7_method_4_code 11 = .ok (.iconst 1, 1) := by decide +kernel
theorem d_growAll_12 : decode prog_7_method_4_code 12 = .ok (.isub, 1) := by decide +kernel
theorem d_growAll_13 : decode prog_7_method_4_code 13 = .ok (.istore_n 3, 1) := by decide +kernel
theorem d_growAll_14 : decode prog_7_method_4_code 14 = .ok (.iload_n 3, 1) := by decide +kernel
theorem d_growAll_15 : decode prog_7_method_4_code 15 = .ok (.ifCond .lt 78, 3) := by decide +kernel
theorem d_growAll_18 : decode prog_7_method_4_code 18 = .ok (.aload_n 1, 1) := by decide +kernel
theorem d_growAll_19 : decode prog_7_method_4_code 19 = .ok (.iload_n 3, 1) := by decide +kernel
theorem d_growAll_20 : decode prog_7_method_4_code 20 = .ok (.invokevirtual 41, 3) := by decide +kernel
theorem d_growAll_23 : decode prog_7_method_4_code 23 = .ok (.istore 4, 2) := by decide +kernel
theorem d_growAll_25 : decode prog_7_method_4_code 25 = .ok (.aload_n 1, 1) := by decide +kernel
theorem d_growAll_26 : decode prog_7_method_4_code 26 = .ok (.iload_n 3, 1) := by decide +kernel
theorem d_growAll_27 : decode prog_7_method_4_code 27 = .ok (.invokevirtual 45, 3) := by decide +kernel
theorem d_growAll_30 : decode prog_7_method_4_code 30 = .ok (.istore 5, 2) := by decide +kernel
theorem d_growAll_32 : decode prog_7_method_4_code 32 = .ok (.aload_n 0, 1) := by decide +kernel
theorem d_growAll_33 : decode prog_7_method_4_code 33 = .ok (.getfield 9, 3) := by decide +kernel
theorem d_growAll_36 : decode prog_7_method_4_code 36 = .ok (.iload_n 3, 1) := by decide +kernel
theorem d_growAll_37 : decode prog_7_method_4_code 37 = .ok (.iaload, 1) := by decide +kernel
theorem d_growAll_38 : decode prog_7_method_4_code 38 = .ok (.aload_n 1, 1) := by decide +kernel
theorem d_growAll_39 : decode prog_7_method_4_code 39 = .ok (.iload 4, 2) := by decide +kernel
theorem d_growAll_41 : decode prog_7_method_4_code 41 = .ok (.aload_n 0, 1) := by decide +kernel
theorem d_growAll_42 : decode prog_7_method_4_code 42 = .ok (.iload 4, 2) := by decide +kernel
theorem d_growAll_44 : decode prog_7_method_4_code 44 = .ok (.invokevirtual 48, 3) := by decide +kernel
theorem d_growAll_47 : decode prog_7_method_4_code 47 = .ok (.invokevirtual 51, 3) := by decide +kernel
theorem d_growAll_50 : decode prog_7_method_4_code 50 = .ok (.ior, 1) := by decide +kernel
theorem d_growAll_51 : decode prog_7_method_4_code 51 = .ok (.aload_n 1, 1) := by decide +kernel
theorem d_growAll_52 : decode prog_7_method_4_code 52 = .ok (.iload 5, 2) := by decide +kernel
theorem d_growAll_54 : decode prog_7_method_4_code 54 = .ok (.aload_n 0, 1) := by decide +kernel
theorem d_growAll_55 : decode prog_7_method_4_code 55 = .ok (.iload 5, 2) := by decide +kernel
theorem d_growAll_57 : decode prog_7_method_4_code 57 = .ok (.invokevirtual 48, 3) := by decide +kernel
theorem d_growAll_60 : decode prog_7_method_4_code 60 = .ok (.invokevirtual 51, 3) := by decide +kernel
theorem d_growAll_63 : decode prog_7_method_4_code 63 = .ok (.ior, 1) := by decide +kernel
theorem d_growAll_64 : decode prog_7_method_4_code 64 = .ok (.istore 6, 2) := by decide +kernel
theorem d_growAll_66 : decode prog_7_method_4_code 66 = .ok (.iload 6, 2) := by decide +kernel
theorem d_growAll_68 : decode prog_7_method_4_code 68 = .ok (.aload_n 0, 1) := by decide +kernel
theorem d_growAll_69 : decode prog_7_method_4_code 69 = .ok (.getfield 9, 3) := by decide +kernel
theorem d_growAll_72 : decode prog_7_method_4_code 72 = .ok (.iload_n 3, 1) := by decide +kernel
theorem d_growAll_73 : decode prog_7_method_4_code 73 = .ok (.iaload, 1) := by decide +kernel
theorem d_growAll_74 : decode prog_7_method_4_code 74 = .ok (.if_icmp .eq 13, 3) := by decide +kernel
theorem d_growAll_77 : decode prog_7_method_4_code 77 = .ok (.aload_n 0, 1) := by decide +kernel
theorem d_growAll_78 : decode prog_7_method_4_code 78 = .ok (.getfield 9, 3) := by decide +kernel
theorem d_growAll_81 : decode prog_7_method_4_code 81 = .ok (.iload_n 3, 1) := by decide +kernel
theorem d_growAll_82 : decode prog_7_method_4_code 82 = .ok (.iload 6, 2) := by decide +kernel
theorem d_growAll_84 : decode prog_7_method_4_code 84 = .ok (.iastore, 1) := by decide +kernel
theorem d_growAll_85 : decode prog_7_method_4_code 85 = .ok (.iconst 1, 1) := by decide +kernel
theorem d_growAll_86 : decode prog_7_method_4_code 86 = .ok (.istore_n 2, 1) := by decide +kernel
theorem d_growAll_87 : decode prog_7_method_4_code 87 = .ok (.iinc 3 (-1), 3) := by decide +kernel
theorem d_growAll_90 : decode prog_7_method_4_code 90 = .ok (.goto (-76), 3) := by decide +kernel
theorem d_growAll_93 : decode prog_7_method_4_code 93 = .ok (.iload_n 2, 1) := by decide +kernel
theorem d_growAll_94 : decode prog_7_method_4_code 94 = .ok (.ireturn, 1) := by decide +kernel
theorem d_ufind_0 : decode prog_7_method_3_code 0 = .ok (.aload_n 0, 1) := by decide +kernel
theorem d_ufind_1 : decode prog_7_method_3_code 1 = .ok (.getfield 9, 3) := by decide +kernel
theorem d_ufind_4 : decode prog_7_method_3_code 4 = .ok (.iconst 0, 1) := by decide +kernel
theorem d_ufind_5 : decode prog_7_method_3_code 5 = .ok (.invokestatic 19, 3) := by decide +kernel
theorem d_ufind_8 : decode prog_7_method_3_code 8 = .ok (.iconst 1, 1) := by decide +kernel
theorem d_ufind_9 : decode prog_7_method_3_code 9 = .ok (.istore_n 2, 1) := by decide +kernel
theorem d_ufind_10 : decode prog_7_method_3_code 10 = .ok (.iconst 0, 1) := by decide +kernel
theorem d_ufind_11 : decode prog_7_method_3_code 11 = .ok (.istore_n 3, 1) := by decide +kernel
theorem d_ufind_12 : decode prog_7_method_3_code 12 = .ok (.iload_n 3, 1) := by decide +kernel
theorem d_ufind_13 : decode prog_7_method_3_code 13 = .ok (.sipush 1920, 3) := by decide +kernel
theorem d_ufind_16 : decode prog_7_method_3_code 16 = .ok (.if_icmp .gt 19, 3) := by decide +kernel
theorem d_ufind_19 : decode prog_7_method_3_code 19 = .ok (.iload_n 2, 1) := by decide +kernel
theorem d_ufind_20 : decode prog_7_method_3_code 20 = .ok (.ifCond .eq 15, 3) := by decide +kernel
theorem d_ufind_23 : decode prog_7_method_3_code 23 = .ok (.aload_n 0, 1) := by decide +kernel
theorem d_ufind_24 : decode prog_7_method_3_code 24 = .ok (.aload_n 1, 1) := by decide +kernel
theorem d_ufind_25 : decode prog_7_method_3_code 25 = .ok (.invokevirtual 25, 3) := by decide +kernel
theorem d_ufind_28 : decode prog_7_method_3_code 28 = .ok (.istore_n 2, 1) := by decide +kernel
theorem d_ufind_29 : decode prog_7_method_3_code 29 = .ok (.iinc 3 1, 3) := by decide +kernel
theorem d_ufind_32 : decode prog_7_method_3_code 32 = .ok (.goto (-20), 3) := by decide +kernel
theorem d_ufind_35 : decode prog_7_method_3_code 35 = .ok (.return_, 1) := by decide +kernel
