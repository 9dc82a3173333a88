theorem d_isRef_0 : decode prog_1_method_12_code 0 = .ok (.iload_n 0, 1) := by decide +kernel
theorem d_isRef_1 : decode prog_1_method_12_code 1 = .ok (.ifCond .lt 13, 3) := by decide +kernel
theorem d_isRef_4 : decode prog_1_method_12_code 4 = .ok (.iload_n 0, 1) := by decide +kernel
theorem d_isRef_5 : decode prog_1_method_12_code 5 = .ok (.bipush 16, 2) := by decide +kernel
theorem d_isRef_7 : decode prog_1_method_12_code 7 = .ok (.if_icmp .ge 7, 3) := by decide +kernel
theorem d_isRef_10 : decode prog_1_method_12_code 10 = .ok (.iconst 1, 1) := by decide +kernel
theorem d_isRef_11 : decode prog_1_method_12_code 11 = .ok (.goto 4, 3) := by decide +kernel
theorem d_isRef_14 : decode prog_1_method_12_code 14 = .ok (.iconst 0, 1) := by decide +kernel
theorem d_isRef_15 : decode prog_1_method_12_code 15 = .ok (.ireturn, 1) := by decide +kernel
theorem d_isIndex_0 : decode prog_1_method_15_code 0 = .ok (.iload_n 0, 1) := by decide +kernel
theorem d_isIndex_1 : decode prog_1_method_15_code 1 = .ok (.ifCond .lt 13, 3) := by decide +kernel
theorem d_isIndex_4 : decode prog_1_method_15_code 4 = .ok (.iload_n 0, 1) := by decide +kernel
theorem d_isIndex_5 : decode prog_1_method_15_code 5 = .ok (.bipush 120, 2) := by decide +kernel
theorem d_isIndex_7 : decode prog_1_method_15_code 7 = .ok (.if_icmp .ge 7, 3) := by decide +kernel
theorem d_isIndex_10 : decode prog_1_method_15_code 10 = .ok (.iconst 1, 1) := by decide +kernel
theorem d_isIndex_11 : decode prog_1_method_15_code 11 = .ok (.goto 4, 3) := by decide +kernel
theorem d_isIndex_14 : decode prog_1_method_15_code 14 = .ok (.iconst 0, 1) := by decide +kernel
theorem d_isIndex_15 : decode prog_1_method_15_code 15 = .ok (.ireturn, 1) := by decide +kernel
theorem d_isNext_0 : decode prog_1_method_14_code 0 = .ok (.iload_n 0, 1) := by decide +kernel
theorem d_isNext_1 : decode prog_1_method_14_code 1 = .ok (.iconst (-1), 1) := by decide +kernel
theorem d_isNext_2 : decode prog_1_method_14_code 2 = .ok (.if_icmp .eq 10, 3) := by decide +kernel
theorem d_isNext_5 : decode prog_1_method_14_code 5 = .ok (.iload_n 0, 1) := by decide +kernel
theorem d_isNext_6 : decode prog_1_method_14_code 6 = .ok (.invokestatic 131, 3) := by decide +kernel
theorem d_isNext_9 : decode prog_1_method_14_code 9 = .ok (.ifCond .eq 7, 3) := by decide +kernel
theorem d_isNext_12 : decode prog_1_method_14_code 12 = .ok (.iconst 1, 1) := by decide +kernel
theorem d_isNext_13 : decode prog_1_method_14_code 13 = .ok (.goto 4, 3) := by decide +kernel
theorem d_isNext_16 : decode prog_1_method_14_code 16 = .ok (.iconst 0, 1) := by decide +kernel
theorem d_isNext_17 : decode prog_1_method_14_code 17 = .ok (.ireturn, 1) := by decide +kernel
theorem d_isPlace_0 : decode prog_1_method_13_code 0 = .ok (.iload_n 0, 1) := by decide +kernel
theorem d_isPlace_1 : decode prog_1_method_13_code 1 = .ok (.istore_n 1, 1) := by decide +kernel
theorem d_isPlace_2 : decode prog_1_method_13_code 2 = .ok (.iconst 0, 1) := by decide +kernel
theorem d_isPlace_3 : decode prog_1_method_13_code 3 = .ok (.istore_n 2, 1) := by decide +kernel
theorem d_isPlace_4 : decode prog_1_method_13_code 4 = .ok (.iload_n 2, 1) := by decide +kernel
theorem d_isPlace_5 : decode prog_1_method_13_code 5 = .ok (.iconst 4, 1) := by decide +kernel
theorem d_isPlace_6 : decode prog_1_method_13_code 6 = .ok (.if_icmp .ge 27, 3) := by decide +kernel
theorem d_isPlace_9 : decode prog_1_method_13_code 9 = .ok (.iload_n 1, 1) := by decide +kernel
theorem d_isPlace_10 : decode prog_1_method_13_code 10 = .ok (.ifCond .le 23, 3) := by decide +kernel
theorem d_isPlace_13 : decode prog_1_method_13_code 13 = .ok (.iload_n 1, 1) := by decide +kernel
theorem d_isPlace_14 : decode prog_1_method_13_code 14 = .ok (.bipush 10, 2) := by decide +kernel
theorem d_isPlace_16 : decode prog_1_method_13_code 16 = .ok (.irem, 1) := by decide +kernel
theorem d_isPlace_17 : decode prog_1_method_13_code 17 = .ok (.ifCond .ne 5, 3) := by decide +kernel
theorem d_isPlace_20 : decode prog_1_method_13_code 20 = .ok (.iconst 0, 1) := by decide +kernel
theorem d_isPlace_21 : decode prog_1_method_13_code 21 = .ok (.ireturn, 1) := by decide +kernel
theorem d_isPlace_22 : decode prog_1_method_13_code 22 = .ok (.iload_n 1, 1) := by decide +kernel
theorem d_isPlace_23 : decode prog_1_method_13_code 23 = .ok (.bipush 10, 2) := by decide +kernel
theorem d_isPlace_25 : decode prog_1_method_13_code 25 = .ok (.idiv, 1) := by decide +kernel
theorem d_isPlace_26 : decode prog_1_method_13_code 26 = .ok (.istore_n 1, 1) := by decide +kernel
theorem d_isPlace_27 : decode prog_1_method_13_code 27 = .ok (.iinc 2 1, 3) := by decide +kernel
theorem d_isPlace_30 : decode prog_1_method_13_code 30 = .ok (.goto (-26), 3) := by decide +kernel
theorem d_isPlace_33 : decode prog_1_method_13_code 33 = .ok (.iload_n 0, 1) := by decide +kernel
theorem d_isPlace_34 : decode prog_1_method_13_code 34 = .ok (.ifCond .le 11, 3) := by decide +kernel
theorem d_isPlace_37 : decode prog_1_method_13_code 37 = .ok (.iload_n 1, 1) := by decide +kernel
theorem d_isPlace_38 : decode prog_1_method_13_code 38 = .ok (.ifCond .ne 7, 3) := by decide +kernel
theorem d_isPlace_41 : decode prog_1_method_13_code 41 = .ok (.iconst 1, 1) := by decide +kernel
theorem d_isPlace_42 : decode prog_1_method_13_code 42 = .ok (.goto 4, 3) := by decide +kernel
theorem d_isPlace_45 : decode prog_1_method_13_code 45 = .ok (.iconst 0, 1) := by decide +kernel
theorem d_isPlace_46 : decode prog_1_method_13_code 46 = .ok (.ireturn, 1) := by decide +kernel
theorem d_isDoing_0 : decode prog_1_method_11_code 0 = .ok (.iload_n 0, 1) := by decide +kernel
theorem d_isDoing_1 : decode prog_1_method_11_code 1 = .ok (.tableswitch 104 0 6 #[43, 45, 74, 94, 94, 99, 99], 43) := by decide +kernel
theorem d_isDoing_44 : decode prog_1_method_11_code 44 = .ok (.iconst 1, 1) := by decide +kernel
theorem d_isDoing_45 : decode prog_1_method_11_code 45 = .ok (.ireturn, 1) := by decide +kernel
theorem d_isDoing_46 : decode prog_1_method_11_code 46 = .ok (.iload_n 1, 1) := by decide +kernel
theorem d_isDoing_47 : decode prog_1_method_11_code 47 = .ok (.invokestatic 125, 3) := by decide +kernel
theorem d_isDoing_50 : decode prog_1_method_11_code 50 = .ok (.ifCond .eq 23, 3) := by decide +kernel
theorem d_isDoing_53 : decode prog_1_method_11_code 53 = .ok (.iload_n 2, 1) := by decide +kernel
theorem d_isDoing_54 : decode prog_1_method_11_code 54 = .ok (.invokestatic 128, 3) := by decide +kernel
theorem d_isDoing_57 : decode prog_1_method_11_code 57 = .ok (.ifCond .eq 16, 3) := by decide +kernel
theorem d_isDoing_60 : decode prog_1_method_11_code 60 = .ok (.iload_n 3, 1) := by decide +kernel
theorem d_isDoing_61 : decode prog_1_method_11_code 61 = .ok (.ifCond .eq 8, 3) := by decide +kernel
theorem d_isDoing_64 : decode prog_1_method_11_code 64 = .ok (.iload_n 3, 1) := by decide +kernel
theorem d_isDoing_65 : decode prog_1_method_11_code 65 = .ok (.iconst 1, 1) := by decide +kernel
theorem d_isDoing_66 : decode prog_1_method_11_code 66 = .ok (.if_icmp .ne 7, 3) := by decide +kernel
theorem d_isDoing_69 : decode prog_1_method_11_code 69 = .ok (.iconst 1, 1) := by decide +kernel
theorem d_isDoing_70 : decode prog_1_method_11_code 70 = .ok (.goto 4, 3) := by decide +kernel
theorem d_isDoing_73 : decode prog_1_method_11_code 73 = .ok (.iconst 0, 1) := by decide +kernel
theorem d_isDoing_74 : decode prog_1_method_11_code 74 = .ok (.ireturn, 1) := by decide +kernel
theorem d_isDoing_75 : decode prog_1_method_11_code 75 = .ok (.iload_n 1, 1) := by decide +kernel
theorem d_isDoing_76 : decode prog_1_method_11_code 76 = .ok (.invokestatic 125, 3) := by decide +kernel
theorem d_isDoing_79 : decode prog_1_method_11_code 79 = .ok (.ifCond .eq 14, 3) := by decide +kernel
theorem d_isDoing_82 : decode prog_1_method_11_code 82 = .ok (.iload_n 2, 1) := by decide +kernel
theorem d_isDoing_83 : decode prog_1_method_11_code 83 = .ok (.invokestatic 125, 3) := by decide +kernel
theorem d_isDoing_86 : decode prog_1_method_11_code 86 = .ok (.ifCond .eq 7, 3) := by decide +kernel
theorem d_isDoing_89 : decode prog_1_method_11_code 89 = .ok (.iconst 1, 1) := by decide +kernel
theorem d_isDoing_90 : decode prog_1_method_11_code 90 = .ok (.goto 4, 3) := by decide +kernel
theorem d_isDoing_93 : decode prog_1_method_11_code 93 = .ok (.iconst 0, 1) := by decide +kernel
theorem d_isDoing_94 : decode prog_1_method_11_code 94 = .ok (.ireturn, 1) := by decide +kernel
theorem d_isDoing_95 : decode prog_1_method_11_code 95 = .ok (.iload_n 1, 1) := by decide +kernel
theorem d_isDoing_96 : decode prog_1_method_11_code 96 = .ok (.invokestatic 125, 3) := by decide +kernel
theorem d_isDoing_99 : decode prog_1_method_11_code 99 = .ok (.ireturn, 1) := by decide +kernel
theorem d_isDoing_100 : decode prog_1_method_11_code 100 = .ok (.iload_n 2, 1) := by decide +kernel
theorem d_isDoing_101 : decode prog_1_method_11_code 101 = .ok (.invokestatic 128, 3) := by decide +kernel
theorem d_isDoing_104 : decode prog_1_method_11_code 104 = .ok (.ireturn, 1) := by decide +kernel
theorem d_isDoing_105 : decode prog_1_method_11_code 105 = .ok (.iconst 0, 1) := by decide +kernel
theorem d_isDoing_106 : decode prog_1_method_11_code 106 = .ok (.ireturn, 1) := by decide +kernel
