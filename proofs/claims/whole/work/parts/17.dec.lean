theorem d_mempty_0 : decode prog_4_method_2_code 0 = .ok (.aload_n 0, 1) := by decide +kernel
theorem d_mempty_1 : decode prog_4_method_2_code 1 = .ok (.getfield 9, 3) := by decide +kernel
theorem d_mempty_4 : decode prog_4_method_2_code 4 = .ok (.lconst 0, 1) := by decide +kernel
theorem d_mempty_5 : decode prog_4_method_2_code 5 = .ok (.invokestatic 15, 3) := by decide +kernel
theorem d_mempty_8 : decode prog_4_method_2_code 8 = .ok (.return_, 1) := by decide +kernel
theorem d_madd_0 : decode prog_4_method_3_code 0 = .ok (.iload_n 1, 1) := by decide +kernel
theorem d_madd_1 : decode prog_4_method_3_code 1 = .ok (.invokestatic 21, 3) := by decide +kernel
theorem d_madd_4 : decode prog_4_method_3_code 4 = .ok (.ifCond .eq 32, 3) := by decide +kernel
theorem d_madd_7 : decode prog_4_method_3_code 7 = .ok (.iload_n 2, 1) := by decide +kernel
theorem d_madd_8 : decode prog_4_method_3_code 8 = .ok (.invokestatic 21, 3) := by decide +kernel
theorem d_madd_11 : decode prog_4_method_3_code 11 = .ok (.ifCond .eq 25, 3) := by decide +kernel
theorem d_madd_14 : decode prog_4_method_3_code 14 = .ok (.aload_n 0, 1) := by decide +kernel
theorem d_madd_15 : decode prog_4_method_3_code 15 = .ok (.getfield 9, 3) := by decide +kernel
theorem d_madd_18 : decode prog_4_method_3_code 18 = .ok (.iconst 2, 1) := by decide +kernel
theorem d_madd_19 : decode prog_4_method_3_code 19 = .ok (.iload_n 1, 1) := by decide +kernel
theorem d_madd_20 : decode prog_4_method_3_code 20 = .ok (.imul, 1) := by decide +kernel
theorem d_madd_21 : decode prog_4_method_3_code 21 = .ok (.iload_n 2, 1) := by decide +kernel
theorem d_madd_22 : decode prog_4_method_3_code 22 = .ok (.bipush 64, 2) := by decide +kernel
theorem d_madd_24 : decode prog_4_method_3_code 24 = .ok (.idiv, 1) := by decide +kernel
theorem d_madd_25 : decode prog_4_method_3_code 25 = .ok (.iadd, 1) := by decide +kernel
theorem d_madd_26 : decode prog_4_method_3_code 26 = .ok (.dup2, 1) := by decide +kernel
theorem d_madd_27 : decode prog_4_method_3_code 27 = .ok (.laload, 1) := by decide +kernel
theorem d_madd_28 : decode prog_4_method_3_code 28 = .ok (.lconst 1, 1) := by decide +kernel
theorem d_madd_29 : decode prog_4_method_3_code 29 = .ok (.iload_n 2, 1) := by decide +kernel
theorem d_madd_30 : decode prog_4_method_3_code 30 = .ok (.bipush 64, 2) := by decide +kernel
theorem d_madd_32 : decode prog_4_method_3_code 32 = .ok (.irem, 1) := by decide +kernel
theorem d_madd_33 : decode prog_4_method_3_code 33 = .ok (.lshl, 1) := by decide +kernel
theorem d_madd_34 : decode prog_4_method_3_code 34 = .ok (.lor, 1) := by decide +kernel
theorem d_madd_35 : decode prog_4_method_3_code 35 = .ok (.lastore, 1) := by decide +kernel
theorem d_madd_36 : decode prog_4_method_3_code 36 = .ok (.return_, 1) := by decide +kernel
theorem d_isAnyAt_0 : decode prog_4_method_7_code 0 = .ok (.iload_n 1, 1) := by decide +kernel
theorem d_isAnyAt_1 : decode prog_4_method_7_code 1 = .ok (.invokestatic 21, 3) := by decide +kernel
theorem d_isAnyAt_4 : decode prog_4_method_7_code 4 = .ok (.ifCond .eq 31, 3) := by decide +kernel
theorem d_isAnyAt_7 : decode prog_4_method_7_code 7 = .ok (.aload_n 0, 1) := by decide +kernel
theorem d_isAnyAt_8 : decode prog_4_method_7_code 8 = .ok (.getfield 9, 3) := by decide +kernel
theorem d_isAnyAt_11 : decode prog_4_method_7_code 11 = .ok (.iconst 2, 1) := by decide +kernel
theorem d_isAnyAt_12 : decode prog_4_method_7_code 12 = .ok (.iload_n 1, 1) := by decide +kernel
theorem d_isAnyAt_13 : decode prog_4_method_7_code 13 = .ok (.imul, 1) := by decide +kernel
theorem d_isAnyAt_14 : decode prog_4_method_7_code 14 = .ok (.laload, 1) := by decide +kernel
theorem d_isAnyAt_15 : decode prog_4_method_7_code 15 = .ok (.aload_n 0, 1) := by decide +kernel
theorem d_isAnyAt_16 : decode prog_4_method_7_code 16 = .ok (.getfield 9, 3) := by decide +kernel
theorem d_isAnyAt_19 : decode prog_4_method_7_code 19 = .ok (.iconst 2, 1) := by decide +kernel
theorem d_isAnyAt_20 : decode prog_4_method_7_code 20 = .ok (.iload_n 1, 1) := by decide +kernel
theorem d_isAnyAt_21 : decode prog_4_method_7_code 21 = .ok (.imul, 1) := by decide +kernel
theorem d_isAnyAt_22 : decode prog_4_method_7_code 22 = .ok (.iconst 1, 1) := by decide +kernel
theorem d_isAnyAt_23 : decode prog_4_method_7_code 23 = .ok (.iadd, 1) := by decide +kernel
theorem d_isAnyAt_24 : decode prog_4_method_7_code 24 = .ok (.laload, 1) := by decide +kernel
theorem d_isAnyAt_25 : decode prog_4_method_7_code 25 = .ok (.lor, 1) := by decide +kernel
theorem d_isAnyAt_26 : decode prog_4_method_7_code 26 = .ok (.lconst 0, 1) := by decide +kernel
theorem d_isAnyAt_27 : decode prog_4_method_7_code 27 = .ok (.lcmp, 1) := by decide +kernel
theorem d_isAnyAt_28 : decode prog_4_method_7_code 28 = .ok (.ifCond .eq 7, 3) := by decide +kernel
theorem d_isAnyAt_31 : decode prog_4_method_7_code 31 = .ok (.iconst 1, 1) := by decide +kernel
theorem d_isAnyAt_32 : decode prog_4_method_7_code 32 = .ok (.goto 4, 3) := by decide +kernel
theorem d_isAnyAt_35 : decode prog_4_method_7_code 35 = .ok (.iconst 0, 1) := by decide +kernel
theorem d_isAnyAt_36 : decode prog_4_method_7_code 36 = .ok (.ireturn, 1) := by decide +kernel
theorem d_isAt_0 : decode prog_4_method_8_code 0 = .ok (.iload_n 1, 1) := by decide +kernel
theorem d_isAt_1 : decode prog_4_method_8_code 1 = .ok (.invokestatic 21, 3) := by decide +kernel
theorem d_isAt_4 : decode prog_4_method_8_code 4 = .ok (.ifCond .eq 39, 3) := by decide +kernel
theorem d_isAt_7 : decode prog_4_method_8_code 7 = .ok (.iload_n 2, 1) := by decide +kernel
theorem d_isAt_8 : decode prog_4_method_8_code 8 = .ok (.invokestatic 21, 3) := by decide +kernel
theorem d_isAt_11 : decode prog_4_method_8_code 11 = .ok (.ifCond .eq 32, 3) := by decide +kernel
theorem d_isAt_14 : decode prog_4_method_8_code 14 = .ok (.aload_n 0, 1) := by decide +kernel
theorem d_isAt_15 : decode prog_4_method_8_code 15 = .ok (.getfield 9, 3) := by decide +kernel
theorem d_isAt_18 : decode prog_4_method_8_code 18 = .ok (.iconst 2, 1) := by decide +kernel
theorem d_isAt_19 : decode prog_4_method_8_code 19 = .ok (.iload_n 1, 1) := by decide +kernel
theorem d_isAt_20 : decode prog_4_method_8_code 20 = .ok (.imul, 1) := by decide +kernel
theorem d_isAt_21 : decode prog_4_method_8_code 21 = .ok (.iload_n 2, 1) := by decide +kernel
theorem d_isAt_22 : decode prog_4_method_8_code 22 = .ok (.bipush 64, 2) := by decide +kernel
theorem d_isAt_24 : decode prog_4_method_8_code 24 = .ok (.idiv, 1) := by decide +kernel
theorem d_isAt_25 : decode prog_4_method_8_code 25 = .ok (.iadd, 1) := by decide +kernel
theorem d_isAt_26 : decode prog_4_method_8_code 26 = .ok (.laload, 1) := by decide +kernel
theorem d_isAt_27 : decode prog_4_method_8_code 27 = .ok (.iload_n 2, 1) := by decide +kernel
theorem d_isAt_28 : decode prog_4_method_8_code 28 = .ok (.bipush 64, 2) := by decide +kernel
theorem d_isAt_30 : decode prog_4_method_8_code 30 = .ok (.irem, 1) := by decide +kernel
theorem d_isAt_31 : decode prog_4_method_8_code 31 = .ok (.lushr, 1) := by decide +kernel
theorem d_isAt_32 : decode prog_4_method_8_code 32 = .ok (.lconst 1, 1) := by decide +kernel
theorem d_isAt_33 : decode prog_4_method_8_code 33 = .ok (.land, 1) := by decide +kernel
theorem d_isAt_34 : decode prog_4_method_8_code 34 = .ok (.lconst 1, 1) := by decide +kernel
theorem d_isAt_35 : decode prog_4_method_8_code 35 = .ok (.lcmp, 1) := by decide +kernel
theorem d_isAt_36 : decode prog_4_method_8_code 36 = .ok (.ifCond .ne 7, 3) := by decide +kernel
theorem d_isAt_39 : decode prog_4_method_8_code 39 = .ok (.iconst 1, 1) := by decide +kernel
theorem d_isAt_40 : decode prog_4_method_8_code 40 = .ok (.goto 4, 3) := by decide +kernel
theorem d_isAt_43 : decode prog_4_method_8_code 43 = .ok (.iconst 0, 1) := by decide +kernel
theorem d_isAt_44 : decode prog_4_method_8_code 44 = .ok (.ireturn, 1) := by decide +kernel
theorem d_mcount_0 : decode prog_4_method_4_code 0 = .ok (.iconst 0, 1) := by decide +kernel
theorem d_mcount_1 : decode prog_4_method_4_code 1 = .ok (.istore_n 1, 1) := by decide +kernel
theorem d_mcount_2 : decode prog_4_method_4_code 2 = .ok (.iconst 0, 1) := by decide +kernel
theorem d_mcount_3 : decode prog_4_method_4_code 3 = .ok (.istore_n 2, 1) := by decide +kernel
theorem d_mcount_4 : decode prog_4_method_4_code 4 = .ok (.iload_n 2, 1) := by decide +kernel
theorem d_mcount_5 : decode prog_4_method_4_code 5 = .ok (.bipush 120, 2) := by decide +kernel
theorem d_mcount_7 : decode prog_4_method_4_code 7 = .ok (.if_icmp .ge 20, 3) := by decide +kernel
theorem d_mcount_10 : decode prog_4_method_4_code 10 = .ok (.aload_n 0, 1) := by decide +kernel
theorem d_mcount_11 : decode prog_4_method_4_code 11 = .ok (.iload_n 2, 1) := by decide +kernel
theorem d_mcount_12 : decode prog_4_method_4_code 12 = .ok (.invokevirtual 25, 3) := by decide +kernel
theorem d_mcount_15 : decode prog_4_method_4_code 15 = .ok (.ifCond .eq 6, 3) := by decide +kernel
theorem d_mcount_18 : decode prog_4_method_4_code 18 = .ok (.iinc 1 1, 3) := by decide +kernel
theorem d_mcount_21 : decode prog_4_method_4_code 21 = .ok (.iinc 2 1, 3) := by decide +kernel
theorem d_mcount_24 : decode prog_4_method_4_code 24 = .ok (.goto (-20), 3) := by decide +kernel
theorem d_mcount_27 : decode prog_4_method_4_code 27 = .ok (.iload_n 1, 1) := by decide +kernel
theorem d_mcount_28 : decode prog_4_method_4_code 28 = .ok (.ireturn, 1) := by decide +kernel
theorem d_mfirst_0 : decode prog_4_method_5_code 0 = .ok (.iconst 0, 1) := by decide +kernel
theorem d_mfirst_1 : decode prog_4_method_5_code 1 = .ok (.istore_n 1, 1) := by decide +kernel
theorem d_mfirst_2 : decode prog_4_method_5_code 2 = .ok (.iload_n 1, 1) := by decide +kernel
theorem d_mfirst_3 : decode prog_4_method_5_code 3 = .ok (.bipush 120, 2) := by decide +kernel
theorem d_mfirst_5 : decode prog_4_method_5_code 5 = .ok (.if_icmp .ge 19, 3) := by decide +kernel
theorem d_mfirst_8 : decode prog_4_method_5_code 8 = .ok (.aload_n 0, 1) := by decide +kernel
theorem d_mfirst_9 : decode prog_4_method_5_code 9 = .ok (.iload_n 1, 1) := by decide +kernel
theorem d_mfirst_10 : decode prog_4_method_5_code 10 = .ok (.invokevirtual 25, 3) := by decide +kernel
theorem d_mfirst_13 : decode prog_4_method_5_code 13 = .ok (.ifCond .eq 5, 3) := by decide +kernel
theorem d_mfirst_16 : decode prog_4_method_5_code 16 = .ok (.iload_n 1, 1) := by decide +kernel
theorem d_mfirst_17 : decode prog_4_method_5_code 17 = .ok (.ireturn, 1) := by decide +kernel
theorem d_mfirst_18 : decode prog_4_method_5_code 18 = .ok (.iinc 1 1, 3) := by decide +kernel
theorem d_mfirst_21 : decode prog_4_method_5_code 21 = .ok (.goto (-19), 3) := by decide +kernel
theorem d_mfirst_24 : decode prog_4_method_5_code 24 = .ok (.iconst (-1), 1) := by decide +kernel
theorem d_mfirst_25 : decode prog_4_method_5_code 25 = .ok (.ireturn, 1) := by decide +kernel
theorem d_least_0 : decode prog_4_method_6_code 0 = .ok (.iconst 0, 1) := by decide +kernel
theorem d_least_1 : decode prog_4_method_6_code 1 = .ok (.istore_n 3, 1) := by decide +kernel
theorem d_least_2 : decode prog_4_method_6_code 2 = .ok (.iload_n 3, 1) := by decide +kernel
theorem d_least_3 : decode prog_4_method_6_code 3 = .ok (.bipush 120, 2) := by decide +kernel
theorem d_least_5 : decode prog_4_method_6_code 5 = .ok (.if_icmp .ge 25, 3) := by decide +kernel
theorem d_least_8 : decode prog_4_method_6_code 8 = .ok (.iload_n 3, 1) := by decide +kernel
theorem d_least_9 : decode prog_4_method_6_code 9 = .ok (.iload_n 2, 1) := by decide +kernel
theorem d_least_10 : decode prog_4_method_6_code 10 = .ok (.if_icmp .le 14, 3) := by decide +kernel
theorem d_least_13 : decode prog_4_method_6_code 13 = .ok (.aload_n 0, 1) := by decide +kernel
theorem d_least_14 : decode prog_4_method_6_code 14 = .ok (.iload_n 1, 1) := by decide +kernel
theorem d_least_15 : decode prog_4_method_6_code 15 = .ok (.iload_n 3, 1) := by decide +kernel
theorem d_least_16 : decode prog_4_method_6_code 16 = .ok (.invokevirtual 28, 3) := by decide +kernel
theorem d_least_19 : decode prog_4_method_6_code 19 = .ok (.ifCond .eq 5, 3) := by decide +kernel
theorem d_least_22 : decode prog_4_method_6_code 22 = .ok (.iload_n 3, 1) := by decide +kernel
theorem d_least_23 : decode prog_4_method_6_code 23 = .ok (.ireturn, 1) := by decide +kernel
theorem d_least_24 : decode prog_4_method_6_code 24 = .ok (.iinc 3 1, 3) := by decide +kernel
theorem d_least_27 : decode prog_4_method_6_code 27 = .ok (.goto (-25), 3) := by decide +kernel
theorem d_least_30 : decode prog_4_method_6_code 30 = .ok (.iconst (-1), 1) := by decide +kernel
theorem d_least_31 : decode prog_4_method_6_code 31 = .ok (.ireturn, 1) := by decide +kernel
