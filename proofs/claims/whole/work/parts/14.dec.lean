theorem d_comesTo_0 : decode prog_6_method_2_code 0 = .ok (.iload_n 1, 1) := by decide +kernel
theorem d_comesTo_1 : decode prog_6_method_2_code 1 = .ok (.invokestatic 22, 3) := by decide +kernel
theorem d_comesTo_4 : decode prog_6_method_2_code 4 = .ok (.ifCond .eq 17, 3) := by decide +kernel
theorem d_comesTo_7 : decode prog_6_method_2_code 7 = .ok (.aload_n 0, 1) := by decide +kernel
theorem d_comesTo_8 : decode prog_6_method_2_code 8 = .ok (.getfield 9, 3) := by decide +kernel
theorem d_comesTo_11 : decode prog_6_method_2_code 11 = .ok (.iload_n 1, 1) := by decide +kernel
theorem d_comesTo_12 : decode prog_6_method_2_code 12 = .ok (.iaload, 1) := by decide +kernel
theorem d_comesTo_13 : decode prog_6_method_2_code 13 = .ok (.iconst 1, 1) := by decide +kernel
theorem d_comesTo_14 : decode prog_6_method_2_code 14 = .ok (.if_icmp .ne 7, 3) := by decide +kernel
theorem d_comesTo_17 : decode prog_6_method_2_code 17 = .ok (.iconst 1, 1) := by decide +kernel
theorem d_comesTo_18 : decode prog_6_method_2_code 18 = .ok (.goto 4, 3) := by decide +kernel
theorem d_comesTo_21 : decode prog_6_method_2_code 21 = .ok (.iconst 0, 1) := by decide +kernel
theorem d_comesTo_22 : decode prog_6_method_2_code 22 = .ok (.ireturn, 1) := by decide +kernel
theorem d_rcount_0 : decode prog_6_method_3_code 0 = .ok (.iconst 0, 1) := by decide +kernel
theorem d_rcount_1 : decode prog_6_method_3_code 1 = .ok (.istore_n 1, 1) := by decide +kernel
theorem d_rcount_2 : decode prog_6_method_3_code 2 = .ok (.iconst 0, 1) := by decide +kernel
theorem d_rcount_3 : decode prog_6_method_3_code 3 = .ok (.istore_n 2, 1) := by decide +kernel
theorem d_rcount_4 : decode prog_6_method_3_code 4 = .ok (.iload_n 2, 1) := by decide +kernel
theorem d_rcount_5 : decode prog_6_method_3_code 5 = .ok (.bipush 120, 2) := by decide +kernel
theorem d_rcount_7 : decode prog_6_method_3_code 7 = .ok (.if_icmp .ge 18, 3) := by decide +kernel
theorem d_rcount_10 : decode prog_6_method_3_code 10 = .ok (.iload_n 1, 1) := by decide +kernel
theorem d_rcount_11 : decode prog_6_method_3_code 11 = .ok (.aload_n 0, 1) := by decide +kernel
theorem d_rcount_12 : decode prog_6_method_3_code 12 = .ok (.getfield 9, 3) := by decide +kernel
theorem d_rcount_15 : decode prog_6_method_3_code 15 = .ok (.iload_n 2, 1) := by decide +kernel
theorem d_rcount_16 : decode prog_6_method_3_code 16 = .ok (.iaload, 1) := by decide +kernel
theorem d_rcount_17 : decode prog_6_method_3_code 17 = .ok (.iadd, 1) := by decide +kernel
theorem d_rcount_18 : decode prog_6_method_3_code 18 = .ok (.istore_n 1, 1) := by decide +kernel
theorem d_rcount_19 : decode prog_6_method_3_code 19 = .ok (.iinc 2 1, 3) := by decide +kernel
theorem d_rcount_22 : decode prog_6_method_3_code 22 = .ok (.goto (-18), 3) := by decide +kernel
theorem d_rcount_25 : decode prog_6_method_3_code 25 = .ok (.iload_n 1, 1) := by decide +kernel
theorem d_rcount_26 : decode prog_6_method_3_code 26 = .ok (.ireturn, 1) := by decide +kernel
theorem d_arrive_0 : decode prog_6_method_5_code 0 = .ok (.aload_n 1, 1) := by decide +kernel
theorem d_arrive_1 : decode prog_6_method_5_code 1 = .ok (.iload_n 2, 1) := by decide +kernel
theorem d_arrive_2 : decode prog_6_method_5_code 2 = .ok (.invokevirtual 53, 3) := by decide +kernel
theorem d_arrive_5 : decode prog_6_method_5_code 5 = .ok (.ifCond .eq 26, 3) := by decide +kernel
theorem d_arrive_8 : decode prog_6_method_5_code 8 = .ok (.aload_n 0, 1) := by decide +kernel
theorem d_arrive_9 : decode prog_6_method_5_code 9 = .ok (.iload_n 2, 1) := by decide +kernel
theorem d_arrive_10 : decode prog_6_method_5_code 10 = .ok (.invokevirtual 56, 3) := by decide +kernel
theorem d_arrive_13 : decode prog_6_method_5_code 13 = .ok (.ifCond .ne 18, 3) := by decide +kernel
theorem d_arrive_16 : decode prog_6_method_5_code 16 = .ok (.aload_n 0, 1) := by decide +kernel
theorem d_arrive_17 : decode prog_6_method_5_code 17 = .ok (.getfield 9, 3) := by decide +kernel
theorem d_arrive_20 : decode prog_6_method_5_code 20 = .ok (.iload_n 2, 1) := by decide +kernel
theorem d_arrive_21 : decode prog_6_method_5_code 21 = .ok (.iconst 1, 1) := by decide +kernel
theorem d_arrive_22 : decode prog_6_method_5_code 22 = .ok (.iastore, 1) := by decide +kernel
theorem d_arrive_23 : decode prog_6_method_5_code 23 = .ok (.aload_n 0, 1) := by decide +kernel
theorem d_arrive_24 : decode prog_6_method_5_code 24 = .ok (.getfield 18, 3) := by decide +kernel
theorem d_arrive_27 : decode prog_6_method_5_code 27 = .ok (.iload_n 2, 1) := by decide +kernel
theorem d_arrive_28 : decode prog_6_method_5_code 28 = .ok (.invokevirtual 59, 3) := by decide +kernel
theorem d_arrive_31 : decode prog_6_method_5_code 31 = .ok (.return_, 1) := by decide +kernel
theorem d_rfind_0 : decode prog_6_method_4_code 0 = .ok (.aload_n 0, 1) := by decide +kernel
theorem d_rfind_1 : decode prog_6_method_4_code 1 = .ok (.getfield 9, 3) := by decide +kernel
theorem d_rfind_4 : decode prog_6_method_4_code 4 = .ok (.iconst 0, 1) := by decide +kernel
theorem d_rfind_5 : decode prog_6_method_4_code 5 = .ok (.invokestatic 26, 3) := by decide +kernel
theorem d_rfind_8 : decode prog_6_method_4_code 8 = .ok (.aload_n 0, 1) := by decide +kernel
theorem d_rfind_9 : decode prog_6_method_4_code 9 = .ok (.aload_n 1, 1) := by decide +kernel
theorem d_rfind_10 : decode prog_6_method_4_code 10 = .ok (.iconst 0, 1) := by decide +kernel
theorem d_rfind_11 : decode prog_6_method_4_code 11 = .ok (.invokevirtual 32, 3) := by decide +kernel
theorem d_rfind_14 : decode prog_6_method_4_code 14 = .ok (.iconst 0, 1) := by decide +kernel
theorem d_rfind_15 : decode prog_6_method_4_code 15 = .ok (.istore_n 2, 1) := by decide +kernel
theorem d_rfind_16 : decode prog_6_method_4_code 16 = .ok (.iload_n 2, 1) := by decide +kernel
theorem d_rfind_17 : decode prog_6_method_4_code 17 = .ok (.bipush 120, 2) := by decide +kernel
theorem d_rfind_19 : decode prog_6_method_4_code 19 = .ok (.if_icmp .ge 47, 3) := by decide +kernel
theorem d_rfind_22 : decode prog_6_method_4_code 22 = .ok (.aload_n 0, 1) := by decide +kernel
theorem d_rfind_23 : decode prog_6_method_4_code 23 = .ok (.getfield 18, 3) := by decide +kernel
theorem d_rfind_26 : decode prog_6_method_4_code 26 = .ok (.invokevirtual 36, 3) := by decide +kernel
theorem d_rfind_29 : decode prog_6_method_4_code 29 = .ok (.ifCond .ne 37, 3) := by decide +kernel
theorem d_rfind_32 : decode prog_6_method_4_code 32 = .ok (.aload_n 0, 1) := by decide +kernel
theorem d_rfind_33 : decode prog_6_method_4_code 33 = .ok (.getfield 18, 3) := by decide +kernel
theorem d_rfind_36 : decode prog_6_method_4_code 36 = .ok (.invokevirtual 40, 3) := by decide +kernel
theorem d_rfind_39 : decode prog_6_method_4_code 39 = .ok (.istore_n 3, 1) := by decide +kernel
theorem d_rfind_40 : decode prog_6_method_4_code 40 = .ok (.aload_n 0, 1) := by decide +kernel
theorem d_rfind_41 : decode prog_6_method_4_code 41 = .ok (.aload_n 1, 1) := by decide +kernel
theorem d_rfind_42 : decode prog_6_method_4_code 42 = .ok (.aload_n 1, 1) := by decide +kernel
theorem d_rfind_43 : decode prog_6_method_4_code 43 = .ok (.iload_n 3, 1) := by decide +kernel
theorem d_rfind_44 : decode prog_6_method_4_code 44 = .ok (.invokevirtual 44, 3) := by decide +kernel
theorem d_rfind_47 : decode prog_6_method_4_code 47 = .ok (.invokevirtual 32, 3) := by decide +kernel
theorem d_rfind_50 : decode prog_6_method_4_code 50 = .ok (.aload_n 0, 1) := by decide +kernel
theorem d_rfind_51 : decode prog_6_method_4_code 51 = .ok (.aload_n 1, 1) := by decide +kernel
theorem d_rfind_52 : decode prog_6_method_4_code 52 = .ok (.aload_n 1, 1) := by decide +kernel
theorem d_rfind_53 : decode prog_6_method_4_code 53 = .ok (.iload_n 3, 1) := by decide +kernel
theorem d_rfind_54 : decode prog_6_method_4_code 54 = .ok (.invokevirtual 50, 3) := by decide +kernel
theorem d_rfind_57 : decode prog_6_method_4_code 57 = .ok (.invokevirtual 32, 3) := by decide +kernel
theorem d_rfind_60 : decode prog_6_method_4_code 60 = .ok (.iinc 2 1, 3) := by decide +kernel
theorem d_rfind_63 : decode prog_6_method_4_code 63 = .ok (.goto (-47), 3) := by decide +kernel
theorem d_rfind_66 : decode prog_6_method_4_code 66 = .ok (.return_, 1) := by decide +kernel
