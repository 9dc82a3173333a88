theorem d_hbehind_0 : decode prog_3_method_2_code 0 = .ok (.iload_n 1, 1) := by decide +kernel
theorem d_hbehind_1 : decode prog_3_method_2_code 1 = .ok (.invokestatic 25, 3) := by decide +kernel
theorem d_hbehind_4 : decode prog_3_method_2_code 4 = .ok (.ifCond .eq 12, 3) := by decide +kernel
theorem d_hbehind_7 : decode prog_3_method_2_code 7 = .ok (.aload_n 0, 1) := by decide +kernel
theorem d_hbehind_8 : decode prog_3_method_2_code 8 = .ok (.getfield 15, 3) := by decide +kernel
theorem d_hbehind_11 : decode prog_3_method_2_code 11 = .ok (.iload_n 1, 1) := by decide +kernel
theorem d_hbehind_12 : decode prog_3_method_2_code 12 = .ok (.iaload, 1) := by decide +kernel
theorem d_hbehind_13 : decode prog_3_method_2_code 13 = .ok (.goto 4, 3) := by decide +kernel
theorem d_hbehind_16 : decode prog_3_method_2_code 16 = .ok (.iconst 0, 1) := by decide +kernel
theorem d_hbehind_17 : decode prog_3_method_2_code 17 = .ok (.ireturn, 1) := by decide +kernel
theorem d_handOn_0 : decode prog_3_method_5_code 0 = .ok (.aload_n 1, 1) := by decide +kernel
theorem d_handOn_1 : decode prog_3_method_5_code 1 = .ok (.iload_n 2, 1) := by decide +kernel
theorem d_handOn_2 : decode prog_3_method_5_code 2 = .ok (.invokevirtual 67, 3) := by decide +kernel
theorem d_handOn_5 : decode prog_3_method_5_code 5 = .ok (.ifCond .ne 4, 3) := by decide +kernel
theorem d_handOn_8 : decode prog_3_method_5_code 8 = .ok (.return_, 1) := by decide +kernel
theorem d_handOn_9 : decode prog_3_method_5_code 9 = .ok (.aload_n 0, 1) := by decide +kernel
theorem d_handOn_10 : decode prog_3_method_5_code 10 = .ok (.getfield 9, 3) := by decide +kernel
theorem d_handOn_13 : decode prog_3_method_5_code 13 = .ok (.iload_n 2, 1) := by decide +kernel
theorem d_handOn_14 : decode prog_3_method_5_code 14 = .ok (.iaload, 1) := by decide +kernel
theorem d_handOn_15 : decode prog_3_method_5_code 15 = .ok (.iload_n 3, 1) := by decide +kernel
theorem d_handOn_16 : decode prog_3_method_5_code 16 = .ok (.ior, 1) := by decide +kernel
theorem d_handOn_17 : decode prog_3_method_5_code 17 = .ok (.istore 4, 2) := by decide +kernel
theorem d_handOn_19 : decode prog_3_method_5_code 19 = .ok (.iload 4, 2) := by decide +kernel
theorem d_handOn_21 : decode prog_3_method_5_code 21 = .ok (.aload_n 0, 1) := by decide +kernel
theorem d_handOn_22 : decode prog_3_method_5_code 22 = .ok (.getfield 9, 3) := by decide +kernel
theorem d_handOn_25 : decode prog_3_method_5_code 25 = .ok (.iload_n 2, 1) := by decide +kernel
theorem d_handOn_26 : decode prog_3_method_5_code 26 = .ok (.iaload, 1) := by decide +kernel
theorem d_handOn_27 : decode prog_3_method_5_code 27 = .ok (.if_icmp .eq 19, 3) := by decide +kernel
theorem d_handOn_30 : decode prog_3_method_5_code 30 = .ok (.aload_n 0, 1) := by decide +kernel
theorem d_handOn_31 : decode prog_3_method_5_code 31 = .ok (.getfield 9, 3) := by decide +kernel
theorem d_handOn_34 : decode prog_3_method_5_code 34 = .ok (.iload_n 2, 1) := by decide +kernel
theorem d_handOn_35 : decode prog_3_method_5_code 35 = .ok (.iload 4, 2) := by decide +kernel
theorem d_handOn_37 : decode prog_3_method_5_code 37 = .ok (.iastore, 1) := by decide +kernel
theorem d_handOn_38 : decode prog_3_method_5_code 38 = .ok (.aload_n 0, 1) := by decide +kernel
theorem d_handOn_39 : decode prog_3_method_5_code 39 = .ok (.getfield 21, 3) := by decide +kernel
theorem d_handOn_42 : decode prog_3_method_5_code 42 = .ok (.iload_n 2, 1) := by decide +kernel
theorem d_handOn_43 : decode prog_3_method_5_code 43 = .ok (.invokevirtual 35, 3) := by decide +kernel
theorem d_handOn_46 : decode prog_3_method_5_code 46 = .ok (.return_, 1) := by decide +kernel
theorem d_pass_0 : decode prog_3_method_4_code 0 = .ok (.iload_n 3, 1) := by decide +kernel
theorem d_pass_1 : decode prog_3_method_4_code 1 = .ok (.invokestatic 25, 3) := by decide +kernel
theorem d_pass_4 : decode prog_3_method_4_code 4 = .ok (.ifCond .ne 4, 3) := by decide +kernel
theorem d_pass_7 : decode prog_3_method_4_code 7 = .ok (.return_, 1) := by decide +kernel
theorem d_pass_8 : decode prog_3_method_4_code 8 = .ok (.aload_n 1, 1) := by decide +kernel
theorem d_pass_9 : decode prog_3_method_4_code 9 = .ok (.iload_n 3, 1) := by decide +kernel
theorem d_pass_10 : decode prog_3_method_4_code 10 = .ok (.iload_n 2, 1) := by decide +kernel
theorem d_pass_11 : decode prog_3_method_4_code 11 = .ok (.aload_n 0, 1) := by decide +kernel
theorem d_pass_12 : decode prog_3_method_4_code 12 = .ok (.getfield 9, 3) := by decide +kernel
theorem d_pass_15 : decode prog_3_method_4_code 15 = .ok (.iload_n 3, 1) := by decide +kernel
theorem d_pass_16 : decode prog_3_method_4_code 16 = .ok (.iaload, 1) := by decide +kernel
theorem d_pass_17 : decode prog_3_method_4_code 17 = .ok (.invokevirtual 51, 3) := by decide +kernel
theorem d_pass_20 : decode prog_3_method_4_code 20 = .ok (.istore 4, 2) := by decide +kernel
theorem d_pass_22 : decode prog_3_method_4_code 22 = .ok (.aload_n 0, 1) := by decide +kernel
theorem d_pass_23 : decode prog_3_method_4_code 23 = .ok (.getfield 15, 3) := by decide +kernel
theorem d_pass_26 : decode prog_3_method_4_code 26 = .ok (.iload_n 3, 1) := by decide +kernel
theorem d_pass_27 : decode prog_3_method_4_code 27 = .ok (.iload 4, 2) := by decide +kernel
theorem d_pass_29 : decode prog_3_method_4_code 29 = .ok (.iastore, 1) := by decide +kernel
theorem d_pass_30 : decode prog_3_method_4_code 30 = .ok (.aload_n 0, 1) := by decide +kernel
theorem d_pass_31 : decode prog_3_method_4_code 31 = .ok (.aload_n 1, 1) := by decide +kernel
theorem d_pass_32 : decode prog_3_method_4_code 32 = .ok (.aload_n 1, 1) := by decide +kernel
theorem d_pass_33 : decode prog_3_method_4_code 33 = .ok (.iload_n 3, 1) := by decide +kernel
theorem d_pass_34 : decode prog_3_method_4_code 34 = .ok (.invokevirtual 57, 3) := by decide +kernel
theorem d_pass_37 : decode prog_3_method_4_code 37 = .ok (.iload 4, 2) := by decide +kernel
theorem d_pass_39 : decode prog_3_method_4_code 39 = .ok (.invokevirtual 61, 3) := by decide +kernel
theorem d_pass_42 : decode prog_3_method_4_code 42 = .ok (.aload_n 0, 1) := by decide +kernel
theorem d_pass_43 : decode prog_3_method_4_code 43 = .ok (.aload_n 1, 1) := by decide +kernel
theorem d_pass_44 : decode prog_3_method_4_code 44 = .ok (.aload_n 1, 1) := by decide +kernel
theorem d_pass_45 : decode prog_3_method_4_code 45 = .ok (.iload_n 3, 1) := by decide +kernel
theorem d_pass_46 : decode prog_3_method_4_code 46 = .ok (.invokevirtual 64, 3) := by decide +kernel
theorem d_pass_49 : decode prog_3_method_4_code 49 = .ok (.iload 4, 2) := by decide +kernel
theorem d_pass_51 : decode prog_3_method_4_code 51 = .ok (.invokevirtual 61, 3) := by decide +kernel
theorem d_pass_54 : decode prog_3_method_4_code 54 = .ok (.return_, 1) := by decide +kernel
theorem d_follow_0 : decode prog_3_method_3_code 0 = .ok (.aload_n 0, 1) := by decide +kernel
theorem d_follow_1 : decode prog_3_method_3_code 1 = .ok (.getfield 9, 3) := by decide +kernel
theorem d_follow_4 : decode prog_3_method_3_code 4 = .ok (.iconst 0, 1) := by decide +kernel
theorem d_follow_5 : decode prog_3_method_3_code 5 = .ok (.invokestatic 29, 3) := by decide +kernel
theorem d_follow_8 : decode prog_3_method_3_code 8 = .ok (.aload_n 0, 1) := by decide +kernel
theorem d_follow_9 : decode prog_3_method_3_code 9 = .ok (.getfield 15, 3) := by decide +kernel
theorem d_follow_12 : decode prog_3_method_3_code 12 = .ok (.iconst 0, 1) := by decide +kernel
theorem d_follow_13 : decode prog_3_method_3_code 13 = .ok (.invokestatic 29, 3) := by decide +kernel
theorem d_follow_16 : decode prog_3_method_3_code 16 = .ok (.aload_n 0, 1) := by decide +kernel
theorem d_follow_17 : decode prog_3_method_3_code 17 = .ok (.getfield 21, 3) := by decide +kernel
theorem d_follow_20 : decode prog_3_method_3_code 20 = .ok (.iload_n 2, 1) := by decide +kernel
theorem d_follow_21 : decode prog_3_method_3_code 21 = .ok (.invokevirtual 35, 3) := by decide +kernel
theorem d_follow_24 : decode prog_3_method_3_code 24 = .ok (.iconst 0, 1) := by decide +kernel
theorem d_follow_25 : decode prog_3_method_3_code 25 = .ok (.istore_n 3, 1) := by decide +kernel
theorem d_follow_26 : decode prog_3_method_3_code 26 = .ok (.iload_n 3, 1) := by decide +kernel
theorem d_follow_27 : decode prog_3_method_3_code 27 = .ok (.sipush 1920, 3) := by decide +kernel
theorem d_follow_30 : decode prog_3_method_3_code 30 = .ok (.if_icmp .gt 32, 3) := by decide +kernel
theorem d_follow_33 : decode prog_3_method_3_code 33 = .ok (.aload_n 0, 1) := by decide +kernel
theorem d_follow_34 : decode prog_3_method_3_code 34 = .ok (.getfield 21, 3) := by decide +kernel
theorem d_follow_37 : decode prog_3_method_3_code 37 = .ok (.invokevirtual 39, 3) := by decide +kernel
theorem d_follow_40 : decode prog_3_method_3_code 40 = .ok (.ifCond .ne 22, 3) := by decide +kernel
theorem d_follow_43 : decode prog_3_method_3_code 43 = .ok (.aload_n 0, 1) := by decide +kernel
theorem d_follow_44 : decode prog_3_method_3_code 44 = .ok (.aload_n 1, 1) := by decide +kernel
theorem d_follow_45 : decode prog_3_method_3_code 45 = .ok (.iload_n 2, 1) := by decide +kernel
theorem d_follow_46 : decode prog_3_method_3_code 46 = .ok (.aload_n 0, 1) := by decide +kernel
theorem d_follow_47 : decode prog_3_method_3_code 47 = .ok (.getfield 21, 3) := by decide +kernel
theorem d_follow_50 : decode prog_3_method_3_code 50 = .ok (.invokevirtual 43, 3) := by decide +kernel
theorem d_follow_53 : decode prog_3_method_3_code 53 = .ok (.invokevirtual 47, 3) := by decide +kernel
theorem d_follow_56 : decode prog_3_method_3_code 56 = .ok (.iinc 3 1, 3) := by decide +kernel
theorem d_follow_59 : decode prog_3_method_3_code 59 = .ok (.goto (-33), 3) := by decide +kernel
theorem d_follow_62 : decode prog_3_method_3_code 62 = .ok (.return_, 1) := by decide +kernel
