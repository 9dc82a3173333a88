theorem d_point_0 : decode prog_1_method_2_code 0 = .ok (.iload_n 1, 1) := by decide +kernel
theorem d_point_1 : decode prog_1_method_2_code 1 = .ok (.iload_n 2, 1) := by decide +kernel
theorem d_point_2 : decode prog_1_method_2_code 2 = .ok (.iload_n 3, 1) := by decide +kernel
theorem d_point_3 : decode prog_1_method_2_code 3 = .ok (.iload 4, 2) := by decide +kernel
theorem d_point_5 : decode prog_1_method_2_code 5 = .ok (.invokestatic 51, 3) := by decide +kernel
theorem d_point_8 : decode prog_1_method_2_code 8 = .ok (.ifCond .eq 13, 3) := by decide +kernel
theorem d_point_11 : decode prog_1_method_2_code 11 = .ok (.aload_n 0, 1) := by decide +kernel
theorem d_point_12 : decode prog_1_method_2_code 12 = .ok (.getfield 10, 3) := by decide +kernel
theorem d_point_15 : decode prog_1_method_2_code 15 = .ok (.invokevirtual 55, 3) := by decide +kernel
theorem d_point_18 : decode prog_1_method_2_code 18 = .ok (.ifCond .ne 5, 3) := by decide +kernel
theorem d_point_21 : decode prog_1_method_2_code 21 = .ok (.iconst (-1), 1) := by decide +kernel
theorem d_point_22 : decode prog_1_method_2_code 22 = .ok (.ireturn, 1) := by decide +kernel
theorem d_point_23 : decode prog_1_method_2_code 23 = .ok (.aload_n 0, 1) := by decide +kernel
theorem d_point_24 : decode prog_1_method_2_code 24 = .ok (.invokevirtual 59, 3) := by decide +kernel
theorem d_point_27 : decode prog_1_method_2_code 27 = .ok (.aload_n 0, 1) := by decide +kernel
theorem d_point_28 : decode prog_1_method_2_code 28 = .ok (.getfield 10, 3) := by decide +kernel
theorem d_point_31 : decode prog_1_method_2_code 31 = .ok (.iload_n 1, 1) := by decide +kernel
theorem d_point_32 : decode prog_1_method_2_code 32 = .ok (.iload_n 2, 1) := by decide +kernel
theorem d_point_33 : decode prog_1_method_2_code 33 = .ok (.iload_n 3, 1) := by decide +kernel
theorem d_point_34 : decode prog_1_method_2_code 34 = .ok (.iload 4, 2) := by decide +kernel
theorem d_point_36 : decode prog_1_method_2_code 36 = .ok (.invokevirtual 62, 3) := by decide +kernel
theorem d_point_39 : decode prog_1_method_2_code 39 = .ok (.ireturn, 1) := by decide +kernel
theorem d_next_0 : decode prog_1_method_3_code 0 = .ok (.aload_n 0, 1) := by decide +kernel
theorem d_next_1 : decode prog_1_method_3_code 1 = .ok (.getfield 10, 3) := by decide +kernel
theorem d_next_4 : decode prog_1_method_3_code 4 = .ok (.iload_n 1, 1) := by decide +kernel
theorem d_next_5 : decode prog_1_method_3_code 5 = .ok (.invokevirtual 66, 3) := by decide +kernel
theorem d_next_8 : decode prog_1_method_3_code 8 = .ok (.ifCond .eq 17, 3) := by decide +kernel
theorem d_next_11 : decode prog_1_method_3_code 11 = .ok (.iload_n 2, 1) := by decide +kernel
theorem d_next_12 : decode prog_1_method_3_code 12 = .ok (.invokestatic 70, 3) := by decide +kernel
theorem d_next_15 : decode prog_1_method_3_code 15 = .ok (.ifCond .eq 10, 3) := by decide +kernel
theorem d_next_18 : decode prog_1_method_3_code 18 = .ok (.iload_n 3, 1) := by decide +kernel
theorem d_next_19 : decode prog_1_method_3_code 19 = .ok (.invokestatic 70, 3) := by decide +kernel
theorem d_next_22 : decode prog_1_method_3_code 22 = .ok (.ifCond .ne 5, 3) := by decide +kernel
theorem d_next_25 : decode prog_1_method_3_code 25 = .ok (.iconst 0, 1) := by decide +kernel
theorem d_next_26 : decode prog_1_method_3_code 26 = .ok (.ireturn, 1) := by decide +kernel
theorem d_next_27 : decode prog_1_method_3_code 27 = .ok (.aload_n 0, 1) := by decide +kernel
theorem d_next_28 : decode prog_1_method_3_code 28 = .ok (.invokevirtual 59, 3) := by decide +kernel
theorem d_next_31 : decode prog_1_method_3_code 31 = .ok (.aload_n 0, 1) := by decide +kernel
theorem d_next_32 : decode prog_1_method_3_code 32 = .ok (.getfield 10, 3) := by decide +kernel
theorem d_next_35 : decode prog_1_method_3_code 35 = .ok (.iload_n 1, 1) := by decide +kernel
theorem d_next_36 : decode prog_1_method_3_code 36 = .ok (.iload_n 2, 1) := by decide +kernel
theorem d_next_37 : decode prog_1_method_3_code 37 = .ok (.iload_n 3, 1) := by decide +kernel
theorem d_next_38 : decode prog_1_method_3_code 38 = .ok (.invokevirtual 73, 3) := by decide +kernel
theorem d_next_41 : decode prog_1_method_3_code 41 = .ok (.iconst 1, 1) := by decide +kernel
theorem d_next_42 : decode prog_1_method_3_code 42 = .ok (.ireturn, 1) := by decide +kernel
theorem d_isReached_0 : decode prog_1_method_4_code 0 = .ok (.aload_n 0, 1) := by decide +kernel
theorem d_isReached_1 : decode prog_1_method_4_code 1 = .ok (.getfield 10, 3) := by decide +kernel
theorem d_isReached_4 : decode prog_1_method_4_code 4 = .ok (.iload_n 1, 1) := by decide +kernel
theorem d_isReached_5 : decode prog_1_method_4_code 5 = .ok (.invokevirtual 66, 3) := by decide +kernel
theorem d_isReached_8 : decode prog_1_method_4_code 8 = .ok (.ifCond .ne 5, 3) := by decide +kernel
theorem d_isReached_11 : decode prog_1_method_4_code 11 = .ok (.iconst 0, 1) := by decide +kernel
theorem d_isReached_12 : decode prog_1_method_4_code 12 = .ok (.ireturn, 1) := by decide +kernel
theorem d_isReached_13 : decode prog_1_method_4_code 13 = .ok (.aload_n 0, 1) := by decide +kernel
theorem d_isReached_14 : decode prog_1_method_4_code 14 = .ok (.invokevirtual 77, 3) := by decide +kernel
theorem d_isReached_17 : decode prog_1_method_4_code 17 = .ok (.aload_n 0, 1) := by decide +kernel
theorem d_isReached_18 : decode prog_1_method_4_code 18 = .ok (.getfield 19, 3) := by decide +kernel
theorem d_isReached_21 : decode prog_1_method_4_code 21 = .ok (.iload_n 1, 1) := by decide +kernel
theorem d_isReached_22 : decode prog_1_method_4_code 22 = .ok (.invokevirtual 80, 3) := by decide +kernel
theorem d_isReached_25 : decode prog_1_method_4_code 25 = .ok (.ireturn, 1) := by decide +kernel
theorem d_holders_0 : decode prog_1_method_5_code 0 = .ok (.aload_n 0, 1) := by decide +kernel
theorem d_holders_1 : decode prog_1_method_5_code 1 = .ok (.getfield 10, 3) := by decide +kernel
theorem d_holders_4 : decode prog_1_method_5_code 4 = .ok (.iload_n 1, 1) := by decide +kernel
theorem d_holders_5 : decode prog_1_method_5_code 5 = .ok (.invokevirtual 66, 3) := by decide +kernel
theorem d_holders_8 : decode prog_1_method_5_code 8 = .ok (.ifCond .eq 14, 3) := by decide +kernel
theorem d_holders_11 : decode prog_1_method_5_code 11 = .ok (.aload_n 0, 1) := by decide +kernel
theorem d_holders_12 : decode prog_1_method_5_code 12 = .ok (.getfield 10, 3) := by decide +kernel
theorem d_holders_15 : decode prog_1_method_5_code 15 = .ok (.iload_n 2, 1) := by decide +kernel
theorem d_holders_16 : decode prog_1_method_5_code 16 = .ok (.invokevirtual 83, 3) := by decide +kernel
theorem d_holders_19 : decode prog_1_method_5_code 19 = .ok (.ifCond .ne 5, 3) := by decide +kernel
theorem d_holders_22 : decode prog_1_method_5_code 22 = .ok (.iconst 0, 1) := by decide +kernel
theorem d_holders_23 : decode prog_1_method_5_code 23 = .ok (.ireturn, 1) := by decide +kernel
theorem d_holders_24 : decode prog_1_method_5_code 24 = .ok (.aload_n 0, 1) := by decide +kernel
theorem d_holders_25 : decode prog_1_method_5_code 25 = .ok (.invokevirtual 77, 3) := by decide +kernel
theorem d_holders_28 : decode prog_1_method_5_code 28 = .ok (.aload_n 0, 1) := by decide +kernel
theorem d_holders_29 : decode prog_1_method_5_code 29 = .ok (.getfield 19, 3) := by decide +kernel
theorem d_holders_32 : decode prog_1_method_5_code 32 = .ok (.iload_n 2, 1) := by decide +kernel
theorem d_holders_33 : decode prog_1_method_5_code 33 = .ok (.invokevirtual 80, 3) := by decide +kernel
theorem d_holders_36 : decode prog_1_method_5_code 36 = .ok (.ifCond .ne 5, 3) := by decide +kernel
theorem d_holders_39 : decode prog_1_method_5_code 39 = .ok (.iconst 0, 1) := by decide +kernel
theorem d_holders_40 : decode prog_1_method_5_code 40 = .ok (.ireturn, 1) := by decide +kernel
theorem d_holders_41 : decode prog_1_method_5_code 41 = .ok (.aload_n 0, 1) := by decide +kernel
theorem d_holders_42 : decode prog_1_method_5_code 42 = .ok (.getfield 33, 3) := by decide +kernel
theorem d_holders_45 : decode prog_1_method_5_code 45 = .ok (.aload_n 0, 1) := by decide +kernel
theorem d_holders_46 : decode prog_1_method_5_code 46 = .ok (.getfield 10, 3) := by decide +kernel
theorem d_holders_49 : decode prog_1_method_5_code 49 = .ok (.iload_n 2, 1) := by decide +kernel
theorem d_holders_50 : decode prog_1_method_5_code 50 = .ok (.invokevirtual 86, 3) := by decide +kernel
theorem d_holders_53 : decode prog_1_method_5_code 53 = .ok (.aload_n 0, 1) := by decide +kernel
theorem d_holders_54 : decode prog_1_method_5_code 54 = .ok (.getfield 33, 3) := by decide +kernel
theorem d_holders_57 : decode prog_1_method_5_code 57 = .ok (.iload_n 1, 1) := by decide +kernel
theorem d_holders_58 : decode prog_1_method_5_code 58 = .ok (.invokevirtual 90, 3) := by decide +kernel
theorem d_holders_61 : decode prog_1_method_5_code 61 = .ok (.ireturn, 1) := by decide +kernel
theorem d_used_0 : decode prog_1_method_6_code 0 = .ok (.aload_n 0, 1) := by decide +kernel
theorem d_used_1 : decode prog_1_method_6_code 1 = .ok (.getfield 10, 3) := by decide +kernel
theorem d_used_4 : decode prog_1_method_6_code 4 = .ok (.iload_n 1, 1) := by decide +kernel
theorem d_used_5 : decode prog_1_method_6_code 5 = .ok (.invokevirtual 66, 3) := by decide +kernel
theorem d_used_8 : decode prog_1_method_6_code 8 = .ok (.ifCond .ne 5, 3) := by decide +kernel
theorem d_used_11 : decode prog_1_method_6_code 11 = .ok (.iconst 0, 1) := by decide +kernel
theorem d_used_12 : decode prog_1_method_6_code 12 = .ok (.ireturn, 1) := by decide +kernel
theorem d_used_13 : decode prog_1_method_6_code 13 = .ok (.aload_n 0, 1) := by decide +kernel
theorem d_used_14 : decode prog_1_method_6_code 14 = .ok (.invokevirtual 77, 3) := by decide +kernel
theorem d_used_17 : decode prog_1_method_6_code 17 = .ok (.aload_n 0, 1) := by decide +kernel
theorem d_used_18 : decode prog_1_method_6_code 18 = .ok (.getfield 26, 3) := by decide +kernel
theorem d_used_21 : decode prog_1_method_6_code 21 = .ok (.iload_n 1, 1) := by decide +kernel
theorem d_used_22 : decode prog_1_method_6_code 22 = .ok (.invokevirtual 94, 3) := by decide +kernel
theorem d_used_25 : decode prog_1_method_6_code 25 = .ok (.ireturn, 1) := by decide +kernel
theorem d_isAlive_0 : decode prog_1_method_7_code 0 = .ok (.aload_n 0, 1) := by decide +kernel
theorem d_isAlive_1 : decode prog_1_method_7_code 1 = .ok (.iload_n 1, 1) := by decide +kernel
theorem d_isAlive_2 : decode prog_1_method_7_code 2 = .ok (.iload_n 2, 1) := by decide +kernel
theorem d_isAlive_3 : decode prog_1_method_7_code 3 = .ok (.invokevirtual 95, 3) := by decide +kernel
theorem d_isAlive_6 : decode prog_1_method_7_code 6 = .ok (.aload_n 0, 1) := by decide +kernel
theorem d_isAlive_7 : decode prog_1_method_7_code 7 = .ok (.iload_n 1, 1) := by decide +kernel
theorem d_isAlive_8 : decode prog_1_method_7_code 8 = .ok (.invokevirtual 99, 3) := by decide +kernel
theorem d_isAlive_11 : decode prog_1_method_7_code 11 = .ok (.iand, 1) := by decide +kernel
theorem d_isAlive_12 : decode prog_1_method_7_code 12 = .ok (.ifCond .eq 7, 3) := by decide +kernel
theorem d_isAlive_15 : decode prog_1_method_7_code 15 = .ok (.iconst 1, 1) := by decide +kernel
theorem d_isAlive_16 : decode prog_1_method_7_code 16 = .ok (.goto 4, 3) := by decide +kernel
theorem d_isAlive_19 : decode prog_1_method_7_code 19 = .ok (.iconst 0, 1) := by decide +kernel
theorem d_isAlive_20 : decode prog_1_method_7_code 20 = .ok (.ireturn, 1) := by decide +kernel
theorem d_met_0 : decode prog_1_method_8_code 0 = .ok (.aload_n 0, 1) := by decide +kernel
theorem d_met_1 : decode prog_1_method_8_code 1 = .ok (.getfield 10, 3) := by decide +kernel
theorem d_met_4 : decode prog_1_method_8_code 4 = .ok (.iload_n 1, 1) := by decide +kernel
theorem d_met_5 : decode prog_1_method_8_code 5 = .ok (.invokevirtual 66, 3) := by decide +kernel
theorem d_met_8 : decode prog_1_method_8_code 8 = .ok (.ifCond .ne 5, 3) := by decide +kernel
theorem d_met_11 : decode prog_1_method_8_code 11 = .ok (.iconst (-1), 1) := by decide +kernel
theorem d_met_12 : decode prog_1_method_8_code 12 = .ok (.ireturn, 1) := by decide +kernel
theorem d_met_13 : decode prog_1_method_8_code 13 = .ok (.aload_n 0, 1) := by decide +kernel
theorem d_met_14 : decode prog_1_method_8_code 14 = .ok (.invokevirtual 102, 3) := by decide +kernel
theorem d_met_17 : decode prog_1_method_8_code 17 = .ok (.aload_n 0, 1) := by decide +kernel
theorem d_met_18 : decode prog_1_method_8_code 18 = .ok (.getfield 40, 3) := by decide +kernel
theorem d_met_21 : decode prog_1_method_8_code 21 = .ok (.iload_n 1, 1) := by decide +kernel
theorem d_met_22 : decode prog_1_method_8_code 22 = .ok (.iload_n 2, 1) := by decide +kernel
theorem d_met_23 : decode prog_1_method_8_code 23 = .ok (.invokevirtual 105, 3) := by decide +kernel
theorem d_met_26 : decode prog_1_method_8_code 26 = .ok (.ireturn, 1) := by decide +kernel
theorem d_count_0 : decode prog_1_method_9_code 0 = .ok (.iload_n 1, 1) := by decide +kernel
theorem d_count_1 : decode prog_1_method_9_code 1 = .ok (.tableswitch 87 0 4 #[35, 43, 55, 67, 79], 35) := by decide +kernel
theorem d_count_36 : decode prog_1_method_9_code 36 = .ok (.aload_n 0, 1) := by decide +kernel
theorem d_count_37 : decode prog_1_method_9_code 37 = .ok (.getfield 10, 3) := by decide +kernel
theorem d_count_40 : decode prog_1_method_9_code 40 = .ok (.invokevirtual 108, 3) := by decide +kernel
theorem d_count_43 : decode prog_1_method_9_code 43 = .ok (.ireturn, 1) := by decide +kernel
theorem d_count_44 : decode prog_1_method_9_code 44 = .ok (.aload_n 0, 1) := by decide +kernel
theorem d_count_45 : decode prog_1_method_9_code 45 = .ok (.invokevirtual 77, 3) := by decide +kernel
theorem d_count_48 : decode prog_1_method_9_code 48 = .ok (.aload_n 0, 1) := by decide +kernel
theorem d_count_49 : decode prog_1_method_9_code 49 = .ok (.getfield 19, 3) := by decide +kernel
theorem d_count_52 : decode prog_1_method_9_code 52 = .ok (.invokevirtual 112, 3) := by decide +kernel
theorem d_count_55 : decode prog_1_method_9_code 55 = .ok (.ireturn, 1) := by decide +kernel
theorem d_count_56 : decode prog_1_method_9_code 56 = .ok (.aload_n 0, 1) := by decide +kernel
theorem d_count_57 : decode prog_1_method_9_code 57 = .ok (.invokevirtual 102, 3) := by decide +kernel
theorem d_count_60 : decode prog_1_method_9_code 60 = .ok (.aload_n 0, 1) := by decide +kernel
theorem d_count_61 : decode prog_1_method_9_code 61 = .ok (.getfield 40, 3) := by decide +kernel
theorem d_count_64 : decode prog_1_method_9_code 64 = .ok (.invokevirtual 115, 3) := by decide +kernel
theorem d_count_67 : decode prog_1_method_9_code 67 = .ok (.ireturn, 1) := by decide +kernel
theorem d_count_68 : decode prog_1_method_9_code 68 = .ok (.aload_n 0, 1) := by decide +kernel
theorem d_count_69 : decode prog_1_method_9_code 69 = .ok (.invokevirtual 102, 3) := by decide +kernel
theorem d_count_72 : decode prog_1_method_9_code 72 = .ok (.aload_n 0, 1) := by decide +kernel
theorem d_count_73 : decode prog_1_method_9_code 73 = .ok (.getfield 40, 3) := by decide +kernel
theorem d_count_76 : decode prog_1_method_9_code 76 = .ok (.invokevirtual 116, 3) := by decide +kernel
theorem d_count_79 : decode prog_1_method_9_code 79 = .ok (.ireturn, 1) := by decide +kernel
theorem d_count_80 : decode prog_1_method_9_code 80 = .ok (.aload_n 0, 1) := by decide +kernel
theorem d_count_81 : decode prog_1_method_9_code 81 = .ok (.getfield 10, 3) := by decide +kernel
theorem d_count_84 : decode prog_1_method_9_code 84 = .ok (.invokevirtual 119, 3) := by decide +kernel
theorem d_count_87 : decode prog_1_method_9_code 87 = .ok (.ireturn, 1) := by decide +kernel
theorem d_count_88 : decode prog_1_method_9_code 88 = .ok (.iconst (-1), 1) := by decide +kernel
theorem d_count_89 : decode prog_1_method_9_code 89 = .ok (.ireturn, 1) := by decide +kernel
theorem d_clear_0 : decode prog_1_method_10_code 0 = .ok (.aload_n 0, 1) := by decide +kernel
theorem d_clear_1 : decode prog_1_method_10_code 1 = .ok (.getfield 10, 3) := by decide +kernel
theorem d_clear_4 : decode prog_1_method_10_code 4 = .ok (.invokevirtual 108, 3) := by decide +kernel
theorem d_clear_7 : decode prog_1_method_10_code 7 = .ok (.istore_n 1, 1) := by decide +kernel
theorem d_clear_8 : decode prog_1_method_10_code 8 = .ok (.aload_n 0, 1) := by decide +kernel
theorem d_clear_9 : decode prog_1_method_10_code 9 = .ok (.invokevirtual 59, 3) := by decide +kernel
theorem d_clear_12 : decode prog_1_method_10_code 12 = .ok (.aload_n 0, 1) := by decide +kernel
theorem d_clear_13 : decode prog_1_method_10_code 13 = .ok (.getfield 10, 3) := by decide +kernel
theorem d_clear_16 : decode prog_1_method_10_code 16 = .ok (.invokevirtual 122, 3) := by decide +kernel
theorem d_clear_19 : decode prog_1_method_10_code 19 = .ok (.iload_n 1, 1) := by decide +kernel
theorem d_clear_20 : decode prog_1_method_10_code 20 = .ok (.ireturn, 1) := by decide +kernel
