theorem d_pEmpty_0 : decode prog_5_method_2_code 0 = .ok (.aload_n 0, 1) := by decide +kernel
theorem d_pEmpty_1 : decode prog_5_method_2_code 1 = .ok (.getfield 19, 3) := by decide +kernel
theorem d_pEmpty_4 : decode prog_5_method_2_code 4 = .ok (.ifCond .gt 7, 3) := by decide +kernel
theorem d_pEmpty_7 : decode prog_5_method_2_code 7 = .ok (.iconst 1, 1) := by decide +kernel
theorem d_pEmpty_8 : decode prog_5_method_2_code 8 = .ok (.goto 4, 3) := by decide +kernel
theorem d_pEmpty_11 : decode prog_5_method_2_code 11 = .ok (.iconst 0, 1) := by decide +kernel
theorem d_pEmpty_12 : decode prog_5_method_2_code 12 = .ok (.ireturn, 1) := by decide +kernel
theorem d_put_0 : decode prog_5_method_3_code 0 = .ok (.iload_n 1, 1) := by decide +kernel
theorem d_put_1 : decode prog_5_method_3_code 1 = .ok (.invokestatic 23, 3) := by decide +kernel
theorem d_put_4 : decode prog_5_method_3_code 4 = .ok (.ifCond .eq 22, 3) := by decide +kernel
theorem d_put_7 : decode prog_5_method_3_code 7 = .ok (.aload_n 0, 1) := by decide +kernel
theorem d_put_8 : decode prog_5_method_3_code 8 = .ok (.getfield 19, 3) := by decide +kernel
theorem d_put_11 : decode prog_5_method_3_code 11 = .ok (.invokestatic 23, 3) := by decide +kernel
theorem d_put_14 : decode prog_5_method_3_code 14 = .ok (.ifCond .eq 12, 3) := by decide +kernel
theorem d_put_17 : decode prog_5_method_3_code 17 = .ok (.aload_n 0, 1) := by decide +kernel
theorem d_put_18 : decode prog_5_method_3_code 18 = .ok (.getfield 15, 3) := by decide +kernel
theorem d_put_21 : decode prog_5_method_3_code 21 = .ok (.iload_n 1, 1) := by decide +kernel
theorem d_put_22 : decode prog_5_method_3_code 22 = .ok (.baload, 1) := by decide +kernel
theorem d_put_23 : decode prog_5_method_3_code 23 = .ok (.ifCond .eq 4, 3) := by decide +kernel
theorem d_put_26 : decode prog_5_method_3_code 26 = .ok (.return_, 1) := by decide +kernel
theorem d_put_27 : decode prog_5_method_3_code 27 = .ok (.aload_n 0, 1) := by decide +kernel
theorem d_put_28 : decode prog_5_method_3_code 28 = .ok (.getfield 15, 3) := by decide +kernel
theorem d_put_31 : decode prog_5_method_3_code 31 = .ok (.iload_n 1, 1) := by decide +kernel
theorem d_put_32 : decode prog_5_method_3_code 32 = .ok (.iconst 1, 1) := by decide +kernel
theorem d_put_33 : decode prog_5_method_3_code 33 = .ok (.bastore, 1) := by decide +kernel
theorem d_put_34 : decode prog_5_method_3_code 34 = .ok (.aload_n 0, 1) := by decide +kernel
theorem d_put_35 : decode prog_5_method_3_code 35 = .ok (.getfield 9, 3) := by decide +kernel
theorem d_put_38 : decode prog_5_method_3_code 38 = .ok (.aload_n 0, 1) := by decide +kernel
theorem d_put_39 : decode prog_5_method_3_code 39 = .ok (.getfield 19, 3) := by decide +kernel
theorem d_put_42 : decode prog_5_method_3_code 42 = .ok (.iload_n 1, 1) := by decide +kernel
theorem d_put_43 : decode prog_5_method_3_code 43 = .ok (.iastore, 1) := by decide +kernel
theorem d_put_44 : decode prog_5_method_3_code 44 = .ok (.aload_n 0, 1) := by decide +kernel
theorem d_put_45 : decode prog_5_method_3_code 45 = .ok (.dup, 1) := by decide +kernel
theorem d_put_46 : decode prog_5_method_3_code 46 = .ok (.getfield 19, 3) := by decide +kernel
theorem d_put_49 : decode prog_5_method_3_code 49 = .ok (.iconst 1, 1) := by decide +kernel
theorem d_put_50 : decode prog_5_method_3_code 50 = .ok (.iadd, 1) := by decide +kernel
theorem d_put_51 : decode prog_5_method_3_code 51 = .ok (.putfield 19, 3) := by decide +kernel
theorem d_put_54 : decode prog_5_method_3_code 54 = .ok (.return_, 1) := by decide +kernel
theorem d_take_0 : decode prog_5_method_4_code 0 = .ok (.aload_n 0, 1) := by decide +kernel
theorem d_take_1 : decode prog_5_method_4_code 1 = .ok (.getfield 19, 3) := by decide +kernel
theorem d_take_4 : decode prog_5_method_4_code 4 = .ok (.iconst 1, 1) := by decide +kernel
theorem d_take_5 : decode prog_5_method_4_code 5 = .ok (.isub, 1) := by decide +kernel
theorem d_take_6 : decode prog_5_method_4_code 6 = .ok (.invokestatic 23, 3) := by decide +kernel
theorem d_take_9 : decode prog_5_method_4_code 9 = .ok (.ifCond .ne 5, 3) := by decide +kernel
theorem d_take_12 : decode prog_5_method_4_code 12 = .ok (.iconst (-1), 1) := by decide +kernel
theorem d_take_13 : decode prog_5_method_4_code 13 = .ok (.ireturn, 1) := by decide +kernel
theorem d_take_14 : decode prog_5_method_4_code 14 = .ok (.aload_n 0, 1) := by decide +kernel
theorem d_take_15 : decode prog_5_method_4_code 15 = .ok (.dup, 1) := by decide +kernel
theorem d_take_16 : decode prog_5_method_4_code 16 = .ok (.getfield 19, 3) := by decide +kernel
theorem d_take_19 : decode prog_5_method_4_code 19 = .ok (.iconst 1, 1) := by decide +kernel
theorem d_take_20 : decode prog_5_method_4_code 20 = .ok (.isub, 1) := by decide +kernel
theorem d_take_21 : decode prog_5_method_4_code 21 = .ok (.putfield 19, 3) := by decide +kernel
theorem d_take_24 : decode prog_5_method_4_code 24 = .ok (.aload_n 0, 1) := by decide +kernel
theorem d_take_25 : decode prog_5_method_4_code 25 = .ok (.getfield 9, 3) := by decide +kernel
theorem d_take_28 : decode prog_5_method_4_code 28 = .ok (.aload_n 0, 1) := by decide +kernel
theorem d_take_29 : decode prog_5_method_4_code 29 = .ok (.getfield 19, 3) := by decide +kernel
theorem d_take_32 : decode prog_5_method_4_code 32 = .ok (.iaload, 1) := by decide +kernel
theorem d_take_33 : decode prog_5_method_4_code 33 = .ok (.istore_n 1, 1) := by decide +kernel
theorem d_take_34 : decode prog_5_method_4_code 34 = .ok (.iload_n 1, 1) := by decide +kernel
theorem d_take_35 : decode prog_5_method_4_code 35 = .ok (.invokestatic 23, 3) := by decide +kernel
theorem d_take_38 : decode prog_5_method_4_code 38 = .ok (.ifCond .eq 10, 3) := by decide +kernel
theorem d_take_41 : decode prog_5_method_4_code 41 = .ok (.aload_n 0, 1) := by decide +kernel
theorem d_take_42 : decode prog_5_method_4_code 42 = .ok (.getfield 15, 3) := by decide +kernel
theorem d_take_45 : decode prog_5_method_4_code 45 = .ok (.iload_n 1, 1) := by decide +kernel
theorem d_take_46 : decode prog_5_method_4_code 46 = .ok (.iconst 0, 1) := by decide +kernel
theorem d_take_47 : decode prog_5_method_4_code 47 = .ok (.bastore, 1) := by decide +kernel
theorem d_take_48 : decode prog_5_method_4_code 48 = .ok (.iload_n 1, 1) := by decide +kernel
theorem d_take_49 : decode prog_5_method_4_code 49 = .ok (.ireturn, 1) := by decide +kernel
