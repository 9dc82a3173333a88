theorem d_fforget_0 : decode prog_9_method_7_code 0 = .ok (.aload_n 0, 1) := by decide +kernel
theorem d_fforget_1 : decode prog_9_method_7_code 1 = .ok (.iconst 0, 1) := by decide +kernel
theorem d_fforget_2 : decode prog_9_method_7_code 2 = .ok (.putfield 59, 3) := by decide +kernel
theorem d_fforget_5 : decode prog_9_method_7_code 5 = .ok (.iconst 0, 1) := by decide +kernel
theorem d_fforget_6 : decode prog_9_method_7_code 6 = .ok (.istore_n 1, 1) := by decide +kernel
theorem d_fforget_7 : decode prog_9_method_7_code 7 = .ok (.iload_n 1, 1) := by decide +kernel
theorem d_fforget_8 : decode prog_9_method_7_code 8 = .ok (.sipush 1920, 3) := by decide +kernel
theorem d_fforget_11 : decode prog_9_method_7_code 11 = .ok (.if_icmp .ge 16, 3) := by decide +kernel
theorem d_fforget_14 : decode prog_9_method_7_code 14 = .ok (.aload_n 0, 1) := by decide +kernel
theorem d_fforget_15 : decode prog_9_method_7_code 15 = .ok (.getfield 41, 3) := by decide +kernel
theorem d_fforget_18 : decode prog_9_method_7_code 18 = .ok (.iload_n 1, 1) := by decide +kernel
theorem d_fforget_19 : decode prog_9_method_7_code 19 = .ok (.iconst 0, 1) := by decide +kernel
theorem d_fforget_20 : decode prog_9_method_7_code 20 = .ok (.bastore, 1) := by decide +kernel
theorem d_fforget_21 : decode prog_9_method_7_code 21 = .ok (.iinc 1 1, 3) := by decide +kernel
theorem d_fforget_24 : decode prog_9_method_7_code 24 = .ok (.goto (-17), 3) := by decide +kernel
theorem d_fforget_27 : decode prog_9_method_7_code 27 = .ok (.return_, 1) := by decide +kernel
theorem d_fmeet_0 : decode prog_9_method_8_code 0 = .ok (.aload_n 0, 1) := by decide +kernel
theorem d_fmeet_1 : decode prog_9_method_8_code 1 = .ok (.iload_n 1, 1) := by decide +kernel
theorem d_fmeet_2 : decode prog_9_method_8_code 2 = .ok (.invokevirtual 62, 3) := by decide +kernel
theorem d_fmeet_5 : decode prog_9_method_8_code 5 = .ok (.ifCond .eq 17, 3) := by decide +kernel
theorem d_fmeet_8 : decode prog_9_method_8_code 8 = .ok (.aload_n 0, 1) := by decide +kernel
theorem d_fmeet_9 : decode prog_9_method_8_code 9 = .ok (.getfield 41, 3) := by decide +kernel
theorem d_fmeet_12 : decode prog_9_method_8_code 12 = .ok (.bipush 16, 2) := by decide +kernel
theorem d_fmeet_14 : decode prog_9_method_8_code 14 = .ok (.iload_n 1, 1) := by decide +kernel
theorem d_fmeet_15 : decode prog_9_method_8_code 15 = .ok (.imul, 1) := by decide +kernel
theorem d_fmeet_16 : decode prog_9_method_8_code 16 = .ok (.iload_n 2, 1) := by decide +kernel
theorem d_fmeet_17 : decode prog_9_method_8_code 17 = .ok (.iadd, 1) := by decide +kernel
theorem d_fmeet_18 : decode prog_9_method_8_code 18 = .ok (.baload, 1) := by decide +kernel
theorem d_fmeet_19 : decode prog_9_method_8_code 19 = .ok (.ifCond .eq 4, 3) := by decide +kernel
theorem d_fmeet_22 : decode prog_9_method_8_code 22 = .ok (.return_, 1) := by decide +kernel
theorem d_fmeet_23 : decode prog_9_method_8_code 23 = .ok (.aload_n 0, 1) := by decide +kernel
theorem d_fmeet_24 : decode prog_9_method_8_code 24 = .ok (.getfield 41, 3) := by decide +kernel
theorem d_fmeet_27 : decode prog_9_method_8_code 27 = .ok (.bipush 16, 2) := by decide +kernel
theorem d_fmeet_29 : decode prog_9_method_8_code 29 = .ok (.iload_n 1, 1) := by decide +kernel
theorem d_fmeet_30 : decode prog_9_method_8_code 30 = .ok (.imul, 1) := by decide +kernel
theorem d_fmeet_31 : decode prog_9_method_8_code 31 = .ok (.iload_n 2, 1) := by decide +kernel
theorem d_fmeet_32 : decode prog_9_method_8_code 32 = .ok (.iadd, 1) := by decide +kernel
theorem d_fmeet_33 : decode prog_9_method_8_code 33 = .ok (.iconst 1, 1) := by decide +kernel
theorem d_fmeet_34 : decode prog_9_method_8_code 34 = .ok (.bastore, 1) := by decide +kernel
theorem d_fmeet_35 : decode prog_9_method_8_code 35 = .ok (.aload_n 0, 1) := by decide +kernel
theorem d_fmeet_36 : decode prog_9_method_8_code 36 = .ok (.getfield 38, 3) := by decide +kernel
theorem d_fmeet_39 : decode prog_9_method_8_code 39 = .ok (.aload_n 0, 1) := by decide +kernel
theorem d_fmeet_40 : decode prog_9_method_8_code 40 = .ok (.getfield 59, 3) := by decide +kernel
theorem d_fmeet_43 : decode prog_9_method_8_code 43 = .ok (.bipush 16, 2) := by decide +kernel
theorem d_fmeet_45 : decode prog_9_method_8_code 45 = .ok (.iload_n 1, 1) := by decide +kernel
theorem d_fmeet_46 : decode prog_9_method_8_code 46 = .ok (.imul, 1) := by decide +kernel
theorem d_fmeet_47 : decode prog_9_method_8_code 47 = .ok (.iload_n 2, 1) := by decide +kernel
theorem d_fmeet_48 : decode prog_9_method_8_code 48 = .ok (.iadd, 1) := by decide +kernel
theorem d_fmeet_49 : decode prog_9_method_8_code 49 = .ok (.iastore, 1) := by decide +kernel
theorem d_fmeet_50 : decode prog_9_method_8_code 50 = .ok (.aload_n 0, 1) := by decide +kernel
theorem d_fmeet_51 : decode prog_9_method_8_code 51 = .ok (.dup, 1) := by decide +kernel
theorem d_fmeet_52 : decode prog_9_method_8_code 52 = .ok (.getfield 59, 3) := by decide +kernel
theorem d_fmeet_55 : decode prog_9_method_8_code 55 = .ok (.iconst 1, 1) := by decide +kernel
theorem d_fmeet_56 : decode prog_9_method_8_code 56 = .ok (.iadd, 1) := by decide +kernel
theorem d_fmeet_57 : decode prog_9_method_8_code 57 = .ok (.putfield 59, 3) := by decide +kernel
theorem d_fmeet_60 : decode prog_9_method_8_code 60 = .ok (.return_, 1) := by decide +kernel
theorem d_fchanges_0 : decode prog_9_method_9_code 0 = .ok (.aload_n 0, 1) := by decide +kernel
theorem d_fchanges_1 : decode prog_9_method_9_code 1 = .ok (.getfield 7, 3) := by decide +kernel
theorem d_fchanges_4 : decode prog_9_method_9_code 4 = .ok (.iload_n 1, 1) := by decide +kernel
theorem d_fchanges_5 : decode prog_9_method_9_code 5 = .ok (.iaload, 1) := by decide +kernel
theorem d_fchanges_6 : decode prog_9_method_9_code 6 = .ok (.iconst 1, 1) := by decide +kernel
theorem d_fchanges_7 : decode prog_9_method_9_code 7 = .ok (.if_icmp .lt 27, 3) := by decide +kernel
theorem d_fchanges_10 : decode prog_9_method_9_code 10 = .ok (.aload_n 0, 1) := by decide +kernel
theorem d_fchanges_11 : decode prog_9_method_9_code 11 = .ok (.getfield 7, 3) := by decide +kernel
theorem d_fchanges_14 : decode prog_9_method_9_code 14 = .ok (.iload_n 1, 1) := by decide +kernel
theorem d_fchanges_15 : decode prog_9_method_9_code 15 = .ok (.iaload, 1) := by decide +kernel
theorem d_fchanges_16 : decode prog_9_method_9_code 16 = .ok (.iconst 3, 1) := by decide +kernel
theorem d_fchanges_17 : decode prog_9_method_9_code 17 = .ok (.if_icmp .gt 17, 3) := by decide +kernel
theorem d_fchanges_20 : decode prog_9_method_9_code 20 = .ok (.aload_n 0, 1) := by decide +kernel
theorem d_fchanges_21 : decode prog_9_method_9_code 21 = .ok (.getfield 13, 3) := by decide +kernel
theorem d_fchanges_24 : decode prog_9_method_9_code 24 = .ok (.iload_n 1, 1) := by decide +kernel
theorem d_fchanges_25 : decode prog_9_method_9_code 25 = .ok (.iaload, 1) := by decide +kernel
theorem d_fchanges_26 : decode prog_9_method_9_code 26 = .ok (.iload_n 2, 1) := by decide +kernel
theorem d_fchanges_27 : decode prog_9_method_9_code 27 = .ok (.if_icmp .ne 7, 3) := by decide +kernel
theorem d_fchanges_30 : decode prog_9_method_9_code 30 = .ok (.iconst 1, 1) := by decide +kernel
theorem d_fchanges_31 : decode prog_9_method_9_code 31 = .ok (.goto 4, 3) := by decide +kernel
theorem d_fchanges_34 : decode prog_9_method_9_code 34 = .ok (.iconst 0, 1) := by decide +kernel
theorem d_fchanges_35 : decode prog_9_method_9_code 35 = .ok (.ireturn, 1) := by decide +kernel
theorem d_fuses_0 : decode prog_9_method_10_code 0 = .ok (.aload_n 0, 1) := by decide +kernel
theorem d_fuses_1 : decode prog_9_method_10_code 1 = .ok (.getfield 7, 3) := by decide +kernel
theorem d_fuses_4 : decode prog_9_method_10_code 4 = .ok (.iload_n 1, 1) := by decide +kernel
theorem d_fuses_5 : decode prog_9_method_10_code 5 = .ok (.iaload, 1) := by decide +kernel
theorem d_fuses_6 : decode prog_9_method_10_code 6 = .ok (.iconst 4, 1) := by decide +kernel
theorem d_fuses_7 : decode prog_9_method_10_code 7 = .ok (.if_icmp .ne 13, 3) := by decide +kernel
theorem d_fuses_10 : decode prog_9_method_10_code 10 = .ok (.aload_n 0, 1) := by decide +kernel
theorem d_fuses_11 : decode prog_9_method_10_code 11 = .ok (.getfield 13, 3) := by decide +kernel
theorem d_fuses_14 : decode prog_9_method_10_code 14 = .ok (.iload_n 1, 1) := by decide +kernel
theorem d_fuses_15 : decode prog_9_method_10_code 15 = .ok (.iaload, 1) := by decide +kernel
theorem d_fuses_16 : decode prog_9_method_10_code 16 = .ok (.iload_n 2, 1) := by decide +kernel
theorem d_fuses_17 : decode prog_9_method_10_code 17 = .ok (.if_icmp .eq 23, 3) := by decide +kernel
theorem d_fuses_20 : decode prog_9_method_10_code 20 = .ok (.aload_n 0, 1) := by decide +kernel
theorem d_fuses_21 : decode prog_9_method_10_code 21 = .ok (.getfield 7, 3) := by decide +kernel
theorem d_fuses_24 : decode prog_9_method_10_code 24 = .ok (.iload_n 1, 1) := by decide +kernel
theorem d_fuses_25 : decode prog_9_method_10_code 25 = .ok (.iaload, 1) := by decide +kernel
theorem d_fuses_26 : decode prog_9_method_10_code 26 = .ok (.iconst 2, 1) := by decide +kernel
theorem d_fuses_27 : decode prog_9_method_10_code 27 = .ok (.if_icmp .ne 17, 3) := by decide +kernel
theorem d_fuses_30 : decode prog_9_method_10_code 30 = .ok (.aload_n 0, 1) := by decide +kernel
theorem d_fuses_31 : decode prog_9_method_10_code 31 = .ok (.getfield 16, 3) := by decide +kernel
theorem d_fuses_34 : decode prog_9_method_10_code 34 = .ok (.iload_n 1, 1) := by decide +kernel
theorem d_fuses_35 : decode prog_9_method_10_code 35 = .ok (.iaload, 1) := by decide +kernel
theorem d_fuses_36 : decode prog_9_method_10_code 36 = .ok (.iload_n 2, 1) := by decide +kernel
theorem d_fuses_37 : decode prog_9_method_10_code 37 = .ok (.if_icmp .ne 7, 3) := by decide +kernel
theorem d_fuses_40 : decode prog_9_method_10_code 40 = .ok (.iconst 1, 1) := by decide +kernel
theorem d_fuses_41 : decode prog_9_method_10_code 41 = .ok (.goto 4, 3) := by decide +kernel
theorem d_fuses_44 : decode prog_9_method_10_code 44 = .ok (.iconst 0, 1) := by decide +kernel
theorem d_fuses_45 : decode prog_9_method_10_code 45 = .ok (.ireturn, 1) := by decide +kernel
theorem d_fthrough_0 : decode prog_9_method_11_code 0 = .ok (.aload_n 0, 1) := by decide +kernel
theorem d_fthrough_1 : decode prog_9_method_11_code 1 = .ok (.iload_n 1, 1) := by decide +kernel
theorem d_fthrough_2 : decode prog_9_method_11_code 2 = .ok (.invokevirtual 62, 3) := by decide +kernel
theorem d_fthrough_5 : decode prog_9_method_11_code 5 = .ok (.ifCond .ne 4, 3) := by decide +kernel
theorem d_fthrough_8 : decode prog_9_method_11_code 8 = .ok (.return_, 1) := by decide +kernel
theorem d_fthrough_9 : decode prog_9_method_11_code 9 = .ok (.aload_n 0, 1) := by decide +kernel
theorem d_fthrough_10 : decode prog_9_method_11_code 10 = .ok (.iload_n 1, 1) := by decide +kernel
theorem d_fthrough_11 : decode prog_9_method_11_code 11 = .ok (.iload_n 2, 1) := by decide +kernel
theorem d_fthrough_12 : decode prog_9_method_11_code 12 = .ok (.invokevirtual 65, 3) := by decide +kernel
theorem d_fthrough_15 : decode prog_9_method_11_code 15 = .ok (.ifCond .ne 9, 3) := by decide +kernel
theorem d_fthrough_18 : decode prog_9_method_11_code 18 = .ok (.aload_n 0, 1) := by decide +kernel
theorem d_fthrough_19 : decode prog_9_method_11_code 19 = .ok (.iload_n 1, 1) := by decide +kernel
theorem d_fthrough_20 : decode prog_9_method_11_code 20 = .ok (.iload_n 2, 1) := by decide +kernel
theorem d_fthrough_21 : decode prog_9_method_11_code 21 = .ok (.invokevirtual 69, 3) := by decide +kernel
theorem d_fthrough_24 : decode prog_9_method_11_code 24 = .ok (.aload_n 0, 1) := by decide +kernel
theorem d_fthrough_25 : decode prog_9_method_11_code 25 = .ok (.getfield 7, 3) := by decide +kernel
theorem d_fthrough_28 : decode prog_9_method_11_code 28 = .ok (.iload_n 1, 1) := by decide +kernel
theorem d_fthrough_29 : decode prog_9_method_11_code 29 = .ok (.iaload, 1) := by decide +kernel
theorem d_fthrough_30 : decode prog_9_method_11_code 30 = .ok (.iconst 2, 1) := by decide +kernel
theorem d_fthrough_31 : decode prog_9_method_11_code 31 = .ok (.if_icmp .ne 24, 3) := by decide +kernel
theorem d_fthrough_34 : decode prog_9_method_11_code 34 = .ok (.aload_n 0, 1) := by decide +kernel
theorem d_fthrough_35 : decode prog_9_method_11_code 35 = .ok (.getfield 16, 3) := by decide +kernel
theorem d_fthrough_38 : decode prog_9_method_11_code 38 = .ok (.iload_n 1, 1) := by decide +kernel
theorem d_fthrough_39 : decode prog_9_method_11_code 39 = .ok (.iaload, 1) := by decide +kernel
theorem d_fthrough_40 : decode prog_9_method_11_code 40 = .ok (.iload_n 2, 1) := by decide +kernel
theorem d_fthrough_41 : decode prog_9_method_11_code 41 = .ok (.if_icmp .ne 14, 3) := by decide +kernel
theorem d_fthrough_44 : decode prog_9_method_11_code 44 = .ok (.aload_n 0, 1) := by decide +kernel
theorem d_fthrough_45 : decode prog_9_method_11_code 45 = .ok (.iload_n 1, 1) := by decide +kernel
theorem d_fthrough_46 : decode prog_9_method_11_code 46 = .ok (.aload_n 0, 1) := by decide +kernel
theorem d_fthrough_47 : decode prog_9_method_11_code 47 = .ok (.getfield 13, 3) := by decide +kernel
theorem d_fthrough_50 : decode prog_9_method_11_code 50 = .ok (.iload_n 1, 1) := by decide +kernel
theorem d_fthrough_51 : decode prog_9_method_11_code 51 = .ok (.iaload, 1) := by decide +kernel
theorem d_fthrough_52 : decode prog_9_method_11_code 52 = .ok (.invokevirtual 69, 3) := by decide +kernel
theorem d_fthrough_55 : decode prog_9_method_11_code 55 = .ok (.return_, 1) := by decide +kernel
