theorem d_gsize_0 : decode prog_2_method_2_code 0 = .ok (.aload_n 0, 1) := by decide +kernel
theorem d_gsize_1 : decode prog_2_method_2_code 1 = .ok (.getfield 30, 3) := by decide +kernel
theorem d_gsize_4 : decode prog_2_method_2_code 4 = .ok (.ireturn, 1) := by decide +kernel
theorem d_hasRoom_0 : decode prog_2_method_3_code 0 = .ok (.aload_n 0, 1) := by decide +kernel
theorem d_hasRoom_1 : decode prog_2_method_3_code 1 = .ok (.getfield 30, 3) := by decide +kernel
theorem d_hasRoom_4 : decode prog_2_method_3_code 4 = .ok (.bipush 120, 2) := by decide +kernel
theorem d_hasRoom_6 : decode prog_2_method_3_code 6 = .ok (.if_icmp .ge 7, 3) := by decide +kernel
theorem d_hasRoom_9 : decode prog_2_method_3_code 9 = .ok (.iconst 1, 1) := by decide +kernel
theorem d_hasRoom_10 : decode prog_2_method_3_code 10 = .ok (.goto 4, 3) := by decide +kernel
theorem d_hasRoom_13 : decode prog_2_method_3_code 13 = .ok (.iconst 0, 1) := by decide +kernel
theorem d_hasRoom_14 : decode prog_2_method_3_code 14 = .ok (.ireturn, 1) := by decide +kernel
theorem d_isPoint_0 : decode prog_2_method_4_code 0 = .ok (.iload_n 1, 1) := by decide +kernel
theorem d_isPoint_1 : decode prog_2_method_4_code 1 = .ok (.ifCond .lt 21, 3) := by decide +kernel
theorem d_isPoint_4 : decode prog_2_method_4_code 4 = .ok (.iload_n 1, 1) := by decide +kernel
theorem d_isPoint_5 : decode prog_2_method_4_code 5 = .ok (.aload_n 0, 1) := by decide +kernel
theorem d_isPoint_6 : decode prog_2_method_4_code 6 = .ok (.getfield 30, 3) := by decide +kernel
theorem d_isPoint_9 : decode prog_2_method_4_code 9 = .ok (.if_icmp .ge 13, 3) := by decide +kernel
theorem d_isPoint_12 : decode prog_2_method_4_code 12 = .ok (.iload_n 1, 1) := by decide +kernel
theorem d_isPoint_13 : decode prog_2_method_4_code 13 = .ok (.bipush 120, 2) := by decide +kernel
theorem d_isPoint_15 : decode prog_2_method_4_code 15 = .ok (.if_icmp .ge 7, 3) := by decide +kernel
theorem d_isPoint_18 : decode prog_2_method_4_code 18 = .ok (.iconst 1, 1) := by decide +kernel
theorem d_isPoint_19 : decode prog_2_method_4_code 19 = .ok (.goto 4, 3) := by decide +kernel
theorem d_isPoint_22 : decode prog_2_method_4_code 22 = .ok (.iconst 0, 1) := by decide +kernel
theorem d_isPoint_23 : decode prog_2_method_4_code 23 = .ok (.ireturn, 1) := by decide +kernel
theorem d_isLoan_0 : decode prog_2_method_5_code 0 = .ok (.aload_n 0, 1) := by decide +kernel
theorem d_isLoan_1 : decode prog_2_method_5_code 1 = .ok (.iload_n 1, 1) := by decide +kernel
theorem d_isLoan_2 : decode prog_2_method_5_code 2 = .ok (.invokevirtual 34, 3) := by decide +kernel
theorem d_isLoan_5 : decode prog_2_method_5_code 5 = .ok (.ifCond .eq 17, 3) := by decide +kernel
theorem d_isLoan_8 : decode prog_2_method_5_code 8 = .ok (.aload_n 0, 1) := by decide +kernel
theorem d_isLoan_9 : decode prog_2_method_5_code 9 = .ok (.getfield 9, 3) := by decide +kernel
theorem d_isLoan_12 : decode prog_2_method_5_code 12 = .ok (.iload_n 1, 1) := by decide +kernel
theorem d_isLoan_13 : decode prog_2_method_5_code 13 = .ok (.iaload, 1) := by decide +kernel
theorem d_isLoan_14 : decode prog_2_method_5_code 14 = .ok (.iconst 1, 1) := by decide +kernel
theorem d_isLoan_15 : decode prog_2_method_5_code 15 = .ok (.if_icmp .ne 7, 3) := by decide +kernel
theorem d_isLoan_18 : decode prog_2_method_5_code 18 = .ok (.iconst 1, 1) := by decide +kernel
theorem d_isLoan_19 : decode prog_2_method_5_code 19 = .ok (.goto 4, 3) := by decide +kernel
theorem d_isLoan_22 : decode prog_2_method_5_code 22 = .ok (.iconst 0, 1) := by decide +kernel
theorem d_isLoan_23 : decode prog_2_method_5_code 23 = .ok (.ireturn, 1) := by decide +kernel
theorem d_firstNext_0 : decode prog_2_method_10_code 0 = .ok (.aload_n 0, 1) := by decide +kernel
theorem d_firstNext_1 : decode prog_2_method_10_code 1 = .ok (.iload_n 1, 1) := by decide +kernel
theorem d_firstNext_2 : decode prog_2_method_10_code 2 = .ok (.invokevirtual 34, 3) := by decide +kernel
theorem d_firstNext_5 : decode prog_2_method_10_code 5 = .ok (.ifCond .eq 12, 3) := by decide +kernel
theorem d_firstNext_8 : decode prog_2_method_10_code 8 = .ok (.aload_n 0, 1) := by decide +kernel
theorem d_firstNext_9 : decode prog_2_method_10_code 9 = .ok (.getfield 24, 3) := by decide +kernel
theorem d_firstNext_12 : decode prog_2_method_10_code 12 = .ok (.iload_n 1, 1) := by decide +kernel
theorem d_firstNext_13 : decode prog_2_method_10_code 13 = .ok (.iaload, 1) := by decide +kernel
theorem d_firstNext_14 : decode prog_2_method_10_code 14 = .ok (.goto 4, 3) := by decide +kernel
theorem d_firstNext_17 : decode prog_2_method_10_code 17 = .ok (.iconst (-1), 1) := by decide +kernel
theorem d_firstNext_18 : decode prog_2_method_10_code 18 = .ok (.ireturn, 1) := by decide +kernel
theorem d_secondNext_0 : decode prog_2_method_11_code 0 = .ok (.aload_n 0, 1) := by decide +kernel
theorem d_secondNext_1 : decode prog_2_method_11_code 1 = .ok (.iload_n 1, 1) := by decide +kernel
theorem d_secondNext_2 : decode prog_2_method_11_code 2 = .ok (.invokevirtual 34, 3) := by decide +kernel
theorem d_secondNext_5 : decode prog_2_method_11_code 5 = .ok (.ifCond .eq 12, 3) := by decide +kernel
theorem d_secondNext_8 : decode prog_2_method_11_code 8 = .ok (.aload_n 0, 1) := by decide +kernel
theorem d_secondNext_9 : decode prog_2_method_11_code 9 = .ok (.getfield 27, 3) := by decide +kernel
theorem d_secondNext_12 : decode prog_2_method_11_code 12 = .ok (.iload_n 1, 1) := by decide +kernel
theorem d_secondNext_13 : decode prog_2_method_11_code 13 = .ok (.iaload, 1) := by decide +kernel
theorem d_secondNext_14 : decode prog_2_method_11_code 14 = .ok (.goto 4, 3) := by decide +kernel
theorem d_secondNext_17 : decode prog_2_method_11_code 17 = .ok (.iconst (-1), 1) := by decide +kernel
theorem d_secondNext_18 : decode prog_2_method_11_code 18 = .ok (.ireturn, 1) := by decide +kernel
theorem d_countLoans_0 : decode prog_2_method_6_code 0 = .ok (.iconst 0, 1) := by decide +kernel
theorem d_countLoans_1 : decode prog_2_method_6_code 1 = .ok (.istore_n 1, 1) := by decide +kernel
theorem d_countLoans_2 : decode prog_2_method_6_code 2 = .ok (.iconst 0, 1) := by decide +kernel
theorem d_countLoans_3 : decode prog_2_method_6_code 3 = .ok (.istore_n 2, 1) := by decide +kernel
theorem d_countLoans_4 : decode prog_2_method_6_code 4 = .ok (.iload_n 2, 1) := by decide +kernel
theorem d_countLoans_5 : decode prog_2_method_6_code 5 = .ok (.aload_n 0, 1) := by decide +kernel
theorem d_countLoans_6 : decode prog_2_method_6_code 6 = .ok (.getfield 30, 3) := by decide +kernel
theorem d_countLoans_9 : decode prog_2_method_6_code 9 = .ok (.if_icmp .ge 20, 3) := by decide +kernel
theorem d_countLoans_12 : decode prog_2_method_6_code 12 = .ok (.aload_n 0, 1) := by decide +kernel
theorem d_countLoans_13 : decode prog_2_method_6_code 13 = .ok (.iload_n 2, 1) := by decide +kernel
theorem d_countLoans_14 : decode prog_2_method_6_code 14 = .ok (.invokevirtual 38, 3) := by decide +kernel
theorem d_countLoans_17 : decode prog_2_method_6_code 17 = .ok (.ifCond .eq 6, 3) := by decide +kernel
theorem d_countLoans_20 : decode prog_2_method_6_code 20 = .ok (.iinc 1 1, 3) := by decide +kernel
theorem d_countLoans_23 : decode prog_2_method_6_code 23 = .ok (.iinc 2 1, 3) := by decide +kernel
theorem d_countLoans_26 : decode prog_2_method_6_code 26 = .ok (.goto (-22), 3) := by decide +kernel
theorem d_countLoans_29 : decode prog_2_method_6_code 29 = .ok (.iload_n 1, 1) := by decide +kernel
theorem d_countLoans_30 : decode prog_2_method_6_code 30 = .ok (.ireturn, 1) := by decide +kernel
theorem d_add_0 : decode prog_2_method_7_code 0 = .ok (.aload_n 0, 1) := by decide +kernel
theorem d_add_1 : decode prog_2_method_7_code 1 = .ok (.invokevirtual 41, 3) := by decide +kernel
theorem d_add_4 : decode prog_2_method_7_code 4 = .ok (.ifCond .ne 5, 3) := by decide +kernel
theorem d_add_7 : decode prog_2_method_7_code 7 = .ok (.iconst (-1), 1) := by decide +kernel
theorem d_add_8 : decode prog_2_method_7_code 8 = .ok (.ireturn, 1) := by decide +kernel
theorem d_add_9 : decode prog_2_method_7_code 9 = .ok (.aload_n 0, 1) := by decide +kernel
theorem d_add_10 : decode prog_2_method_7_code 10 = .ok (.getfield 30, 3) := by decide +kernel
theorem d_add_13 : decode prog_2_method_7_code 13 = .ok (.istore 5, 2) := by decide +kernel
theorem d_add_15 : decode prog_2_method_7_code 15 = .ok (.aload_n 0, 1) := by decide +kernel
theorem d_add_16 : decode prog_2_method_7_code 16 = .ok (.getfield 9, 3) := by decide +kernel
theorem d_add_19 : decode prog_2_method_7_code 19 = .ok (.iload 5, 2) := by decide +kernel
theorem d_add_21 : decode prog_2_method_7_code 21 = .ok (.iload_n 1, 1) := by decide +kernel
theorem d_add_22 : decode prog_2_method_7_code 22 = .ok (.iastore, 1) := by decide +kernel
theorem d_add_23 : decode prog_2_method_7_code 23 = .ok (.aload_n 0, 1) := by decide +kernel
theorem d_add_24 : decode prog_2_method_7_code 24 = .ok (.getfield 15, 3) := by decide +kernel
theorem d_add_27 : decode prog_2_method_7_code 27 = .ok (.iload 5, 2) := by decide +kernel
theorem d_add_29 : decode prog_2_method_7_code 29 = .ok (.iload_n 2, 1) := by decide +kernel
theorem d_add_30 : decode prog_2_method_7_code 30 = .ok (.iastore, 1) := by decide +kernel
theorem d_add_31 : decode prog_2_method_7_code 31 = .ok (.aload_n 0, 1) := by decide +kernel
theorem d_add_32 : decode prog_2_method_7_code 32 = .ok (.getfield 18, 3) := by decide +kernel
theorem d_add_35 : decode prog_2_method_7_code 35 = .ok (.iload 5, 2) := by decide +kernel
theorem d_add_37 : decode prog_2_method_7_code 37 = .ok (.iload_n 3, 1) := by decide +kernel
theorem d_add_38 : decode prog_2_method_7_code 38 = .ok (.iastore, 1) := by decide +kernel
theorem d_add_39 : decode prog_2_method_7_code 39 = .ok (.aload_n 0, 1) := by decide +kernel
theorem d_add_40 : decode prog_2_method_7_code 40 = .ok (.getfield 21, 3) := by decide +kernel
theorem d_add_43 : decode prog_2_method_7_code 43 = .ok (.iload 5, 2) := by decide +kernel
theorem d_add_45 : decode prog_2_method_7_code 45 = .ok (.iload 4, 2) := by decide +kernel
theorem d_add_47 : decode prog_2_method_7_code 47 = .ok (.iastore, 1) := by decide +kernel
theorem d_add_48 : decode prog_2_method_7_code 48 = .ok (.aload_n 0, 1) := by decide +kernel
theorem d_add_49 : decode prog_2_method_7_code 49 = .ok (.getfield 24, 3) := by decide +kernel
theorem d_add_52 : decode prog_2_method_7_code 52 = .ok (.iload 5, 2) := by decide +kernel
theorem d_add_54 : decode prog_2_method_7_code 54 = .ok (.iload 5, 2) := by decide +kernel
theorem d_add_56 : decode prog_2_method_7_code 56 = .ok (.iconst 1, 1) := by decide +kernel
theorem d_add_57 : decode prog_2_method_7_code 57 = .ok (.iadd, 1) := by decide +kernel
theorem d_add_58 : decode prog_2_method_7_code 58 = .ok (.iastore, 1) := by decide +kernel
theorem d_add_59 : decode prog_2_method_7_code 59 = .ok (.aload_n 0, 1) := by decide +kernel
theorem d_add_60 : decode prog_2_method_7_code 60 = .ok (.getfield 27, 3) := by decide +kernel
theorem d_add_63 : decode prog_2_method_7_code 63 = .ok (.iload 5, 2) := by decide +kernel
theorem d_add_65 : decode prog_2_method_7_code 65 = .ok (.iconst (-1), 1) := by decide +kernel
theorem d_add_66 : decode prog_2_method_7_code 66 = .ok (.iastore, 1) := by decide +kernel
theorem d_add_67 : decode prog_2_method_7_code 67 = .ok (.aload_n 0, 1) := by decide +kernel
theorem d_add_68 : decode prog_2_method_7_code 68 = .ok (.iload 5, 2) := by decide +kernel
theorem d_add_70 : decode prog_2_method_7_code 70 = .ok (.iconst 1, 1) := by decide +kernel
theorem d_add_71 : decode prog_2_method_7_code 71 = .ok (.iadd, 1) := by decide +kernel
theorem d_add_72 : decode prog_2_method_7_code 72 = .ok (.putfield 30, 3) := by decide +kernel
theorem d_add_75 : decode prog_2_method_7_code 75 = .ok (.iload 5, 2) := by decide +kernel
theorem d_add_77 : decode prog_2_method_7_code 77 = .ok (.ireturn, 1) := by decide +kernel
theorem d_tellNext_0 : decode prog_2_method_8_code 0 = .ok (.aload_n 0, 1) := by decide +kernel
theorem d_tellNext_1 : decode prog_2_method_8_code 1 = .ok (.iload_n 1, 1) := by decide +kernel
theorem d_tellNext_2 : decode prog_2_method_8_code 2 = .ok (.invokevirtual 34, 3) := by decide +kernel
theorem d_tellNext_5 : decode prog_2_method_8_code 5 = .ok (.ifCond .eq 17, 3) := by decide +kernel
theorem d_tellNext_8 : decode prog_2_method_8_code 8 = .ok (.aload_n 0, 1) := by decide +kernel
theorem d_tellNext_9 : decode prog_2_method_8_code 9 = .ok (.getfield 24, 3) := by decide +kernel
theorem d_tellNext_12 : decode prog_2_method_8_code 12 = .ok (.iload_n 1, 1) := by decide +kernel
theorem d_tellNext_13 : decode prog_2_method_8_code 13 = .ok (.iload_n 2, 1) := by decide +kernel
theorem d_tellNext_14 : decode prog_2_method_8_code 14 = .ok (.iastore, 1) := by decide +kernel
theorem d_tellNext_15 : decode prog_2_method_8_code 15 = .ok (.aload_n 0, 1) := by decide +kernel
theorem d_tellNext_16 : decode prog_2_method_8_code 16 = .ok (.getfield 27, 3) := by decide +kernel
theorem d_tellNext_19 : decode prog_2_method_8_code 19 = .ok (.iload_n 1, 1) := by decide +kernel
theorem d_tellNext_20 : decode prog_2_method_8_code 20 = .ok (.iload_n 3, 1) := by decide +kernel
theorem d_tellNext_21 : decode prog_2_method_8_code 21 = .ok (.iastore, 1) := by decide +kernel
theorem d_tellNext_22 : decode prog_2_method_8_code 22 = .ok (.return_, 1) := by decide +kernel
theorem d_gempty_0 : decode prog_2_method_9_code 0 = .ok (.aload_n 0, 1) := by decide +kernel
theorem d_gempty_1 : decode prog_2_method_9_code 1 = .ok (.iconst 0, 1) := by decide +kernel
theorem d_gempty_2 : decode prog_2_method_9_code 2 = .ok (.putfield 30, 3) := by decide +kernel
theorem d_gempty_5 : decode prog_2_method_9_code 5 = .ok (.return_, 1) := by decide +kernel
