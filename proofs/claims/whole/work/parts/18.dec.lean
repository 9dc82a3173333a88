theorem d_forget_0 : decode prog_1_method_16_code 0 = .ok (.aload_n 0, 1) := by decide +kernel
theorem d_forget_1 : decode prog_1_method_16_code 1 = .ok (.iconst 0, 1) := by decide +kernel
theorem d_forget_2 : decode prog_1_method_16_code 2 = .ok (.putfield 44, 3) := by decide +kernel
theorem d_forget_5 : decode prog_1_method_16_code 5 = .ok (.aload_n 0, 1) := by decide +kernel
theorem d_forget_6 : decode prog_1_method_16_code 6 = .ok (.iconst 0, 1) := by decide +kernel
theorem d_forget_7 : decode prog_1_method_16_code 7 = .ok (.putfield 48, 3) := by decide +kernel
theorem d_forget_10 : decode prog_1_method_16_code 10 = .ok (.return_, 1) := by decide +kernel
theorem d_findWays_0 : decode prog_1_method_17_code 0 = .ok (.aload_n 0, 1) := by decide +kernel
theorem d_findWays_1 : decode prog_1_method_17_code 1 = .ok (.getfield 44, 3) := by decide +kernel
theorem d_findWays_4 : decode prog_1_method_17_code 4 = .ok (.ifCond .eq 4, 3) := by decide +kernel
theorem d_findWays_7 : decode prog_1_method_17_code 7 = .ok (.return_, 1) := by decide +kernel
theorem d_findWays_8 : decode prog_1_method_17_code 8 = .ok (.aload_n 0, 1) := by decide +kernel
theorem d_findWays_9 : decode prog_1_method_17_code 9 = .ok (.getfield 19, 3) := by decide +kernel
theorem d_findWays_12 : decode prog_1_method_17_code 12 = .ok (.aload_n 0, 1) := by decide +kernel
theorem d_findWays_13 : decode prog_1_method_17_code 13 = .ok (.getfield 10, 3) := by decide +kernel
theorem d_findWays_16 : decode prog_1_method_17_code 16 = .ok (.invokevirtual 134, 3) := by decide +kernel
theorem d_findWays_19 : decode prog_1_method_17_code 19 = .ok (.aload_n 0, 1) := by decide +kernel
theorem d_findWays_20 : decode prog_1_method_17_code 20 = .ok (.getfield 26, 3) := by decide +kernel
theorem d_findWays_23 : decode prog_1_method_17_code 23 = .ok (.aload_n 0, 1) := by decide +kernel
theorem d_findWays_24 : decode prog_1_method_17_code 24 = .ok (.getfield 10, 3) := by decide +kernel
theorem d_findWays_27 : decode prog_1_method_17_code 27 = .ok (.invokevirtual 138, 3) := by decide +kernel
theorem d_findWays_30 : decode prog_1_method_17_code 30 = .ok (.aload_n 0, 1) := by decide +kernel
theorem d_findWays_31 : decode prog_1_method_17_code 31 = .ok (.iconst 1, 1) := by decide +kernel
theorem d_findWays_32 : decode prog_1_method_17_code 32 = .ok (.putfield 44, 3) := by decide +kernel
theorem d_findWays_35 : decode prog_1_method_17_code 35 = .ok (.return_, 1) := by decide +kernel
theorem d_addMeet_0 : decode prog_1_method_19_code 0 = .ok (.iconst 0, 1) := by decide +kernel
theorem d_addMeet_1 : decode prog_1_method_19_code 1 = .ok (.istore_n 2, 1) := by decide +kernel
theorem d_addMeet_2 : decode prog_1_method_19_code 2 = .ok (.iload_n 2, 1) := by decide +kernel
theorem d_addMeet_3 : decode prog_1_method_19_code 3 = .ok (.aload_n 0, 1) := by decide +kernel
theorem d_addMeet_4 : decode prog_1_method_19_code 4 = .ok (.getfield 10, 3) := by decide +kernel
theorem d_addMeet_7 : decode prog_1_method_19_code 7 = .ok (.invokevirtual 108, 3) := by decide +kernel
theorem d_addMeet_10 : decode prog_1_method_19_code 10 = .ok (.if_icmp .ge 63, 3) := by decide +kernel
theorem d_addMeet_13 : decode prog_1_method_19_code 13 = .ok (.aload_n 0, 1) := by decide +kernel
theorem d_addMeet_14 : decode prog_1_method_19_code 14 = .ok (.getfield 33, 3) := by decide +kernel
theorem d_addMeet_17 : decode prog_1_method_19_code 17 = .ok (.iload_n 2, 1) := by decide +kernel
theorem d_addMeet_18 : decode prog_1_method_19_code 18 = .ok (.invokevirtual 90, 3) := by decide +kernel
theorem d_addMeet_21 : decode prog_1_method_19_code 21 = .ok (.aload_n 0, 1) := by decide +kernel
theorem d_addMeet_22 : decode prog_1_method_19_code 22 = .ok (.getfield 26, 3) := by decide +kernel
theorem d_addMeet_25 : decode prog_1_method_19_code 25 = .ok (.iload_n 2, 1) := by decide +kernel
theorem d_addMeet_26 : decode prog_1_method_19_code 26 = .ok (.invokevirtual 94, 3) := by decide +kernel
theorem d_addMeet_29 : decode prog_1_method_19_code 29 = .ok (.iand, 1) := by decide +kernel
theorem d_addMeet_30 : decode prog_1_method_19_code 30 = .ok (.aload_n 0, 1) := by decide +kernel
theorem d_addMeet_31 : decode prog_1_method_19_code 31 = .ok (.getfield 10, 3) := by decide +kernel
theorem d_addMeet_34 : decode prog_1_method_19_code 34 = .ok (.iload_n 2, 1) := by decide +kernel
theorem d_addMeet_35 : decode prog_1_method_19_code 35 = .ok (.invokevirtual 144, 3) := by decide +kernel
theorem d_addMeet_38 : decode prog_1_method_19_code 38 = .ok (.iconst (-1), 1) := by decide +kernel
theorem d_addMeet_39 : decode prog_1_method_19_code 39 = .ok (.ixor, 1) := by decide +kernel
theorem d_addMeet_40 : decode prog_1_method_19_code 40 = .ok (.iand, 1) := by decide +kernel
theorem d_addMeet_41 : decode prog_1_method_19_code 41 = .ok (.istore_n 3, 1) := by decide +kernel
theorem d_addMeet_42 : decode prog_1_method_19_code 42 = .ok (.iload_n 3, 1) := by decide +kernel
theorem d_addMeet_43 : decode prog_1_method_19_code 43 = .ok (.ifCond .eq 24, 3) := by decide +kernel
theorem d_addMeet_46 : decode prog_1_method_19_code 46 = .ok (.aload_n 0, 1) := by decide +kernel
theorem d_addMeet_47 : decode prog_1_method_19_code 47 = .ok (.getfield 10, 3) := by decide +kernel
theorem d_addMeet_50 : decode prog_1_method_19_code 50 = .ok (.iload_n 2, 1) := by decide +kernel
theorem d_addMeet_51 : decode prog_1_method_19_code 51 = .ok (.iload_n 1, 1) := by decide +kernel
theorem d_addMeet_52 : decode prog_1_method_19_code 52 = .ok (.invokevirtual 147, 3) := by decide +kernel
theorem d_addMeet_55 : decode prog_1_method_19_code 55 = .ok (.ifCond .eq 12, 3) := by decide +kernel
theorem d_addMeet_58 : decode prog_1_method_19_code 58 = .ok (.aload_n 0, 1) := by decide +kernel
theorem d_addMeet_59 : decode prog_1_method_19_code 59 = .ok (.getfield 40, 3) := by decide +kernel
theorem d_addMeet_62 : decode prog_1_method_19_code 62 = .ok (.iload_n 2, 1) := by decide +kernel
theorem d_addMeet_63 : decode prog_1_method_19_code 63 = .ok (.iload_n 1, 1) := by decide +kernel
theorem d_addMeet_64 : decode prog_1_method_19_code 64 = .ok (.invokevirtual 151, 3) := by decide +kernel
theorem d_addMeet_67 : decode prog_1_method_19_code 67 = .ok (.iinc 2 1, 3) := by decide +kernel
theorem d_addMeet_70 : decode prog_1_method_19_code 70 = .ok (.goto (-68), 3) := by decide +kernel
theorem d_addMeet_73 : decode prog_1_method_19_code 73 = .ok (.return_, 1) := by decide +kernel
theorem d_findMeet_0 : decode prog_1_method_18_code 0 = .ok (.aload_n 0, 1) := by decide +kernel
theorem d_findMeet_1 : decode prog_1_method_18_code 1 = .ok (.getfield 48, 3) := by decide +kernel
theorem d_findMeet_4 : decode prog_1_method_18_code 4 = .ok (.ifCond .eq 4, 3) := by decide +kernel
theorem d_findMeet_7 : decode prog_1_method_18_code 7 = .ok (.return_, 1) := by decide +kernel
theorem d_findMeet_8 : decode prog_1_method_18_code 8 = .ok (.aload_n 0, 1) := by decide +kernel
theorem d_findMeet_9 : decode prog_1_method_18_code 9 = .ok (.invokevirtual 77, 3) := by decide +kernel
theorem d_findMeet_12 : decode prog_1_method_18_code 12 = .ok (.aload_n 0, 1) := by decide +kernel
theorem d_findMeet_13 : decode prog_1_method_18_code 13 = .ok (.getfield 40, 3) := by decide +kernel
theorem d_findMeet_16 : decode prog_1_method_18_code 16 = .ok (.invokevirtual 139, 3) := by decide +kernel
theorem d_findMeet_19 : decode prog_1_method_18_code 19 = .ok (.iconst 0, 1) := by decide +kernel
theorem d_findMeet_20 : decode prog_1_method_18_code 20 = .ok (.istore_n 1, 1) := by decide +kernel
theorem d_findMeet_21 : decode prog_1_method_18_code 21 = .ok (.iload_n 1, 1) := by decide +kernel
theorem d_findMeet_22 : decode prog_1_method_18_code 22 = .ok (.aload_n 0, 1) := by decide +kernel
theorem d_findMeet_23 : decode prog_1_method_18_code 23 = .ok (.getfield 10, 3) := by decide +kernel
theorem d_findMeet_26 : decode prog_1_method_18_code 26 = .ok (.invokevirtual 108, 3) := by decide +kernel
theorem d_findMeet_29 : decode prog_1_method_18_code 29 = .ok (.if_icmp .ge 48, 3) := by decide +kernel
theorem d_findMeet_32 : decode prog_1_method_18_code 32 = .ok (.aload_n 0, 1) := by decide +kernel
theorem d_findMeet_33 : decode prog_1_method_18_code 33 = .ok (.getfield 10, 3) := by decide +kernel
theorem d_findMeet_36 : decode prog_1_method_18_code 36 = .ok (.iload_n 1, 1) := by decide +kernel
theorem d_findMeet_37 : decode prog_1_method_18_code 37 = .ok (.invokevirtual 83, 3) := by decide +kernel
theorem d_findMeet_40 : decode prog_1_method_18_code 40 = .ok (.ifCond .eq 31, 3) := by decide +kernel
theorem d_findMeet_43 : decode prog_1_method_18_code 43 = .ok (.aload_n 0, 1) := by decide +kernel
theorem d_findMeet_44 : decode prog_1_method_18_code 44 = .ok (.getfield 19, 3) := by decide +kernel
theorem d_findMeet_47 : decode prog_1_method_18_code 47 = .ok (.iload_n 1, 1) := by decide +kernel
theorem d_findMeet_48 : decode prog_1_method_18_code 48 = .ok (.invokevirtual 80, 3) := by decide +kernel
theorem d_findMeet_51 : decode prog_1_method_18_code 51 = .ok (.ifCond .eq 20, 3) := by decide +kernel
theorem d_findMeet_54 : decode prog_1_method_18_code 54 = .ok (.aload_n 0, 1) := by decide +kernel
theorem d_findMeet_55 : decode prog_1_method_18_code 55 = .ok (.getfield 33, 3) := by decide +kernel
theorem d_findMeet_58 : decode prog_1_method_18_code 58 = .ok (.aload_n 0, 1) := by decide +kernel
theorem d_findMeet_59 : decode prog_1_method_18_code 59 = .ok (.getfield 10, 3) := by decide +kernel
theorem d_findMeet_62 : decode prog_1_method_18_code 62 = .ok (.iload_n 1, 1) := by decide +kernel
theorem d_findMeet_63 : decode prog_1_method_18_code 63 = .ok (.invokevirtual 86, 3) := by decide +kernel
theorem d_findMeet_66 : decode prog_1_method_18_code 66 = .ok (.aload_n 0, 1) := by decide +kernel
theorem d_findMeet_67 : decode prog_1_method_18_code 67 = .ok (.iload_n 1, 1) := by decide +kernel
theorem d_findMeet_68 : decode prog_1_method_18_code 68 = .ok (.invokevirtual 140, 3) := by decide +kernel
theorem d_findMeet_71 : decode prog_1_method_18_code 71 = .ok (.iinc 1 1, 3) := by decide +kernel
theorem d_findMeet_74 : decode prog_1_method_18_code 74 = .ok (.goto (-53), 3) := by decide +kernel
theorem d_findMeet_77 : decode prog_1_method_18_code 77 = .ok (.aload_n 0, 1) := by decide +kernel
theorem d_findMeet_78 : decode prog_1_method_18_code 78 = .ok (.iconst 1, 1) := by decide +kernel
theorem d_findMeet_79 : decode prog_1_method_18_code 79 = .ok (.putfield 48, 3) := by decide +kernel
theorem d_findMeet_82 : decode prog_1_method_18_code 82 = .ok (.return_, 1) := by decide +kernel
