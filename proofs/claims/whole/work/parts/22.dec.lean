theorem d_fgoAll_0 : decode prog_9_method_12_code 0 = .ok (.aload_n 0, 1) := by decide +kernel
theorem d_fgoAll_1 : decode prog_9_method_12_code 1 = .ok (.invokevirtual 73, 3) := by decide +kernel
theorem d_fgoAll_4 : decode prog_9_method_12_code 4 = .ok (.aload_n 0, 1) := by decide +kernel
theorem d_fgoAll_5 : decode prog_9_method_12_code 5 = .ok (.getfield 28, 3) := by decide +kernel
theorem d_fgoAll_8 : decode prog_9_method_12_code 8 = .ok (.iload_n 1, 1) := by decide +kernel
theorem d_fgoAll_9 : decode prog_9_method_12_code 9 = .ok (.baload, 1) := by decide +kernel
theorem d_fgoAll_10 : decode prog_9_method_12_code 10 = .ok (.ifCond .eq 14, 3) := by decide +kernel
theorem d_fgoAll_13 : decode prog_9_method_12_code 13 = .ok (.aload_n 0, 1) := by decide +kernel
theorem d_fgoAll_14 : decode prog_9_method_12_code 14 = .ok (.iload_n 1, 1) := by decide +kernel
theorem d_fgoAll_15 : decode prog_9_method_12_code 15 = .ok (.aload_n 0, 1) := by decide +kernel
theorem d_fgoAll_16 : decode prog_9_method_12_code 16 = .ok (.getfield 13, 3) := by decide +kernel
theorem d_fgoAll_19 : decode prog_9_method_12_code 19 = .ok (.iload_n 1, 1) := by decide +kernel
theorem d_fgoAll_20 : decode prog_9_method_12_code 20 = .ok (.iaload, 1) := by decide +kernel
theorem d_fgoAll_21 : decode prog_9_method_12_code 21 = .ok (.invokevirtual 69, 3) := by decide +kernel
theorem d_fgoAll_24 : decode prog_9_method_12_code 24 = .ok (.aload_n 0, 1) := by decide +kernel
theorem d_fgoAll_25 : decode prog_9_method_12_code 25 = .ok (.getfield 59, 3) := by decide +kernel
theorem d_fgoAll_28 : decode prog_9_method_12_code 28 = .ok (.ifCond .le 90, 3) := by decide +kernel
theorem d_fgoAll_31 : decode prog_9_method_12_code 31 = .ok (.aload_n 0, 1) := by decide +kernel
theorem d_fgoAll_32 : decode prog_9_method_12_code 32 = .ok (.dup, 1) := by decide +kernel
theorem d_fgoAll_33 : decode prog_9_method_12_code 33 = .ok (.getfield 59, 3) := by decide +kernel
theorem d_fgoAll_36 : decode prog_9_method_12_code 36 = .ok (.iconst 1, 1) := by decide +kernel
theorem d_fgoAll_37 : decode prog_9_method_12_code 37 = .ok (.isub, 1) := by decide +kernel
theorem d_fgoAll_38 : decode prog_9_method_12_code 38 = .ok (.putfield 59, 3) := by decide +kernel
theorem d_fgoAll_41 : decode prog_9_method_12_code 41 = .ok (.aload_n 0, 1) := by decide +kernel
theorem d_fgoAll_42 : decode prog_9_method_12_code 42 = .ok (.getfield 38, 3) := by decide +kernel
theorem d_fgoAll_45 : decode prog_9_method_12_code 45 = .ok (.aload_n 0, 1) := by decide +kernel
theorem d_fgoAll_46 : decode prog_9_method_12_code 46 = .ok (.getfield 59, 3) := by decide +kernel
theorem d_fgoAll_49 : decode prog_9_method_12_code 49 = .ok (.iaload, 1) := by decide +kernel
theorem d_fgoAll_50 : decode prog_9_method_12_code 50 = .ok (.bipush 16, 2) := by decide +kernel
theorem d_fgoAll_52 : decode prog_9_method_12_code 52 = .ok (.idiv, 1) := by decide +kernel
theorem d_fgoAll_53 : decode prog_9_method_12_code 53 = .ok (.istore_n 2, 1) := by decide +kernel
theorem d_fgoAll_54 : decode prog_9_method_12_code 54 = .ok (.aload_n 0, 1) := by decide +kernel
theorem d_fgoAll_55 : decode prog_9_method_12_code 55 = .ok (.getfield 38, 3) := by decide +kernel
theorem d_fgoAll_58 : decode prog_9_method_12_code 58 = .ok (.aload_n 0, 1) := by decide +kernel
theorem d_fgoAll_59 : decode prog_9_method_12_code 59 = .ok (.getfield 59, 3) := by decide +kernel
theorem d_fgoAll_62 : decode prog_9_method_12_code 62 = .ok (.iaload, 1) := by decide +kernel
theorem d_fgoAll_63 : decode prog_9_method_12_code 63 = .ok (.bipush 16, 2) := by decide +kernel
theorem d_fgoAll_65 : decode prog_9_method_12_code 65 = .ok (.irem, 1) := by decide +kernel
theorem d_fgoAll_66 : decode prog_9_method_12_code 66 = .ok (.istore_n 3, 1) := by decide +kernel
theorem d_fgoAll_67 : decode prog_9_method_12_code 67 = .ok (.aload_n 0, 1) := by decide +kernel
theorem d_fgoAll_68 : decode prog_9_method_12_code 68 = .ok (.getfield 35, 3) := by decide +kernel
theorem d_fgoAll_71 : decode prog_9_method_12_code 71 = .ok (.bipush 120, 2) := by decide +kernel
theorem d_fgoAll_73 : decode prog_9_method_12_code 73 = .ok (.iload_n 1, 1) := by decide +kernel
theorem d_fgoAll_74 : decode prog_9_method_12_code 74 = .ok (.imul, 1) := by decide +kernel
theorem d_fgoAll_75 : decode prog_9_method_12_code 75 = .ok (.iload_n 2, 1) := by decide +kernel
theorem d_fgoAll_76 : decode prog_9_method_12_code 76 = .ok (.iadd, 1) := by decide +kernel
theorem d_fgoAll_77 : decode prog_9_method_12_code 77 = .ok (.aload_n 0, 1) := by decide +kernel
theorem d_fgoAll_78 : decode prog_9_method_12_code 78 = .ok (.getfield 35, 3) := by decide +kernel
theorem d_fgoAll_81 : decode prog_9_method_12_code 81 = .ok (.bipush 120, 2) := by decide +kernel
theorem d_fgoAll_83 : decode prog_9_method_12_code 83 = .ok (.iload_n 1, 1) := by decide +kernel
theorem d_fgoAll_84 : decode prog_9_method_12_code 84 = .ok (.imul, 1) := by decide +kernel
theorem d_fgoAll_85 : decode prog_9_method_12_code 85 = .ok (.iload_n 2, 1) := by decide +kernel
theorem d_fgoAll_86 : decode prog_9_method_12_code 86 = .ok (.iadd, 1) := by decide +kernel
theorem d_fgoAll_87 : decode prog_9_method_12_code 87 = .ok (.iaload, 1) := by decide +kernel
theorem d_fgoAll_88 : decode prog_9_method_12_code 88 = .ok (.iconst 1, 1) := by decide +kernel
theorem d_fgoAll_89 : decode prog_9_method_12_code 89 = .ok (.iload_n 3, 1) := by decide +kernel
theorem d_fgoAll_90 : decode prog_9_method_12_code 90 = .ok (.ishl, 1) := by decide +kernel
theorem d_fgoAll_91 : decode prog_9_method_12_code 91 = .ok (.ior, 1) := by decide +kernel
theorem d_fgoAll_92 : decode prog_9_method_12_code 92 = .ok (.iastore, 1) := by decide +kernel
theorem d_fgoAll_93 : decode prog_9_method_12_code 93 = .ok (.aload_n 0, 1) := by decide +kernel
theorem d_fgoAll_94 : decode prog_9_method_12_code 94 = .ok (.aload_n 0, 1) := by decide +kernel
theorem d_fgoAll_95 : decode prog_9_method_12_code 95 = .ok (.getfield 22, 3) := by decide +kernel
theorem d_fgoAll_98 : decode prog_9_method_12_code 98 = .ok (.iload_n 2, 1) := by decide +kernel
theorem d_fgoAll_99 : decode prog_9_method_12_code 99 = .ok (.iaload, 1) := by decide +kernel
theorem d_fgoAll_100 : decode prog_9_method_12_code 100 = .ok (.iload_n 3, 1) := by decide +kernel
theorem d_fgoAll_101 : decode prog_9_method_12_code 101 = .ok (.invokevirtual 76, 3) := by decide +kernel
theorem d_fgoAll_104 : decode prog_9_method_12_code 104 = .ok (.aload_n 0, 1) := by decide +kernel
theorem d_fgoAll_105 : decode prog_9_method_12_code 105 = .ok (.aload_n 0, 1) := by decide +kernel
theorem d_fgoAll_106 : decode prog_9_method_12_code 106 = .ok (.getfield 25, 3) := by decide +kernel
theorem d_fgoAll_109 : decode prog_9_method_12_code 109 = .ok (.iload_n 2, 1) := by decide +kernel
theorem d_fgoAll_110 : decode prog_9_method_12_code 110 = .ok (.iaload, 1) := by decide +kernel
theorem d_fgoAll_111 : decode prog_9_method_12_code 111 = .ok (.iload_n 3, 1) := by decide +kernel
theorem d_fgoAll_112 : decode prog_9_method_12_code 112 = .ok (.invokevirtual 76, 3) := by decide +kernel
theorem d_fgoAll_115 : decode prog_9_method_12_code 115 = .ok (.goto (-91), 3) := by decide +kernel
theorem d_fgoAll_118 : decode prog_9_method_12_code 118 = .ok (.return_, 1) := by decide +kernel
theorem d_fIsUsed_0 : decode prog_9_method_13_code 0 = .ok (.aload_n 0, 1) := by decide +kernel
theorem d_fIsUsed_1 : decode prog_9_method_13_code 1 = .ok (.invokevirtual 73, 3) := by decide +kernel
theorem d_fIsUsed_4 : decode prog_9_method_13_code 4 = .ok (.aload_n 0, 1) := by decide +kernel
theorem d_fIsUsed_5 : decode prog_9_method_13_code 5 = .ok (.aload_n 0, 1) := by decide +kernel
theorem d_fIsUsed_6 : decode prog_9_method_13_code 6 = .ok (.getfield 22, 3) := by decide +kernel
theorem d_fIsUsed_9 : decode prog_9_method_13_code 9 = .ok (.iload_n 1, 1) := by decide +kernel
theorem d_fIsUsed_10 : decode prog_9_method_13_code 10 = .ok (.iaload, 1) := by decide +kernel
theorem d_fIsUsed_11 : decode prog_9_method_13_code 11 = .ok (.iconst 0, 1) := by decide +kernel
theorem d_fIsUsed_12 : decode prog_9_method_13_code 12 = .ok (.invokevirtual 69, 3) := by decide +kernel
theorem d_fIsUsed_15 : decode prog_9_method_13_code 15 = .ok (.aload_n 0, 1) := by decide +kernel
theorem d_fIsUsed_16 : decode prog_9_method_13_code 16 = .ok (.aload_n 0, 1) := by decide +kernel
theorem d_fIsUsed_17 : decode prog_9_method_13_code 17 = .ok (.getfield 25, 3) := by decide +kernel
theorem d_fIsUsed_20 : decode prog_9_method_13_code 20 = .ok (.iload_n 1, 1) := by decide +kernel
theorem d_fIsUsed_21 : decode prog_9_method_13_code 21 = .ok (.iaload, 1) := by decide +kernel
theorem d_fIsUsed_22 : decode prog_9_method_13_code 22 = .ok (.iconst 0, 1) := by decide +kernel
theorem d_fIsUsed_23 : decode prog_9_method_13_code 23 = .ok (.invokevirtual 69, 3) := by decide +kernel
theorem d_fIsUsed_26 : decode prog_9_method_13_code 26 = .ok (.aload_n 0, 1) := by decide +kernel
theorem d_fIsUsed_27 : decode prog_9_method_13_code 27 = .ok (.getfield 59, 3) := by decide +kernel
theorem d_fIsUsed_30 : decode prog_9_method_13_code 30 = .ok (.ifCond .le 71, 3) := by decide +kernel
theorem d_fIsUsed_33 : decode prog_9_method_13_code 33 = .ok (.aload_n 0, 1) := by decide +kernel
theorem d_fIsUsed_34 : decode prog_9_method_13_code 34 = .ok (.dup, 1) := by decide +kernel
theorem d_fIsUsed_35 : decode prog_9_method_13_code 35 = .ok (.getfield 59, 3) := by decide +kernel
theorem d_fIsUsed_38 : decode prog_9_method_13_code 38 = .ok (.iconst 1, 1) := by decide +kernel
theorem d_fIsUsed_39 : decode prog_9_method_13_code 39 = .ok (.isub, 1) := by decide +kernel
theorem d_fIsUsed_40 : decode prog_9_method_13_code 40 = .ok (.putfield 59, 3) := by decide +kernel
theorem d_fIsUsed_43 : decode prog_9_method_13_code 43 = .ok (.aload_n 0, 1) := by decide +kernel
theorem d_fIsUsed_44 : decode prog_9_method_13_code 44 = .ok (.getfield 38, 3) := by decide +kernel
theorem d_fIsUsed_47 : decode prog_9_method_13_code 47 = .ok (.aload_n 0, 1) := by decide +kernel
theorem d_fIsUsed_48 : decode prog_9_method_13_code 48 = .ok (.getfield 59, 3) := by decide +kernel
theorem d_fIsUsed_51 : decode prog_9_method_13_code 51 = .ok (.iaload, 1) := by decide +kernel
theorem d_fIsUsed_52 : decode prog_9_method_13_code 52 = .ok (.bipush 16, 2) := by decide +kernel
theorem d_fIsUsed_54 : decode prog_9_method_13_code 54 = .ok (.idiv, 1) := by decide +kernel
theorem d_fIsUsed_55 : decode prog_9_method_13_code 55 = .ok (.istore_n 3, 1) := by decide +kernel
theorem d_fIsUsed_56 : decode prog_9_method_13_code 56 = .ok (.aload_n 0, 1) := by decide +kernel
theorem d_fIsUsed_57 : decode prog_9_method_13_code 57 = .ok (.iload_n 3, 1) := by decide +kernel
theorem d_fIsUsed_58 : decode prog_9_method_13_code 58 = .ok (.iload_n 2, 1) := by decide +kernel
theorem d_fIsUsed_59 : decode prog_9_method_13_code 59 = .ok (.invokevirtual 79, 3) := by decide +kernel
theorem d_fIsUsed_62 : decode prog_9_method_13_code 62 = .ok (.ifCond .eq 5, 3) := by decide +kernel
theorem d_fIsUsed_65 : decode prog_9_method_13_code 65 = .ok (.iconst 1, 1) := by decide +kernel
theorem d_fIsUsed_66 : decode prog_9_method_13_code 66 = .ok (.ireturn, 1) := by decide +kernel
theorem d_fIsUsed_67 : decode prog_9_method_13_code 67 = .ok (.aload_n 0, 1) := by decide +kernel
theorem d_fIsUsed_68 : decode prog_9_method_13_code 68 = .ok (.iload_n 3, 1) := by decide +kernel
theorem d_fIsUsed_69 : decode prog_9_method_13_code 69 = .ok (.iload_n 2, 1) := by decide +kernel
theorem d_fIsUsed_70 : decode prog_9_method_13_code 70 = .ok (.invokevirtual 65, 3) := by decide +kernel
theorem d_fIsUsed_73 : decode prog_9_method_13_code 73 = .ok (.ifCond .ne 25, 3) := by decide +kernel
theorem d_fIsUsed_76 : decode prog_9_method_13_code 76 = .ok (.aload_n 0, 1) := by decide +kernel
theorem d_fIsUsed_77 : decode prog_9_method_13_code 77 = .ok (.aload_n 0, 1) := by decide +kernel
theorem d_fIsUsed_78 : decode prog_9_method_13_code 78 = .ok (.getfield 22, 3) := by decide +kernel
theorem d_fIsUsed_81 : decode prog_9_method_13_code 81 = .ok (.iload_n 3, 1) := by decide +kernel
theorem d_fIsUsed_82 : decode prog_9_method_13_code 82 = .ok (.iaload, 1) := by decide +kernel
theorem d_fIsUsed_83 : decode prog_9_method_13_code 83 = .ok (.iconst 0, 1) := by decide +kernel
theorem d_fIsUsed_84 : decode prog_9_method_13_code 84 = .ok (.invokevirtual 69, 3) := by decide +kernel
theorem d_fIsUsed_87 : decode prog_9_method_13_code 87 = .ok (.aload_n 0, 1) := by decide +kernel
theorem d_fIsUsed_88 : decode prog_9_method_13_code 88 = .ok (.aload_n 0, 1) := by decide +kernel
theorem d_fIsUsed_89 : decode prog_9_method_13_code 89 = .ok (.getfield 25, 3) := by decide +kernel
theorem d_fIsUsed_92 : decode prog_9_method_13_code 92 = .ok (.iload_n 3, 1) := by decide +kernel
theorem d_fIsUsed_93 : decode prog_9_method_13_code 93 = .ok (.iaload, 1) := by decide +kernel
theorem d_fIsUsed_94 : decode prog_9_method_13_code 94 = .ok (.iconst 0, 1) := by decide +kernel
theorem d_fIsUsed_95 : decode prog_9_method_13_code 95 = .ok (.invokevirtual 69, 3) := by decide +kernel
theorem d_fIsUsed_98 : decode prog_9_method_13_code 98 = .ok (.goto (-72), 3) := by decide +kernel
theorem d_fIsUsed_101 : decode prog_9_method_13_code 101 = .ok (.iconst 0, 1) := by decide +kernel
theorem d_fIsUsed_102 : decode prog_9_method_13_code 102 = .ok (.ireturn, 1) := by decide +kernel
