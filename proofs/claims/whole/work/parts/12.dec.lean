theorem d_withHolder_0 : decode prog_2_method_13_code 0 = .ok (.iconst 1, 1) := by decide +kernel
theorem d_withHolder_1 : decode prog_2_method_13_code 1 = .ok (.iload_n 1, 1) := by decide +kernel
theorem d_withHolder_2 : decode prog_2_method_13_code 2 = .ok (.ishl, 1) := by decide +kernel
theorem d_withHolder_3 : decode prog_2_method_13_code 3 = .ok (.istore_n 3, 1) := by decide +kernel
theorem d_withHolder_4 : decode prog_2_method_13_code 4 = .ok (.iload_n 2, 1) := by decide +kernel
theorem d_withHolder_5 : decode prog_2_method_13_code 5 = .ok (.ifCond .eq 9, 3) := by decide +kernel
theorem d_withHolder_8 : decode prog_2_method_13_code 8 = .ok (.iload_n 0, 1) := by decide +kernel
theorem d_withHolder_9 : decode prog_2_method_13_code 9 = .ok (.iload_n 3, 1) := by decide +kernel
theorem d_withHolder_10 : decode prog_2_method_13_code 10 = .ok (.ior, 1) := by decide +kernel
theorem d_withHolder_11 : decode prog_2_method_13_code 11 = .ok (.goto 8, 3) := by decide +kernel
theorem d_withHolder_14 : decode prog_2_method_13_code 14 = .ok (.iload_n 0, 1) := by decide +kernel
theorem d_withHolder_15 : decode prog_2_method_13_code 15 = .ok (.iload_n 3, 1) := by decide +kernel
theorem d_withHolder_16 : decode prog_2_method_13_code 16 = .ok (.iconst (-1), 1) := by decide +kernel
theorem d_withHolder_17 : decode prog_2_method_13_code 17 = .ok (.ixor, 1) := by decide +kernel
theorem d_withHolder_18 : decode prog_2_method_13_code 18 = .ok (.iand, 1) := by decide +kernel
theorem d_withHolder_19 : decode prog_2_method_13_code 19 = .ok (.ireturn, 1) := by decide +kernel
theorem d_heldBehind_0 : decode prog_2_method_12_code 0 = .ok (.aload_n 0, 1) := by decide +kernel
theorem d_heldBehind_1 : decode prog_2_method_12_code 1 = .ok (.iload_n 1, 1) := by decide +kernel
theorem d_heldBehind_2 : decode prog_2_method_12_code 2 = .ok (.invokevirtual 34, 3) := by decide +kernel
theorem d_heldBehind_5 : decode prog_2_method_12_code 5 = .ok (.ifCond .ne 5, 3) := by decide +kernel
theorem d_heldBehind_8 : decode prog_2_method_12_code 8 = .ok (.iconst 0, 1) := by decide +kernel
theorem d_heldBehind_9 : decode prog_2_method_12_code 9 = .ok (.ireturn, 1) := by decide +kernel
theorem d_heldBehind_10 : decode prog_2_method_12_code 10 = .ok (.aload_n 0, 1) := by decide +kernel
theorem d_heldBehind_11 : decode prog_2_method_12_code 11 = .ok (.getfield 9, 3) := by decide +kernel
theorem d_heldBehind_14 : decode prog_2_method_12_code 14 = .ok (.iload_n 1, 1) := by decide +kernel
theorem d_heldBehind_15 : decode prog_2_method_12_code 15 = .ok (.iaload, 1) := by decide +kernel
theorem d_heldBehind_16 : decode prog_2_method_12_code 16 = .ok (.tableswitch 90 1 3 #[28, 49, 78], 28) := by decide +kernel
theorem d_heldBehind_44 : decode prog_2_method_12_code 44 = .ok (.iload_n 3, 1) := by decide +kernel
theorem d_heldBehind_45 : decode prog_2_method_12_code 45 = .ok (.aload_n 0, 1) := by decide +kernel
theorem d_heldBehind_46 : decode prog_2_method_12_code 46 = .ok (.getfield 15, 3) := by decide +kernel
theorem d_heldBehind_49 : decode prog_2_method_12_code 49 = .ok (.iload_n 1, 1) := by decide +kernel
theorem d_heldBehind_50 : decode prog_2_method_12_code 50 = .ok (.iaload, 1) := by decide +kernel
theorem d_heldBehind_51 : decode prog_2_method_12_code 51 = .ok (.iload_n 1, 1) := by decide +kernel
theorem d_heldBehind_52 : decode prog_2_method_12_code 52 = .ok (.iload_n 2, 1) := by decide +kernel
theorem d_heldBehind_53 : decode prog_2_method_12_code 53 = .ok (.if_icmp .ne 7, 3) := by decide +kernel
theorem d_heldBehind_56 : decode prog_2_method_12_code 56 = .ok (.iconst 1, 1) := by decide +kernel
theorem d_heldBehind_57 : decode prog_2_method_12_code 57 = .ok (.goto 4, 3) := by decide +kernel
theorem d_heldBehind_60 : decode prog_2_method_12_code 60 = .ok (.iconst 0, 1) := by decide +kernel
theorem d_heldBehind_61 : decode prog_2_method_12_code 61 = .ok (.invokestatic 45, 3) := by decide +kernel
theorem d_heldBehind_64 : decode prog_2_method_12_code 64 = .ok (.ireturn, 1) := by decide +kernel
theorem d_heldBehind_65 : decode prog_2_method_12_code 65 = .ok (.iload_n 3, 1) := by decide +kernel
theorem d_heldBehind_66 : decode prog_2_method_12_code 66 = .ok (.aload_n 0, 1) := by decide +kernel
theorem d_heldBehind_67 : decode prog_2_method_12_code 67 = .ok (.getfield 15, 3) := by decide +kernel
theorem d_heldBehind_70 : decode prog_2_method_12_code 70 = .ok (.iload_n 1, 1) := by decide +kernel
theorem d_heldBehind_71 : decode prog_2_method_12_code 71 = .ok (.iaload, 1) := by decide +kernel
theorem d_heldBehind_72 : decode prog_2_method_12_code 72 = .ok (.iload_n 3, 1) := by decide +kernel
theorem d_heldBehind_73 : decode prog_2_method_12_code 73 = .ok (.iconst 1, 1) := by decide +kernel
theorem d_heldBehind_74 : decode prog_2_method_12_code 74 = .ok (.aload_n 0, 1) := by decide +kernel
theorem d_heldBehind_75 : decode prog_2_method_12_code 75 = .ok (.getfield 18, 3) := by decide +kernel
theorem d_heldBehind_78 : decode prog_2_method_12_code 78 = .ok (.iload_n 1, 1) := by decide +kernel
theorem d_heldBehind_79 : decode prog_2_method_12_code 79 = .ok (.iaload, 1) := by decide +kernel
theorem d_heldBehind_80 : decode prog_2_method_12_code 80 = .ok (.ishl, 1) := by decide +kernel
theorem d_heldBehind_81 : decode prog_2_method_12_code 81 = .ok (.iand, 1) := by decide +kernel
theorem d_heldBehind_82 : decode prog_2_method_12_code 82 = .ok (.ifCond .eq 7, 3) := by decide +kernel
theorem d_heldBehind_85 : decode prog_2_method_12_code 85 = .ok (.iconst 1, 1) := by decide +kernel
theorem d_heldBehind_86 : decode prog_2_method_12_code 86 = .ok (.goto 4, 3) := by decide +kernel
theorem d_heldBehind_89 : decode prog_2_method_12_code 89 = .ok (.iconst 0, 1) := by decide +kernel
theorem d_heldBehind_90 : decode prog_2_method_12_code 90 = .ok (.invokestatic 45, 3) := by decide +kernel
theorem d_heldBehind_93 : decode prog_2_method_12_code 93 = .ok (.ireturn, 1) := by decide +kernel
theorem d_heldBehind_94 : decode prog_2_method_12_code 94 = .ok (.iload_n 3, 1) := by decide +kernel
theorem d_heldBehind_95 : decode prog_2_method_12_code 95 = .ok (.aload_n 0, 1) := by decide +kernel
theorem d_heldBehind_96 : decode prog_2_method_12_code 96 = .ok (.getfield 15, 3) := by decide +kernel
theorem d_heldBehind_99 : decode prog_2_method_12_code 99 = .ok (.iload_n 1, 1) := by decide +kernel
theorem d_heldBehind_100 : decode prog_2_method_12_code 100 = .ok (.iaload, 1) := by decide +kernel
theorem d_heldBehind_101 : decode prog_2_method_12_code 101 = .ok (.iconst 0, 1) := by decide +kernel
theorem d_heldBehind_102 : decode prog_2_method_12_code 102 = .ok (.invokestatic 45, 3) := by decide +kernel
theorem d_heldBehind_105 : decode prog_2_method_12_code 105 = .ok (.ireturn, 1) := by decide +kernel
theorem d_heldBehind_106 : decode prog_2_method_12_code 106 = .ok (.iload_n 3, 1) := by decide +kernel
theorem d_heldBehind_107 : decode prog_2_method_12_code 107 = .ok (.ireturn, 1) := by decide +kernel
theorem d_usedFrom_0 : decode prog_2_method_14_code 0 = .ok (.aload_n 0, 1) := by decide +kernel
theorem d_usedFrom_1 : decode prog_2_method_14_code 1 = .ok (.iload_n 1, 1) := by decide +kernel
theorem d_usedFrom_2 : decode prog_2_method_14_code 2 = .ok (.invokevirtual 34, 3) := by decide +kernel
theorem d_usedFrom_5 : decode prog_2_method_14_code 5 = .ok (.ifCond .ne 5, 3) := by decide +kernel
theorem d_usedFrom_8 : decode prog_2_method_14_code 8 = .ok (.iconst 0, 1) := by decide +kernel
theorem d_usedFrom_9 : decode prog_2_method_14_code 9 = .ok (.ireturn, 1) := by decide +kernel
theorem d_usedFrom_10 : decode prog_2_method_14_code 10 = .ok (.aload_n 0, 1) := by decide +kernel
theorem d_usedFrom_11 : decode prog_2_method_14_code 11 = .ok (.getfield 9, 3) := by decide +kernel
theorem d_usedFrom_14 : decode prog_2_method_14_code 14 = .ok (.iload_n 1, 1) := by decide +kernel
theorem d_usedFrom_15 : decode prog_2_method_14_code 15 = .ok (.iaload, 1) := by decide +kernel
theorem d_usedFrom_16 : decode prog_2_method_14_code 16 = .ok (.tableswitch 78 1 4 #[32, 45, 32, 67], 32) := by decide +kernel
theorem d_usedFrom_48 : decode prog_2_method_14_code 48 = .ok (.iload_n 2, 1) := by decide +kernel
theorem d_usedFrom_49 : decode prog_2_method_14_code 49 = .ok (.iconst 1, 1) := by decide +kernel
theorem d_usedFrom_50 : decode prog_2_method_14_code 50 = .ok (.aload_n 0, 1) := by decide +kernel
theorem d_usedFrom_51 : decode prog_2_method_14_code 51 = .ok (.getfield 15, 3) := by decide +kernel
theorem d_usedFrom_54 : decode prog_2_method_14_code 54 = .ok (.iload_n 1, 1) := by decide +kernel
theorem d_usedFrom_55 : decode prog_2_method_14_code 55 = .ok (.iaload, 1) := by decide +kernel
theorem d_usedFrom_56 : decode prog_2_method_14_code 56 = .ok (.ishl, 1) := by decide +kernel
theorem d_usedFrom_57 : decode prog_2_method_14_code 57 = .ok (.iconst (-1), 1) := by decide +kernel
theorem d_usedFrom_58 : decode prog_2_method_14_code 58 = .ok (.ixor, 1) := by decide +kernel
theorem d_usedFrom_59 : decode prog_2_method_14_code 59 = .ok (.iand, 1) := by decide +kernel
theorem d_usedFrom_60 : decode prog_2_method_14_code 60 = .ok (.ireturn, 1) := by decide +kernel
theorem d_usedFrom_61 : decode prog_2_method_14_code 61 = .ok (.iload_n 2, 1) := by decide +kernel
theorem d_usedFrom_62 : decode prog_2_method_14_code 62 = .ok (.iconst 1, 1) := by decide +kernel
theorem d_usedFrom_63 : decode prog_2_method_14_code 63 = .ok (.aload_n 0, 1) := by decide +kernel
theorem d_usedFrom_64 : decode prog_2_method_14_code 64 = .ok (.getfield 15, 3) := by decide +kernel
theorem d_usedFrom_67 : decode prog_2_method_14_code 67 = .ok (.iload_n 1, 1) := by decide +kernel
theorem d_usedFrom_68 : decode prog_2_method_14_code 68 = .ok (.iaload, 1) := by decide +kernel
theorem d_usedFrom_69 : decode prog_2_method_14_code 69 = .ok (.ishl, 1) := by decide +kernel
theorem d_usedFrom_70 : decode prog_2_method_14_code 70 = .ok (.iconst (-1), 1) := by decide +kernel
theorem d_usedFrom_71 : decode prog_2_method_14_code 71 = .ok (.ixor, 1) := by decide +kernel
theorem d_usedFrom_72 : decode prog_2_method_14_code 72 = .ok (.iand, 1) := by decide +kernel
theorem d_usedFrom_73 : decode prog_2_method_14_code 73 = .ok (.iconst 1, 1) := by decide +kernel
theorem d_usedFrom_74 : decode prog_2_method_14_code 74 = .ok (.aload_n 0, 1) := by decide +kernel
theorem d_usedFrom_75 : decode prog_2_method_14_code 75 = .ok (.getfield 18, 3) := by decide +kernel
theorem d_usedFrom_78 : decode prog_2_method_14_code 78 = .ok (.iload_n 1, 1) := by decide +kernel
theorem d_usedFrom_79 : decode prog_2_method_14_code 79 = .ok (.iaload, 1) := by decide +kernel
theorem d_usedFrom_80 : decode prog_2_method_14_code 80 = .ok (.ishl, 1) := by decide +kernel
theorem d_usedFrom_81 : decode prog_2_method_14_code 81 = .ok (.ior, 1) := by decide +kernel
theorem d_usedFrom_82 : decode prog_2_method_14_code 82 = .ok (.ireturn, 1) := by decide +kernel
theorem d_usedFrom_83 : decode prog_2_method_14_code 83 = .ok (.iload_n 2, 1) := by decide +kernel
theorem d_usedFrom_84 : decode prog_2_method_14_code 84 = .ok (.iconst 1, 1) := by decide +kernel
theorem d_usedFrom_85 : decode prog_2_method_14_code 85 = .ok (.aload_n 0, 1) := by decide +kernel
theorem d_usedFrom_86 : decode prog_2_method_14_code 86 = .ok (.getfield 15, 3) := by decide +kernel
theorem d_usedFrom_89 : decode prog_2_method_14_code 89 = .ok (.iload_n 1, 1) := by decide +kernel
theorem d_usedFrom_90 : decode prog_2_method_14_code 90 = .ok (.iaload, 1) := by decide +kernel
theorem d_usedFrom_91 : decode prog_2_method_14_code 91 = .ok (.ishl, 1) := by decide +kernel
theorem d_usedFrom_92 : decode prog_2_method_14_code 92 = .ok (.ior, 1) := by decide +kernel
theorem d_usedFrom_93 : decode prog_2_method_14_code 93 = .ok (.ireturn, 1) := by decide +kernel
theorem d_usedFrom_94 : decode prog_2_method_14_code 94 = .ok (.iload_n 2, 1) := by decide +kernel
theorem d_usedFrom_95 : decode prog_2_method_14_code 95 = .ok (.ireturn, 1) := by decide +kernel
theorem d_borrowing_0 : decode prog_2_method_15_code 0 = .ok (.aload_n 0, 1) := by decide +kernel
theorem d_borrowing_1 : decode prog_2_method_15_code 1 = .ok (.iload_n 1, 1) := by decide +kernel
theorem d_borrowing_2 : decode prog_2_method_15_code 2 = .ok (.invokevirtual 38, 3) := by decide +kernel
theorem d_borrowing_5 : decode prog_2_method_15_code 5 = .ok (.ifCond .eq 14, 3) := by decide +kernel
theorem d_borrowing_8 : decode prog_2_method_15_code 8 = .ok (.iconst 1, 1) := by decide +kernel
theorem d_borrowing_9 : decode prog_2_method_15_code 9 = .ok (.aload_n 0, 1) := by decide +kernel
theorem d_borrowing_10 : decode prog_2_method_15_code 10 = .ok (.getfield 15, 3) := by decide +kernel
theorem d_borrowing_13 : decode prog_2_method_15_code 13 = .ok (.iload_n 1, 1) := by decide +kernel
theorem d_borrowing_14 : decode prog_2_method_15_code 14 = .ok (.iaload, 1) := by decide +kernel
theorem d_borrowing_15 : decode prog_2_method_15_code 15 = .ok (.ishl, 1) := by decide +kernel
theorem d_borrowing_16 : decode prog_2_method_15_code 16 = .ok (.goto 4, 3) := by decide +kernel
theorem d_borrowing_19 : decode prog_2_method_15_code 19 = .ok (.iconst 0, 1) := by decide +kernel
theorem d_borrowing_20 : decode prog_2_method_15_code 20 = .ok (.ireturn, 1) := by decide +kernel
theorem d_isChange_0 : decode prog_2_method_17_code 0 = .ok (.aload_n 0, 1) := by decide +kernel
theorem d_isChange_1 : decode prog_2_method_17_code 1 = .ok (.iload_n 1, 1) := by decide +kernel
theorem d_isChange_2 : decode prog_2_method_17_code 2 = .ok (.invokevirtual 34, 3) := by decide +kernel
theorem d_isChange_5 : decode prog_2_method_17_code 5 = .ok (.ifCond .eq 38, 3) := by decide +kernel
theorem d_isChange_8 : decode prog_2_method_17_code 8 = .ok (.aload_n 0, 1) := by decide +kernel
theorem d_isChange_9 : decode prog_2_method_17_code 9 = .ok (.getfield 9, 3) := by decide +kernel
theorem d_isChange_12 : decode prog_2_method_17_code 12 = .ok (.iload_n 1, 1) := by decide +kernel
theorem d_isChange_13 : decode prog_2_method_17_code 13 = .ok (.iaload, 1) := by decide +kernel
theorem d_isChange_14 : decode prog_2_method_17_code 14 = .ok (.bipush 6, 2) := by decide +kernel
theorem d_isChange_16 : decode prog_2_method_17_code 16 = .ok (.if_icmp .eq 23, 3) := by decide +kernel
theorem d_isChange_19 : decode prog_2_method_17_code 19 = .ok (.aload_n 0, 1) := by decide +kernel
theorem d_isChange_20 : decode prog_2_method_17_code 20 = .ok (.getfield 9, 3) := by decide +kernel
theorem d_isChange_23 : decode prog_2_method_17_code 23 = .ok (.iload_n 1, 1) := by decide +kernel
theorem d_isChange_24 : decode prog_2_method_17_code 24 = .ok (.iaload, 1) := by decide +kernel
theorem d_isChange_25 : decode prog_2_method_17_code 25 = .ok (.iconst 1, 1) := by decide +kernel
theorem d_isChange_26 : decode prog_2_method_17_code 26 = .ok (.if_icmp .ne 17, 3) := by decide +kernel
theorem d_isChange_29 : decode prog_2_method_17_code 29 = .ok (.aload_n 0, 1) := by decide +kernel
theorem d_isChange_30 : decode prog_2_method_17_code 30 = .ok (.getfield 21, 3) := by decide +kernel
theorem d_isChange_33 : decode prog_2_method_17_code 33 = .ok (.iload_n 1, 1) := by decide +kernel
theorem d_isChange_34 : decode prog_2_method_17_code 34 = .ok (.iaload, 1) := by decide +kernel
theorem d_isChange_35 : decode prog_2_method_17_code 35 = .ok (.iconst 1, 1) := by decide +kernel
theorem d_isChange_36 : decode prog_2_method_17_code 36 = .ok (.if_icmp .ne 7, 3) := by decide +kernel
theorem d_isChange_39 : decode prog_2_method_17_code 39 = .ok (.iconst 1, 1) := by decide +kernel
theorem d_isChange_40 : decode prog_2_method_17_code 40 = .ok (.goto 4, 3) := by decide +kernel
theorem d_isChange_43 : decode prog_2_method_17_code 43 = .ok (.iconst 0, 1) := by decide +kernel
theorem d_isChange_44 : decode prog_2_method_17_code 44 = .ok (.ireturn, 1) := by decide +kernel
theorem d_isLook_0 : decode prog_2_method_18_code 0 = .ok (.aload_n 0, 1) := by decide +kernel
theorem d_isLook_1 : decode prog_2_method_18_code 1 = .ok (.iload_n 1, 1) := by decide +kernel
theorem d_isLook_2 : decode prog_2_method_18_code 2 = .ok (.invokevirtual 34, 3) := by decide +kernel
theorem d_isLook_5 : decode prog_2_method_18_code 5 = .ok (.ifCond .eq 36, 3) := by decide +kernel
theorem d_isLook_8 : decode prog_2_method_18_code 8 = .ok (.aload_n 0, 1) := by decide +kernel
theorem d_isLook_9 : decode prog_2_method_18_code 9 = .ok (.getfield 9, 3) := by decide +kernel
theorem d_isLook_12 : decode prog_2_method_18_code 12 = .ok (.iload_n 1, 1) := by decide +kernel
theorem d_isLook_13 : decode prog_2_method_18_code 13 = .ok (.iaload, 1) := by decide +kernel
theorem d_isLook_14 : decode prog_2_method_18_code 14 = .ok (.iconst 5, 1) := by decide +kernel
theorem d_isLook_15 : decode prog_2_method_18_code 15 = .ok (.if_icmp .eq 22, 3) := by decide +kernel
theorem d_isLook_18 : decode prog_2_method_18_code 18 = .ok (.aload_n 0, 1) := by decide +kernel
theorem d_isLook_19 : decode prog_2_method_18_code 19 = .ok (.getfield 9, 3) := by decide +kernel
theorem d_isLook_22 : decode prog_2_method_18_code 22 = .ok (.iload_n 1, 1) := by decide +kernel
theorem d_isLook_23 : decode prog_2_method_18_code 23 = .ok (.iaload, 1) := by decide +kernel
theorem d_isLook_24 : decode prog_2_method_18_code 24 = .ok (.iconst 1, 1) := by decide +kernel
theorem d_isLook_25 : decode prog_2_method_18_code 25 = .ok (.if_icmp .ne 16, 3) := by decide +kernel
theorem d_isLook_28 : decode prog_2_method_18_code 28 = .ok (.aload_n 0, 1) := by decide +kernel
theorem d_isLook_29 : decode prog_2_method_18_code 29 = .ok (.getfield 21, 3) := by decide +kernel
theorem d_isLook_32 : decode prog_2_method_18_code 32 = .ok (.iload_n 1, 1) := by decide +kernel
theorem d_isLook_33 : decode prog_2_method_18_code 33 = .ok (.iaload, 1) := by decide +kernel
theorem d_isLook_34 : decode prog_2_method_18_code 34 = .ok (.ifCond .ne 7, 3) := by decide +kernel
theorem d_isLook_37 : decode prog_2_method_18_code 37 = .ok (.iconst 1, 1) := by decide +kernel
theorem d_isLook_38 : decode prog_2_method_18_code 38 = .ok (.goto 4, 3) := by decide +kernel
theorem d_isLook_41 : decode prog_2_method_18_code 41 = .ok (.iconst 0, 1) := by decide +kernel
theorem d_isLook_42 : decode prog_2_method_18_code 42 = .ok (.ireturn, 1) := by decide +kernel
theorem d_overlap_0 : decode prog_2_method_19_code 0 = .ok (.iload_n 0, 1) := by decide +kernel
theorem d_overlap_1 : decode prog_2_method_19_code 1 = .ok (.iload_n 1, 1) := by decide +kernel
theorem d_overlap_2 : decode prog_2_method_19_code 2 = .ok (.invokestatic 59, 3) := by decide +kernel
theorem d_overlap_5 : decode prog_2_method_19_code 5 = .ok (.istore_n 2, 1) := by decide +kernel
theorem d_overlap_6 : decode prog_2_method_19_code 6 = .ok (.iload_n 0, 1) := by decide +kernel
theorem d_overlap_7 : decode prog_2_method_19_code 7 = .ok (.iload_n 1, 1) := by decide +kernel
theorem d_overlap_8 : decode prog_2_method_19_code 8 = .ok (.invokestatic 65, 3) := by decide +kernel
theorem d_overlap_11 : decode prog_2_method_19_code 11 = .ok (.istore_n 3, 1) := by decide +kernel
theorem d_overlap_12 : decode prog_2_method_19_code 12 = .ok (.iconst 0, 1) := by decide +kernel
theorem d_overlap_13 : decode prog_2_method_19_code 13 = .ok (.istore 4, 2) := by decide +kernel
theorem d_overlap_15 : decode prog_2_method_19_code 15 = .ok (.iload 4, 2) := by decide +kernel
theorem d_overlap_17 : decode prog_2_method_19_code 17 = .ok (.iconst 4, 1) := by decide +kernel
theorem d_overlap_18 : decode prog_2_method_19_code 18 = .ok (.if_icmp .ge 19, 3) := by decide +kernel
theorem d_overlap_21 : decode prog_2_method_19_code 21 = .ok (.iload_n 3, 1) := by decide +kernel
theorem d_overlap_22 : decode prog_2_method_19_code 22 = .ok (.iload_n 2, 1) := by decide +kernel
theorem d_overlap_23 : decode prog_2_method_19_code 23 = .ok (.if_icmp .le 14, 3) := by decide +kernel
theorem d_overlap_26 : decode prog_2_method_19_code 26 = .ok (.iload_n 3, 1) := by decide +kernel
theorem d_overlap_27 : decode prog_2_method_19_code 27 = .ok (.bipush 10, 2) := by decide +kernel
theorem d_overlap_29 : decode prog_2_method_19_code 29 = .ok (.idiv, 1) := by decide +kernel
theorem d_overlap_30 : decode prog_2_method_19_code 30 = .ok (.istore_n 3, 1) := by decide +kernel
theorem d_overlap_31 : decode prog_2_method_19_code 31 = .ok (.iinc 4 1, 3) := by decide +kernel
theorem d_overlap_34 : decode prog_2_method_19_code 34 = .ok (.goto (-19), 3) := by decide +kernel
theorem d_overlap_37 : decode prog_2_method_19_code 37 = .ok (.iload_n 3, 1) := by decide +kernel
theorem d_overlap_38 : decode prog_2_method_19_code 38 = .ok (.iload_n 2, 1) := by decide +kernel
theorem d_overlap_39 : decode prog_2_method_19_code 39 = .ok (.if_icmp .ne 7, 3) := by decide +kernel
theorem d_overlap_42 : decode prog_2_method_19_code 42 = .ok (.iconst 1, 1) := by decide +kernel
theorem d_overlap_43 : decode prog_2_method_19_code 43 = .ok (.goto 4, 3) := by decide +kernel
theorem d_overlap_46 : decode prog_2_method_19_code 46 = .ok (.iconst 0, 1) := by decide +kernel
theorem d_overlap_47 : decode prog_2_method_19_code 47 = .ok (.ireturn, 1) := by decide +kernel
theorem d_touches_0 : decode prog_2_method_16_code 0 = .ok (.aload_n 0, 1) := by decide +kernel
theorem d_touches_1 : decode prog_2_method_16_code 1 = .ok (.iload_n 1, 1) := by decide +kernel
theorem d_touches_2 : decode prog_2_method_16_code 2 = .ok (.invokevirtual 34, 3) := by decide +kernel
theorem d_touches_5 : decode prog_2_method_16_code 5 = .ok (.ifCond .eq 11, 3) := by decide +kernel
theorem d_touches_8 : decode prog_2_method_16_code 8 = .ok (.aload_n 0, 1) := by decide +kernel
theorem d_touches_9 : decode prog_2_method_16_code 9 = .ok (.iload_n 2, 1) := by decide +kernel
theorem d_touches_10 : decode prog_2_method_16_code 10 = .ok (.invokevirtual 38, 3) := by decide +kernel
theorem d_touches_13 : decode prog_2_method_16_code 13 = .ok (.ifCond .ne 5, 3) := by decide +kernel
theorem d_touches_16 : decode prog_2_method_16_code 16 = .ok (.iconst 0, 1) := by decide +kernel
theorem d_touches_17 : decode prog_2_method_16_code 17 = .ok (.ireturn, 1) := by decide +kernel
theorem d_touches_18 : decode prog_2_method_16_code 18 = .ok (.aload_n 0, 1) := by decide +kernel
theorem d_touches_19 : decode prog_2_method_16_code 19 = .ok (.iload_n 1, 1) := by decide +kernel
theorem d_touches_20 : decode prog_2_method_16_code 20 = .ok (.invokevirtual 49, 3) := by decide +kernel
theorem d_touches_23 : decode prog_2_method_16_code 23 = .ok (.ifCond .ne 21, 3) := by decide +kernel
theorem d_touches_26 : decode prog_2_method_16_code 26 = .ok (.aload_n 0, 1) := by decide +kernel
theorem d_touches_27 : decode prog_2_method_16_code 27 = .ok (.iload_n 1, 1) := by decide +kernel
theorem d_touches_28 : decode prog_2_method_16_code 28 = .ok (.invokevirtual 52, 3) := by decide +kernel
theorem d_touches_31 : decode prog_2_method_16_code 31 = .ok (.ifCond .eq 17, 3) := by decide +kernel
theorem d_touches_34 : decode prog_2_method_16_code 34 = .ok (.aload_n 0, 1) := by decide +kernel
theorem d_touches_35 : decode prog_2_method_16_code 35 = .ok (.getfield 21, 3) := by decide +kernel
theorem d_touches_38 : decode prog_2_method_16_code 38 = .ok (.iload_n 2, 1) := by decide +kernel
theorem d_touches_39 : decode prog_2_method_16_code 39 = .ok (.iaload, 1) := by decide +kernel
theorem d_touches_40 : decode prog_2_method_16_code 40 = .ok (.iconst 1, 1) := by decide +kernel
theorem d_touches_41 : decode prog_2_method_16_code 41 = .ok (.if_icmp .ne 7, 3) := by decide +kernel
theorem d_touches_44 : decode prog_2_method_16_code 44 = .ok (.iconst 1, 1) := by decide +kernel
theorem d_touches_45 : decode prog_2_method_16_code 45 = .ok (.goto 4, 3) := by decide +kernel
theorem d_touches_48 : decode prog_2_method_16_code 48 = .ok (.iconst 0, 1) := by decide +kernel
theorem d_touches_49 : decode prog_2_method_16_code 49 = .ok (.istore_n 3, 1) := by decide +kernel
theorem d_touches_50 : decode prog_2_method_16_code 50 = .ok (.iload_n 3, 1) := by decide +kernel
theorem d_touches_51 : decode prog_2_method_16_code 51 = .ok (.ifCond .eq 25, 3) := by decide +kernel
theorem d_touches_54 : decode prog_2_method_16_code 54 = .ok (.aload_n 0, 1) := by decide +kernel
theorem d_touches_55 : decode prog_2_method_16_code 55 = .ok (.getfield 18, 3) := by decide +kernel
theorem d_touches_58 : decode prog_2_method_16_code 58 = .ok (.iload_n 1, 1) := by decide +kernel
theorem d_touches_59 : decode prog_2_method_16_code 59 = .ok (.iaload, 1) := by decide +kernel
theorem d_touches_60 : decode prog_2_method_16_code 60 = .ok (.aload_n 0, 1) := by decide +kernel
theorem d_touches_61 : decode prog_2_method_16_code 61 = .ok (.getfield 18, 3) := by decide +kernel
theorem d_touches_64 : decode prog_2_method_16_code 64 = .ok (.iload_n 2, 1) := by decide +kernel
theorem d_touches_65 : decode prog_2_method_16_code 65 = .ok (.iaload, 1) := by decide +kernel
theorem d_touches_66 : decode prog_2_method_16_code 66 = .ok (.invokestatic 55, 3) := by decide +kernel
theorem d_touches_69 : decode prog_2_method_16_code 69 = .ok (.ifCond .eq 7, 3) := by decide +kernel
theorem d_touches_72 : decode prog_2_method_16_code 72 = .ok (.iconst 1, 1) := by decide +kernel
theorem d_touches_73 : decode prog_2_method_16_code 73 = .ok (.goto 4, 3) := by decide +kernel
theorem d_touches_76 : decode prog_2_method_16_code 76 = .ok (.iconst 0, 1) := by decide +kernel
theorem d_touches_77 : decode prog_2_method_16_code 77 = .ok (.ireturn, 1) := by decide +kernel
