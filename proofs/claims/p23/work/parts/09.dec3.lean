theorem dL_begins_61 : decode cL_begins 61 = .ok (.imul, 1) := by decide +kernel
theorem dL_begins_62 : decode cL_begins 62 = .ok (.iadd, 1) := by decide +kernel
theorem dL_begins_63 : decode cL_begins 63 = .ok (.bipush 99, 2) := by decide +kernel
theorem dL_begins_65 : decode cL_begins 65 = .ok (.if_icmp .ge 14, 3) := by decide +kernel
theorem dL_begins_68 : decode cL_begins 68 = .ok (.iload 5, 2) := by decide +kernel
theorem dL_begins_70 : decode cL_begins 70 = .ok (.iload 7, 2) := by decide +kernel
theorem dL_begins_72 : decode cL_begins 72 = .ok (.iload 6, 2) := by decide +kernel
theorem dL_begins_74 : decode cL_begins 74 = .ok (.imul, 1) := by decide +kernel
theorem dL_begins_75 : decode cL_begins 75 = .ok (.iadd, 1) := by decide +kernel
theorem dL_begins_76 : decode cL_begins 76 = .ok (.goto 5, 3) := by decide +kernel
theorem dL_begins_79 : decode cL_begins 79 = .ok (.bipush 99, 2) := by decide +kernel
theorem dL_begins_81 : decode cL_begins 81 = .ok (.bipush 15, 2) := by decide +kernel
theorem dL_begins_83 : decode cL_begins 83 = .ok (.invokestatic 19, 3) := by decide +kernel
theorem dL_begins_86 : decode cL_begins 86 = .ok (.iinc 7 1, 3) := by decide +kernel
theorem dL_begins_89 : decode cL_begins 89 = .ok (.goto (-61), 3) := by decide +kernel
theorem dL_begins_92 : decode cL_begins 92 = .ok (.return_, 1) := by decide +kernel
theorem dL_noise_0 : decode cL_noise 0 = .ok (.aload_n 0, 1) := by decide +kernel
theorem dL_noise_1 : decode cL_noise 1 = .ok (.iconst 2, 1) := by decide +kernel
theorem dL_noise_2 : decode cL_noise 2 = .ok (.bipush 75, 2) := by decide +kernel
theorem dL_noise_4 : decode cL_noise 4 = .ok (.aload_n 0, 1) := by decide +kernel
theorem dL_noise_5 : decode cL_noise 5 = .ok (.iconst 2, 1) := by decide +kernel
theorem dL_noise_6 : decode cL_noise 6 = .ok (.iaload, 1) := by decide +kernel
theorem dL_noise_7 : decode cL_noise 7 = .ok (.imul, 1) := by decide +kernel
theorem dL_noise_8 : decode cL_noise 8 = .ok (.bipush 74, 2) := by decide +kernel
theorem dL_noise_10 : decode cL_noise 10 = .ok (.iadd, 1) := by decide +kernel
theorem dL_noise_11 : decode cL_noise 11 = .ok (.ldc 23, 2) := by decide +kernel
theorem dL_noise_13 : decode cL_noise 13 = .ok (.irem, 1) := by decide +kernel
theorem dL_noise_14 : decode cL_noise 14 = .ok (.iastore, 1) := by decide +kernel
theorem dL_noise_15 : decode cL_noise 15 = .ok (.aload_n 0, 1) := by decide +kernel
theorem dL_noise_16 : decode cL_noise 16 = .ok (.iconst 2, 1) := by decide +kernel
theorem dL_noise_17 : decode cL_noise 17 = .ok (.iaload, 1) := by decide +kernel
theorem dL_noise_18 : decode cL_noise 18 = .ok (.ireturn, 1) := by decide +kernel
theorem dL_all_0 : decode cL_all 0 = .ok (.iconst 0, 1) := by decide +kernel
theorem dL_all_1 : decode cL_all 1 = .ok (.istore_n 2, 1) := by decide +kernel
theorem dL_all_2 : decode cL_all 2 = .ok (.iconst 0, 1) := by decide +kernel
theorem dL_all_3 : decode cL_all 3 = .ok (.istore_n 3, 1) := by decide +kernel
theorem dL_all_4 : decode cL_all 4 = .ok (.iload_n 3, 1) := by decide +kernel
theorem dL_all_5 : decode cL_all 5 = .ok (.aload_n 0, 1) := by decide +kernel
theorem dL_all_6 : decode cL_all 6 = .ok (.iconst 0, 1) := by decide +kernel
theorem dL_all_7 : decode cL_all 7 = .ok (.iaload, 1) := by decide +kernel
theorem dL_all_8 : decode cL_all 8 = .ok (.if_icmp .ge 15, 3) := by decide +kernel
theorem dL_all_11 : decode cL_all 11 = .ok (.iload_n 2, 1) := by decide +kernel
theorem dL_all_12 : decode cL_all 12 = .ok (.aload_n 1, 1) := by decide +kernel
theorem dL_all_13 : decode cL_all 13 = .ok (.iload_n 3, 1) := by decide +kernel
theorem dL_all_14 : decode cL_all 14 = .ok (.iaload, 1) := by decide +kernel
theorem dL_all_15 : decode cL_all 15 = .ok (.iadd, 1) := by decide +kernel
theorem dL_all_16 : decode cL_all 16 = .ok (.istore_n 2, 1) := by decide +kernel
theorem dL_all_17 : decode cL_all 17 = .ok (.iinc 3 1, 3) := by decide +kernel
theorem dL_all_20 : decode cL_all 20 = .ok (.goto (-16), 3) := by decide +kernel
theorem dL_all_23 : decode cL_all 23 = .ok (.iload_n 2, 1) := by decide +kernel
theorem dL_all_24 : decode cL_all 24 = .ok (.ireturn, 1) := by decide +kernel
theorem dL_counts_0 : decode cL_counts 0 = .ok (.lconst 0, 1) := by decide +kernel
theorem dL_counts_1 : decode cL_counts 1 = .ok (.lstore_n 2, 1) := by decide +kernel
theorem dL_counts_2 : decode cL_counts 2 = .ok (.iconst 0, 1) := by decide +kernel
theorem dL_counts_3 : decode cL_counts 3 = .ok (.istore 4, 2) := by decide +kernel
theorem dL_counts_5 : decode cL_counts 5 = .ok (.iload 4, 2) := by decide +kernel
theorem dL_counts_7 : decode cL_counts 7 = .ok (.aload_n 0, 1) := by decide +kernel
theorem dL_counts_8 : decode cL_counts 8 = .ok (.iconst 0, 1) := by decide +kernel
theorem dL_counts_9 : decode cL_counts 9 = .ok (.iaload, 1) := by decide +kernel
theorem dL_counts_10 : decode cL_counts 10 = .ok (.if_icmp .ge 23, 3) := by decide +kernel
theorem dL_counts_13 : decode cL_counts 13 = .ok (.lload_n 2, 1) := by decide +kernel
theorem dL_counts_14 : decode cL_counts 14 = .ok (.aload_n 1, 1) := by decide +kernel
theorem dL_counts_15 : decode cL_counts 15 = .ok (.iload 4, 2) := by decide +kernel
theorem dL_counts_17 : decode cL_counts 17 = .ok (.iaload, 1) := by decide +kernel
theorem dL_counts_18 : decode cL_counts 18 = .ok (.i2l, 1) := by decide +kernel
theorem dL_counts_19 : decode cL_counts 19 = .ok (.aload_n 1, 1) := by decide +kernel
theorem dL_counts_20 : decode cL_counts 20 = .ok (.iload 4, 2) := by decide +kernel
theorem dL_counts_22 : decode cL_counts 22 = .ok (.iaload, 1) := by decide +kernel
theorem dL_counts_23 : decode cL_counts 23 = .ok (.i2l, 1) := by decide +kernel
theorem dL_counts_24 : decode cL_counts 24 = .ok (.lmul, 1) := by decide +kernel
theorem dL_counts_25 : decode cL_counts 25 = .ok (.ladd, 1) := by decide +kernel
theorem dL_counts_26 : decode cL_counts 26 = .ok (.lstore_n 2, 1) := by decide +kernel
theorem dL_counts_27 : decode cL_counts 27 = .ok (.iinc 4 1, 3) := by decide +kernel
theorem dL_counts_30 : decode cL_counts 30 = .ok (.goto (-25), 3) := by decide +kernel
theorem dL_counts_33 : decode cL_counts 33 = .ok (.aload_n 0, 1) := by decide +kernel
theorem dL_counts_34 : decode cL_counts 34 = .ok (.aload_n 1, 1) := by decide +kernel
theorem dL_counts_35 : decode cL_counts 35 = .ok (.invokestatic 24, 3) := by decide +kernel
theorem dL_counts_38 : decode cL_counts 38 = .ok (.i2l, 1) := by decide +kernel
theorem dL_counts_39 : decode cL_counts 39 = .ok (.aload_n 0, 1) := by decide +kernel
theorem dL_counts_40 : decode cL_counts 40 = .ok (.aload_n 1, 1) := by decide +kernel
theorem dL_counts_41 : decode cL_counts 41 = .ok (.invokestatic 24, 3) := by decide +kernel
theorem dL_counts_44 : decode cL_counts 44 = .ok (.i2l, 1) := by decide +kernel
theorem dL_counts_45 : decode cL_counts 45 = .ok (.lmul, 1) := by decide +kernel
theorem dL_counts_46 : decode cL_counts 46 = .ok (.lload_n 2, 1) := by decide +kernel
theorem dL_counts_47 : decode cL_counts 47 = .ok (.ldiv, 1) := by decide +kernel
theorem dL_counts_48 : decode cL_counts 48 = .ok (.l2i, 1) := by decide +kernel
theorem dL_counts_49 : decode cL_counts 49 = .ok (.ireturn, 1) := by decide +kernel
theorem dL_thins_0 : decode cL_thins 0 = .ok (.iconst 0, 1) := by decide +kernel
theorem dL_thins_1 : decode cL_thins 1 = .ok (.istore_n 2, 1) := by decide +kernel
theorem dL_thins_2 : decode cL_thins 2 = .ok (.iconst 0, 1) := by decide +kernel
theorem dL_thins_3 : decode cL_thins 3 = .ok (.istore_n 3, 1) := by decide +kernel
theorem dL_thins_4 : decode cL_thins 4 = .ok (.iconst 0, 1) := by decide +kernel
theorem dL_thins_5 : decode cL_thins 5 = .ok (.istore 4, 2) := by decide +kernel
theorem dL_thins_7 : decode cL_thins 7 = .ok (.iload 4, 2) := by decide +kernel
theorem dL_thins_9 : decode cL_thins 9 = .ok (.aload_n 0, 1) := by decide +kernel
theorem dL_thins_10 : decode cL_thins 10 = .ok (.iconst 0, 1) := by decide +kernel
theorem dL_thins_11 : decode cL_thins 11 = .ok (.iaload, 1) := by decide +kernel
theorem dL_thins_12 : decode cL_thins 12 = .ok (.if_icmp .ge 36, 3) := by decide +kernel
theorem dL_thins_15 : decode cL_thins 15 = .ok (.aload_n 1, 1) := by decide +kernel
theorem dL_thins_16 : decode cL_thins 16 = .ok (.iload 4, 2) := by decide +kernel
theorem dL_thins_18 : decode cL_thins 18 = .ok (.iaload, 1) := by decide +kernel
theorem dL_thins_19 : decode cL_thins 19 = .ok (.istore 5, 2) := by decide +kernel
theorem dL_thins_21 : decode cL_thins 21 = .ok (.iload 5, 2) := by decide +kernel
theorem dL_thins_23 : decode cL_thins 23 = .ok (.ifCond .le 19, 3) := by decide +kernel
theorem dL_thins_26 : decode cL_thins 26 = .ok (.iload_n 2, 1) := by decide +kernel
theorem dL_thins_27 : decode cL_thins 27 = .ok (.iload 5, 2) := by decide +kernel
theorem dL_thins_29 : decode cL_thins 29 = .ok (.irem, 1) := by decide +kernel
theorem dL_thins_30 : decode cL_thins 30 = .ok (.istore 6, 2) := by decide +kernel
theorem dL_thins_32 : decode cL_thins 32 = .ok (.iload 5, 2) := by decide +kernel
theorem dL_thins_34 : decode cL_thins 34 = .ok (.istore_n 2, 1) := by decide +kernel
theorem dL_thins_35 : decode cL_thins 35 = .ok (.iload 6, 2) := by decide +kernel
theorem dL_thins_37 : decode cL_thins 37 = .ok (.istore 5, 2) := by decide +kernel
theorem dL_thins_39 : decode cL_thins 39 = .ok (.goto (-18), 3) := by decide +kernel
theorem dL_thins_42 : decode cL_thins 42 = .ok (.iinc 4 1, 3) := by decide +kernel
theorem dL_thins_45 : decode cL_thins 45 = .ok (.goto (-38), 3) := by decide +kernel
theorem dL_thins_48 : decode cL_thins 48 = .ok (.iconst 0, 1) := by decide +kernel
theorem dL_thins_49 : decode cL_thins 49 = .ok (.istore 4, 2) := by decide +kernel
theorem dL_thins_51 : decode cL_thins 51 = .ok (.iload 4, 2) := by decide +kernel
theorem dL_thins_53 : decode cL_thins 53 = .ok (.aload_n 0, 1) := by decide +kernel
theorem dL_thins_54 : decode cL_thins 54 = .ok (.iconst 0, 1) := by decide +kernel
theorem dL_thins_55 : decode cL_thins 55 = .ok (.iaload, 1) := by decide +kernel
theorem dL_thins_56 : decode cL_thins 56 = .ok (.if_icmp .ge 44, 3) := by decide +kernel
theorem dL_thins_59 : decode cL_thins 59 = .ok (.aload_n 1, 1) := by decide +kernel
theorem dL_thins_60 : decode cL_thins 60 = .ok (.iload 4, 2) := by decide +kernel
theorem dL_thins_62 : decode cL_thins 62 = .ok (.iload_n 2, 1) := by decide +kernel
theorem dL_thins_63 : decode cL_thins 63 = .ok (.ifCond .ne 7, 3) := by decide +kernel
theorem dL_thins_66 : decode cL_thins 66 = .ok (.iconst 0, 1) := by decide +kernel
theorem dL_thins_67 : decode cL_thins 67 = .ok (.goto 9, 3) := by decide +kernel
theorem dL_thins_70 : decode cL_thins 70 = .ok (.aload_n 1, 1) := by decide +kernel
theorem dL_thins_71 : decode cL_thins 71 = .ok (.iload 4, 2) := by decide +kernel
theorem dL_thins_73 : decode cL_thins 73 = .ok (.iaload, 1) := by decide +kernel
theorem dL_thins_74 : decode cL_thins 74 = .ok (.iload_n 2, 1) := by decide +kernel
theorem dL_thins_75 : decode cL_thins 75 = .ok (.idiv, 1) := by decide +kernel
theorem dL_thins_76 : decode cL_thins 76 = .ok (.iastore, 1) := by decide +kernel
theorem dL_thins_77 : decode cL_thins 77 = .ok (.aload_n 1, 1) := by decide +kernel
theorem dL_thins_78 : decode cL_thins 78 = .ok (.iload 4, 2) := by decide +kernel
theorem dL_thins_80 : decode cL_thins 80 = .ok (.iaload, 1) := by decide +kernel
theorem dL_thins_81 : decode cL_thins 81 = .ok (.iload_n 3, 1) := by decide +kernel
theorem dL_thins_82 : decode cL_thins 82 = .ok (.if_icmp .le 10, 3) := by decide +kernel
theorem dL_thins_85 : decode cL_thins 85 = .ok (.aload_n 1, 1) := by decide +kernel
theorem dL_thins_86 : decode cL_thins 86 = .ok (.iload 4, 2) := by decide +kernel
theorem dL_thins_88 : decode cL_thins 88 = .ok (.iaload, 1) := by decide +kernel
theorem dL_thins_89 : decode cL_thins 89 = .ok (.goto 4, 3) := by decide +kernel
theorem dL_thins_92 : decode cL_thins 92 = .ok (.iload_n 3, 1) := by decide +kernel
theorem dL_thins_93 : decode cL_thins 93 = .ok (.istore_n 3, 1) := by decide +kernel
theorem dL_thins_94 : decode cL_thins 94 = .ok (.iinc 4 1, 3) := by decide +kernel
theorem dL_thins_97 : decode cL_thins 97 = .ok (.goto (-46), 3) := by decide +kernel
theorem dL_thins_100 : decode cL_thins 100 = .ok (.iload_n 3, 1) := by decide +kernel
theorem dL_thins_101 : decode cL_thins 101 = .ok (.ireturn, 1) := by decide +kernel
theorem dL_choose_0 : decode cL_choose 0 = .ok (.aload_n 0, 1) := by decide +kernel
theorem dL_choose_1 : decode cL_choose 1 = .ok (.iconst 0, 1) := by decide +kernel
theorem dL_choose_2 : decode cL_choose 2 = .ok (.iaload, 1) := by decide +kernel
theorem dL_choose_3 : decode cL_choose 3 = .ok (.istore 4, 2) := by decide +kernel
theorem dL_choose_5 : decode cL_choose 5 = .ok (.aload_n 0, 1) := by decide +kernel
theorem dL_choose_6 : decode cL_choose 6 = .ok (.aload_n 1, 1) := by decide +kernel
theorem dL_choose_7 : decode cL_choose 7 = .ok (.invokestatic 24, 3) := by decide +kernel
theorem dL_choose_10 : decode cL_choose 10 = .ok (.i2l, 1) := by decide +kernel
theorem dL_choose_11 : decode cL_choose 11 = .ok (.lstore 5, 2) := by decide +kernel
theorem dL_choose_13 : decode cL_choose 13 = .ok (.iconst 0, 1) := by decide +kernel
theorem dL_choose_14 : decode cL_choose 14 = .ok (.istore 7, 2) := by decide +kernel
theorem dL_choose_16 : decode cL_choose 16 = .ok (.iload_n 2, 1) := by decide +kernel
theorem dL_choose_17 : decode cL_choose 17 = .ok (.iconst 2, 1) := by decide +kernel
theorem dL_choose_18 : decode cL_choose 18 = .ok (.if_icmp .ge 119, 3) := by decide +kernel
theorem dL_choose_21 : decode cL_choose 21 = .ok (.iconst 0, 1) := by decide +kernel
theorem dL_choose_22 : decode cL_choose 22 = .ok (.istore 8, 2) := by decide +kernel
theorem dL_choose_24 : decode cL_choose 24 = .ok (.iload 8, 2) := by decide +kernel
theorem dL_choose_26 : decode cL_choose 26 = .ok (.iload 4, 2) := by decide +kernel
theorem dL_choose_28 : decode cL_choose 28 = .ok (.if_icmp .ge 108, 3) := by decide +kernel
theorem dL_choose_31 : decode cL_choose 31 = .ok (.iload 8, 2) := by decide +kernel
theorem dL_choose_33 : decode cL_choose 33 = .ok (.i2l, 1) := by decide +kernel
theorem dL_choose_34 : decode cL_choose 34 = .ok (.lload 5, 2) := by decide +kernel
theorem dL_choose_36 : decode cL_choose 36 = .ok (.lmul, 1) := by decide +kernel
theorem dL_choose_37 : decode cL_choose 37 = .ok (.iload_n 2, 1) := by decide +kernel
theorem dL_choose_38 : decode cL_choose 38 = .ok (.ifCond .ne 18, 3) := by decide +kernel
theorem dL_choose_41 : decode cL_choose 41 = .ok (.aload_n 0, 1) := by decide +kernel
theorem dL_choose_42 : decode cL_choose 42 = .ok (.bipush 7, 2) := by decide +kernel
theorem dL_choose_44 : decode cL_choose 44 = .ok (.iaload, 1) := by decide +kernel
theorem dL_choose_45 : decode cL_choose 45 = .ok (.i2l, 1) := by decide +kernel
theorem dL_choose_46 : decode cL_choose 46 = .ok (.lload 5, 2) := by decide +kernel
theorem dL_choose_48 : decode cL_choose 48 = .ok (.lmul, 1) := by decide +kernel
theorem dL_choose_49 : decode cL_choose 49 = .ok (.ldc2_w 28, 3) := by decide +kernel
theorem dL_choose_52 : decode cL_choose 52 = .ok (.ldiv, 1) := by decide +kernel
theorem dL_choose_53 : decode cL_choose 53 = .ok (.goto 11, 3) := by decide +kernel
theorem dL_choose_56 : decode cL_choose 56 = .ok (.aload_n 0, 1) := by decide +kernel
theorem dL_choose_57 : decode cL_choose 57 = .ok (.invokestatic 30, 3) := by decide +kernel
theorem dL_choose_60 : decode cL_choose 60 = .ok (.i2l, 1) := by decide +kernel
theorem dL_choose_61 : decode cL_choose 61 = .ok (.lload 5, 2) := by decide +kernel
theorem dL_choose_63 : decode cL_choose 63 = .ok (.lrem, 1) := by decide +kernel
theorem dL_choose_64 : decode cL_choose 64 = .ok (.ladd, 1) := by decide +kernel
theorem dL_choose_65 : decode cL_choose 65 = .ok (.lstore 9, 2) := by decide +kernel
theorem dL_choose_67 : decode cL_choose 67 = .ok (.lconst 0, 1) := by decide +kernel
theorem dL_choose_68 : decode cL_choose 68 = .ok (.lstore 11, 2) := by decide +kernel
theorem dL_choose_70 : decode cL_choose 70 = .ok (.aload_n 3, 1) := by decide +kernel
theorem dL_choose_71 : decode cL_choose 71 = .ok (.iload 8, 2) := by decide +kernel
theorem dL_choose_73 : decode cL_choose 73 = .ok (.iconst (-1), 1) := by decide +kernel
theorem dL_choose_74 : decode cL_choose 74 = .ok (.iastore, 1) := by decide +kernel
theorem dL_choose_75 : decode cL_choose 75 = .ok (.iconst 0, 1) := by decide +kernel
theorem dL_choose_76 : decode cL_choose 76 = .ok (.istore 13, 2) := by decide +kernel
theorem dL_choose_78 : decode cL_choose 78 = .ok (.iload 13, 2) := by decide +kernel
theorem dL_choose_80 : decode cL_choose 80 = .ok (.iload 4, 2) := by decide +kernel
theorem dL_choose_82 : decode cL_choose 82 = .ok (.if_icmp .ge 48, 3) := by decide +kernel
theorem dL_choose_85 : decode cL_choose 85 = .ok (.aload_n 3, 1) := by decide +kernel
theorem dL_choose_86 : decode cL_choose 86 = .ok (.iload 8, 2) := by decide +kernel
theorem dL_choose_88 : decode cL_choose 88 = .ok (.iaload, 1) := by decide +kernel
theorem dL_choose_89 : decode cL_choose 89 = .ok (.ifCond .ge 41, 3) := by decide +kernel
theorem dL_choose_92 : decode cL_choose 92 = .ok (.lload 11, 2) := by decide +kernel
theorem dL_choose_94 : decode cL_choose 94 = .ok (.aload_n 1, 1) := by decide +kernel
theorem dL_choose_95 : decode cL_choose 95 = .ok (.iload 13, 2) := by decide +kernel
theorem dL_choose_97 : decode cL_choose 97 = .ok (.iaload, 1) := by decide +kernel
theorem dL_choose_98 : decode cL_choose 98 = .ok (.i2l, 1) := by decide +kernel
theorem dL_choose_99 : decode cL_choose 99 = .ok (.ladd, 1) := by decide +kernel
theorem dL_choose_100 : decode cL_choose 100 = .ok (.lstore 11, 2) := by decide +kernel
theorem dL_choose_102 : decode cL_choose 102 = .ok (.aload_n 3, 1) := by decide +kernel
theorem dL_choose_103 : decode cL_choose 103 = .ok (.iload 8, 2) := by decide +kernel
theorem dL_choose_105 : decode cL_choose 105 = .ok (.lload 11, 2) := by decide +kernel
theorem dL_choose_107 : decode cL_choose 107 = .ok (.iload 4, 2) := by decide +kernel
theorem dL_choose_109 : decode cL_choose 109 = .ok (.i2l, 1) := by decide +kernel
theorem dL_choose_110 : decode cL_choose 110 = .ok (.lmul, 1) := by decide +kernel
theorem dL_choose_111 : decode cL_choose 111 = .ok (.lload 9, 2) := by decide +kernel
theorem dL_choose_113 : decode cL_choose 113 = .ok (.lcmp, 1) := by decide +kernel
theorem dL_choose_114 : decode cL_choose 114 = .ok (.ifCond .le 8, 3) := by decide +kernel
theorem dL_choose_117 : decode cL_choose 117 = .ok (.iload 13, 2) := by decide +kernel
theorem dL_choose_119 : decode cL_choose 119 = .ok (.goto 4, 3) := by decide +kernel
theorem dL_choose_122 : decode cL_choose 122 = .ok (.iconst (-1), 1) := by decide +kernel
theorem dL_choose_123 : decode cL_choose 123 = .ok (.iastore, 1) := by decide +kernel
theorem dL_choose_124 : decode cL_choose 124 = .ok (.iinc 13 1, 3) := by decide +kernel
theorem dL_choose_127 : decode cL_choose 127 = .ok (.goto (-49), 3) := by decide +kernel
theorem dL_choose_130 : decode cL_choose 130 = .ok (.iinc 8 1, 3) := by decide +kernel
theorem dL_choose_133 : decode cL_choose 133 = .ok (.goto (-109), 3) := by decide +kernel
theorem dL_choose_136 : decode cL_choose 136 = .ok (.return_, 1) := by decide +kernel
theorem dL_choose_137 : decode cL_choose 137 = .ok (.iconst 0, 1) := by decide +kernel
theorem dL_choose_138 : decode cL_choose 138 = .ok (.istore 8, 2) := by decide +kernel
theorem dL_choose_140 : decode cL_choose 140 = .ok (.iconst 0, 1) := by decide +kernel
theorem dL_choose_141 : decode cL_choose 141 = .ok (.istore 9, 2) := by decide +kernel
theorem dL_choose_143 : decode cL_choose 143 = .ok (.iload 9, 2) := by decide +kernel
theorem dL_choose_145 : decode cL_choose 145 = .ok (.iload 4, 2) := by decide +kernel
theorem dL_choose_147 : decode cL_choose 147 = .ok (.if_icmp .ge 27, 3) := by decide +kernel
theorem dL_choose_150 : decode cL_choose 150 = .ok (.iload 8, 2) := by decide +kernel
theorem dL_choose_152 : decode cL_choose 152 = .ok (.iload 4, 2) := by decide +kernel
theorem dL_choose_154 : decode cL_choose 154 = .ok (.i2l, 1) := by decide +kernel
theorem dL_choose_155 : decode cL_choose 155 = .ok (.aload_n 1, 1) := by decide +kernel
theorem dL_choose_156 : decode cL_choose 156 = .ok (.iload 9, 2) := by decide +kernel
theorem dL_choose_158 : decode cL_choose 158 = .ok (.iaload, 1) := by decide +kernel
theorem dL_choose_159 : decode cL_choose 159 = .ok (.i2l, 1) := by decide +kernel
theorem dL_choose_160 : decode cL_choose 160 = .ok (.lmul, 1) := by decide +kernel
theorem dL_choose_161 : decode cL_choose 161 = .ok (.lload 5, 2) := by decide +kernel
theorem dL_choose_163 : decode cL_choose 163 = .ok (.ldiv, 1) := by decide +kernel
theorem dL_choose_164 : decode cL_choose 164 = .ok (.l2i, 1) := by decide +kernel
theorem dL_choose_165 : decode cL_choose 165 = .ok (.iadd, 1) := by decide +kernel
theorem dL_choose_166 : decode cL_choose 166 = .ok (.istore 8, 2) := by decide +kernel
theorem dL_choose_168 : decode cL_choose 168 = .ok (.iinc 9 1, 3) := by decide +kernel
theorem dL_choose_171 : decode cL_choose 171 = .ok (.goto (-28), 3) := by decide +kernel
theorem dL_choose_174 : decode cL_choose 174 = .ok (.iconst 0, 1) := by decide +kernel
theorem dL_choose_175 : decode cL_choose 175 = .ok (.istore 9, 2) := by decide +kernel
theorem dL_choose_177 : decode cL_choose 177 = .ok (.iload 9, 2) := by decide +kernel
theorem dL_choose_179 : decode cL_choose 179 = .ok (.iload 4, 2) := by decide +kernel
theorem dL_choose_181 : decode cL_choose 181 = .ok (.if_icmp .ge 149, 3) := by decide +kernel
theorem dL_choose_184 : decode cL_choose 184 = .ok (.iload 4, 2) := by decide +kernel
theorem dL_choose_186 : decode cL_choose 186 = .ok (.i2l, 1) := by decide +kernel
theorem dL_choose_187 : decode cL_choose 187 = .ok (.aload_n 1, 1) := by decide +kernel
theorem dL_choose_188 : decode cL_choose 188 = .ok (.iload 9, 2) := by decide +kernel
theorem dL_choose_190 : decode cL_choose 190 = .ok (.iaload, 1) := by decide +kernel
theorem dL_choose_191 : decode cL_choose 191 = .ok (.i2l, 1) := by decide +kernel
theorem dL_choose_192 : decode cL_choose 192 = .ok (.lmul, 1) := by decide +kernel
theorem dL_choose_193 : decode cL_choose 193 = .ok (.lload 5, 2) := by decide +kernel
theorem dL_choose_195 : decode cL_choose 195 = .ok (.ldiv, 1) := by decide +kernel
theorem dL_choose_196 : decode cL_choose 196 = .ok (.l2i, 1) := by decide +kernel
theorem dL_choose_197 : decode cL_choose 197 = .ok (.istore 10, 2) := by decide +kernel
theorem dL_choose_199 : decode cL_choose 199 = .ok (.iload 4, 2) := by decide +kernel
theorem dL_choose_201 : decode cL_choose 201 = .ok (.i2l, 1) := by decide +kernel
theorem dL_choose_202 : decode cL_choose 202 = .ok (.aload_n 1, 1) := by decide +kernel
theorem dL_choose_203 : decode cL_choose 203 = .ok (.iload 9, 2) := by decide +kernel
theorem dL_choose_205 : decode cL_choose 205 = .ok (.iaload, 1) := by decide +kernel
theorem dL_choose_206 : decode cL_choose 206 = .ok (.i2l, 1) := by decide +kernel
theorem dL_choose_207 : decode cL_choose 207 = .ok (.lmul, 1) := by decide +kernel
theorem dL_choose_208 : decode cL_choose 208 = .ok (.lload 5, 2) := by decide +kernel
theorem dL_choose_210 : decode cL_choose 210 = .ok (.lrem, 1) := by decide +kernel
theorem dL_choose_211 : decode cL_choose 211 = .ok (.lstore 11, 2) := by decide +kernel
theorem dL_choose_213 : decode cL_choose 213 = .ok (.iconst 0, 1) := by decide +kernel
theorem dL_choose_214 : decode cL_choose 214 = .ok (.istore 13, 2) := by decide +kernel
theorem dL_choose_216 : decode cL_choose 216 = .ok (.iconst 0, 1) := by decide +kernel
theorem dL_choose_217 : decode cL_choose 217 = .ok (.istore 14, 2) := by decide +kernel
theorem dL_choose_219 : decode cL_choose 219 = .ok (.iload 14, 2) := by decide +kernel
theorem dL_choose_221 : decode cL_choose 221 = .ok (.iload 4, 2) := by decide +kernel
theorem dL_choose_223 : decode cL_choose 223 = .ok (.if_icmp .ge 56, 3) := by decide +kernel
theorem dL_choose_226 : decode cL_choose 226 = .ok (.iload 4, 2) := by decide +kernel
theorem dL_choose_228 : decode cL_choose 228 = .ok (.i2l, 1) := by decide +kernel
theorem dL_choose_229 : decode cL_choose 229 = .ok (.aload_n 1, 1) := by decide +kernel
theorem dL_choose_230 : decode cL_choose 230 = .ok (.iload 14, 2) := by decide +kernel
theorem dL_choose_232 : decode cL_choose 232 = .ok (.iaload, 1) := by decide +kernel
theorem dL_choose_233 : decode cL_choose 233 = .ok (.i2l, 1) := by decide +kernel
theorem dL_choose_234 : decode cL_choose 234 = .ok (.lmul, 1) := by decide +kernel
theorem dL_choose_235 : decode cL_choose 235 = .ok (.lload 5, 2) := by decide +kernel
theorem dL_choose_237 : decode cL_choose 237 = .ok (.lrem, 1) := by decide +kernel
theorem dL_choose_238 : decode cL_choose 238 = .ok (.lstore 15, 2) := by decide +kernel
theorem dL_choose_240 : decode cL_choose 240 = .ok (.iload 13, 2) := by decide +kernel
theorem dL_choose_242 : decode cL_choose 242 = .ok (.lload 15, 2) := by decide +kernel
theorem dL_choose_244 : decode cL_choose 244 = .ok (.lload 11, 2) := by decide +kernel
theorem dL_choose_246 : decode cL_choose 246 = .ok (.lcmp, 1) := by decide +kernel
theorem dL_choose_247 : decode cL_choose 247 = .ok (.ifCond .gt 18, 3) := by decide +kernel
theorem dL_choose_250 : decode cL_choose 250 = .ok (.lload 15, 2) := by decide +kernel
theorem dL_choose_252 : decode cL_choose 252 = .ok (.lload 11, 2) := by decide +kernel
theorem dL_choose_254 : decode cL_choose 254 = .ok (.lcmp, 1) := by decide +kernel
theorem dL_choose_255 : decode cL_choose 255 = .ok (.ifCond .ne 14, 3) := by decide +kernel
theorem dL_choose_258 : decode cL_choose 258 = .ok (.iload 14, 2) := by decide +kernel
theorem dL_choose_260 : decode cL_choose 260 = .ok (.iload 9, 2) := by decide +kernel
theorem dL_choose_262 : decode cL_choose 262 = .ok (.if_icmp .ge 7, 3) := by decide +kernel
theorem dL_choose_265 : decode cL_choose 265 = .ok (.iconst 1, 1) := by decide +kernel
theorem dL_choose_266 : decode cL_choose 266 = .ok (.goto 4, 3) := by decide +kernel
theorem dL_choose_269 : decode cL_choose 269 = .ok (.iconst 0, 1) := by decide +kernel
theorem dL_choose_270 : decode cL_choose 270 = .ok (.iadd, 1) := by decide +kernel
theorem dL_choose_271 : decode cL_choose 271 = .ok (.istore 13, 2) := by decide +kernel
theorem dL_choose_273 : decode cL_choose 273 = .ok (.iinc 14 1, 3) := by decide +kernel
theorem dL_choose_276 : decode cL_choose 276 = .ok (.goto (-57), 3) := by decide +kernel
theorem dL_choose_279 : decode cL_choose 279 = .ok (.iload 10, 2) := by decide +kernel
theorem dL_choose_281 : decode cL_choose 281 = .ok (.iload 13, 2) := by decide +kernel
theorem dL_choose_283 : decode cL_choose 283 = .ok (.iload 4, 2) := by decide +kernel
theorem dL_choose_285 : decode cL_choose 285 = .ok (.iload 8, 2) := by decide +kernel
theorem dL_choose_287 : decode cL_choose 287 = .ok (.isub, 1) := by decide +kernel
theorem dL_choose_288 : decode cL_choose 288 = .ok (.if_icmp .ge 7, 3) := by decide +kernel
theorem dL_choose_291 : decode cL_choose 291 = .ok (.iconst 1, 1) := by decide +kernel
theorem dL_choose_292 : decode cL_choose 292 = .ok (.goto 4, 3) := by decide +kernel
theorem dL_choose_295 : decode cL_choose 295 = .ok (.iconst 0, 1) := by decide +kernel
theorem dL_choose_296 : decode cL_choose 296 = .ok (.iadd, 1) := by decide +kernel
theorem dL_choose_297 : decode cL_choose 297 = .ok (.istore 10, 2) := by decide +kernel
theorem dL_choose_299 : decode cL_choose 299 = .ok (.iconst 0, 1) := by decide +kernel
theorem dL_choose_300 : decode cL_choose 300 = .ok (.istore 14, 2) := by decide +kernel
theorem dL_choose_302 : decode cL_choose 302 = .ok (.iload 14, 2) := by decide +kernel
theorem dL_choose_304 : decode cL_choose 304 = .ok (.iload 10, 2) := by decide +kernel
theorem dL_choose_306 : decode cL_choose 306 = .ok (.if_icmp .ge 18, 3) := by decide +kernel
theorem dL_choose_309 : decode cL_choose 309 = .ok (.aload_n 3, 1) := by decide +kernel
theorem dL_choose_310 : decode cL_choose 310 = .ok (.iload 7, 2) := by decide +kernel
theorem dL_choose_312 : decode cL_choose 312 = .ok (.iload 9, 2) := by decide +kernel
theorem dL_choose_314 : decode cL_choose 314 = .ok (.iastore, 1) := by decide +kernel
theorem dL_choose_315 : decode cL_choose 315 = .ok (.iinc 7 1, 3) := by decide +kernel
theorem dL_choose_318 : decode cL_choose 318 = .ok (.iinc 14 1, 3) := by decide +kernel
theorem dL_choose_321 : decode cL_choose 321 = .ok (.goto (-19), 3) := by decide +kernel
theorem dL_choose_324 : decode cL_choose 324 = .ok (.iinc 9 1, 3) := by decide +kernel
theorem dL_choose_327 : decode cL_choose 327 = .ok (.goto (-150), 3) := by decide +kernel
theorem dL_choose_330 : decode cL_choose 330 = .ok (.return_, 1) := by decide +kernel
theorem dL_unlike_0 : decode cL_unlike 0 = .ok (.iconst 0, 1) := by decide +kernel
theorem dL_unlike_1 : decode cL_unlike 1 = .ok (.istore_n 2, 1) := by decide +kernel
theorem dL_unlike_2 : decode cL_unlike 2 = .ok (.iconst 0, 1) := by decide +kernel
theorem dL_unlike_3 : decode cL_unlike 3 = .ok (.istore_n 3, 1) := by decide +kernel
theorem dL_unlike_4 : decode cL_unlike 4 = .ok (.iload_n 3, 1) := by decide +kernel
theorem dL_unlike_5 : decode cL_unlike 5 = .ok (.iload_n 1, 1) := by decide +kernel
theorem dL_unlike_6 : decode cL_unlike 6 = .ok (.if_icmp .ge 64, 3) := by decide +kernel
theorem dL_unlike_9 : decode cL_unlike 9 = .ok (.iconst 1, 1) := by decide +kernel
theorem dL_unlike_10 : decode cL_unlike 10 = .ok (.istore 4, 2) := by decide +kernel
theorem dL_unlike_12 : decode cL_unlike 12 = .ok (.iload_n 3, 1) := by decide +kernel
theorem dL_unlike_13 : decode cL_unlike 13 = .ok (.iconst 1, 1) := by decide +kernel
theorem dL_unlike_14 : decode cL_unlike 14 = .ok (.iadd, 1) := by decide +kernel
theorem dL_unlike_15 : decode cL_unlike 15 = .ok (.istore 5, 2) := by decide +kernel
theorem dL_unlike_17 : decode cL_unlike 17 = .ok (.iload 5, 2) := by decide +kernel
theorem dL_unlike_19 : decode cL_unlike 19 = .ok (.iload_n 1, 1) := by decide +kernel
theorem dL_unlike_20 : decode cL_unlike 20 = .ok (.if_icmp .ge 31, 3) := by decide +kernel
theorem dL_unlike_23 : decode cL_unlike 23 = .ok (.iload 4, 2) := by decide +kernel
theorem dL_unlike_25 : decode cL_unlike 25 = .ok (.ifCond .eq 17, 3) := by decide +kernel
theorem dL_unlike_28 : decode cL_unlike 28 = .ok (.aload_n 0, 1) := by decide +kernel
theorem dL_unlike_29 : decode cL_unlike 29 = .ok (.iload 5, 2) := by decide +kernel
theorem dL_unlike_31 : decode cL_unlike 31 = .ok (.iaload, 1) := by decide +kernel
theorem dL_unlike_32 : decode cL_unlike 32 = .ok (.aload_n 0, 1) := by decide +kernel
theorem dL_unlike_33 : decode cL_unlike 33 = .ok (.iload_n 3, 1) := by decide +kernel
theorem dL_unlike_34 : decode cL_unlike 34 = .ok (.iaload, 1) := by decide +kernel
theorem dL_unlike_35 : decode cL_unlike 35 = .ok (.if_icmp .eq 7, 3) := by decide +kernel
theorem dL_unlike_38 : decode cL_unlike 38 = .ok (.iconst 1, 1) := by decide +kernel
theorem dL_unlike_39 : decode cL_unlike 39 = .ok (.goto 4, 3) := by decide +kernel
theorem dL_unlike_42 : decode cL_unlike 42 = .ok (.iconst 0, 1) := by decide +kernel
theorem dL_unlike_43 : decode cL_unlike 43 = .ok (.istore 4, 2) := by decide +kernel
theorem dL_unlike_45 : decode cL_unlike 45 = .ok (.iinc 5 1, 3) := by decide +kernel
theorem dL_unlike_48 : decode cL_unlike 48 = .ok (.goto (-31), 3) := by decide +kernel
theorem dL_unlike_51 : decode cL_unlike 51 = .ok (.iload_n 2, 1) := by decide +kernel
theorem dL_unlike_52 : decode cL_unlike 52 = .ok (.iload 4, 2) := by decide +kernel
theorem dL_unlike_54 : decode cL_unlike 54 = .ok (.ifCond .eq 7, 3) := by decide +kernel
theorem dL_unlike_57 : decode cL_unlike 57 = .ok (.iconst 1, 1) := by decide +kernel
theorem dL_unlike_58 : decode cL_unlike 58 = .ok (.goto 4, 3) := by decide +kernel
theorem dL_unlike_61 : decode cL_unlike 61 = .ok (.iconst 0, 1) := by decide +kernel
theorem dL_unlike_62 : decode cL_unlike 62 = .ok (.iadd, 1) := by decide +kernel
theorem dL_unlike_63 : decode cL_unlike 63 = .ok (.istore_n 2, 1) := by decide +kernel
theorem dL_unlike_64 : decode cL_unlike 64 = .ok (.iinc 3 1, 3) := by decide +kernel
theorem dL_unlike_67 : decode cL_unlike 67 = .ok (.goto (-63), 3) := by decide +kernel
theorem dL_unlike_70 : decode cL_unlike 70 = .ok (.iload_n 2, 1) := by decide +kernel
theorem dL_unlike_71 : decode cL_unlike 71 = .ok (.ireturn, 1) := by decide +kernel
theorem dL_again_0 : decode cL_again 0 = .ok (.bipush 12, 2) := by decide +kernel
theorem dL_again_2 : decode cL_again 2 = .ok (.newarray .int, 2) := by decide +kernel
theorem dL_again_4 : decode cL_again 4 = .ok (.astore 4, 2) := by decide +kernel
theorem dL_again_6 : decode cL_again 6 = .ok (.aload_n 0, 1) := by decide +kernel
theorem dL_again_7 : decode cL_again 7 = .ok (.iconst 1, 1) := by decide +kernel
theorem dL_again_8 : decode cL_again 8 = .ok (.iaload, 1) := by decide +kernel
theorem dL_again_9 : decode cL_again 9 = .ok (.istore 5, 2) := by decide +kernel
theorem dL_again_11 : decode cL_again 11 = .ok (.aload_n 0, 1) := by decide +kernel
theorem dL_again_12 : decode cL_again 12 = .ok (.aload_n 1, 1) := by decide +kernel
theorem dL_again_13 : decode cL_again 13 = .ok (.aload_n 0, 1) := by decide +kernel
theorem dL_again_14 : decode cL_again 14 = .ok (.bipush 6, 2) := by decide +kernel
theorem dL_again_16 : decode cL_again 16 = .ok (.iaload, 1) := by decide +kernel
theorem dL_again_17 : decode cL_again 17 = .ok (.aload 4, 2) := by decide +kernel
theorem dL_again_19 : decode cL_again 19 = .ok (.invokestatic 34, 3) := by decide +kernel
theorem dL_again_22 : decode cL_again 22 = .ok (.iconst 0, 1) := by decide +kernel
theorem dL_again_23 : decode cL_again 23 = .ok (.istore 6, 2) := by decide +kernel
theorem dL_again_25 : decode cL_again 25 = .ok (.iload 6, 2) := by decide +kernel
theorem dL_again_27 : decode cL_again 27 = .ok (.aload_n 0, 1) := by decide +kernel
theorem dL_again_28 : decode cL_again 28 = .ok (.iconst 0, 1) := by decide +kernel
theorem dL_again_29 : decode cL_again 29 = .ok (.iaload, 1) := by decide +kernel
theorem dL_again_30 : decode cL_again 30 = .ok (.if_icmp .ge 44, 3) := by decide +kernel
theorem dL_again_33 : decode cL_again 33 = .ok (.aload_n 3, 1) := by decide +kernel
theorem dL_again_34 : decode cL_again 34 = .ok (.iload 5, 2) := by decide +kernel
theorem dL_again_36 : decode cL_again 36 = .ok (.iload 6, 2) := by decide +kernel
theorem dL_again_38 : decode cL_again 38 = .ok (.aload_n 3, 1) := by decide +kernel
theorem dL_again_39 : decode cL_again 39 = .ok (.iload 5, 2) := by decide +kernel
theorem dL_again_41 : decode cL_again 41 = .ok (.iconst 1, 1) := by decide +kernel
theorem dL_again_42 : decode cL_again 42 = .ok (.isub, 1) := by decide +kernel
theorem dL_again_43 : decode cL_again 43 = .ok (.aload 4, 2) := by decide +kernel
theorem dL_again_45 : decode cL_again 45 = .ok (.iload 6, 2) := by decide +kernel
theorem dL_again_47 : decode cL_again 47 = .ok (.iaload, 1) := by decide +kernel
theorem dL_again_48 : decode cL_again 48 = .ok (.invokestatic 13, 3) := by decide +kernel
theorem dL_again_51 : decode cL_again 51 = .ok (.sipush 256, 3) := by decide +kernel
theorem dL_again_54 : decode cL_again 54 = .ok (.irem, 1) := by decide +kernel
theorem dL_again_55 : decode cL_again 55 = .ok (.aload 4, 2) := by decide +kernel
theorem dL_again_57 : decode cL_again 57 = .ok (.iload 6, 2) := by decide +kernel
theorem dL_again_59 : decode cL_again 59 = .ok (.iaload, 1) := by decide +kernel
theorem dL_again_60 : decode cL_again 60 = .ok (.invokestatic 19, 3) := by decide +kernel
theorem dL_again_63 : decode cL_again 63 = .ok (.aload_n 1, 1) := by decide +kernel
theorem dL_again_64 : decode cL_again 64 = .ok (.iload 6, 2) := by decide +kernel
theorem dL_again_66 : decode cL_again 66 = .ok (.iconst 1, 1) := by decide +kernel
theorem dL_again_67 : decode cL_again 67 = .ok (.iastore, 1) := by decide +kernel
theorem dL_again_68 : decode cL_again 68 = .ok (.iinc 6 1, 3) := by decide +kernel
theorem dL_again_71 : decode cL_again 71 = .ok (.goto (-46), 3) := by decide +kernel
theorem dL_again_74 : decode cL_again 74 = .ok (.aload_n 2, 1) := by decide +kernel
theorem dL_again_75 : decode cL_again 75 = .ok (.iconst 3, 1) := by decide +kernel
theorem dL_again_76 : decode cL_again 76 = .ok (.iload 5, 2) := by decide +kernel
theorem dL_again_78 : decode cL_again 78 = .ok (.imul, 1) := by decide +kernel
theorem dL_again_79 : decode cL_again 79 = .ok (.iconst 2, 1) := by decide +kernel
theorem dL_again_80 : decode cL_again 80 = .ok (.iastore, 1) := by decide +kernel
theorem dL_again_81 : decode cL_again 81 = .ok (.aload_n 2, 1) := by decide +kernel
theorem dL_again_82 : decode cL_again 82 = .ok (.iconst 3, 1) := by decide +kernel
theorem dL_again_83 : decode cL_again 83 = .ok (.iload 5, 2) := by decide +kernel
theorem dL_again_85 : decode cL_again 85 = .ok (.imul, 1) := by decide +kernel
theorem dL_again_86 : decode cL_again 86 = .ok (.iconst 2, 1) := by decide +kernel
theorem dL_again_87 : decode cL_again 87 = .ok (.iadd, 1) := by decide +kernel
theorem dL_again_88 : decode cL_again 88 = .ok (.aload_n 0, 1) := by decide +kernel
theorem dL_again_89 : decode cL_again 89 = .ok (.bipush 6, 2) := by decide +kernel
theorem dL_again_91 : decode cL_again 91 = .ok (.iaload, 1) := by decide +kernel
theorem dL_again_92 : decode cL_again 92 = .ok (.iastore, 1) := by decide +kernel
theorem dL_again_93 : decode cL_again 93 = .ok (.aload_n 0, 1) := by decide +kernel
theorem dL_again_94 : decode cL_again 94 = .ok (.iconst 1, 1) := by decide +kernel
theorem dL_again_95 : decode cL_again 95 = .ok (.dup2, 1) := by decide +kernel
theorem dL_again_96 : decode cL_again 96 = .ok (.iaload, 1) := by decide +kernel
theorem dL_again_97 : decode cL_again 97 = .ok (.iconst 1, 1) := by decide +kernel
theorem dL_again_98 : decode cL_again 98 = .ok (.iadd, 1) := by decide +kernel
theorem dL_again_99 : decode cL_again 99 = .ok (.iastore, 1) := by decide +kernel
theorem dL_again_100 : decode cL_again 100 = .ok (.aload_n 0, 1) := by decide +kernel
theorem dL_again_101 : decode cL_again 101 = .ok (.iconst 4, 1) := by decide +kernel
theorem dL_again_102 : decode cL_again 102 = .ok (.dup2, 1) := by decide +kernel
theorem dL_again_103 : decode cL_again 103 = .ok (.iaload, 1) := by decide +kernel
theorem dL_again_104 : decode cL_again 104 = .ok (.iconst 1, 1) := by decide +kernel
theorem dL_again_105 : decode cL_again 105 = .ok (.iadd, 1) := by decide +kernel
theorem dL_again_106 : decode cL_again 106 = .ok (.iastore, 1) := by decide +kernel
theorem dL_again_107 : decode cL_again 107 = .ok (.aload 4, 2) := by decide +kernel
theorem dL_again_109 : decode cL_again 109 = .ok (.aload_n 0, 1) := by decide +kernel
theorem dL_again_110 : decode cL_again 110 = .ok (.iconst 0, 1) := by decide +kernel
theorem dL_again_111 : decode cL_again 111 = .ok (.iaload, 1) := by decide +kernel
theorem dL_again_112 : decode cL_again 112 = .ok (.invokestatic 38, 3) := by decide +kernel
theorem dL_again_115 : decode cL_again 115 = .ok (.ireturn, 1) := by decide +kernel
theorem dL_acts_0 : decode cL_acts 0 = .ok (.iload 5, 2) := by decide +kernel
theorem dL_acts_2 : decode cL_acts 2 = .ok (.iconst 5, 1) := by decide +kernel
theorem dL_acts_3 : decode cL_acts 3 = .ok (.ishr, 1) := by decide +kernel
theorem dL_acts_4 : decode cL_acts 4 = .ok (.ldc 42, 2) := by decide +kernel
theorem dL_acts_6 : decode cL_acts 6 = .ok (.invokestatic 43, 3) := by decide +kernel
theorem dL_acts_9 : decode cL_acts 9 = .ok (.istore 6, 2) := by decide +kernel
theorem dL_acts_11 : decode cL_acts 11 = .ok (.iload 5, 2) := by decide +kernel
theorem dL_acts_13 : decode cL_acts 13 = .ok (.bipush 22, 2) := by decide +kernel
theorem dL_acts_15 : decode cL_acts 15 = .ok (.invokestatic 43, 3) := by decide +kernel
theorem dL_acts_18 : decode cL_acts 18 = .ok (.istore 7, 2) := by decide +kernel
theorem dL_acts_20 : decode cL_acts 20 = .ok (.iload 7, 2) := by decide +kernel
theorem dL_acts_22 : decode cL_acts 22 = .ok (.ifCond .ne 109, 3) := by decide +kernel
theorem dL_acts_25 : decode cL_acts 25 = .ok (.iload 6, 2) := by decide +kernel
theorem dL_acts_27 : decode cL_acts 27 = .ok (.iconst 3, 1) := by decide +kernel
theorem dL_acts_28 : decode cL_acts 28 = .ok (.irem, 1) := by decide +kernel
theorem dL_acts_29 : decode cL_acts 29 = .ok (.ifCond .ne 102, 3) := by decide +kernel
theorem dL_acts_32 : decode cL_acts 32 = .ok (.iconst 1, 1) := by decide +kernel
theorem dL_acts_33 : decode cL_acts 33 = .ok (.iload 6, 2) := by decide +kernel
theorem dL_acts_35 : decode cL_acts 35 = .ok (.iconst 3, 1) := by decide +kernel
theorem dL_acts_36 : decode cL_acts 36 = .ok (.idiv, 1) := by decide +kernel
theorem dL_acts_37 : decode cL_acts 37 = .ok (.bipush 12, 2) := by decide +kernel
theorem dL_acts_39 : decode cL_acts 39 = .ok (.irem, 1) := by decide +kernel
theorem dL_acts_40 : decode cL_acts 40 = .ok (.iadd, 1) := by decide +kernel
theorem dL_acts_41 : decode cL_acts 41 = .ok (.istore 8, 2) := by decide +kernel
theorem dL_acts_43 : decode cL_acts 43 = .ok (.aload_n 1, 1) := by decide +kernel
theorem dL_acts_44 : decode cL_acts 44 = .ok (.iconst 1, 1) := by decide +kernel
theorem dL_acts_45 : decode cL_acts 45 = .ok (.iaload, 1) := by decide +kernel
theorem dL_acts_46 : decode cL_acts 46 = .ok (.istore 9, 2) := by decide +kernel
theorem dL_acts_48 : decode cL_acts 48 = .ok (.aload_n 1, 1) := by decide +kernel
theorem dL_acts_49 : decode cL_acts 49 = .ok (.aload_n 2, 1) := by decide +kernel
theorem dL_acts_50 : decode cL_acts 50 = .ok (.aload_n 3, 1) := by decide +kernel
theorem dL_acts_51 : decode cL_acts 51 = .ok (.aload 4, 2) := by decide +kernel
theorem dL_acts_53 : decode cL_acts 53 = .ok (.iload 8, 2) := by decide +kernel
theorem dL_acts_55 : decode cL_acts 55 = .ok (.iload 6, 2) := by decide +kernel
theorem dL_acts_57 : decode cL_acts 57 = .ok (.bipush 36, 2) := by decide +kernel
theorem dL_acts_59 : decode cL_acts 59 = .ok (.idiv, 1) := by decide +kernel
theorem dL_acts_60 : decode cL_acts 60 = .ok (.bipush 100, 2) := by decide +kernel
theorem dL_acts_62 : decode cL_acts 62 = .ok (.irem, 1) := by decide +kernel
theorem dL_acts_63 : decode cL_acts 63 = .ok (.iload 6, 2) := by decide +kernel
theorem dL_acts_65 : decode cL_acts 65 = .ok (.bipush 7, 2) := by decide +kernel
theorem dL_acts_67 : decode cL_acts 67 = .ok (.idiv, 1) := by decide +kernel
theorem dL_acts_68 : decode cL_acts 68 = .ok (.iload 6, 2) := by decide +kernel
theorem dL_acts_70 : decode cL_acts 70 = .ok (.iconst 2, 1) := by decide +kernel
theorem dL_acts_71 : decode cL_acts 71 = .ok (.irem, 1) := by decide +kernel
theorem dL_acts_72 : decode cL_acts 72 = .ok (.ifCond .ne 8, 3) := by decide +kernel
theorem dL_acts_75 : decode cL_acts 75 = .ok (.bipush 100, 2) := by decide +kernel
theorem dL_acts_77 : decode cL_acts 77 = .ok (.goto 5, 3) := by decide +kernel
theorem dL_acts_80 : decode cL_acts 80 = .ok (.bipush 12, 2) := by decide +kernel
theorem dL_acts_82 : decode cL_acts 82 = .ok (.irem, 1) := by decide +kernel
theorem dL_acts_83 : decode cL_acts 83 = .ok (.invokestatic 47, 3) := by decide +kernel
theorem dL_acts_86 : decode cL_acts 86 = .ok (.aload_n 0, 1) := by decide +kernel
theorem dL_acts_87 : decode cL_acts 87 = .ok (.iload 8, 2) := by decide +kernel
theorem dL_acts_89 : decode cL_acts 89 = .ok (.iload 6, 2) := by decide +kernel
theorem dL_acts_91 : decode cL_acts 91 = .ok (.bipush 36, 2) := by decide +kernel
theorem dL_acts_93 : decode cL_acts 93 = .ok (.idiv, 1) := by decide +kernel
theorem dL_acts_94 : decode cL_acts 94 = .ok (.bipush 100, 2) := by decide +kernel
theorem dL_acts_96 : decode cL_acts 96 = .ok (.irem, 1) := by decide +kernel
theorem dL_acts_97 : decode cL_acts 97 = .ok (.iload 6, 2) := by decide +kernel
theorem dL_acts_99 : decode cL_acts 99 = .ok (.bipush 7, 2) := by decide +kernel
theorem dL_acts_101 : decode cL_acts 101 = .ok (.idiv, 1) := by decide +kernel
theorem dL_acts_102 : decode cL_acts 102 = .ok (.iload 6, 2) := by decide +kernel
theorem dL_acts_104 : decode cL_acts 104 = .ok (.iconst 2, 1) := by decide +kernel
theorem dL_acts_105 : decode cL_acts 105 = .ok (.irem, 1) := by decide +kernel
theorem dL_acts_106 : decode cL_acts 106 = .ok (.ifCond .ne 8, 3) := by decide +kernel
theorem dL_acts_109 : decode cL_acts 109 = .ok (.bipush 100, 2) := by decide +kernel
theorem dL_acts_111 : decode cL_acts 111 = .ok (.goto 5, 3) := by decide +kernel
theorem dL_acts_114 : decode cL_acts 114 = .ok (.bipush 12, 2) := by decide +kernel
theorem dL_acts_116 : decode cL_acts 116 = .ok (.irem, 1) := by decide +kernel
theorem dL_acts_117 : decode cL_acts 117 = .ok (.invokevirtual 51, 3) := by decide +kernel
theorem dL_acts_120 : decode cL_acts 120 = .ok (.iload 9, 2) := by decide +kernel
theorem dL_acts_122 : decode cL_acts 122 = .ok (.if_icmp .ne 7, 3) := by decide +kernel
theorem dL_acts_125 : decode cL_acts 125 = .ok (.iconst 1, 1) := by decide +kernel
theorem dL_acts_126 : decode cL_acts 126 = .ok (.goto 4, 3) := by decide +kernel
theorem dL_acts_129 : decode cL_acts 129 = .ok (.iconst 0, 1) := by decide +kernel
theorem dL_acts_130 : decode cL_acts 130 = .ok (.ireturn, 1) := by decide +kernel
theorem dL_acts_131 : decode cL_acts 131 = .ok (.iload 7, 2) := by decide +kernel
theorem dL_acts_133 : decode cL_acts 133 = .ok (.iconst 4, 1) := by decide +kernel
theorem dL_acts_134 : decode cL_acts 134 = .ok (.if_icmp .ge 107, 3) := by decide +kernel
theorem dL_acts_137 : decode cL_acts 137 = .ok (.iload 6, 2) := by decide +kernel
theorem dL_acts_139 : decode cL_acts 139 = .ok (.aload_n 1, 1) := by decide +kernel
theorem dL_acts_140 : decode cL_acts 140 = .ok (.iconst 0, 1) := by decide +kernel
theorem dL_acts_141 : decode cL_acts 141 = .ok (.iaload, 1) := by decide +kernel
theorem dL_acts_142 : decode cL_acts 142 = .ok (.irem, 1) := by decide +kernel
theorem dL_acts_143 : decode cL_acts 143 = .ok (.istore 8, 2) := by decide +kernel
theorem dL_acts_145 : decode cL_acts 145 = .ok (.iload 6, 2) := by decide +kernel
theorem dL_acts_147 : decode cL_acts 147 = .ok (.iconst 4, 1) := by decide +kernel
theorem dL_acts_148 : decode cL_acts 148 = .ok (.irem, 1) := by decide +kernel
theorem dL_acts_149 : decode cL_acts 149 = .ok (.ifCond .ne 14, 3) := by decide +kernel
theorem dL_acts_152 : decode cL_acts 152 = .ok (.iload 6, 2) := by decide +kernel
theorem dL_acts_154 : decode cL_acts 154 = .ok (.bipush 12, 2) := by decide +kernel
theorem dL_acts_156 : decode cL_acts 156 = .ok (.idiv, 1) := by decide +kernel
theorem dL_acts_157 : decode cL_acts 157 = .ok (.ldc 57, 2) := by decide +kernel
theorem dL_acts_159 : decode cL_acts 159 = .ok (.irem, 1) := by decide +kernel
theorem dL_acts_160 : decode cL_acts 160 = .ok (.goto 11, 3) := by decide +kernel
theorem dL_acts_163 : decode cL_acts 163 = .ok (.iload 6, 2) := by decide +kernel
theorem dL_acts_165 : decode cL_acts 165 = .ok (.bipush 12, 2) := by decide +kernel
theorem dL_acts_167 : decode cL_acts 167 = .ok (.idiv, 1) := by decide +kernel
theorem dL_acts_168 : decode cL_acts 168 = .ok (.bipush 20, 2) := by decide +kernel
theorem dL_acts_170 : decode cL_acts 170 = .ok (.irem, 1) := by decide +kernel
theorem dL_acts_171 : decode cL_acts 171 = .ok (.istore 9, 2) := by decide +kernel
theorem dL_acts_173 : decode cL_acts 173 = .ok (.aload_n 1, 1) := by decide +kernel
theorem dL_acts_174 : decode cL_acts 174 = .ok (.aload_n 2, 1) := by decide +kernel
theorem dL_acts_175 : decode cL_acts 175 = .ok (.invokestatic 24, 3) := by decide +kernel
theorem dL_acts_178 : decode cL_acts 178 = .ok (.aload_n 2, 1) := by decide +kernel
theorem dL_acts_179 : decode cL_acts 179 = .ok (.iload 8, 2) := by decide +kernel
theorem dL_acts_181 : decode cL_acts 181 = .ok (.iaload, 1) := by decide +kernel
theorem dL_acts_182 : decode cL_acts 182 = .ok (.isub, 1) := by decide +kernel
theorem dL_acts_183 : decode cL_acts 183 = .ok (.iload 9, 2) := by decide +kernel
theorem dL_acts_185 : decode cL_acts 185 = .ok (.iadd, 1) := by decide +kernel
theorem dL_acts_186 : decode cL_acts 186 = .ok (.ifCond .ne 22, 3) := by decide +kernel
theorem dL_acts_189 : decode cL_acts 189 = .ok (.aload_n 0, 1) := by decide +kernel
theorem dL_acts_190 : decode cL_acts 190 = .ok (.iload 8, 2) := by decide +kernel
theorem dL_acts_192 : decode cL_acts 192 = .ok (.iload 9, 2) := by decide +kernel
theorem dL_acts_194 : decode cL_acts 194 = .ok (.invokevirtual 58, 3) := by decide +kernel
theorem dL_acts_197 : decode cL_acts 197 = .ok (.ldc 61, 2) := by decide +kernel
theorem dL_acts_199 : decode cL_acts 199 = .ok (.if_icmp .ne 7, 3) := by decide +kernel
theorem dL_acts_202 : decode cL_acts 202 = .ok (.iconst 1, 1) := by decide +kernel
theorem dL_acts_203 : decode cL_acts 203 = .ok (.goto 4, 3) := by decide +kernel
theorem dL_acts_206 : decode cL_acts 206 = .ok (.iconst 0, 1) := by decide +kernel
theorem dL_acts_207 : decode cL_acts 207 = .ok (.ireturn, 1) := by decide +kernel
theorem dL_acts_208 : decode cL_acts 208 = .ok (.aload_n 2, 1) := by decide +kernel
theorem dL_acts_209 : decode cL_acts 209 = .ok (.iload 8, 2) := by decide +kernel
theorem dL_acts_211 : decode cL_acts 211 = .ok (.iload 9, 2) := by decide +kernel
theorem dL_acts_213 : decode cL_acts 213 = .ok (.iastore, 1) := by decide +kernel
theorem dL_acts_214 : decode cL_acts 214 = .ok (.aload_n 1, 1) := by decide +kernel
theorem dL_acts_215 : decode cL_acts 215 = .ok (.aload_n 2, 1) := by decide +kernel
theorem dL_acts_216 : decode cL_acts 216 = .ok (.invokestatic 62, 3) := by decide +kernel
theorem dL_acts_219 : decode cL_acts 219 = .ok (.pop, 1) := by decide +kernel
theorem dL_acts_220 : decode cL_acts 220 = .ok (.aload_n 0, 1) := by decide +kernel
theorem dL_acts_221 : decode cL_acts 221 = .ok (.iload 8, 2) := by decide +kernel
theorem dL_acts_223 : decode cL_acts 223 = .ok (.iload 9, 2) := by decide +kernel
theorem dL_acts_225 : decode cL_acts 225 = .ok (.invokevirtual 58, 3) := by decide +kernel
theorem dL_acts_228 : decode cL_acts 228 = .ok (.aload_n 2, 1) := by decide +kernel
theorem dL_acts_229 : decode cL_acts 229 = .ok (.iload 8, 2) := by decide +kernel
theorem dL_acts_231 : decode cL_acts 231 = .ok (.iaload, 1) := by decide +kernel
theorem dL_acts_232 : decode cL_acts 232 = .ok (.if_icmp .ne 7, 3) := by decide +kernel
theorem dL_acts_235 : decode cL_acts 235 = .ok (.iconst 1, 1) := by decide +kernel
theorem dL_acts_236 : decode cL_acts 236 = .ok (.goto 4, 3) := by decide +kernel
theorem dL_acts_239 : decode cL_acts 239 = .ok (.iconst 0, 1) := by decide +kernel
theorem dL_acts_240 : decode cL_acts 240 = .ok (.ireturn, 1) := by decide +kernel
theorem dL_acts_241 : decode cL_acts 241 = .ok (.iload 7, 2) := by decide +kernel
theorem dL_acts_243 : decode cL_acts 243 = .ok (.bipush 9, 2) := by decide +kernel
theorem dL_acts_245 : decode cL_acts 245 = .ok (.if_icmp .ge 227, 3) := by decide +kernel
theorem dL_acts_248 : decode cL_acts 248 = .ok (.iload 6, 2) := by decide +kernel
theorem dL_acts_250 : decode cL_acts 250 = .ok (.sipush 199, 3) := by decide +kernel
theorem dL_acts_253 : decode cL_acts 253 = .ok (.irem, 1) := by decide +kernel
theorem dL_acts_254 : decode cL_acts 254 = .ok (.bipush 99, 2) := by decide +kernel
theorem dL_acts_256 : decode cL_acts 256 = .ok (.isub, 1) := by decide +kernel
theorem dL_acts_257 : decode cL_acts 257 = .ok (.istore 8, 2) := by decide +kernel
theorem dL_acts_259 : decode cL_acts 259 = .ok (.iload 6, 2) := by decide +kernel
theorem dL_acts_261 : decode cL_acts 261 = .ok (.iconst 3, 1) := by decide +kernel
theorem dL_acts_262 : decode cL_acts 262 = .ok (.irem, 1) := by decide +kernel
theorem dL_acts_263 : decode cL_acts 263 = .ok (.ifCond .le 11, 3) := by decide +kernel
theorem dL_acts_266 : decode cL_acts 266 = .ok (.iload 8, 2) := by decide +kernel
theorem dL_acts_268 : decode cL_acts 268 = .ok (.bipush 9, 2) := by decide +kernel
theorem dL_acts_270 : decode cL_acts 270 = .ok (.idiv, 1) := by decide +kernel
theorem dL_acts_271 : decode cL_acts 271 = .ok (.goto 5, 3) := by decide +kernel
theorem dL_acts_274 : decode cL_acts 274 = .ok (.iload 8, 2) := by decide +kernel
theorem dL_acts_276 : decode cL_acts 276 = .ok (.istore 8, 2) := by decide +kernel
theorem dL_acts_278 : decode cL_acts 278 = .ok (.iload 6, 2) := by decide +kernel
theorem dL_acts_280 : decode cL_acts 280 = .ok (.sipush 199, 3) := by decide +kernel
theorem dL_acts_283 : decode cL_acts 283 = .ok (.idiv, 1) := by decide +kernel
theorem dL_acts_284 : decode cL_acts 284 = .ok (.iload 6, 2) := by decide +kernel
theorem dL_acts_286 : decode cL_acts 286 = .ok (.iconst 5, 1) := by decide +kernel
theorem dL_acts_287 : decode cL_acts 287 = .ok (.irem, 1) := by decide +kernel
theorem dL_acts_288 : decode cL_acts 288 = .ok (.ifCond .ne 8, 3) := by decide +kernel
theorem dL_acts_291 : decode cL_acts 291 = .ok (.bipush 100, 2) := by decide +kernel
theorem dL_acts_293 : decode cL_acts 293 = .ok (.goto 5, 3) := by decide +kernel
theorem dL_acts_296 : decode cL_acts 296 = .ok (.bipush 12, 2) := by decide +kernel
theorem dL_acts_298 : decode cL_acts 298 = .ok (.irem, 1) := by decide +kernel
theorem dL_acts_299 : decode cL_acts 299 = .ok (.istore 9, 2) := by decide +kernel
theorem dL_acts_301 : decode cL_acts 301 = .ok (.aload_n 1, 1) := by decide +kernel
theorem dL_acts_302 : decode cL_acts 302 = .ok (.iconst 1, 1) := by decide +kernel
theorem dL_acts_303 : decode cL_acts 303 = .ok (.iaload, 1) := by decide +kernel
theorem dL_acts_304 : decode cL_acts 304 = .ok (.bipush 20, 2) := by decide +kernel
theorem dL_acts_306 : decode cL_acts 306 = .ok (.if_icmp .ne 22, 3) := by decide +kernel
theorem dL_acts_309 : decode cL_acts 309 = .ok (.aload_n 0, 1) := by decide +kernel
theorem dL_acts_310 : decode cL_acts 310 = .ok (.iload 8, 2) := by decide +kernel
theorem dL_acts_312 : decode cL_acts 312 = .ok (.iload 9, 2) := by decide +kernel
theorem dL_acts_314 : decode cL_acts 314 = .ok (.invokevirtual 65, 3) := by decide +kernel
theorem dL_acts_317 : decode cL_acts 317 = .ok (.ldc 68, 2) := by decide +kernel
theorem dL_acts_319 : decode cL_acts 319 = .ok (.if_icmp .ne 7, 3) := by decide +kernel
theorem dL_acts_322 : decode cL_acts 322 = .ok (.iconst 1, 1) := by decide +kernel
theorem dL_acts_323 : decode cL_acts 323 = .ok (.goto 4, 3) := by decide +kernel
theorem dL_acts_326 : decode cL_acts 326 = .ok (.iconst 0, 1) := by decide +kernel
theorem dL_acts_327 : decode cL_acts 327 = .ok (.ireturn, 1) := by decide +kernel
theorem dL_acts_328 : decode cL_acts 328 = .ok (.aload_n 1, 1) := by decide +kernel
theorem dL_acts_329 : decode cL_acts 329 = .ok (.iconst 1, 1) := by decide +kernel
theorem dL_acts_330 : decode cL_acts 330 = .ok (.iaload, 1) := by decide +kernel
theorem dL_acts_331 : decode cL_acts 331 = .ok (.istore 10, 2) := by decide +kernel
theorem dL_acts_333 : decode cL_acts 333 = .ok (.iconst 0, 1) := by decide +kernel
theorem dL_acts_334 : decode cL_acts 334 = .ok (.istore 11, 2) := by decide +kernel
theorem dL_acts_336 : decode cL_acts 336 = .ok (.iload 11, 2) := by decide +kernel
theorem dL_acts_338 : decode cL_acts 338 = .ok (.aload_n 1, 1) := by decide +kernel
theorem dL_acts_339 : decode cL_acts 339 = .ok (.iconst 0, 1) := by decide +kernel
theorem dL_acts_340 : decode cL_acts 340 = .ok (.iaload, 1) := by decide +kernel
theorem dL_acts_341 : decode cL_acts 341 = .ok (.if_icmp .ge 78, 3) := by decide +kernel
theorem dL_acts_344 : decode cL_acts 344 = .ok (.aload 4, 2) := by decide +kernel
theorem dL_acts_346 : decode cL_acts 346 = .ok (.iload 10, 2) := by decide +kernel
theorem dL_acts_348 : decode cL_acts 348 = .ok (.iconst 1, 1) := by decide +kernel
theorem dL_acts_349 : decode cL_acts 349 = .ok (.isub, 1) := by decide +kernel
theorem dL_acts_350 : decode cL_acts 350 = .ok (.iload 11, 2) := by decide +kernel
theorem dL_acts_352 : decode cL_acts 352 = .ok (.invokestatic 13, 3) := by decide +kernel
theorem dL_acts_355 : decode cL_acts 355 = .ok (.sipush 256, 3) := by decide +kernel
theorem dL_acts_358 : decode cL_acts 358 = .ok (.irem, 1) := by decide +kernel
theorem dL_acts_359 : decode cL_acts 359 = .ok (.iload 8, 2) := by decide +kernel
theorem dL_acts_361 : decode cL_acts 361 = .ok (.iadd, 1) := by decide +kernel
theorem dL_acts_362 : decode cL_acts 362 = .ok (.iload 9, 2) := by decide +kernel
theorem dL_acts_364 : decode cL_acts 364 = .ok (.isub, 1) := by decide +kernel
theorem dL_acts_365 : decode cL_acts 365 = .ok (.aload_n 1, 1) := by decide +kernel
theorem dL_acts_366 : decode cL_acts 366 = .ok (.invokestatic 30, 3) := by decide +kernel
theorem dL_acts_369 : decode cL_acts 369 = .ok (.iconst 1, 1) := by decide +kernel
theorem dL_acts_370 : decode cL_acts 370 = .ok (.iconst 2, 1) := by decide +kernel
theorem dL_acts_371 : decode cL_acts 371 = .ok (.iload 9, 2) := by decide +kernel
theorem dL_acts_373 : decode cL_acts 373 = .ok (.imul, 1) := by decide +kernel
theorem dL_acts_374 : decode cL_acts 374 = .ok (.iadd, 1) := by decide +kernel
theorem dL_acts_375 : decode cL_acts 375 = .ok (.irem, 1) := by decide +kernel
theorem dL_acts_376 : decode cL_acts 376 = .ok (.iadd, 1) := by decide +kernel
theorem dL_acts_377 : decode cL_acts 377 = .ok (.istore 12, 2) := by decide +kernel
theorem dL_acts_379 : decode cL_acts 379 = .ok (.aload 4, 2) := by decide +kernel
theorem dL_acts_381 : decode cL_acts 381 = .ok (.iload 10, 2) := by decide +kernel
theorem dL_acts_383 : decode cL_acts 383 = .ok (.iload 11, 2) := by decide +kernel
theorem dL_acts_385 : decode cL_acts 385 = .ok (.iload 12, 2) := by decide +kernel
theorem dL_acts_387 : decode cL_acts 387 = .ok (.ifCond .ge 7, 3) := by decide +kernel
theorem dL_acts_390 : decode cL_acts 390 = .ok (.iconst 0, 1) := by decide +kernel
theorem dL_acts_391 : decode cL_acts 391 = .ok (.goto 17, 3) := by decide +kernel
theorem dL_acts_394 : decode cL_acts 394 = .ok (.iload 12, 2) := by decide +kernel
theorem dL_acts_396 : decode cL_acts 396 = .ok (.bipush 99, 2) := by decide +kernel
theorem dL_acts_398 : decode cL_acts 398 = .ok (.if_icmp .le 8, 3) := by decide +kernel
theorem dL_acts_401 : decode cL_acts 401 = .ok (.bipush 99, 2) := by decide +kernel
theorem dL_acts_403 : decode cL_acts 403 = .ok (.goto 5, 3) := by decide +kernel
theorem dL_acts_406 : decode cL_acts 406 = .ok (.iload 12, 2) := by decide +kernel
theorem dL_acts_408 : decode cL_acts 408 = .ok (.iload 11, 2) := by decide +kernel
theorem dL_acts_410 : decode cL_acts 410 = .ok (.invokestatic 19, 3) := by decide +kernel
theorem dL_acts_413 : decode cL_acts 413 = .ok (.iinc 11 1, 3) := by decide +kernel
theorem dL_acts_416 : decode cL_acts 416 = .ok (.goto (-80), 3) := by decide +kernel
theorem dL_acts_419 : decode cL_acts 419 = .ok (.aload_n 3, 1) := by decide +kernel
