theorem dX7_mean_57 : decode cX7_mean 57 = .ok (.invokevirtual 81, 3) := by decide +kernel
theorem dX7_mean_60 : decode cX7_mean 60 = .ok (.i2l, 1) := by decide +kernel
theorem dX7_mean_61 : decode cX7_mean 61 = .ok (.lmul, 1) := by decide +kernel
theorem dX7_mean_62 : decode cX7_mean 62 = .ok (.ladd, 1) := by decide +kernel
theorem dX7_mean_63 : decode cX7_mean 63 = .ok (.lstore_n 3, 1) := by decide +kernel
theorem dX7_mean_64 : decode cX7_mean 64 = .ok (.iinc 5 1, 3) := by decide +kernel
theorem dX7_mean_67 : decode cX7_mean 67 = .ok (.goto (-42), 3) := by decide +kernel
theorem dX7_mean_70 : decode cX7_mean 70 = .ok (.lload_n 3, 1) := by decide +kernel
theorem dX7_mean_71 : decode cX7_mean 71 = .ok (.aload_n 0, 1) := by decide +kernel
theorem dX7_mean_72 : decode cX7_mean 72 = .ok (.invokevirtual 52, 3) := by decide +kernel
theorem dX7_mean_75 : decode cX7_mean 75 = .ok (.i2l, 1) := by decide +kernel
theorem dX7_mean_76 : decode cX7_mean 76 = .ok (.iload_n 2, 1) := by decide +kernel
theorem dX7_mean_77 : decode cX7_mean 77 = .ok (.invokestatic 121, 3) := by decide +kernel
theorem dX7_mean_80 : decode cX7_mean 80 = .ok (.ireturn, 1) := by decide +kernel
theorem dX7_share_0 : decode cX7_share 0 = .ok (.aload_n 0, 1) := by decide +kernel
theorem dX7_share_1 : decode cX7_share 1 = .ok (.iload_n 1, 1) := by decide +kernel
theorem dX7_share_2 : decode cX7_share 2 = .ok (.invokevirtual 131, 3) := by decide +kernel
theorem dX7_share_5 : decode cX7_share 5 = .ok (.ifCond .eq 33, 3) := by decide +kernel
theorem dX7_share_8 : decode cX7_share 8 = .ok (.iload_n 2, 1) := by decide +kernel
theorem dX7_share_9 : decode cX7_share 9 = .ok (.iconst 0, 1) := by decide +kernel
theorem dX7_share_10 : decode cX7_share 10 = .ok (.bipush 99, 2) := by decide +kernel
theorem dX7_share_12 : decode cX7_share 12 = .ok (.invokestatic 84, 3) := by decide +kernel
theorem dX7_share_15 : decode cX7_share 15 = .ok (.ifCond .eq 23, 3) := by decide +kernel
theorem dX7_share_18 : decode cX7_share 18 = .ok (.iload_n 3, 1) := by decide +kernel
theorem dX7_share_19 : decode cX7_share 19 = .ok (.iconst 0, 1) := by decide +kernel
theorem dX7_share_20 : decode cX7_share 20 = .ok (.bipush 99, 2) := by decide +kernel
theorem dX7_share_22 : decode cX7_share 22 = .ok (.invokestatic 84, 3) := by decide +kernel
theorem dX7_share_25 : decode cX7_share 25 = .ok (.ifCond .eq 13, 3) := by decide +kernel
theorem dX7_share_28 : decode cX7_share 28 = .ok (.iload 4, 2) := by decide +kernel
theorem dX7_share_30 : decode cX7_share 30 = .ok (.iconst 0, 1) := by decide +kernel
theorem dX7_share_31 : decode cX7_share 31 = .ok (.iconst 1, 1) := by decide +kernel
theorem dX7_share_32 : decode cX7_share 32 = .ok (.invokestatic 84, 3) := by decide +kernel
theorem dX7_share_35 : decode cX7_share 35 = .ok (.ifCond .ne 6, 3) := by decide +kernel
theorem dX7_share_38 : decode cX7_share 38 = .ok (.ldc 88, 2) := by decide +kernel
theorem dX7_share_40 : decode cX7_share 40 = .ok (.ireturn, 1) := by decide +kernel
theorem dX7_share_41 : decode cX7_share 41 = .ok (.lconst 0, 1) := by decide +kernel
theorem dX7_share_42 : decode cX7_share 42 = .ok (.lstore 5, 2) := by decide +kernel
theorem dX7_share_44 : decode cX7_share 44 = .ok (.iconst 0, 1) := by decide +kernel
theorem dX7_share_45 : decode cX7_share 45 = .ok (.istore 7, 2) := by decide +kernel
theorem dX7_share_47 : decode cX7_share 47 = .ok (.iload 7, 2) := by decide +kernel
theorem dX7_share_49 : decode cX7_share 49 = .ok (.aload_n 0, 1) := by decide +kernel
theorem dX7_share_50 : decode cX7_share 50 = .ok (.getfield 7, 3) := by decide +kernel
theorem dX7_share_53 : decode cX7_share 53 = .ok (.iconst 0, 1) := by decide +kernel
theorem dX7_share_54 : decode cX7_share 54 = .ok (.iaload, 1) := by decide +kernel
theorem dX7_share_55 : decode cX7_share 55 = .ok (.if_icmp .ge 49, 3) := by decide +kernel
theorem dX7_share_58 : decode cX7_share 58 = .ok (.lload 5, 2) := by decide +kernel
theorem dX7_share_60 : decode cX7_share 60 = .ok (.aload_n 0, 1) := by decide +kernel
theorem dX7_share_61 : decode cX7_share 61 = .ok (.iload_n 1, 1) := by decide +kernel
theorem dX7_share_62 : decode cX7_share 62 = .ok (.aload_n 0, 1) := by decide +kernel
theorem dX7_share_63 : decode cX7_share 63 = .ok (.iload 7, 2) := by decide +kernel
theorem dX7_share_65 : decode cX7_share 65 = .ok (.iload_n 1, 1) := by decide +kernel
theorem dX7_share_66 : decode cX7_share 66 = .ok (.invokevirtual 128, 3) := by decide +kernel
theorem dX7_share_69 : decode cX7_share 69 = .ok (.invokevirtual 81, 3) := by decide +kernel
theorem dX7_share_72 : decode cX7_share 72 = .ok (.iload_n 2, 1) := by decide +kernel
theorem dX7_share_73 : decode cX7_share 73 = .ok (.iload_n 3, 1) := by decide +kernel
theorem dX7_share_74 : decode cX7_share 74 = .ok (.invokestatic 84, 3) := by decide +kernel
theorem dX7_share_77 : decode cX7_share 77 = .ok (.ifCond .eq 17, 3) := by decide +kernel
theorem dX7_share_80 : decode cX7_share 80 = .ok (.aload_n 0, 1) := by decide +kernel
theorem dX7_share_81 : decode cX7_share 81 = .ok (.getfield 7, 3) := by decide +kernel
theorem dX7_share_84 : decode cX7_share 84 = .ok (.bipush 8, 2) := by decide +kernel
theorem dX7_share_86 : decode cX7_share 86 = .ok (.iload 7, 2) := by decide +kernel
theorem dX7_share_88 : decode cX7_share 88 = .ok (.iadd, 1) := by decide +kernel
theorem dX7_share_89 : decode cX7_share 89 = .ok (.iaload, 1) := by decide +kernel
theorem dX7_share_90 : decode cX7_share 90 = .ok (.i2l, 1) := by decide +kernel
theorem dX7_share_91 : decode cX7_share 91 = .ok (.goto 4, 3) := by decide +kernel
theorem dX7_share_94 : decode cX7_share 94 = .ok (.lconst 0, 1) := by decide +kernel
theorem dX7_share_95 : decode cX7_share 95 = .ok (.ladd, 1) := by decide +kernel
theorem dX7_share_96 : decode cX7_share 96 = .ok (.lstore 5, 2) := by decide +kernel
theorem dX7_share_98 : decode cX7_share 98 = .ok (.iinc 7 1, 3) := by decide +kernel
theorem dX7_share_101 : decode cX7_share 101 = .ok (.goto (-54), 3) := by decide +kernel
theorem dX7_share_104 : decode cX7_share 104 = .ok (.lload 5, 2) := by decide +kernel
theorem dX7_share_106 : decode cX7_share 106 = .ok (.aload_n 0, 1) := by decide +kernel
theorem dX7_share_107 : decode cX7_share 107 = .ok (.invokevirtual 52, 3) := by decide +kernel
theorem dX7_share_110 : decode cX7_share 110 = .ok (.i2l, 1) := by decide +kernel
theorem dX7_share_111 : decode cX7_share 111 = .ok (.iload 4, 2) := by decide +kernel
theorem dX7_share_113 : decode cX7_share 113 = .ok (.invokestatic 121, 3) := by decide +kernel
theorem dX7_share_116 : decode cX7_share 116 = .ok (.ireturn, 1) := by decide +kernel
theorem dX7_would_0 : decode cX7_would 0 = .ok (.iload_n 1, 1) := by decide +kernel
theorem dX7_would_1 : decode cX7_would 1 = .ok (.iconst 0, 1) := by decide +kernel
theorem dX7_would_2 : decode cX7_would 2 = .ok (.iconst 2, 1) := by decide +kernel
theorem dX7_would_3 : decode cX7_would 3 = .ok (.invokestatic 84, 3) := by decide +kernel
theorem dX7_would_6 : decode cX7_would 6 = .ok (.ifCond .eq 11, 3) := by decide +kernel
theorem dX7_would_9 : decode cX7_would 9 = .ok (.aload_n 0, 1) := by decide +kernel
theorem dX7_would_10 : decode cX7_would 10 = .ok (.iload_n 2, 1) := by decide +kernel
theorem dX7_would_11 : decode cX7_would 11 = .ok (.invokevirtual 92, 3) := by decide +kernel
theorem dX7_would_14 : decode cX7_would 14 = .ok (.ifCond .ne 6, 3) := by decide +kernel
theorem dX7_would_17 : decode cX7_would 17 = .ok (.ldc 88, 2) := by decide +kernel
theorem dX7_would_19 : decode cX7_would 19 = .ok (.ireturn, 1) := by decide +kernel
theorem dX7_would_20 : decode cX7_would 20 = .ok (.aload_n 0, 1) := by decide +kernel
theorem dX7_would_21 : decode cX7_would 21 = .ok (.getfield 7, 3) := by decide +kernel
theorem dX7_would_24 : decode cX7_would 24 = .ok (.iconst 2, 1) := by decide +kernel
theorem dX7_would_25 : decode cX7_would 25 = .ok (.iaload, 1) := by decide +kernel
theorem dX7_would_26 : decode cX7_would 26 = .ok (.istore_n 3, 1) := by decide +kernel
theorem dX7_would_27 : decode cX7_would 27 = .ok (.aload_n 0, 1) := by decide +kernel
theorem dX7_would_28 : decode cX7_would 28 = .ok (.iload_n 1, 1) := by decide +kernel
theorem dX7_would_29 : decode cX7_would 29 = .ok (.invokevirtual 74, 3) := by decide +kernel
theorem dX7_would_32 : decode cX7_would 32 = .ok (.aload_n 0, 1) := by decide +kernel
theorem dX7_would_33 : decode cX7_would 33 = .ok (.getfield 7, 3) := by decide +kernel
theorem dX7_would_36 : decode cX7_would 36 = .ok (.iconst 2, 1) := by decide +kernel
theorem dX7_would_37 : decode cX7_would 37 = .ok (.iload_n 3, 1) := by decide +kernel
theorem dX7_would_38 : decode cX7_would 38 = .ok (.iastore, 1) := by decide +kernel
theorem dX7_would_39 : decode cX7_would 39 = .ok (.aload_n 0, 1) := by decide +kernel
theorem dX7_would_40 : decode cX7_would 40 = .ok (.getfield 22, 3) := by decide +kernel
theorem dX7_would_43 : decode cX7_would 43 = .ok (.iload_n 2, 1) := by decide +kernel
theorem dX7_would_44 : decode cX7_would 44 = .ok (.iaload, 1) := by decide +kernel
theorem dX7_would_45 : decode cX7_would 45 = .ok (.ireturn, 1) := by decide +kernel
theorem dX7_zeros_0 : decode cX7_zeros 0 = .ok (.iconst 0, 1) := by decide +kernel
theorem dX7_zeros_1 : decode cX7_zeros 1 = .ok (.istore_n 1, 1) := by decide +kernel
theorem dX7_zeros_2 : decode cX7_zeros 2 = .ok (.iconst 0, 1) := by decide +kernel
theorem dX7_zeros_3 : decode cX7_zeros 3 = .ok (.istore_n 2, 1) := by decide +kernel
theorem dX7_zeros_4 : decode cX7_zeros 4 = .ok (.iload_n 2, 1) := by decide +kernel
theorem dX7_zeros_5 : decode cX7_zeros 5 = .ok (.aload_n 0, 1) := by decide +kernel
theorem dX7_zeros_6 : decode cX7_zeros 6 = .ok (.getfield 7, 3) := by decide +kernel
theorem dX7_zeros_9 : decode cX7_zeros 9 = .ok (.iconst 0, 1) := by decide +kernel
theorem dX7_zeros_10 : decode cX7_zeros 10 = .ok (.iaload, 1) := by decide +kernel
theorem dX7_zeros_11 : decode cX7_zeros 11 = .ok (.if_icmp .ge 29, 3) := by decide +kernel
theorem dX7_zeros_14 : decode cX7_zeros 14 = .ok (.iload_n 1, 1) := by decide +kernel
theorem dX7_zeros_15 : decode cX7_zeros 15 = .ok (.aload_n 0, 1) := by decide +kernel
theorem dX7_zeros_16 : decode cX7_zeros 16 = .ok (.getfield 7, 3) := by decide +kernel
theorem dX7_zeros_19 : decode cX7_zeros 19 = .ok (.bipush 8, 2) := by decide +kernel
theorem dX7_zeros_21 : decode cX7_zeros 21 = .ok (.iload_n 2, 1) := by decide +kernel
theorem dX7_zeros_22 : decode cX7_zeros 22 = .ok (.iadd, 1) := by decide +kernel
theorem dX7_zeros_23 : decode cX7_zeros 23 = .ok (.iaload, 1) := by decide +kernel
theorem dX7_zeros_24 : decode cX7_zeros 24 = .ok (.ifCond .ne 7, 3) := by decide +kernel
theorem dX7_zeros_27 : decode cX7_zeros 27 = .ok (.iconst 1, 1) := by decide +kernel
theorem dX7_zeros_28 : decode cX7_zeros 28 = .ok (.goto 4, 3) := by decide +kernel
theorem dX7_zeros_31 : decode cX7_zeros 31 = .ok (.iconst 0, 1) := by decide +kernel
theorem dX7_zeros_32 : decode cX7_zeros 32 = .ok (.iadd, 1) := by decide +kernel
theorem dX7_zeros_33 : decode cX7_zeros 33 = .ok (.istore_n 1, 1) := by decide +kernel
theorem dX7_zeros_34 : decode cX7_zeros 34 = .ok (.iinc 2 1, 3) := by decide +kernel
theorem dX7_zeros_37 : decode cX7_zeros 37 = .ok (.goto (-33), 3) := by decide +kernel
theorem dX7_zeros_40 : decode cX7_zeros 40 = .ok (.iload_n 1, 1) := by decide +kernel
theorem dX7_zeros_41 : decode cX7_zeros 41 = .ok (.ireturn, 1) := by decide +kernel
theorem dX7_count_0 : decode cX7_count 0 = .ok (.iload_n 1, 1) := by decide +kernel
theorem dX7_count_1 : decode cX7_count 1 = .ok (.tableswitch 124 0 10 #[59, 59, 66, 71, 76, 83, 88, 100, 107, 114, 119], 59) := by decide +kernel
theorem dX7_count_60 : decode cX7_count 60 = .ok (.aload_n 0, 1) := by decide +kernel
theorem dX7_count_61 : decode cX7_count 61 = .ok (.getfield 7, 3) := by decide +kernel
theorem dX7_count_64 : decode cX7_count 64 = .ok (.iload_n 1, 1) := by decide +kernel
theorem dX7_count_65 : decode cX7_count 65 = .ok (.iaload, 1) := by decide +kernel
theorem dX7_count_66 : decode cX7_count 66 = .ok (.ireturn, 1) := by decide +kernel
theorem dX7_count_67 : decode cX7_count 67 = .ok (.aload_n 0, 1) := by decide +kernel
theorem dX7_count_68 : decode cX7_count 68 = .ok (.invokevirtual 52, 3) := by decide +kernel
theorem dX7_count_71 : decode cX7_count 71 = .ok (.ireturn, 1) := by decide +kernel
theorem dX7_count_72 : decode cX7_count 72 = .ok (.aload_n 0, 1) := by decide +kernel
theorem dX7_count_73 : decode cX7_count 73 = .ok (.invokevirtual 108, 3) := by decide +kernel
theorem dX7_count_76 : decode cX7_count 76 = .ok (.ireturn, 1) := by decide +kernel
theorem dX7_count_77 : decode cX7_count 77 = .ok (.aload_n 0, 1) := by decide +kernel
theorem dX7_count_78 : decode cX7_count 78 = .ok (.getfield 7, 3) := by decide +kernel
theorem dX7_count_81 : decode cX7_count 81 = .ok (.iconst 2, 1) := by decide +kernel
theorem dX7_count_82 : decode cX7_count 82 = .ok (.iaload, 1) := by decide +kernel
theorem dX7_count_83 : decode cX7_count 83 = .ok (.ireturn, 1) := by decide +kernel
theorem dX7_count_84 : decode cX7_count 84 = .ok (.aload_n 0, 1) := by decide +kernel
theorem dX7_count_85 : decode cX7_count 85 = .ok (.invokevirtual 141, 3) := by decide +kernel
theorem dX7_count_88 : decode cX7_count 88 = .ok (.ireturn, 1) := by decide +kernel
theorem dX7_count_89 : decode cX7_count 89 = .ok (.aload_n 0, 1) := by decide +kernel
theorem dX7_count_90 : decode cX7_count 90 = .ok (.aload_n 0, 1) := by decide +kernel
theorem dX7_count_91 : decode cX7_count 91 = .ok (.invokevirtual 102, 3) := by decide +kernel
theorem dX7_count_94 : decode cX7_count 94 = .ok (.sipush 340, 3) := by decide +kernel
theorem dX7_count_97 : decode cX7_count 97 = .ok (.invokevirtual 114, 3) := by decide +kernel
theorem dX7_count_100 : decode cX7_count 100 = .ok (.ireturn, 1) := by decide +kernel
theorem dX7_count_101 : decode cX7_count 101 = .ok (.aload_n 0, 1) := by decide +kernel
theorem dX7_count_102 : decode cX7_count 102 = .ok (.getfield 7, 3) := by decide +kernel
theorem dX7_count_105 : decode cX7_count 105 = .ok (.iconst 3, 1) := by decide +kernel
theorem dX7_count_106 : decode cX7_count 106 = .ok (.iaload, 1) := by decide +kernel
theorem dX7_count_107 : decode cX7_count 107 = .ok (.ireturn, 1) := by decide +kernel
theorem dX7_count_108 : decode cX7_count 108 = .ok (.aload_n 0, 1) := by decide +kernel
theorem dX7_count_109 : decode cX7_count 109 = .ok (.getfield 7, 3) := by decide +kernel
theorem dX7_count_112 : decode cX7_count 112 = .ok (.iconst 4, 1) := by decide +kernel
theorem dX7_count_113 : decode cX7_count 113 = .ok (.iaload, 1) := by decide +kernel
theorem dX7_count_114 : decode cX7_count 114 = .ok (.ireturn, 1) := by decide +kernel
theorem dX7_count_115 : decode cX7_count 115 = .ok (.aload_n 0, 1) := by decide +kernel
theorem dX7_count_116 : decode cX7_count 116 = .ok (.getfield 46, 3) := by decide +kernel
theorem dX7_count_119 : decode cX7_count 119 = .ok (.ireturn, 1) := by decide +kernel
theorem dX7_count_120 : decode cX7_count 120 = .ok (.aload_n 0, 1) := by decide +kernel
theorem dX7_count_121 : decode cX7_count 121 = .ok (.getfield 144, 3) := by decide +kernel
theorem dX7_count_124 : decode cX7_count 124 = .ok (.ireturn, 1) := by decide +kernel
theorem dX7_count_125 : decode cX7_count 125 = .ok (.iload_n 1, 1) := by decide +kernel
theorem dX7_count_126 : decode cX7_count 126 = .ok (.bipush 20, 2) := by decide +kernel
theorem dX7_count_128 : decode cX7_count 128 = .ok (.bipush 22, 2) := by decide +kernel
theorem dX7_count_130 : decode cX7_count 130 = .ok (.invokestatic 84, 3) := by decide +kernel
theorem dX7_count_133 : decode cX7_count 133 = .ok (.ifCond .eq 17, 3) := by decide +kernel
theorem dX7_count_136 : decode cX7_count 136 = .ok (.aload_n 0, 1) := by decide +kernel
theorem dX7_count_137 : decode cX7_count 137 = .ok (.getfield 7, 3) := by decide +kernel
theorem dX7_count_140 : decode cX7_count 140 = .ok (.iconst 5, 1) := by decide +kernel
theorem dX7_count_141 : decode cX7_count 141 = .ok (.iload_n 1, 1) := by decide +kernel
theorem dX7_count_142 : decode cX7_count 142 = .ok (.iadd, 1) := by decide +kernel
theorem dX7_count_143 : decode cX7_count 143 = .ok (.bipush 20, 2) := by decide +kernel
theorem dX7_count_145 : decode cX7_count 145 = .ok (.isub, 1) := by decide +kernel
theorem dX7_count_146 : decode cX7_count 146 = .ok (.iaload, 1) := by decide +kernel
theorem dX7_count_147 : decode cX7_count 147 = .ok (.goto 5, 3) := by decide +kernel
theorem dX7_count_150 : decode cX7_count 150 = .ok (.ldc 88, 2) := by decide +kernel
theorem dX7_count_152 : decode cX7_count 152 = .ok (.ireturn, 1) := by decide +kernel
theorem dX7_undo_0 : decode cX7_undo 0 = .ok (.aload_n 0, 1) := by decide +kernel
theorem dX7_undo_1 : decode cX7_undo 1 = .ok (.getfield 46, 3) := by decide +kernel
theorem dX7_undo_4 : decode cX7_undo 4 = .ok (.ifCond .ne 6, 3) := by decide +kernel
theorem dX7_undo_7 : decode cX7_undo 7 = .ok (.ldc 97, 2) := by decide +kernel
theorem dX7_undo_9 : decode cX7_undo 9 = .ok (.ireturn, 1) := by decide +kernel
theorem dX7_undo_10 : decode cX7_undo 10 = .ok (.aload_n 0, 1) := by decide +kernel
theorem dX7_undo_11 : decode cX7_undo 11 = .ok (.dup, 1) := by decide +kernel
theorem dX7_undo_12 : decode cX7_undo 12 = .ok (.getfield 46, 3) := by decide +kernel
theorem dX7_undo_15 : decode cX7_undo 15 = .ok (.iconst 1, 1) := by decide +kernel
theorem dX7_undo_16 : decode cX7_undo 16 = .ok (.isub, 1) := by decide +kernel
theorem dX7_undo_17 : decode cX7_undo 17 = .ok (.putfield 46, 3) := by decide +kernel
theorem dX7_undo_20 : decode cX7_undo 20 = .ok (.iconst 0, 1) := by decide +kernel
theorem dX7_undo_21 : decode cX7_undo 21 = .ok (.istore_n 1, 1) := by decide +kernel
theorem dX7_undo_22 : decode cX7_undo 22 = .ok (.iload_n 1, 1) := by decide +kernel
theorem dX7_undo_23 : decode cX7_undo 23 = .ok (.sipush 580, 3) := by decide +kernel
theorem dX7_undo_26 : decode cX7_undo 26 = .ok (.if_icmp .ge 30, 3) := by decide +kernel
theorem dX7_undo_29 : decode cX7_undo 29 = .ok (.aload_n 0, 1) := by decide +kernel
theorem dX7_undo_30 : decode cX7_undo 30 = .ok (.getfield 7, 3) := by decide +kernel
theorem dX7_undo_33 : decode cX7_undo 33 = .ok (.iload_n 1, 1) := by decide +kernel
theorem dX7_undo_34 : decode cX7_undo 34 = .ok (.aload_n 0, 1) := by decide +kernel
theorem dX7_undo_35 : decode cX7_undo 35 = .ok (.getfield 13, 3) := by decide +kernel
theorem dX7_undo_38 : decode cX7_undo 38 = .ok (.sipush 580, 3) := by decide +kernel
theorem dX7_undo_41 : decode cX7_undo 41 = .ok (.aload_n 0, 1) := by decide +kernel
theorem dX7_undo_42 : decode cX7_undo 42 = .ok (.getfield 46, 3) := by decide +kernel
theorem dX7_undo_45 : decode cX7_undo 45 = .ok (.imul, 1) := by decide +kernel
theorem dX7_undo_46 : decode cX7_undo 46 = .ok (.iload_n 1, 1) := by decide +kernel
theorem dX7_undo_47 : decode cX7_undo 47 = .ok (.iadd, 1) := by decide +kernel
theorem dX7_undo_48 : decode cX7_undo 48 = .ok (.iaload, 1) := by decide +kernel
theorem dX7_undo_49 : decode cX7_undo 49 = .ok (.iastore, 1) := by decide +kernel
theorem dX7_undo_50 : decode cX7_undo 50 = .ok (.iinc 1 1, 3) := by decide +kernel
theorem dX7_undo_53 : decode cX7_undo 53 = .ok (.goto (-31), 3) := by decide +kernel
theorem dX7_undo_56 : decode cX7_undo 56 = .ok (.aload_n 0, 1) := by decide +kernel
theorem dX7_undo_57 : decode cX7_undo 57 = .ok (.getfield 46, 3) := by decide +kernel
theorem dX7_undo_60 : decode cX7_undo 60 = .ok (.ireturn, 1) := by decide +kernel
theorem dX7_type_0 : decode cX7_type 0 = .ok (.iload_n 1, 1) := by decide +kernel
theorem dX7_type_1 : decode cX7_type 1 = .ok (.bipush 32, 2) := by decide +kernel
theorem dX7_type_3 : decode cX7_type 3 = .ok (.bipush 126, 2) := by decide +kernel
theorem dX7_type_5 : decode cX7_type 5 = .ok (.invokestatic 84, 3) := by decide +kernel
theorem dX7_type_8 : decode cX7_type 8 = .ok (.ifCond .ne 6, 3) := by decide +kernel
theorem dX7_type_11 : decode cX7_type 11 = .ok (.ldc 88, 2) := by decide +kernel
theorem dX7_type_13 : decode cX7_type 13 = .ok (.ireturn, 1) := by decide +kernel
theorem dX7_type_14 : decode cX7_type 14 = .ok (.aload_n 0, 1) := by decide +kernel
theorem dX7_type_15 : decode cX7_type 15 = .ok (.getfield 144, 3) := by decide +kernel
theorem dX7_type_18 : decode cX7_type 18 = .ok (.bipush 60, 2) := by decide +kernel
theorem dX7_type_20 : decode cX7_type 20 = .ok (.if_icmp .ne 6, 3) := by decide +kernel
theorem dX7_type_23 : decode cX7_type 23 = .ok (.ldc 101, 2) := by decide +kernel
theorem dX7_type_25 : decode cX7_type 25 = .ok (.ireturn, 1) := by decide +kernel
theorem dX7_type_26 : decode cX7_type 26 = .ok (.aload_n 0, 1) := by decide +kernel
theorem dX7_type_27 : decode cX7_type 27 = .ok (.getfield 19, 3) := by decide +kernel
theorem dX7_type_30 : decode cX7_type 30 = .ok (.aload_n 0, 1) := by decide +kernel
theorem dX7_type_31 : decode cX7_type 31 = .ok (.getfield 144, 3) := by decide +kernel
theorem dX7_type_34 : decode cX7_type 34 = .ok (.iload_n 1, 1) := by decide +kernel
theorem dX7_type_35 : decode cX7_type 35 = .ok (.iastore, 1) := by decide +kernel
theorem dX7_type_36 : decode cX7_type 36 = .ok (.aload_n 0, 1) := by decide +kernel
theorem dX7_type_37 : decode cX7_type 37 = .ok (.dup, 1) := by decide +kernel
theorem dX7_type_38 : decode cX7_type 38 = .ok (.getfield 144, 3) := by decide +kernel
theorem dX7_type_41 : decode cX7_type 41 = .ok (.iconst 1, 1) := by decide +kernel
theorem dX7_type_42 : decode cX7_type 42 = .ok (.iadd, 1) := by decide +kernel
theorem dX7_type_43 : decode cX7_type 43 = .ok (.putfield 144, 3) := by decide +kernel
theorem dX7_type_46 : decode cX7_type 46 = .ok (.aload_n 0, 1) := by decide +kernel
theorem dX7_type_47 : decode cX7_type 47 = .ok (.getfield 144, 3) := by decide +kernel
theorem dX7_type_50 : decode cX7_type 50 = .ok (.ireturn, 1) := by decide +kernel
theorem dX7_clearText_0 : decode cX7_clearText 0 = .ok (.aload_n 0, 1) := by decide +kernel
theorem dX7_clearText_1 : decode cX7_clearText 1 = .ok (.getfield 144, 3) := by decide +kernel
theorem dX7_clearText_4 : decode cX7_clearText 4 = .ok (.istore_n 1, 1) := by decide +kernel
theorem dX7_clearText_5 : decode cX7_clearText 5 = .ok (.aload_n 0, 1) := by decide +kernel
theorem dX7_clearText_6 : decode cX7_clearText 6 = .ok (.iconst 0, 1) := by decide +kernel
theorem dX7_clearText_7 : decode cX7_clearText 7 = .ok (.putfield 144, 3) := by decide +kernel
theorem dX7_clearText_10 : decode cX7_clearText 10 = .ok (.iload_n 1, 1) := by decide +kernel
theorem dX7_clearText_11 : decode cX7_clearText 11 = .ok (.ireturn, 1) := by decide +kernel
theorem dX7_isAt_0 : decode cX7_isAt 0 = .ok (.aload_n 0, 1) := by decide +kernel
theorem dX7_isAt_1 : decode cX7_isAt 1 = .ok (.getfield 147, 3) := by decide +kernel
theorem dX7_isAt_4 : decode cX7_isAt 4 = .ok (.aload_n 0, 1) := by decide +kernel
theorem dX7_isAt_5 : decode cX7_isAt 5 = .ok (.getfield 144, 3) := by decide +kernel
theorem dX7_isAt_8 : decode cX7_isAt 8 = .ok (.if_icmp .ge 24, 3) := by decide +kernel
theorem dX7_isAt_11 : decode cX7_isAt 11 = .ok (.aload_n 0, 1) := by decide +kernel
theorem dX7_isAt_12 : decode cX7_isAt 12 = .ok (.getfield 19, 3) := by decide +kernel
theorem dX7_isAt_15 : decode cX7_isAt 15 = .ok (.aload_n 0, 1) := by decide +kernel
theorem dX7_isAt_16 : decode cX7_isAt 16 = .ok (.getfield 147, 3) := by decide +kernel
theorem dX7_isAt_19 : decode cX7_isAt 19 = .ok (.iaload, 1) := by decide +kernel
theorem dX7_isAt_20 : decode cX7_isAt 20 = .ok (.iload_n 1, 1) := by decide +kernel
theorem dX7_isAt_21 : decode cX7_isAt 21 = .ok (.iload_n 2, 1) := by decide +kernel
theorem dX7_isAt_22 : decode cX7_isAt 22 = .ok (.invokestatic 84, 3) := by decide +kernel
theorem dX7_isAt_25 : decode cX7_isAt 25 = .ok (.ifCond .eq 7, 3) := by decide +kernel
theorem dX7_isAt_28 : decode cX7_isAt 28 = .ok (.iconst 1, 1) := by decide +kernel
theorem dX7_isAt_29 : decode cX7_isAt 29 = .ok (.goto 4, 3) := by decide +kernel
theorem dX7_isAt_32 : decode cX7_isAt 32 = .ok (.iconst 0, 1) := by decide +kernel
theorem dX7_isAt_33 : decode cX7_isAt 33 = .ok (.ireturn, 1) := by decide +kernel
theorem dX7_passes_0 : decode cX7_passes 0 = .ok (.aload_n 0, 1) := by decide +kernel
theorem dX7_passes_1 : decode cX7_passes 1 = .ok (.iload_n 1, 1) := by decide +kernel
theorem dX7_passes_2 : decode cX7_passes 2 = .ok (.iload_n 1, 1) := by decide +kernel
theorem dX7_passes_3 : decode cX7_passes 3 = .ok (.invokevirtual 150, 3) := by decide +kernel
theorem dX7_passes_6 : decode cX7_passes 6 = .ok (.istore_n 2, 1) := by decide +kernel
theorem dX7_passes_7 : decode cX7_passes 7 = .ok (.aload_n 0, 1) := by decide +kernel
theorem dX7_passes_8 : decode cX7_passes 8 = .ok (.dup, 1) := by decide +kernel
theorem dX7_passes_9 : decode cX7_passes 9 = .ok (.getfield 147, 3) := by decide +kernel
theorem dX7_passes_12 : decode cX7_passes 12 = .ok (.iload_n 2, 1) := by decide +kernel
theorem dX7_passes_13 : decode cX7_passes 13 = .ok (.ifCond .eq 7, 3) := by decide +kernel
theorem dX7_passes_16 : decode cX7_passes 16 = .ok (.iconst 1, 1) := by decide +kernel
theorem dX7_passes_17 : decode cX7_passes 17 = .ok (.goto 4, 3) := by decide +kernel
theorem dX7_passes_20 : decode cX7_passes 20 = .ok (.iconst 0, 1) := by decide +kernel
theorem dX7_passes_21 : decode cX7_passes 21 = .ok (.iadd, 1) := by decide +kernel
theorem dX7_passes_22 : decode cX7_passes 22 = .ok (.putfield 147, 3) := by decide +kernel
theorem dX7_passes_25 : decode cX7_passes 25 = .ok (.iload_n 2, 1) := by decide +kernel
theorem dX7_passes_26 : decode cX7_passes 26 = .ok (.ireturn, 1) := by decide +kernel
theorem dX7_number_0 : decode cX7_number 0 = .ok (.aload_n 0, 1) := by decide +kernel
theorem dX7_number_1 : decode cX7_number 1 = .ok (.getfield 147, 3) := by decide +kernel
theorem dX7_number_4 : decode cX7_number 4 = .ok (.istore_n 2, 1) := by decide +kernel
theorem dX7_number_5 : decode cX7_number 5 = .ok (.aload_n 0, 1) := by decide +kernel
theorem dX7_number_6 : decode cX7_number 6 = .ok (.getfield 35, 3) := by decide +kernel
theorem dX7_number_9 : decode cX7_number 9 = .ok (.iload_n 1, 1) := by decide +kernel
theorem dX7_number_10 : decode cX7_number 10 = .ok (.iconst 0, 1) := by decide +kernel
theorem dX7_number_11 : decode cX7_number 11 = .ok (.iastore, 1) := by decide +kernel
theorem dX7_number_12 : decode cX7_number 12 = .ok (.aload_n 0, 1) := by decide +kernel
theorem dX7_number_13 : decode cX7_number 13 = .ok (.bipush 48, 2) := by decide +kernel
theorem dX7_number_15 : decode cX7_number 15 = .ok (.bipush 57, 2) := by decide +kernel
theorem dX7_number_17 : decode cX7_number 17 = .ok (.invokevirtual 150, 3) := by decide +kernel
theorem dX7_number_20 : decode cX7_number 20 = .ok (.ifCond .eq 54, 3) := by decide +kernel
theorem dX7_number_23 : decode cX7_number 23 = .ok (.aload_n 0, 1) := by decide +kernel
theorem dX7_number_24 : decode cX7_number 24 = .ok (.getfield 147, 3) := by decide +kernel
theorem dX7_number_27 : decode cX7_number 27 = .ok (.iload_n 2, 1) := by decide +kernel
theorem dX7_number_28 : decode cX7_number 28 = .ok (.isub, 1) := by decide +kernel
theorem dX7_number_29 : decode cX7_number 29 = .ok (.iconst 2, 1) := by decide +kernel
theorem dX7_number_30 : decode cX7_number 30 = .ok (.if_icmp .ge 44, 3) := by decide +kernel
theorem dX7_number_33 : decode cX7_number 33 = .ok (.aload_n 0, 1) := by decide +kernel
theorem dX7_number_34 : decode cX7_number 34 = .ok (.getfield 35, 3) := by decide +kernel
theorem dX7_number_37 : decode cX7_number 37 = .ok (.iload_n 1, 1) := by decide +kernel
theorem dX7_number_38 : decode cX7_number 38 = .ok (.bipush 10, 2) := by decide +kernel
theorem dX7_number_40 : decode cX7_number 40 = .ok (.aload_n 0, 1) := by decide +kernel
theorem dX7_number_41 : decode cX7_number 41 = .ok (.getfield 35, 3) := by decide +kernel
theorem dX7_number_44 : decode cX7_number 44 = .ok (.iload_n 1, 1) := by decide +kernel
theorem dX7_number_45 : decode cX7_number 45 = .ok (.iaload, 1) := by decide +kernel
theorem dX7_number_46 : decode cX7_number 46 = .ok (.imul, 1) := by decide +kernel
theorem dX7_number_47 : decode cX7_number 47 = .ok (.aload_n 0, 1) := by decide +kernel
theorem dX7_number_48 : decode cX7_number 48 = .ok (.getfield 19, 3) := by decide +kernel
theorem dX7_number_51 : decode cX7_number 51 = .ok (.aload_n 0, 1) := by decide +kernel
theorem dX7_number_52 : decode cX7_number 52 = .ok (.getfield 147, 3) := by decide +kernel
theorem dX7_number_55 : decode cX7_number 55 = .ok (.iaload, 1) := by decide +kernel
theorem dX7_number_56 : decode cX7_number 56 = .ok (.iadd, 1) := by decide +kernel
theorem dX7_number_57 : decode cX7_number 57 = .ok (.bipush 48, 2) := by decide +kernel
theorem dX7_number_59 : decode cX7_number 59 = .ok (.isub, 1) := by decide +kernel
theorem dX7_number_60 : decode cX7_number 60 = .ok (.iastore, 1) := by decide +kernel
theorem dX7_number_61 : decode cX7_number 61 = .ok (.aload_n 0, 1) := by decide +kernel
theorem dX7_number_62 : decode cX7_number 62 = .ok (.dup, 1) := by decide +kernel
theorem dX7_number_63 : decode cX7_number 63 = .ok (.getfield 147, 3) := by decide +kernel
theorem dX7_number_66 : decode cX7_number 66 = .ok (.iconst 1, 1) := by decide +kernel
theorem dX7_number_67 : decode cX7_number 67 = .ok (.iadd, 1) := by decide +kernel
theorem dX7_number_68 : decode cX7_number 68 = .ok (.putfield 147, 3) := by decide +kernel
theorem dX7_number_71 : decode cX7_number 71 = .ok (.goto (-59), 3) := by decide +kernel
theorem dX7_number_74 : decode cX7_number 74 = .ok (.aload_n 0, 1) := by decide +kernel
theorem dX7_number_75 : decode cX7_number 75 = .ok (.getfield 147, 3) := by decide +kernel
theorem dX7_number_78 : decode cX7_number 78 = .ok (.iload_n 2, 1) := by decide +kernel
theorem dX7_number_79 : decode cX7_number 79 = .ok (.if_icmp .le 7, 3) := by decide +kernel
theorem dX7_number_82 : decode cX7_number 82 = .ok (.iconst 1, 1) := by decide +kernel
theorem dX7_number_83 : decode cX7_number 83 = .ok (.goto 4, 3) := by decide +kernel
theorem dX7_number_86 : decode cX7_number 86 = .ok (.iconst 0, 1) := by decide +kernel
theorem dX7_number_87 : decode cX7_number 87 = .ok (.ireturn, 1) := by decide +kernel
theorem dX7_reads_0 : decode cX7_reads 0 = .ok (.aload_n 0, 1) := by decide +kernel
theorem dX7_reads_1 : decode cX7_reads 1 = .ok (.aload_n 0, 1) := by decide +kernel
theorem dX7_reads_2 : decode cX7_reads 2 = .ok (.bipush 33, 2) := by decide +kernel
theorem dX7_reads_4 : decode cX7_reads 4 = .ok (.bipush 126, 2) := by decide +kernel
theorem dX7_reads_6 : decode cX7_reads 6 = .ok (.invokevirtual 150, 3) := by decide +kernel
theorem dX7_reads_9 : decode cX7_reads 9 = .ok (.ifCond .eq 15, 3) := by decide +kernel
theorem dX7_reads_12 : decode cX7_reads 12 = .ok (.aload_n 0, 1) := by decide +kernel
theorem dX7_reads_13 : decode cX7_reads 13 = .ok (.getfield 19, 3) := by decide +kernel
theorem dX7_reads_16 : decode cX7_reads 16 = .ok (.aload_n 0, 1) := by decide +kernel
theorem dX7_reads_17 : decode cX7_reads 17 = .ok (.getfield 147, 3) := by decide +kernel
theorem dX7_reads_20 : decode cX7_reads 20 = .ok (.iaload, 1) := by decide +kernel
theorem dX7_reads_21 : decode cX7_reads 21 = .ok (.goto 4, 3) := by decide +kernel
theorem dX7_reads_24 : decode cX7_reads 24 = .ok (.iconst 0, 1) := by decide +kernel
theorem dX7_reads_25 : decode cX7_reads 25 = .ok (.putfield 154, 3) := by decide +kernel
theorem dX7_reads_28 : decode cX7_reads 28 = .ok (.aload_n 0, 1) := by decide +kernel
theorem dX7_reads_29 : decode cX7_reads 29 = .ok (.getfield 154, 3) := by decide +kernel
theorem dX7_reads_32 : decode cX7_reads 32 = .ok (.bipush 109, 2) := by decide +kernel
theorem dX7_reads_34 : decode cX7_reads 34 = .ok (.if_icmp .eq 23, 3) := by decide +kernel
theorem dX7_reads_37 : decode cX7_reads 37 = .ok (.aload_n 0, 1) := by decide +kernel
theorem dX7_reads_38 : decode cX7_reads 38 = .ok (.getfield 154, 3) := by decide +kernel
theorem dX7_reads_41 : decode cX7_reads 41 = .ok (.bipush 111, 2) := by decide +kernel
theorem dX7_reads_43 : decode cX7_reads 43 = .ok (.if_icmp .eq 14, 3) := by decide +kernel
theorem dX7_reads_46 : decode cX7_reads 46 = .ok (.aload_n 0, 1) := by decide +kernel
theorem dX7_reads_47 : decode cX7_reads 47 = .ok (.getfield 154, 3) := by decide +kernel
theorem dX7_reads_50 : decode cX7_reads 50 = .ok (.bipush 114, 2) := by decide +kernel
theorem dX7_reads_52 : decode cX7_reads 52 = .ok (.if_icmp .eq 5, 3) := by decide +kernel
theorem dX7_reads_55 : decode cX7_reads 55 = .ok (.iconst 0, 1) := by decide +kernel
theorem dX7_reads_56 : decode cX7_reads 56 = .ok (.ireturn, 1) := by decide +kernel
theorem dX7_reads_57 : decode cX7_reads 57 = .ok (.aload_n 0, 1) := by decide +kernel
theorem dX7_reads_58 : decode cX7_reads 58 = .ok (.dup, 1) := by decide +kernel
theorem dX7_reads_59 : decode cX7_reads 59 = .ok (.getfield 147, 3) := by decide +kernel
theorem dX7_reads_62 : decode cX7_reads 62 = .ok (.iconst 1, 1) := by decide +kernel
theorem dX7_reads_63 : decode cX7_reads 63 = .ok (.iadd, 1) := by decide +kernel
theorem dX7_reads_64 : decode cX7_reads 64 = .ok (.putfield 147, 3) := by decide +kernel
theorem dX7_reads_67 : decode cX7_reads 67 = .ok (.aload_n 0, 1) := by decide +kernel
theorem dX7_reads_68 : decode cX7_reads 68 = .ok (.getfield 154, 3) := by decide +kernel
theorem dX7_reads_71 : decode cX7_reads 71 = .ok (.bipush 114, 2) := by decide +kernel
theorem dX7_reads_73 : decode cX7_reads 73 = .ok (.if_icmp .ne 10, 3) := by decide +kernel
theorem dX7_reads_76 : decode cX7_reads 76 = .ok (.aload_n 0, 1) := by decide +kernel
theorem dX7_reads_77 : decode cX7_reads 77 = .ok (.bipush 59, 2) := by decide +kernel
theorem dX7_reads_79 : decode cX7_reads 79 = .ok (.invokevirtual 157, 3) := by decide +kernel
theorem dX7_reads_82 : decode cX7_reads 82 = .ok (.ireturn, 1) := by decide +kernel
theorem dX7_reads_83 : decode cX7_reads 83 = .ok (.aload_n 0, 1) := by decide +kernel
theorem dX7_reads_84 : decode cX7_reads 84 = .ok (.getfield 154, 3) := by decide +kernel
theorem dX7_reads_87 : decode cX7_reads 87 = .ok (.bipush 109, 2) := by decide +kernel
theorem dX7_reads_89 : decode cX7_reads 89 = .ok (.if_icmp .ne 16, 3) := by decide +kernel
theorem dX7_reads_92 : decode cX7_reads 92 = .ok (.aload_n 0, 1) := by decide +kernel
theorem dX7_reads_93 : decode cX7_reads 93 = .ok (.bipush 45, 2) := by decide +kernel
theorem dX7_reads_95 : decode cX7_reads 95 = .ok (.invokevirtual 157, 3) := by decide +kernel
theorem dX7_reads_98 : decode cX7_reads 98 = .ok (.ifCond .eq 7, 3) := by decide +kernel
theorem dX7_reads_101 : decode cX7_reads 101 = .ok (.iconst 1, 1) := by decide +kernel
theorem dX7_reads_102 : decode cX7_reads 102 = .ok (.goto 4, 3) := by decide +kernel
theorem dX7_reads_105 : decode cX7_reads 105 = .ok (.iconst 0, 1) := by decide +kernel
theorem dX7_reads_106 : decode cX7_reads 106 = .ok (.istore_n 1, 1) := by decide +kernel
theorem dX7_reads_107 : decode cX7_reads 107 = .ok (.aload_n 0, 1) := by decide +kernel
theorem dX7_reads_108 : decode cX7_reads 108 = .ok (.iconst 0, 1) := by decide +kernel
theorem dX7_reads_109 : decode cX7_reads 109 = .ok (.invokevirtual 160, 3) := by decide +kernel
theorem dX7_reads_112 : decode cX7_reads 112 = .ok (.ifCond .eq 33, 3) := by decide +kernel
theorem dX7_reads_115 : decode cX7_reads 115 = .ok (.aload_n 0, 1) := by decide +kernel
theorem dX7_reads_116 : decode cX7_reads 116 = .ok (.bipush 44, 2) := by decide +kernel
theorem dX7_reads_118 : decode cX7_reads 118 = .ok (.invokevirtual 157, 3) := by decide +kernel
theorem dX7_reads_121 : decode cX7_reads 121 = .ok (.ifCond .eq 24, 3) := by decide +kernel
theorem dX7_reads_124 : decode cX7_reads 124 = .ok (.aload_n 0, 1) := by decide +kernel
theorem dX7_reads_125 : decode cX7_reads 125 = .ok (.iconst 1, 1) := by decide +kernel
theorem dX7_reads_126 : decode cX7_reads 126 = .ok (.invokevirtual 160, 3) := by decide +kernel
theorem dX7_reads_129 : decode cX7_reads 129 = .ok (.ifCond .eq 16, 3) := by decide +kernel
theorem dX7_reads_132 : decode cX7_reads 132 = .ok (.aload_n 0, 1) := by decide +kernel
theorem dX7_reads_133 : decode cX7_reads 133 = .ok (.bipush 59, 2) := by decide +kernel
theorem dX7_reads_135 : decode cX7_reads 135 = .ok (.invokevirtual 157, 3) := by decide +kernel
theorem dX7_reads_138 : decode cX7_reads 138 = .ok (.ifCond .eq 7, 3) := by decide +kernel
theorem dX7_reads_141 : decode cX7_reads 141 = .ok (.iconst 1, 1) := by decide +kernel
theorem dX7_reads_142 : decode cX7_reads 142 = .ok (.goto 4, 3) := by decide +kernel
theorem dX7_reads_145 : decode cX7_reads 145 = .ok (.iconst 0, 1) := by decide +kernel
theorem dX7_reads_146 : decode cX7_reads 146 = .ok (.istore_n 2, 1) := by decide +kernel
theorem dX7_reads_147 : decode cX7_reads 147 = .ok (.aload_n 0, 1) := by decide +kernel
theorem dX7_reads_148 : decode cX7_reads 148 = .ok (.getfield 35, 3) := by decide +kernel
theorem dX7_reads_151 : decode cX7_reads 151 = .ok (.iconst 0, 1) := by decide +kernel
theorem dX7_reads_152 : decode cX7_reads 152 = .ok (.iload_n 1, 1) := by decide +kernel
theorem dX7_reads_153 : decode cX7_reads 153 = .ok (.ifCond .eq 13, 3) := by decide +kernel
theorem dX7_reads_156 : decode cX7_reads 156 = .ok (.aload_n 0, 1) := by decide +kernel
theorem dX7_reads_157 : decode cX7_reads 157 = .ok (.getfield 35, 3) := by decide +kernel
theorem dX7_reads_160 : decode cX7_reads 160 = .ok (.iconst 0, 1) := by decide +kernel
theorem dX7_reads_161 : decode cX7_reads 161 = .ok (.iaload, 1) := by decide +kernel
theorem dX7_reads_162 : decode cX7_reads 162 = .ok (.ineg, 1) := by decide +kernel
theorem dX7_reads_163 : decode cX7_reads 163 = .ok (.goto 9, 3) := by decide +kernel
theorem dX7_reads_166 : decode cX7_reads 166 = .ok (.aload_n 0, 1) := by decide +kernel
theorem dX7_reads_167 : decode cX7_reads 167 = .ok (.getfield 35, 3) := by decide +kernel
theorem dX7_reads_170 : decode cX7_reads 170 = .ok (.iconst 0, 1) := by decide +kernel
theorem dX7_reads_171 : decode cX7_reads 171 = .ok (.iaload, 1) := by decide +kernel
theorem dX7_reads_172 : decode cX7_reads 172 = .ok (.iastore, 1) := by decide +kernel
theorem dX7_reads_173 : decode cX7_reads 173 = .ok (.iload_n 2, 1) := by decide +kernel
theorem dX7_reads_174 : decode cX7_reads 174 = .ok (.ireturn, 1) := by decide +kernel
theorem dX7_calls_0 : decode cX7_calls 0 = .ok (.aload_n 0, 1) := by decide +kernel
theorem dX7_calls_1 : decode cX7_calls 1 = .ok (.getfield 154, 3) := by decide +kernel
theorem dX7_calls_4 : decode cX7_calls 4 = .ok (.bipush 109, 2) := by decide +kernel
theorem dX7_calls_6 : decode cX7_calls 6 = .ok (.if_icmp .ne 22, 3) := by decide +kernel
theorem dX7_calls_9 : decode cX7_calls 9 = .ok (.aload_n 0, 1) := by decide +kernel
theorem dX7_calls_10 : decode cX7_calls 10 = .ok (.aload_n 0, 1) := by decide +kernel
theorem dX7_calls_11 : decode cX7_calls 11 = .ok (.getfield 35, 3) := by decide +kernel
theorem dX7_calls_14 : decode cX7_calls 14 = .ok (.iconst 0, 1) := by decide +kernel
theorem dX7_calls_15 : decode cX7_calls 15 = .ok (.iaload, 1) := by decide +kernel
theorem dX7_calls_16 : decode cX7_calls 16 = .ok (.aload_n 0, 1) := by decide +kernel
theorem dX7_calls_17 : decode cX7_calls 17 = .ok (.getfield 35, 3) := by decide +kernel
theorem dX7_calls_20 : decode cX7_calls 20 = .ok (.iconst 1, 1) := by decide +kernel
theorem dX7_calls_21 : decode cX7_calls 21 = .ok (.iaload, 1) := by decide +kernel
theorem dX7_calls_22 : decode cX7_calls 22 = .ok (.invokevirtual 163, 3) := by decide +kernel
theorem dX7_calls_25 : decode cX7_calls 25 = .ok (.goto 35, 3) := by decide +kernel
theorem dX7_calls_28 : decode cX7_calls 28 = .ok (.aload_n 0, 1) := by decide +kernel
theorem dX7_calls_29 : decode cX7_calls 29 = .ok (.getfield 154, 3) := by decide +kernel
theorem dX7_calls_32 : decode cX7_calls 32 = .ok (.bipush 111, 2) := by decide +kernel
theorem dX7_calls_34 : decode cX7_calls 34 = .ok (.if_icmp .ne 22, 3) := by decide +kernel
theorem dX7_calls_37 : decode cX7_calls 37 = .ok (.aload_n 0, 1) := by decide +kernel
theorem dX7_calls_38 : decode cX7_calls 38 = .ok (.aload_n 0, 1) := by decide +kernel
theorem dX7_calls_39 : decode cX7_calls 39 = .ok (.getfield 35, 3) := by decide +kernel
theorem dX7_calls_42 : decode cX7_calls 42 = .ok (.iconst 0, 1) := by decide +kernel
theorem dX7_calls_43 : decode cX7_calls 43 = .ok (.iaload, 1) := by decide +kernel
theorem dX7_calls_44 : decode cX7_calls 44 = .ok (.aload_n 0, 1) := by decide +kernel
theorem dX7_calls_45 : decode cX7_calls 45 = .ok (.getfield 35, 3) := by decide +kernel
theorem dX7_calls_48 : decode cX7_calls 48 = .ok (.iconst 1, 1) := by decide +kernel
theorem dX7_calls_49 : decode cX7_calls 49 = .ok (.iaload, 1) := by decide +kernel
theorem dX7_calls_50 : decode cX7_calls 50 = .ok (.invokevirtual 166, 3) := by decide +kernel
theorem dX7_calls_53 : decode cX7_calls 53 = .ok (.goto 7, 3) := by decide +kernel
theorem dX7_calls_56 : decode cX7_calls 56 = .ok (.aload_n 0, 1) := by decide +kernel
theorem dX7_calls_57 : decode cX7_calls 57 = .ok (.invokevirtual 169, 3) := by decide +kernel
theorem dX7_calls_60 : decode cX7_calls 60 = .ok (.ireturn, 1) := by decide +kernel
theorem dX7_plays_0 : decode cX7_plays 0 = .ok (.aload_n 0, 1) := by decide +kernel
theorem dX7_plays_1 : decode cX7_plays 1 = .ok (.iconst 1, 1) := by decide +kernel
theorem dX7_plays_2 : decode cX7_plays 2 = .ok (.putfield 42, 3) := by decide +kernel
theorem dX7_plays_5 : decode cX7_plays 5 = .ok (.aload_n 0, 1) := by decide +kernel
theorem dX7_plays_6 : decode cX7_plays 6 = .ok (.iconst 0, 1) := by decide +kernel
theorem dX7_plays_7 : decode cX7_plays 7 = .ok (.putfield 147, 3) := by decide +kernel
theorem dX7_plays_10 : decode cX7_plays 10 = .ok (.aload_n 0, 1) := by decide +kernel
theorem dX7_plays_11 : decode cX7_plays 11 = .ok (.iconst 0, 1) := by decide +kernel
theorem dX7_plays_12 : decode cX7_plays 12 = .ok (.putfield 172, 3) := by decide +kernel
theorem dX7_plays_15 : decode cX7_plays 15 = .ok (.aload_n 0, 1) := by decide +kernel
theorem dX7_plays_16 : decode cX7_plays 16 = .ok (.iconst 0, 1) := by decide +kernel
theorem dX7_plays_17 : decode cX7_plays 17 = .ok (.putfield 175, 3) := by decide +kernel
theorem dX7_plays_20 : decode cX7_plays 20 = .ok (.iconst 1, 1) := by decide +kernel
theorem dX7_plays_21 : decode cX7_plays 21 = .ok (.istore_n 1, 1) := by decide +kernel
theorem dX7_plays_22 : decode cX7_plays 22 = .ok (.aload_n 0, 1) := by decide +kernel
theorem dX7_plays_23 : decode cX7_plays 23 = .ok (.getfield 147, 3) := by decide +kernel
theorem dX7_plays_26 : decode cX7_plays 26 = .ok (.aload_n 0, 1) := by decide +kernel
theorem dX7_plays_27 : decode cX7_plays 27 = .ok (.getfield 144, 3) := by decide +kernel
theorem dX7_plays_30 : decode cX7_plays 30 = .ok (.if_icmp .ge 94, 3) := by decide +kernel
theorem dX7_plays_33 : decode cX7_plays 33 = .ok (.iload_n 1, 1) := by decide +kernel
theorem dX7_plays_34 : decode cX7_plays 34 = .ok (.ifCond .eq 90, 3) := by decide +kernel
theorem dX7_plays_37 : decode cX7_plays 37 = .ok (.aload_n 0, 1) := by decide +kernel
theorem dX7_plays_38 : decode cX7_plays 38 = .ok (.aload_n 0, 1) := by decide +kernel
theorem dX7_plays_39 : decode cX7_plays 39 = .ok (.getfield 147, 3) := by decide +kernel
theorem dX7_plays_42 : decode cX7_plays 42 = .ok (.putfield 172, 3) := by decide +kernel
theorem dX7_plays_45 : decode cX7_plays 45 = .ok (.aload_n 0, 1) := by decide +kernel
theorem dX7_plays_46 : decode cX7_plays 46 = .ok (.invokevirtual 178, 3) := by decide +kernel
theorem dX7_plays_49 : decode cX7_plays 49 = .ok (.istore_n 2, 1) := by decide +kernel
theorem dX7_plays_50 : decode cX7_plays 50 = .ok (.iload_n 2, 1) := by decide +kernel
theorem dX7_plays_51 : decode cX7_plays 51 = .ok (.ifCond .eq 10, 3) := by decide +kernel
theorem dX7_plays_54 : decode cX7_plays 54 = .ok (.aload_n 0, 1) := by decide +kernel
theorem dX7_plays_55 : decode cX7_plays 55 = .ok (.invokevirtual 182, 3) := by decide +kernel
theorem dX7_plays_58 : decode cX7_plays 58 = .ok (.goto 4, 3) := by decide +kernel
theorem dX7_plays_61 : decode cX7_plays 61 = .ok (.iconst 0, 1) := by decide +kernel
theorem dX7_plays_62 : decode cX7_plays 62 = .ok (.istore_n 3, 1) := by decide +kernel
theorem dX7_plays_63 : decode cX7_plays 63 = .ok (.iload_n 2, 1) := by decide +kernel
theorem dX7_plays_64 : decode cX7_plays 64 = .ok (.ifCond .eq 11, 3) := by decide +kernel
theorem dX7_plays_67 : decode cX7_plays 67 = .ok (.iload_n 3, 1) := by decide +kernel
theorem dX7_plays_68 : decode cX7_plays 68 = .ok (.ifCond .lt 7, 3) := by decide +kernel
theorem dX7_plays_71 : decode cX7_plays 71 = .ok (.iconst 1, 1) := by decide +kernel
theorem dX7_plays_72 : decode cX7_plays 72 = .ok (.goto 4, 3) := by decide +kernel
theorem dX7_plays_75 : decode cX7_plays 75 = .ok (.iconst 0, 1) := by decide +kernel
theorem dX7_plays_76 : decode cX7_plays 76 = .ok (.istore_n 1, 1) := by decide +kernel
theorem dX7_plays_77 : decode cX7_plays 77 = .ok (.aload_n 0, 1) := by decide +kernel
theorem dX7_plays_78 : decode cX7_plays 78 = .ok (.iload_n 2, 1) := by decide +kernel
theorem dX7_plays_79 : decode cX7_plays 79 = .ok (.ifCond .eq 7, 3) := by decide +kernel
theorem dX7_plays_82 : decode cX7_plays 82 = .ok (.iconst 2, 1) := by decide +kernel
theorem dX7_plays_83 : decode cX7_plays 83 = .ok (.goto 4, 3) := by decide +kernel
theorem dX7_plays_86 : decode cX7_plays 86 = .ok (.iconst 1, 1) := by decide +kernel
theorem dX7_plays_87 : decode cX7_plays 87 = .ok (.putfield 185, 3) := by decide +kernel
theorem dX7_plays_90 : decode cX7_plays 90 = .ok (.aload_n 0, 1) := by decide +kernel
theorem dX7_plays_91 : decode cX7_plays 91 = .ok (.iload_n 2, 1) := by decide +kernel
theorem dX7_plays_92 : decode cX7_plays 92 = .ok (.ifCond .eq 7, 3) := by decide +kernel
theorem dX7_plays_95 : decode cX7_plays 95 = .ok (.iload_n 3, 1) := by decide +kernel
theorem dX7_plays_96 : decode cX7_plays 96 = .ok (.goto 12, 3) := by decide +kernel
theorem dX7_plays_99 : decode cX7_plays 99 = .ok (.aload_n 0, 1) := by decide +kernel
theorem dX7_plays_100 : decode cX7_plays 100 = .ok (.getfield 147, 3) := by decide +kernel
theorem dX7_plays_103 : decode cX7_plays 103 = .ok (.aload_n 0, 1) := by decide +kernel
theorem dX7_plays_104 : decode cX7_plays 104 = .ok (.getfield 172, 3) := by decide +kernel
theorem dX7_plays_107 : decode cX7_plays 107 = .ok (.isub, 1) := by decide +kernel
theorem dX7_plays_108 : decode cX7_plays 108 = .ok (.putfield 188, 3) := by decide +kernel
theorem dX7_plays_111 : decode cX7_plays 111 = .ok (.aload_n 0, 1) := by decide +kernel
theorem dX7_plays_112 : decode cX7_plays 112 = .ok (.dup, 1) := by decide +kernel
theorem dX7_plays_113 : decode cX7_plays 113 = .ok (.getfield 175, 3) := by decide +kernel
theorem dX7_plays_116 : decode cX7_plays 116 = .ok (.iconst 1, 1) := by decide +kernel
theorem dX7_plays_117 : decode cX7_plays 117 = .ok (.iadd, 1) := by decide +kernel
theorem dX7_plays_118 : decode cX7_plays 118 = .ok (.putfield 175, 3) := by decide +kernel
theorem dX7_plays_121 : decode cX7_plays 121 = .ok (.goto (-99), 3) := by decide +kernel
theorem dX7_plays_124 : decode cX7_plays 124 = .ok (.aload_n 0, 1) := by decide +kernel
theorem dX7_plays_125 : decode cX7_plays 125 = .ok (.iconst 0, 1) := by decide +kernel
theorem dX7_plays_126 : decode cX7_plays 126 = .ok (.putfield 42, 3) := by decide +kernel
theorem dX7_plays_129 : decode cX7_plays 129 = .ok (.iload_n 1, 1) := by decide +kernel
theorem dX7_plays_130 : decode cX7_plays 130 = .ok (.ireturn, 1) := by decide +kernel
theorem dX7_fault_0 : decode cX7_fault 0 = .ok (.iload_n 1, 1) := by decide +kernel
theorem dX7_fault_1 : decode cX7_fault 1 = .ok (.iconst 0, 1) := by decide +kernel
theorem dX7_fault_2 : decode cX7_fault 2 = .ok (.iconst 2, 1) := by decide +kernel
theorem dX7_fault_3 : decode cX7_fault 3 = .ok (.invokestatic 84, 3) := by decide +kernel
theorem dX7_fault_6 : decode cX7_fault 6 = .ok (.ifCond .ne 6, 3) := by decide +kernel
theorem dX7_fault_9 : decode cX7_fault 9 = .ok (.ldc 88, 2) := by decide +kernel
theorem dX7_fault_11 : decode cX7_fault 11 = .ok (.ireturn, 1) := by decide +kernel
theorem dX7_fault_12 : decode cX7_fault 12 = .ok (.aload_n 0, 1) := by decide +kernel
theorem dX7_fault_13 : decode cX7_fault 13 = .ok (.getfield 7, 3) := by decide +kernel
theorem dX7_fault_16 : decode cX7_fault 16 = .ok (.aload_n 0, 1) := by decide +kernel
theorem dX7_fault_17 : decode cX7_fault 17 = .ok (.getfield 16, 3) := by decide +kernel
theorem dX7_fault_20 : decode cX7_fault 20 = .ok (.invokestatic 191, 3) := by decide +kernel
theorem dX7_fault_23 : decode cX7_fault 23 = .ok (.aload_n 0, 1) := by decide +kernel
theorem dX7_fault_24 : decode cX7_fault 24 = .ok (.invokevirtual 195, 3) := by decide +kernel
theorem dX7_fault_27 : decode cX7_fault 27 = .ok (.istore_n 2, 1) := by decide +kernel
theorem dX7_fault_28 : decode cX7_fault 28 = .ok (.aload_n 0, 1) := by decide +kernel
theorem dX7_fault_29 : decode cX7_fault 29 = .ok (.getfield 16, 3) := by decide +kernel
theorem dX7_fault_32 : decode cX7_fault 32 = .ok (.aload_n 0, 1) := by decide +kernel
theorem dX7_fault_33 : decode cX7_fault 33 = .ok (.getfield 7, 3) := by decide +kernel
theorem dX7_fault_36 : decode cX7_fault 36 = .ok (.invokestatic 191, 3) := by decide +kernel
theorem dX7_fault_39 : decode cX7_fault 39 = .ok (.iload_n 2, 1) := by decide +kernel
theorem dX7_fault_40 : decode cX7_fault 40 = .ok (.ifCond .eq 8, 3) := by decide +kernel
theorem dX7_fault_43 : decode cX7_fault 43 = .ok (.ldc 50, 2) := by decide +kernel
theorem dX7_fault_45 : decode cX7_fault 45 = .ok (.goto 30, 3) := by decide +kernel
theorem dX7_fault_48 : decode cX7_fault 48 = .ok (.iload_n 1, 1) := by decide +kernel
theorem dX7_fault_49 : decode cX7_fault 49 = .ok (.ifCond .ne 10, 3) := by decide +kernel
theorem dX7_fault_52 : decode cX7_fault 52 = .ok (.aload_n 0, 1) := by decide +kernel
theorem dX7_fault_53 : decode cX7_fault 53 = .ok (.getfield 172, 3) := by decide +kernel
theorem dX7_fault_56 : decode cX7_fault 56 = .ok (.goto 19, 3) := by decide +kernel
theorem dX7_fault_59 : decode cX7_fault 59 = .ok (.iload_n 1, 1) := by decide +kernel
theorem dX7_fault_60 : decode cX7_fault 60 = .ok (.iconst 1, 1) := by decide +kernel
theorem dX7_fault_61 : decode cX7_fault 61 = .ok (.if_icmp .ne 10, 3) := by decide +kernel
theorem dX7_fault_64 : decode cX7_fault 64 = .ok (.aload_n 0, 1) := by decide +kernel
theorem dX7_fault_65 : decode cX7_fault 65 = .ok (.getfield 185, 3) := by decide +kernel
theorem dX7_fault_68 : decode cX7_fault 68 = .ok (.goto 7, 3) := by decide +kernel
theorem dX7_fault_71 : decode cX7_fault 71 = .ok (.aload_n 0, 1) := by decide +kernel
theorem dX7_fault_72 : decode cX7_fault 72 = .ok (.getfield 188, 3) := by decide +kernel
theorem dX7_fault_75 : decode cX7_fault 75 = .ok (.ireturn, 1) := by decide +kernel
theorem dX7_play_0 : decode cX7_play 0 = .ok (.aload_n 0, 1) := by decide +kernel
theorem dX7_play_1 : decode cX7_play 1 = .ok (.getfield 7, 3) := by decide +kernel
theorem dX7_play_4 : decode cX7_play 4 = .ok (.aload_n 0, 1) := by decide +kernel
theorem dX7_play_5 : decode cX7_play 5 = .ok (.getfield 16, 3) := by decide +kernel
theorem dX7_play_8 : decode cX7_play 8 = .ok (.invokestatic 191, 3) := by decide +kernel
theorem dX7_play_11 : decode cX7_play 11 = .ok (.aload_n 0, 1) := by decide +kernel
theorem dX7_play_12 : decode cX7_play 12 = .ok (.invokevirtual 195, 3) := by decide +kernel
theorem dX7_play_15 : decode cX7_play 15 = .ok (.istore_n 1, 1) := by decide +kernel
theorem dX7_play_16 : decode cX7_play 16 = .ok (.aload_n 0, 1) := by decide +kernel
theorem dX7_play_17 : decode cX7_play 17 = .ok (.getfield 16, 3) := by decide +kernel
theorem dX7_play_20 : decode cX7_play 20 = .ok (.aload_n 0, 1) := by decide +kernel
theorem dX7_play_21 : decode cX7_play 21 = .ok (.getfield 7, 3) := by decide +kernel
theorem dX7_play_24 : decode cX7_play 24 = .ok (.invokestatic 191, 3) := by decide +kernel
theorem dX7_play_27 : decode cX7_play 27 = .ok (.iload_n 1, 1) := by decide +kernel
theorem dX7_play_28 : decode cX7_play 28 = .ok (.ifCond .ne 6, 3) := by decide +kernel
theorem dX7_play_31 : decode cX7_play 31 = .ok (.ldc 97, 2) := by decide +kernel
theorem dX7_play_33 : decode cX7_play 33 = .ok (.ireturn, 1) := by decide +kernel
theorem dX7_play_34 : decode cX7_play 34 = .ok (.aload_n 0, 1) := by decide +kernel
theorem dX7_play_35 : decode cX7_play 35 = .ok (.invokevirtual 89, 3) := by decide +kernel
theorem dX7_play_38 : decode cX7_play 38 = .ok (.aload_n 0, 1) := by decide +kernel
theorem dX7_play_39 : decode cX7_play 39 = .ok (.invokevirtual 195, 3) := by decide +kernel
theorem dX7_play_42 : decode cX7_play 42 = .ok (.ifCond .eq 10, 3) := by decide +kernel
theorem dX7_play_45 : decode cX7_play 45 = .ok (.aload_n 0, 1) := by decide +kernel
theorem dX7_play_46 : decode cX7_play 46 = .ok (.getfield 175, 3) := by decide +kernel
theorem dX7_play_49 : decode cX7_play 49 = .ok (.goto 5, 3) := by decide +kernel
theorem dX7_play_52 : decode cX7_play 52 = .ok (.ldc 50, 2) := by decide +kernel
theorem dX7_play_54 : decode cX7_play 54 = .ok (.ireturn, 1) := by decide +kernel
theorem dJ6_bitCount_0f7a4_0 : decode cJ6_bitCount_0f7a4 0 = .ok (.iload_n 0, 1) := by decide +kernel
theorem dJ6_bitCount_0f7a4_1 : decode cJ6_bitCount_0f7a4 1 = .ok (.iload_n 0, 1) := by decide +kernel
theorem dJ6_bitCount_0f7a4_2 : decode cJ6_bitCount_0f7a4 2 = .ok (.iconst 1, 1) := by decide +kernel
theorem dJ6_bitCount_0f7a4_3 : decode cJ6_bitCount_0f7a4 3 = .ok (.iushr, 1) := by decide +kernel
theorem dJ6_bitCount_0f7a4_4 : decode cJ6_bitCount_0f7a4 4 = .ok (.ldc_w 265, 3) := by decide +kernel
theorem dJ6_bitCount_0f7a4_7 : decode cJ6_bitCount_0f7a4 7 = .ok (.iand, 1) := by decide +kernel
theorem dJ6_bitCount_0f7a4_8 : decode cJ6_bitCount_0f7a4 8 = .ok (.isub, 1) := by decide +kernel
theorem dJ6_bitCount_0f7a4_9 : decode cJ6_bitCount_0f7a4 9 = .ok (.istore_n 0, 1) := by decide +kernel
theorem dJ6_bitCount_0f7a4_10 : decode cJ6_bitCount_0f7a4 10 = .ok (.iload_n 0, 1) := by decide +kernel
theorem dJ6_bitCount_0f7a4_11 : decode cJ6_bitCount_0f7a4 11 = .ok (.ldc_w 266, 3) := by decide +kernel
theorem dJ6_bitCount_0f7a4_14 : decode cJ6_bitCount_0f7a4 14 = .ok (.iand, 1) := by decide +kernel
theorem dJ6_bitCount_0f7a4_15 : decode cJ6_bitCount_0f7a4 15 = .ok (.iload_n 0, 1) := by decide +kernel
theorem dJ6_bitCount_0f7a4_16 : decode cJ6_bitCount_0f7a4 16 = .ok (.iconst 2, 1) := by decide +kernel
theorem dJ6_bitCount_0f7a4_17 : decode cJ6_bitCount_0f7a4 17 = .ok (.iushr, 1) := by decide +kernel
theorem dJ6_bitCount_0f7a4_18 : decode cJ6_bitCount_0f7a4 18 = .ok (.ldc_w 266, 3) := by decide +kernel
theorem dJ6_bitCount_0f7a4_21 : decode cJ6_bitCount_0f7a4 21 = .ok (.iand, 1) := by decide +kernel
theorem dJ6_bitCount_0f7a4_22 : decode cJ6_bitCount_0f7a4 22 = .ok (.iadd, 1) := by decide +kernel
theorem dJ6_bitCount_0f7a4_23 : decode cJ6_bitCount_0f7a4 23 = .ok (.istore_n 0, 1) := by decide +kernel
theorem dJ6_bitCount_0f7a4_24 : decode cJ6_bitCount_0f7a4 24 = .ok (.iload_n 0, 1) := by decide +kernel
theorem dJ6_bitCount_0f7a4_25 : decode cJ6_bitCount_0f7a4 25 = .ok (.iload_n 0, 1) := by decide +kernel
theorem dJ6_bitCount_0f7a4_26 : decode cJ6_bitCount_0f7a4 26 = .ok (.iconst 4, 1) := by decide +kernel
theorem dJ6_bitCount_0f7a4_27 : decode cJ6_bitCount_0f7a4 27 = .ok (.iushr, 1) := by decide +kernel
theorem dJ6_bitCount_0f7a4_28 : decode cJ6_bitCount_0f7a4 28 = .ok (.iadd, 1) := by decide +kernel
theorem dJ6_bitCount_0f7a4_29 : decode cJ6_bitCount_0f7a4 29 = .ok (.ldc_w 267, 3) := by decide +kernel
theorem dJ6_bitCount_0f7a4_32 : decode cJ6_bitCount_0f7a4 32 = .ok (.iand, 1) := by decide +kernel
theorem dJ6_bitCount_0f7a4_33 : decode cJ6_bitCount_0f7a4 33 = .ok (.istore_n 0, 1) := by decide +kernel
theorem dJ6_bitCount_0f7a4_34 : decode cJ6_bitCount_0f7a4 34 = .ok (.iload_n 0, 1) := by decide +kernel
theorem dJ6_bitCount_0f7a4_35 : decode cJ6_bitCount_0f7a4 35 = .ok (.iload_n 0, 1) := by decide +kernel
theorem dJ6_bitCount_0f7a4_36 : decode cJ6_bitCount_0f7a4 36 = .ok (.bipush 8, 2) := by decide +kernel
theorem dJ6_bitCount_0f7a4_38 : decode cJ6_bitCount_0f7a4 38 = .ok (.iushr, 1) := by decide +kernel
theorem dJ6_bitCount_0f7a4_39 : decode cJ6_bitCount_0f7a4 39 = .ok (.iadd, 1) := by decide +kernel
theorem dJ6_bitCount_0f7a4_40 : decode cJ6_bitCount_0f7a4 40 = .ok (.istore_n 0, 1) := by decide +kernel
theorem dJ6_bitCount_0f7a4_41 : decode cJ6_bitCount_0f7a4 41 = .ok (.iload_n 0, 1) := by decide +kernel
theorem dJ6_bitCount_0f7a4_42 : decode cJ6_bitCount_0f7a4 42 = .ok (.iload_n 0, 1) := by decide +kernel
theorem dJ6_bitCount_0f7a4_43 : decode cJ6_bitCount_0f7a4 43 = .ok (.bipush 16, 2) := by decide +kernel
theorem dJ6_bitCount_0f7a4_45 : decode cJ6_bitCount_0f7a4 45 = .ok (.iushr, 1) := by decide +kernel
theorem dJ6_bitCount_0f7a4_46 : decode cJ6_bitCount_0f7a4 46 = .ok (.iadd, 1) := by decide +kernel
theorem dJ6_bitCount_0f7a4_47 : decode cJ6_bitCount_0f7a4 47 = .ok (.istore_n 0, 1) := by decide +kernel
theorem dJ6_bitCount_0f7a4_48 : decode cJ6_bitCount_0f7a4 48 = .ok (.iload_n 0, 1) := by decide +kernel
theorem dJ6_bitCount_0f7a4_49 : decode cJ6_bitCount_0f7a4 49 = .ok (.bipush 63, 2) := by decide +kernel
theorem dJ6_bitCount_0f7a4_51 : decode cJ6_bitCount_0f7a4 51 = .ok (.iand, 1) := by decide +kernel
theorem dJ6_bitCount_0f7a4_52 : decode cJ6_bitCount_0f7a4 52 = .ok (.ireturn, 1) := by decide +kernel
theorem dJ9_abs_0f7a4_0 : decode cJ9_abs_0f7a4 0 = .ok (.iload_n 0, 1) := by decide +kernel
theorem dJ9_abs_0f7a4_1 : decode cJ9_abs_0f7a4 1 = .ok (.ifCond .ge 8, 3) := by decide +kernel
theorem dJ9_abs_0f7a4_4 : decode cJ9_abs_0f7a4 4 = .ok (.iload_n 0, 1) := by decide +kernel
theorem dJ9_abs_0f7a4_5 : decode cJ9_abs_0f7a4 5 = .ok (.ineg, 1) := by decide +kernel
theorem dJ9_abs_0f7a4_6 : decode cJ9_abs_0f7a4 6 = .ok (.goto 4, 3) := by decide +kernel
theorem dJ9_abs_0f7a4_9 : decode cJ9_abs_0f7a4 9 = .ok (.iload_n 0, 1) := by decide +kernel
theorem dJ9_abs_0f7a4_10 : decode cJ9_abs_0f7a4 10 = .ok (.ireturn, 1) := by decide +kernel
theorem dJ9_max_7cf53_0 : decode cJ9_max_7cf53 0 = .ok (.iload_n 0, 1) := by decide +kernel
theorem dJ9_max_7cf53_1 : decode cJ9_max_7cf53 1 = .ok (.iload_n 1, 1) := by decide +kernel
theorem dJ9_max_7cf53_2 : decode cJ9_max_7cf53 2 = .ok (.if_icmp .lt 7, 3) := by decide +kernel
theorem dJ9_max_7cf53_5 : decode cJ9_max_7cf53 5 = .ok (.iload_n 0, 1) := by decide +kernel
theorem dJ9_max_7cf53_6 : decode cJ9_max_7cf53 6 = .ok (.goto 4, 3) := by decide +kernel
theorem dJ9_max_7cf53_9 : decode cJ9_max_7cf53 9 = .ok (.iload_n 1, 1) := by decide +kernel
theorem dJ9_max_7cf53_10 : decode cJ9_max_7cf53 10 = .ok (.ireturn, 1) := by decide +kernel
theorem dJ9_min_7cf53_0 : decode cJ9_min_7cf53 0 = .ok (.iload_n 0, 1) := by decide +kernel
theorem dJ9_min_7cf53_1 : decode cJ9_min_7cf53 1 = .ok (.iload_n 1, 1) := by decide +kernel
theorem dJ9_min_7cf53_2 : decode cJ9_min_7cf53 2 = .ok (.if_icmp .gt 7, 3) := by decide +kernel
theorem dJ9_min_7cf53_5 : decode cJ9_min_7cf53 5 = .ok (.iload_n 0, 1) := by decide +kernel
theorem dJ9_min_7cf53_6 : decode cJ9_min_7cf53 6 = .ok (.goto 4, 3) := by decide +kernel
theorem dJ9_min_7cf53_9 : decode cJ9_min_7cf53 9 = .ok (.iload_n 1, 1) := by decide +kernel
theorem dJ9_min_7cf53_10 : decode cJ9_min_7cf53 10 = .ok (.ireturn, 1) := by decide +kernel
theorem dL_law_0 : decode cL_law 0 = .ok (.new 7, 3) := by decide +kernel
theorem dL_law_3 : decode cL_law 3 = .ok (.dup, 1) := by decide +kernel
theorem dL_law_4 : decode cL_law 4 = .ok (.invokespecial 9, 3) := by decide +kernel
theorem dL_law_7 : decode cL_law 7 = .ok (.astore_n 1, 1) := by decide +kernel
theorem dL_law_8 : decode cL_law 8 = .ok (.new 10, 3) := by decide +kernel
theorem dL_law_11 : decode cL_law 11 = .ok (.dup, 1) := by decide +kernel
theorem dL_law_12 : decode cL_law 12 = .ok (.invokespecial 12, 3) := by decide +kernel
theorem dL_law_15 : decode cL_law 15 = .ok (.astore_n 2, 1) := by decide +kernel
theorem dL_law_16 : decode cL_law 16 = .ok (.iconst 0, 1) := by decide +kernel
theorem dL_law_17 : decode cL_law 17 = .ok (.istore_n 3, 1) := by decide +kernel
theorem dL_law_18 : decode cL_law 18 = .ok (.iload_n 3, 1) := by decide +kernel
theorem dL_law_19 : decode cL_law 19 = .ok (.aload_n 0, 1) := by decide +kernel
theorem dL_law_20 : decode cL_law 20 = .ok (.arraylength, 1) := by decide +kernel
theorem dL_law_21 : decode cL_law 21 = .ok (.iconst 5, 1) := by decide +kernel
theorem dL_law_22 : decode cL_law 22 = .ok (.isub, 1) := by decide +kernel
theorem dL_law_23 : decode cL_law 23 = .ok (.if_icmp .gt 681, 3) := by decide +kernel
theorem dL_law_26 : decode cL_law 26 = .ok (.aload_n 0, 1) := by decide +kernel
theorem dL_law_27 : decode cL_law 27 = .ok (.iload_n 3, 1) := by decide +kernel
theorem dL_law_28 : decode cL_law 28 = .ok (.iaload, 1) := by decide +kernel
theorem dL_law_29 : decode cL_law 29 = .ok (.bipush 31, 2) := by decide +kernel
theorem dL_law_31 : decode cL_law 31 = .ok (.iand, 1) := by decide +kernel
theorem dL_law_32 : decode cL_law 32 = .ok (.tableswitch 666 0 19 #[96, 139, 172, 205, 238, 251, 284, 317, 350, 393, 426, 439, 472, 525, 558, 581, 594, 617, 630, 653], 96) := by decide +kernel
theorem dL_law_128 : decode cL_law 128 = .ok (.aload_n 1, 1) := by decide +kernel
theorem dL_law_129 : decode cL_law 129 = .ok (.aload_n 0, 1) := by decide +kernel
theorem dL_law_130 : decode cL_law 130 = .ok (.iload_n 3, 1) := by decide +kernel
