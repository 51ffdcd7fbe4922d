theorem dX7_looks_14 : decode cX7_looks 14 = .ok (.invokevirtual 102, 3) := by decide +kernel
theorem dX7_looks_17 : decode cX7_looks 17 = .ok (.iload_n 3, 1) := by decide +kernel
theorem dX7_looks_18 : decode cX7_looks 18 = .ok (.invokevirtual 81, 3) := by decide +kernel
theorem dX7_looks_21 : decode cX7_looks 21 = .ok (.iload_n 1, 1) := by decide +kernel
theorem dX7_looks_22 : decode cX7_looks 22 = .ok (.isub, 1) := by decide +kernel
theorem dX7_looks_23 : decode cX7_looks 23 = .ok (.istore 4, 2) := by decide +kernel
theorem dX7_looks_25 : decode cX7_looks 25 = .ok (.iload_n 2, 1) := by decide +kernel
theorem dX7_looks_26 : decode cX7_looks 26 = .ok (.iload 4, 2) := by decide +kernel
theorem dX7_looks_28 : decode cX7_looks 28 = .ok (.ifCond .ge 9, 3) := by decide +kernel
theorem dX7_looks_31 : decode cX7_looks 31 = .ok (.iload 4, 2) := by decide +kernel
theorem dX7_looks_33 : decode cX7_looks 33 = .ok (.ineg, 1) := by decide +kernel
theorem dX7_looks_34 : decode cX7_looks 34 = .ok (.goto 5, 3) := by decide +kernel
theorem dX7_looks_37 : decode cX7_looks 37 = .ok (.iload 4, 2) := by decide +kernel
theorem dX7_looks_39 : decode cX7_looks 39 = .ok (.isub, 1) := by decide +kernel
theorem dX7_looks_40 : decode cX7_looks 40 = .ok (.istore 5, 2) := by decide +kernel
theorem dX7_looks_42 : decode cX7_looks 42 = .ok (.aload_n 0, 1) := by decide +kernel
theorem dX7_looks_43 : decode cX7_looks 43 = .ok (.getfield 32, 3) := by decide +kernel
theorem dX7_looks_46 : decode cX7_looks 46 = .ok (.iload_n 3, 1) := by decide +kernel
theorem dX7_looks_47 : decode cX7_looks 47 = .ok (.aload_n 0, 1) := by decide +kernel
theorem dX7_looks_48 : decode cX7_looks 48 = .ok (.getfield 7, 3) := by decide +kernel
theorem dX7_looks_51 : decode cX7_looks 51 = .ok (.bipush 8, 2) := by decide +kernel
theorem dX7_looks_53 : decode cX7_looks 53 = .ok (.iload_n 3, 1) := by decide +kernel
theorem dX7_looks_54 : decode cX7_looks 54 = .ok (.iadd, 1) := by decide +kernel
theorem dX7_looks_55 : decode cX7_looks 55 = .ok (.iaload, 1) := by decide +kernel
theorem dX7_looks_56 : decode cX7_looks 56 = .ok (.iastore, 1) := by decide +kernel
theorem dX7_looks_57 : decode cX7_looks 57 = .ok (.aload_n 0, 1) := by decide +kernel
theorem dX7_looks_58 : decode cX7_looks 58 = .ok (.getfield 7, 3) := by decide +kernel
theorem dX7_looks_61 : decode cX7_looks 61 = .ok (.bipush 8, 2) := by decide +kernel
theorem dX7_looks_63 : decode cX7_looks 63 = .ok (.iload_n 3, 1) := by decide +kernel
theorem dX7_looks_64 : decode cX7_looks 64 = .ok (.iadd, 1) := by decide +kernel
theorem dX7_looks_65 : decode cX7_looks 65 = .ok (.dup2, 1) := by decide +kernel
theorem dX7_looks_66 : decode cX7_looks 66 = .ok (.iaload, 1) := by decide +kernel
theorem dX7_looks_67 : decode cX7_looks 67 = .ok (.iload 5, 2) := by decide +kernel
theorem dX7_looks_69 : decode cX7_looks 69 = .ok (.ifCond .ge 7, 3) := by decide +kernel
theorem dX7_looks_72 : decode cX7_looks 72 = .ok (.iconst 0, 1) := by decide +kernel
theorem dX7_looks_73 : decode cX7_looks 73 = .ok (.goto 5, 3) := by decide +kernel
theorem dX7_looks_76 : decode cX7_looks 76 = .ok (.iload 5, 2) := by decide +kernel
theorem dX7_looks_78 : decode cX7_looks 78 = .ok (.imul, 1) := by decide +kernel
theorem dX7_looks_79 : decode cX7_looks 79 = .ok (.iastore, 1) := by decide +kernel
theorem dX7_looks_80 : decode cX7_looks 80 = .ok (.iinc 3 1, 3) := by decide +kernel
theorem dX7_looks_83 : decode cX7_looks 83 = .ok (.goto (-81), 3) := by decide +kernel
theorem dX7_looks_86 : decode cX7_looks 86 = .ok (.aload_n 0, 1) := by decide +kernel
theorem dX7_looks_87 : decode cX7_looks 87 = .ok (.invokevirtual 98, 3) := by decide +kernel
theorem dX7_looks_90 : decode cX7_looks 90 = .ok (.ireturn, 1) := by decide +kernel
theorem dX7_observe_0 : decode cX7_observe 0 = .ok (.iload_n 1, 1) := by decide +kernel
theorem dX7_observe_1 : decode cX7_observe 1 = .ok (.iconst 0, 1) := by decide +kernel
theorem dX7_observe_2 : decode cX7_observe 2 = .ok (.bipush 99, 2) := by decide +kernel
theorem dX7_observe_4 : decode cX7_observe 4 = .ok (.invokestatic 84, 3) := by decide +kernel
theorem dX7_observe_7 : decode cX7_observe 7 = .ok (.ifCond .eq 13, 3) := by decide +kernel
theorem dX7_observe_10 : decode cX7_observe 10 = .ok (.iload_n 2, 1) := by decide +kernel
theorem dX7_observe_11 : decode cX7_observe 11 = .ok (.iconst 1, 1) := by decide +kernel
theorem dX7_observe_12 : decode cX7_observe 12 = .ok (.bipush 99, 2) := by decide +kernel
theorem dX7_observe_14 : decode cX7_observe 14 = .ok (.invokestatic 84, 3) := by decide +kernel
theorem dX7_observe_17 : decode cX7_observe 17 = .ok (.ifCond .ne 6, 3) := by decide +kernel
theorem dX7_observe_20 : decode cX7_observe 20 = .ok (.ldc 88, 2) := by decide +kernel
theorem dX7_observe_22 : decode cX7_observe 22 = .ok (.ireturn, 1) := by decide +kernel
theorem dX7_observe_23 : decode cX7_observe 23 = .ok (.aload_n 0, 1) := by decide +kernel
theorem dX7_observe_24 : decode cX7_observe 24 = .ok (.iload_n 1, 1) := by decide +kernel
theorem dX7_observe_25 : decode cX7_observe 25 = .ok (.iload_n 2, 1) := by decide +kernel
theorem dX7_observe_26 : decode cX7_observe 26 = .ok (.invokevirtual 105, 3) := by decide +kernel
theorem dX7_observe_29 : decode cX7_observe 29 = .ok (.istore_n 3, 1) := by decide +kernel
theorem dX7_observe_30 : decode cX7_observe 30 = .ok (.iload_n 3, 1) := by decide +kernel
theorem dX7_observe_31 : decode cX7_observe 31 = .ok (.ifCond .ne 8, 3) := by decide +kernel
theorem dX7_observe_34 : decode cX7_observe 34 = .ok (.ldc 97, 2) := by decide +kernel
theorem dX7_observe_36 : decode cX7_observe 36 = .ok (.goto 39, 3) := by decide +kernel
theorem dX7_observe_39 : decode cX7_observe 39 = .ok (.iload_n 3, 1) := by decide +kernel
theorem dX7_observe_40 : decode cX7_observe 40 = .ok (.ldc 96, 2) := by decide +kernel
theorem dX7_observe_42 : decode cX7_observe 42 = .ok (.if_icmp .gt 27, 3) := by decide +kernel
theorem dX7_observe_45 : decode cX7_observe 45 = .ok (.aload_n 0, 1) := by decide +kernel
theorem dX7_observe_46 : decode cX7_observe 46 = .ok (.invokevirtual 108, 3) := by decide +kernel
theorem dX7_observe_49 : decode cX7_observe 49 = .ok (.aload_n 0, 1) := by decide +kernel
theorem dX7_observe_50 : decode cX7_observe 50 = .ok (.getfield 7, 3) := by decide +kernel
theorem dX7_observe_53 : decode cX7_observe 53 = .ok (.iconst 5, 1) := by decide +kernel
theorem dX7_observe_54 : decode cX7_observe 54 = .ok (.iaload, 1) := by decide +kernel
theorem dX7_observe_55 : decode cX7_observe 55 = .ok (.if_icmp .ge 19, 3) := by decide +kernel
theorem dX7_observe_58 : decode cX7_observe 58 = .ok (.aload_n 0, 1) := by decide +kernel
theorem dX7_observe_59 : decode cX7_observe 59 = .ok (.getfield 7, 3) := by decide +kernel
theorem dX7_observe_62 : decode cX7_observe 62 = .ok (.iconst 1, 1) := by decide +kernel
theorem dX7_observe_63 : decode cX7_observe 63 = .ok (.iaload, 1) := by decide +kernel
theorem dX7_observe_64 : decode cX7_observe 64 = .ok (.bipush 20, 2) := by decide +kernel
theorem dX7_observe_66 : decode cX7_observe 66 = .ok (.if_icmp .ne 8, 3) := by decide +kernel
theorem dX7_observe_69 : decode cX7_observe 69 = .ok (.ldc 101, 2) := by decide +kernel
theorem dX7_observe_71 : decode cX7_observe 71 = .ok (.goto 4, 3) := by decide +kernel
theorem dX7_observe_74 : decode cX7_observe 74 = .ok (.iconst 0, 1) := by decide +kernel
theorem dX7_observe_75 : decode cX7_observe 75 = .ok (.istore 4, 2) := by decide +kernel
theorem dX7_observe_77 : decode cX7_observe 77 = .ok (.iconst 0, 1) := by decide +kernel
theorem dX7_observe_78 : decode cX7_observe 78 = .ok (.istore 5, 2) := by decide +kernel
theorem dX7_observe_80 : decode cX7_observe 80 = .ok (.iload 5, 2) := by decide +kernel
theorem dX7_observe_82 : decode cX7_observe 82 = .ok (.aload_n 0, 1) := by decide +kernel
theorem dX7_observe_83 : decode cX7_observe 83 = .ok (.getfield 7, 3) := by decide +kernel
theorem dX7_observe_86 : decode cX7_observe 86 = .ok (.iconst 0, 1) := by decide +kernel
theorem dX7_observe_87 : decode cX7_observe 87 = .ok (.iaload, 1) := by decide +kernel
theorem dX7_observe_88 : decode cX7_observe 88 = .ok (.if_icmp .ge 26, 3) := by decide +kernel
theorem dX7_observe_91 : decode cX7_observe 91 = .ok (.aload_n 0, 1) := by decide +kernel
theorem dX7_observe_92 : decode cX7_observe 92 = .ok (.getfield 7, 3) := by decide +kernel
theorem dX7_observe_95 : decode cX7_observe 95 = .ok (.bipush 8, 2) := by decide +kernel
theorem dX7_observe_97 : decode cX7_observe 97 = .ok (.iload 5, 2) := by decide +kernel
theorem dX7_observe_99 : decode cX7_observe 99 = .ok (.iadd, 1) := by decide +kernel
theorem dX7_observe_100 : decode cX7_observe 100 = .ok (.aload_n 0, 1) := by decide +kernel
theorem dX7_observe_101 : decode cX7_observe 101 = .ok (.getfield 32, 3) := by decide +kernel
theorem dX7_observe_104 : decode cX7_observe 104 = .ok (.iload 5, 2) := by decide +kernel
theorem dX7_observe_106 : decode cX7_observe 106 = .ok (.iaload, 1) := by decide +kernel
theorem dX7_observe_107 : decode cX7_observe 107 = .ok (.iastore, 1) := by decide +kernel
theorem dX7_observe_108 : decode cX7_observe 108 = .ok (.iinc 5 1, 3) := by decide +kernel
theorem dX7_observe_111 : decode cX7_observe 111 = .ok (.goto (-31), 3) := by decide +kernel
theorem dX7_observe_114 : decode cX7_observe 114 = .ok (.iload 4, 2) := by decide +kernel
theorem dX7_observe_116 : decode cX7_observe 116 = .ok (.ifCond .ge 6, 3) := by decide +kernel
theorem dX7_observe_119 : decode cX7_observe 119 = .ok (.iload 4, 2) := by decide +kernel
theorem dX7_observe_121 : decode cX7_observe 121 = .ok (.ireturn, 1) := by decide +kernel
theorem dX7_observe_122 : decode cX7_observe 122 = .ok (.aload_n 0, 1) := by decide +kernel
theorem dX7_observe_123 : decode cX7_observe 123 = .ok (.invokevirtual 89, 3) := by decide +kernel
theorem dX7_observe_126 : decode cX7_observe 126 = .ok (.aload_n 0, 1) := by decide +kernel
theorem dX7_observe_127 : decode cX7_observe 127 = .ok (.iload_n 1, 1) := by decide +kernel
theorem dX7_observe_128 : decode cX7_observe 128 = .ok (.iload_n 2, 1) := by decide +kernel
theorem dX7_observe_129 : decode cX7_observe 129 = .ok (.invokevirtual 105, 3) := by decide +kernel
theorem dX7_observe_132 : decode cX7_observe 132 = .ok (.pop, 1) := by decide +kernel
theorem dX7_observe_133 : decode cX7_observe 133 = .ok (.aload_n 0, 1) := by decide +kernel
theorem dX7_observe_134 : decode cX7_observe 134 = .ok (.invokevirtual 108, 3) := by decide +kernel
theorem dX7_observe_137 : decode cX7_observe 137 = .ok (.istore 5, 2) := by decide +kernel
theorem dX7_observe_139 : decode cX7_observe 139 = .ok (.aload_n 0, 1) := by decide +kernel
theorem dX7_observe_140 : decode cX7_observe 140 = .ok (.getfield 7, 3) := by decide +kernel
theorem dX7_observe_143 : decode cX7_observe 143 = .ok (.iconst 3, 1) := by decide +kernel
theorem dX7_observe_144 : decode cX7_observe 144 = .ok (.dup2, 1) := by decide +kernel
theorem dX7_observe_145 : decode cX7_observe 145 = .ok (.iaload, 1) := by decide +kernel
theorem dX7_observe_146 : decode cX7_observe 146 = .ok (.iconst 1, 1) := by decide +kernel
theorem dX7_observe_147 : decode cX7_observe 147 = .ok (.iadd, 1) := by decide +kernel
theorem dX7_observe_148 : decode cX7_observe 148 = .ok (.iastore, 1) := by decide +kernel
theorem dX7_observe_149 : decode cX7_observe 149 = .ok (.iload 5, 2) := by decide +kernel
theorem dX7_observe_151 : decode cX7_observe 151 = .ok (.aload_n 0, 1) := by decide +kernel
theorem dX7_observe_152 : decode cX7_observe 152 = .ok (.getfield 7, 3) := by decide +kernel
theorem dX7_observe_155 : decode cX7_observe 155 = .ok (.iconst 5, 1) := by decide +kernel
theorem dX7_observe_156 : decode cX7_observe 156 = .ok (.iaload, 1) := by decide +kernel
theorem dX7_observe_157 : decode cX7_observe 157 = .ok (.if_icmp .ge 7, 3) := by decide +kernel
theorem dX7_observe_160 : decode cX7_observe 160 = .ok (.aload_n 0, 1) := by decide +kernel
theorem dX7_observe_161 : decode cX7_observe 161 = .ok (.invokevirtual 111, 3) := by decide +kernel
theorem dX7_observe_164 : decode cX7_observe 164 = .ok (.iload 5, 2) := by decide +kernel
theorem dX7_observe_166 : decode cX7_observe 166 = .ok (.ireturn, 1) := by decide +kernel
theorem dX7_unlike_0 : decode cX7_unlike 0 = .ok (.iconst 0, 1) := by decide +kernel
theorem dX7_unlike_1 : decode cX7_unlike 1 = .ok (.istore_n 3, 1) := by decide +kernel
theorem dX7_unlike_2 : decode cX7_unlike 2 = .ok (.iconst 0, 1) := by decide +kernel
theorem dX7_unlike_3 : decode cX7_unlike 3 = .ok (.istore 4, 2) := by decide +kernel
theorem dX7_unlike_5 : decode cX7_unlike 5 = .ok (.iload 4, 2) := by decide +kernel
theorem dX7_unlike_7 : decode cX7_unlike 7 = .ok (.aload_n 0, 1) := by decide +kernel
theorem dX7_unlike_8 : decode cX7_unlike 8 = .ok (.getfield 7, 3) := by decide +kernel
theorem dX7_unlike_11 : decode cX7_unlike 11 = .ok (.iconst 0, 1) := by decide +kernel
theorem dX7_unlike_12 : decode cX7_unlike 12 = .ok (.iaload, 1) := by decide +kernel
theorem dX7_unlike_13 : decode cX7_unlike 13 = .ok (.if_icmp .ge 84, 3) := by decide +kernel
theorem dX7_unlike_16 : decode cX7_unlike 16 = .ok (.iconst 1, 1) := by decide +kernel
theorem dX7_unlike_17 : decode cX7_unlike 17 = .ok (.istore 5, 2) := by decide +kernel
theorem dX7_unlike_19 : decode cX7_unlike 19 = .ok (.iconst 0, 1) := by decide +kernel
theorem dX7_unlike_20 : decode cX7_unlike 20 = .ok (.istore 6, 2) := by decide +kernel
theorem dX7_unlike_22 : decode cX7_unlike 22 = .ok (.iload 6, 2) := by decide +kernel
theorem dX7_unlike_24 : decode cX7_unlike 24 = .ok (.iload 4, 2) := by decide +kernel
theorem dX7_unlike_26 : decode cX7_unlike 26 = .ok (.if_icmp .ge 52, 3) := by decide +kernel
theorem dX7_unlike_29 : decode cX7_unlike 29 = .ok (.iload 5, 2) := by decide +kernel
theorem dX7_unlike_31 : decode cX7_unlike 31 = .ok (.ifCond .eq 38, 3) := by decide +kernel
theorem dX7_unlike_34 : decode cX7_unlike 34 = .ok (.aload_n 0, 1) := by decide +kernel
theorem dX7_unlike_35 : decode cX7_unlike 35 = .ok (.getfield 7, 3) := by decide +kernel
theorem dX7_unlike_38 : decode cX7_unlike 38 = .ok (.iload_n 2, 1) := by decide +kernel
theorem dX7_unlike_39 : decode cX7_unlike 39 = .ok (.bipush 12, 2) := by decide +kernel
theorem dX7_unlike_41 : decode cX7_unlike 41 = .ok (.iload_n 1, 1) := by decide +kernel
theorem dX7_unlike_42 : decode cX7_unlike 42 = .ok (.imul, 1) := by decide +kernel
theorem dX7_unlike_43 : decode cX7_unlike 43 = .ok (.iadd, 1) := by decide +kernel
theorem dX7_unlike_44 : decode cX7_unlike 44 = .ok (.iload 6, 2) := by decide +kernel
theorem dX7_unlike_46 : decode cX7_unlike 46 = .ok (.iadd, 1) := by decide +kernel
theorem dX7_unlike_47 : decode cX7_unlike 47 = .ok (.iaload, 1) := by decide +kernel
theorem dX7_unlike_48 : decode cX7_unlike 48 = .ok (.aload_n 0, 1) := by decide +kernel
theorem dX7_unlike_49 : decode cX7_unlike 49 = .ok (.getfield 7, 3) := by decide +kernel
theorem dX7_unlike_52 : decode cX7_unlike 52 = .ok (.iload_n 2, 1) := by decide +kernel
theorem dX7_unlike_53 : decode cX7_unlike 53 = .ok (.bipush 12, 2) := by decide +kernel
theorem dX7_unlike_55 : decode cX7_unlike 55 = .ok (.iload_n 1, 1) := by decide +kernel
theorem dX7_unlike_56 : decode cX7_unlike 56 = .ok (.imul, 1) := by decide +kernel
theorem dX7_unlike_57 : decode cX7_unlike 57 = .ok (.iadd, 1) := by decide +kernel
theorem dX7_unlike_58 : decode cX7_unlike 58 = .ok (.iload 4, 2) := by decide +kernel
theorem dX7_unlike_60 : decode cX7_unlike 60 = .ok (.iadd, 1) := by decide +kernel
theorem dX7_unlike_61 : decode cX7_unlike 61 = .ok (.iaload, 1) := by decide +kernel
theorem dX7_unlike_62 : decode cX7_unlike 62 = .ok (.if_icmp .eq 7, 3) := by decide +kernel
theorem dX7_unlike_65 : decode cX7_unlike 65 = .ok (.iconst 1, 1) := by decide +kernel
theorem dX7_unlike_66 : decode cX7_unlike 66 = .ok (.goto 4, 3) := by decide +kernel
theorem dX7_unlike_69 : decode cX7_unlike 69 = .ok (.iconst 0, 1) := by decide +kernel
theorem dX7_unlike_70 : decode cX7_unlike 70 = .ok (.istore 5, 2) := by decide +kernel
theorem dX7_unlike_72 : decode cX7_unlike 72 = .ok (.iinc 6 1, 3) := by decide +kernel
theorem dX7_unlike_75 : decode cX7_unlike 75 = .ok (.goto (-53), 3) := by decide +kernel
theorem dX7_unlike_78 : decode cX7_unlike 78 = .ok (.iload_n 3, 1) := by decide +kernel
theorem dX7_unlike_79 : decode cX7_unlike 79 = .ok (.iload 5, 2) := by decide +kernel
theorem dX7_unlike_81 : decode cX7_unlike 81 = .ok (.ifCond .eq 7, 3) := by decide +kernel
theorem dX7_unlike_84 : decode cX7_unlike 84 = .ok (.iconst 1, 1) := by decide +kernel
theorem dX7_unlike_85 : decode cX7_unlike 85 = .ok (.goto 4, 3) := by decide +kernel
theorem dX7_unlike_88 : decode cX7_unlike 88 = .ok (.iconst 0, 1) := by decide +kernel
theorem dX7_unlike_89 : decode cX7_unlike 89 = .ok (.iadd, 1) := by decide +kernel
theorem dX7_unlike_90 : decode cX7_unlike 90 = .ok (.istore_n 3, 1) := by decide +kernel
theorem dX7_unlike_91 : decode cX7_unlike 91 = .ok (.iinc 4 1, 3) := by decide +kernel
theorem dX7_unlike_94 : decode cX7_unlike 94 = .ok (.goto (-89), 3) := by decide +kernel
theorem dX7_unlike_97 : decode cX7_unlike 97 = .ok (.iload_n 3, 1) := by decide +kernel
theorem dX7_unlike_98 : decode cX7_unlike 98 = .ok (.ireturn, 1) := by decide +kernel
theorem dX7_resample_0 : decode cX7_resample 0 = .ok (.aload_n 0, 1) := by decide +kernel
theorem dX7_resample_1 : decode cX7_resample 1 = .ok (.getfield 7, 3) := by decide +kernel
theorem dX7_resample_4 : decode cX7_resample 4 = .ok (.iconst 1, 1) := by decide +kernel
theorem dX7_resample_5 : decode cX7_resample 5 = .ok (.iaload, 1) := by decide +kernel
theorem dX7_resample_6 : decode cX7_resample 6 = .ok (.bipush 20, 2) := by decide +kernel
theorem dX7_resample_8 : decode cX7_resample 8 = .ok (.if_icmp .ne 6, 3) := by decide +kernel
theorem dX7_resample_11 : decode cX7_resample 11 = .ok (.ldc 101, 2) := by decide +kernel
theorem dX7_resample_13 : decode cX7_resample 13 = .ok (.ireturn, 1) := by decide +kernel
theorem dX7_resample_14 : decode cX7_resample 14 = .ok (.aload_n 0, 1) := by decide +kernel
theorem dX7_resample_15 : decode cX7_resample 15 = .ok (.invokevirtual 89, 3) := by decide +kernel
theorem dX7_resample_18 : decode cX7_resample 18 = .ok (.aload_n 0, 1) := by decide +kernel
theorem dX7_resample_19 : decode cX7_resample 19 = .ok (.invokevirtual 111, 3) := by decide +kernel
theorem dX7_resample_22 : decode cX7_resample 22 = .ok (.aload_n 0, 1) := by decide +kernel
theorem dX7_resample_23 : decode cX7_resample 23 = .ok (.aload_n 0, 1) := by decide +kernel
theorem dX7_resample_24 : decode cX7_resample 24 = .ok (.invokevirtual 102, 3) := by decide +kernel
theorem dX7_resample_27 : decode cX7_resample 27 = .ok (.bipush 100, 2) := by decide +kernel
theorem dX7_resample_29 : decode cX7_resample 29 = .ok (.invokevirtual 114, 3) := by decide +kernel
theorem dX7_resample_32 : decode cX7_resample 32 = .ok (.ireturn, 1) := by decide +kernel
theorem dX7_set_0 : decode cX7_set 0 = .ok (.iload_n 1, 1) := by decide +kernel
theorem dX7_set_1 : decode cX7_set 1 = .ok (.iconst 0, 1) := by decide +kernel
theorem dX7_set_2 : decode cX7_set 2 = .ok (.iconst 2, 1) := by decide +kernel
theorem dX7_set_3 : decode cX7_set 3 = .ok (.invokestatic 84, 3) := by decide +kernel
theorem dX7_set_6 : decode cX7_set 6 = .ok (.ifCond .eq 31, 3) := by decide +kernel
theorem dX7_set_9 : decode cX7_set 9 = .ok (.iload_n 2, 1) := by decide +kernel
theorem dX7_set_10 : decode cX7_set 10 = .ok (.iconst 0, 1) := by decide +kernel
theorem dX7_set_11 : decode cX7_set 11 = .ok (.iload_n 1, 1) := by decide +kernel
theorem dX7_set_12 : decode cX7_set 12 = .ok (.ifCond .ne 8, 3) := by decide +kernel
theorem dX7_set_15 : decode cX7_set 15 = .ok (.bipush 12, 2) := by decide +kernel
theorem dX7_set_17 : decode cX7_set 17 = .ok (.goto 14, 3) := by decide +kernel
theorem dX7_set_20 : decode cX7_set 20 = .ok (.iload_n 1, 1) := by decide +kernel
theorem dX7_set_21 : decode cX7_set 21 = .ok (.iconst 1, 1) := by decide +kernel
theorem dX7_set_22 : decode cX7_set 22 = .ok (.if_icmp .ne 7, 3) := by decide +kernel
theorem dX7_set_25 : decode cX7_set 25 = .ok (.iconst 2, 1) := by decide +kernel
theorem dX7_set_26 : decode cX7_set 26 = .ok (.goto 5, 3) := by decide +kernel
theorem dX7_set_29 : decode cX7_set 29 = .ok (.bipush 99, 2) := by decide +kernel
theorem dX7_set_31 : decode cX7_set 31 = .ok (.invokestatic 84, 3) := by decide +kernel
theorem dX7_set_34 : decode cX7_set 34 = .ok (.ifCond .ne 6, 3) := by decide +kernel
theorem dX7_set_37 : decode cX7_set 37 = .ok (.ldc 88, 2) := by decide +kernel
theorem dX7_set_39 : decode cX7_set 39 = .ok (.ireturn, 1) := by decide +kernel
theorem dX7_set_40 : decode cX7_set 40 = .ok (.aload_n 0, 1) := by decide +kernel
theorem dX7_set_41 : decode cX7_set 41 = .ok (.invokevirtual 89, 3) := by decide +kernel
theorem dX7_set_44 : decode cX7_set 44 = .ok (.aload_n 0, 1) := by decide +kernel
theorem dX7_set_45 : decode cX7_set 45 = .ok (.getfield 7, 3) := by decide +kernel
theorem dX7_set_48 : decode cX7_set 48 = .ok (.iconst 5, 1) := by decide +kernel
theorem dX7_set_49 : decode cX7_set 49 = .ok (.iload_n 1, 1) := by decide +kernel
theorem dX7_set_50 : decode cX7_set 50 = .ok (.iadd, 1) := by decide +kernel
theorem dX7_set_51 : decode cX7_set 51 = .ok (.iaload, 1) := by decide +kernel
theorem dX7_set_52 : decode cX7_set 52 = .ok (.istore_n 3, 1) := by decide +kernel
theorem dX7_set_53 : decode cX7_set 53 = .ok (.aload_n 0, 1) := by decide +kernel
theorem dX7_set_54 : decode cX7_set 54 = .ok (.getfield 7, 3) := by decide +kernel
theorem dX7_set_57 : decode cX7_set 57 = .ok (.iconst 5, 1) := by decide +kernel
theorem dX7_set_58 : decode cX7_set 58 = .ok (.iload_n 1, 1) := by decide +kernel
theorem dX7_set_59 : decode cX7_set 59 = .ok (.iadd, 1) := by decide +kernel
theorem dX7_set_60 : decode cX7_set 60 = .ok (.iload_n 2, 1) := by decide +kernel
theorem dX7_set_61 : decode cX7_set 61 = .ok (.iastore, 1) := by decide +kernel
theorem dX7_set_62 : decode cX7_set 62 = .ok (.iload_n 3, 1) := by decide +kernel
theorem dX7_set_63 : decode cX7_set 63 = .ok (.ireturn, 1) := by decide +kernel
theorem dX7_part_0 : decode cX7_part 0 = .ok (.lload_n 0, 1) := by decide +kernel
theorem dX7_part_1 : decode cX7_part 1 = .ok (.lstore 5, 2) := by decide +kernel
theorem dX7_part_3 : decode cX7_part 3 = .ok (.lload_n 2, 1) := by decide +kernel
theorem dX7_part_4 : decode cX7_part 4 = .ok (.lstore 7, 2) := by decide +kernel
theorem dX7_part_6 : decode cX7_part 6 = .ok (.lload 7, 2) := by decide +kernel
theorem dX7_part_8 : decode cX7_part 8 = .ok (.lconst 0, 1) := by decide +kernel
theorem dX7_part_9 : decode cX7_part 9 = .ok (.lcmp, 1) := by decide +kernel
theorem dX7_part_10 : decode cX7_part 10 = .ok (.ifCond .eq 21, 3) := by decide +kernel
theorem dX7_part_13 : decode cX7_part 13 = .ok (.lload 5, 2) := by decide +kernel
theorem dX7_part_15 : decode cX7_part 15 = .ok (.lload 7, 2) := by decide +kernel
theorem dX7_part_17 : decode cX7_part 17 = .ok (.lrem, 1) := by decide +kernel
theorem dX7_part_18 : decode cX7_part 18 = .ok (.lstore 9, 2) := by decide +kernel
theorem dX7_part_20 : decode cX7_part 20 = .ok (.lload 7, 2) := by decide +kernel
theorem dX7_part_22 : decode cX7_part 22 = .ok (.lstore 5, 2) := by decide +kernel
theorem dX7_part_24 : decode cX7_part 24 = .ok (.lload 9, 2) := by decide +kernel
theorem dX7_part_26 : decode cX7_part 26 = .ok (.lstore 7, 2) := by decide +kernel
theorem dX7_part_28 : decode cX7_part 28 = .ok (.goto (-22), 3) := by decide +kernel
theorem dX7_part_31 : decode cX7_part 31 = .ok (.iload 4, 2) := by decide +kernel
theorem dX7_part_33 : decode cX7_part 33 = .ok (.ifCond .ne 10, 3) := by decide +kernel
theorem dX7_part_36 : decode cX7_part 36 = .ok (.lload_n 0, 1) := by decide +kernel
theorem dX7_part_37 : decode cX7_part 37 = .ok (.lload 5, 2) := by decide +kernel
theorem dX7_part_39 : decode cX7_part 39 = .ok (.ldiv, 1) := by decide +kernel
theorem dX7_part_40 : decode cX7_part 40 = .ok (.goto 7, 3) := by decide +kernel
theorem dX7_part_43 : decode cX7_part 43 = .ok (.lload_n 2, 1) := by decide +kernel
theorem dX7_part_44 : decode cX7_part 44 = .ok (.lload 5, 2) := by decide +kernel
theorem dX7_part_46 : decode cX7_part 46 = .ok (.ldiv, 1) := by decide +kernel
theorem dX7_part_47 : decode cX7_part 47 = .ok (.l2i, 1) := by decide +kernel
theorem dX7_part_48 : decode cX7_part 48 = .ok (.ireturn, 1) := by decide +kernel
theorem dX7_likePlaces_0 : decode cX7_likePlaces 0 = .ok (.iconst 0, 1) := by decide +kernel
theorem dX7_likePlaces_1 : decode cX7_likePlaces 1 = .ok (.istore_n 2, 1) := by decide +kernel
theorem dX7_likePlaces_2 : decode cX7_likePlaces 2 = .ok (.iconst 0, 1) := by decide +kernel
theorem dX7_likePlaces_3 : decode cX7_likePlaces 3 = .ok (.istore_n 3, 1) := by decide +kernel
theorem dX7_likePlaces_4 : decode cX7_likePlaces 4 = .ok (.iload_n 3, 1) := by decide +kernel
theorem dX7_likePlaces_5 : decode cX7_likePlaces 5 = .ok (.aload_n 0, 1) := by decide +kernel
theorem dX7_likePlaces_6 : decode cX7_likePlaces 6 = .ok (.getfield 7, 3) := by decide +kernel
theorem dX7_likePlaces_9 : decode cX7_likePlaces 9 = .ok (.iconst 0, 1) := by decide +kernel
theorem dX7_likePlaces_10 : decode cX7_likePlaces 10 = .ok (.iaload, 1) := by decide +kernel
theorem dX7_likePlaces_11 : decode cX7_likePlaces 11 = .ok (.if_icmp .ge 38, 3) := by decide +kernel
theorem dX7_likePlaces_14 : decode cX7_likePlaces 14 = .ok (.iload_n 2, 1) := by decide +kernel
theorem dX7_likePlaces_15 : decode cX7_likePlaces 15 = .ok (.aload_n 0, 1) := by decide +kernel
theorem dX7_likePlaces_16 : decode cX7_likePlaces 16 = .ok (.aload_n 0, 1) := by decide +kernel
theorem dX7_likePlaces_17 : decode cX7_likePlaces 17 = .ok (.invokevirtual 102, 3) := by decide +kernel
theorem dX7_likePlaces_20 : decode cX7_likePlaces 20 = .ok (.iload_n 3, 1) := by decide +kernel
theorem dX7_likePlaces_21 : decode cX7_likePlaces 21 = .ok (.invokevirtual 81, 3) := by decide +kernel
theorem dX7_likePlaces_24 : decode cX7_likePlaces 24 = .ok (.aload_n 0, 1) := by decide +kernel
theorem dX7_likePlaces_25 : decode cX7_likePlaces 25 = .ok (.aload_n 0, 1) := by decide +kernel
theorem dX7_likePlaces_26 : decode cX7_likePlaces 26 = .ok (.invokevirtual 102, 3) := by decide +kernel
theorem dX7_likePlaces_29 : decode cX7_likePlaces 29 = .ok (.iload_n 1, 1) := by decide +kernel
theorem dX7_likePlaces_30 : decode cX7_likePlaces 30 = .ok (.invokevirtual 81, 3) := by decide +kernel
theorem dX7_likePlaces_33 : decode cX7_likePlaces 33 = .ok (.if_icmp .ne 7, 3) := by decide +kernel
theorem dX7_likePlaces_36 : decode cX7_likePlaces 36 = .ok (.iconst 1, 1) := by decide +kernel
theorem dX7_likePlaces_37 : decode cX7_likePlaces 37 = .ok (.goto 4, 3) := by decide +kernel
theorem dX7_likePlaces_40 : decode cX7_likePlaces 40 = .ok (.iconst 0, 1) := by decide +kernel
theorem dX7_likePlaces_41 : decode cX7_likePlaces 41 = .ok (.iadd, 1) := by decide +kernel
theorem dX7_likePlaces_42 : decode cX7_likePlaces 42 = .ok (.istore_n 2, 1) := by decide +kernel
theorem dX7_likePlaces_43 : decode cX7_likePlaces 43 = .ok (.iinc 3 1, 3) := by decide +kernel
theorem dX7_likePlaces_46 : decode cX7_likePlaces 46 = .ok (.goto (-42), 3) := by decide +kernel
theorem dX7_likePlaces_49 : decode cX7_likePlaces 49 = .ok (.iload_n 2, 1) := by decide +kernel
theorem dX7_likePlaces_50 : decode cX7_likePlaces 50 = .ok (.ireturn, 1) := by decide +kernel
theorem dX7_rank_0 : decode cX7_rank 0 = .ok (.iconst 0, 1) := by decide +kernel
theorem dX7_rank_1 : decode cX7_rank 1 = .ok (.istore_n 2, 1) := by decide +kernel
theorem dX7_rank_2 : decode cX7_rank 2 = .ok (.aload_n 0, 1) := by decide +kernel
theorem dX7_rank_3 : decode cX7_rank 3 = .ok (.getfield 7, 3) := by decide +kernel
theorem dX7_rank_6 : decode cX7_rank 6 = .ok (.bipush 8, 2) := by decide +kernel
theorem dX7_rank_8 : decode cX7_rank 8 = .ok (.iload_n 1, 1) := by decide +kernel
theorem dX7_rank_9 : decode cX7_rank 9 = .ok (.iadd, 1) := by decide +kernel
theorem dX7_rank_10 : decode cX7_rank 10 = .ok (.iaload, 1) := by decide +kernel
theorem dX7_rank_11 : decode cX7_rank 11 = .ok (.istore_n 3, 1) := by decide +kernel
theorem dX7_rank_12 : decode cX7_rank 12 = .ok (.iconst 0, 1) := by decide +kernel
theorem dX7_rank_13 : decode cX7_rank 13 = .ok (.istore 4, 2) := by decide +kernel
theorem dX7_rank_15 : decode cX7_rank 15 = .ok (.iload 4, 2) := by decide +kernel
theorem dX7_rank_17 : decode cX7_rank 17 = .ok (.aload_n 0, 1) := by decide +kernel
theorem dX7_rank_18 : decode cX7_rank 18 = .ok (.getfield 7, 3) := by decide +kernel
theorem dX7_rank_21 : decode cX7_rank 21 = .ok (.iconst 0, 1) := by decide +kernel
theorem dX7_rank_22 : decode cX7_rank 22 = .ok (.iaload, 1) := by decide +kernel
theorem dX7_rank_23 : decode cX7_rank 23 = .ok (.if_icmp .ge 51, 3) := by decide +kernel
theorem dX7_rank_26 : decode cX7_rank 26 = .ok (.iload_n 2, 1) := by decide +kernel
theorem dX7_rank_27 : decode cX7_rank 27 = .ok (.aload_n 0, 1) := by decide +kernel
theorem dX7_rank_28 : decode cX7_rank 28 = .ok (.getfield 7, 3) := by decide +kernel
theorem dX7_rank_31 : decode cX7_rank 31 = .ok (.bipush 8, 2) := by decide +kernel
theorem dX7_rank_33 : decode cX7_rank 33 = .ok (.iload 4, 2) := by decide +kernel
theorem dX7_rank_35 : decode cX7_rank 35 = .ok (.iadd, 1) := by decide +kernel
theorem dX7_rank_36 : decode cX7_rank 36 = .ok (.iaload, 1) := by decide +kernel
theorem dX7_rank_37 : decode cX7_rank 37 = .ok (.iload_n 3, 1) := by decide +kernel
theorem dX7_rank_38 : decode cX7_rank 38 = .ok (.if_icmp .gt 23, 3) := by decide +kernel
theorem dX7_rank_41 : decode cX7_rank 41 = .ok (.aload_n 0, 1) := by decide +kernel
theorem dX7_rank_42 : decode cX7_rank 42 = .ok (.getfield 7, 3) := by decide +kernel
theorem dX7_rank_45 : decode cX7_rank 45 = .ok (.bipush 8, 2) := by decide +kernel
theorem dX7_rank_47 : decode cX7_rank 47 = .ok (.iload 4, 2) := by decide +kernel
theorem dX7_rank_49 : decode cX7_rank 49 = .ok (.iadd, 1) := by decide +kernel
theorem dX7_rank_50 : decode cX7_rank 50 = .ok (.iaload, 1) := by decide +kernel
theorem dX7_rank_51 : decode cX7_rank 51 = .ok (.iload_n 3, 1) := by decide +kernel
theorem dX7_rank_52 : decode cX7_rank 52 = .ok (.if_icmp .ne 13, 3) := by decide +kernel
theorem dX7_rank_55 : decode cX7_rank 55 = .ok (.iload 4, 2) := by decide +kernel
theorem dX7_rank_57 : decode cX7_rank 57 = .ok (.iload_n 1, 1) := by decide +kernel
theorem dX7_rank_58 : decode cX7_rank 58 = .ok (.if_icmp .ge 7, 3) := by decide +kernel
theorem dX7_rank_61 : decode cX7_rank 61 = .ok (.iconst 1, 1) := by decide +kernel
theorem dX7_rank_62 : decode cX7_rank 62 = .ok (.goto 4, 3) := by decide +kernel
theorem dX7_rank_65 : decode cX7_rank 65 = .ok (.iconst 0, 1) := by decide +kernel
theorem dX7_rank_66 : decode cX7_rank 66 = .ok (.iadd, 1) := by decide +kernel
theorem dX7_rank_67 : decode cX7_rank 67 = .ok (.istore_n 2, 1) := by decide +kernel
theorem dX7_rank_68 : decode cX7_rank 68 = .ok (.iinc 4 1, 3) := by decide +kernel
theorem dX7_rank_71 : decode cX7_rank 71 = .ok (.goto (-56), 3) := by decide +kernel
theorem dX7_rank_74 : decode cX7_rank 74 = .ok (.iload_n 2, 1) := by decide +kernel
theorem dX7_rank_75 : decode cX7_rank 75 = .ok (.ireturn, 1) := by decide +kernel
theorem dX7_particleOf_0 : decode cX7_particleOf 0 = .ok (.aload_n 0, 1) := by decide +kernel
theorem dX7_particleOf_1 : decode cX7_particleOf 1 = .ok (.iload_n 1, 1) := by decide +kernel
theorem dX7_particleOf_2 : decode cX7_particleOf 2 = .ok (.invokevirtual 92, 3) := by decide +kernel
theorem dX7_particleOf_5 : decode cX7_particleOf 5 = .ok (.ifCond .ne 6, 3) := by decide +kernel
theorem dX7_particleOf_8 : decode cX7_particleOf 8 = .ok (.ldc 88, 2) := by decide +kernel
theorem dX7_particleOf_10 : decode cX7_particleOf 10 = .ok (.ireturn, 1) := by decide +kernel
theorem dX7_particleOf_11 : decode cX7_particleOf 11 = .ok (.iload_n 2, 1) := by decide +kernel
theorem dX7_particleOf_12 : decode cX7_particleOf 12 = .ok (.tableswitch 116 0 6 #[44, 54, 64, 82, 88, 88, 110], 44) := by decide +kernel
theorem dX7_particleOf_56 : decode cX7_particleOf 56 = .ok (.aload_n 0, 1) := by decide +kernel
theorem dX7_particleOf_57 : decode cX7_particleOf 57 = .ok (.aload_n 0, 1) := by decide +kernel
theorem dX7_particleOf_58 : decode cX7_particleOf 58 = .ok (.invokevirtual 102, 3) := by decide +kernel
theorem dX7_particleOf_61 : decode cX7_particleOf 61 = .ok (.iload_n 1, 1) := by decide +kernel
theorem dX7_particleOf_62 : decode cX7_particleOf 62 = .ok (.invokevirtual 81, 3) := by decide +kernel
theorem dX7_particleOf_65 : decode cX7_particleOf 65 = .ok (.ireturn, 1) := by decide +kernel
theorem dX7_particleOf_66 : decode cX7_particleOf 66 = .ok (.aload_n 0, 1) := by decide +kernel
theorem dX7_particleOf_67 : decode cX7_particleOf 67 = .ok (.getfield 7, 3) := by decide +kernel
theorem dX7_particleOf_70 : decode cX7_particleOf 70 = .ok (.bipush 8, 2) := by decide +kernel
theorem dX7_particleOf_72 : decode cX7_particleOf 72 = .ok (.iload_n 1, 1) := by decide +kernel
theorem dX7_particleOf_73 : decode cX7_particleOf 73 = .ok (.iadd, 1) := by decide +kernel
theorem dX7_particleOf_74 : decode cX7_particleOf 74 = .ok (.iaload, 1) := by decide +kernel
theorem dX7_particleOf_75 : decode cX7_particleOf 75 = .ok (.ireturn, 1) := by decide +kernel
theorem dX7_particleOf_76 : decode cX7_particleOf 76 = .ok (.aload_n 0, 1) := by decide +kernel
theorem dX7_particleOf_77 : decode cX7_particleOf 77 = .ok (.getfield 7, 3) := by decide +kernel
theorem dX7_particleOf_80 : decode cX7_particleOf 80 = .ok (.bipush 100, 2) := by decide +kernel
theorem dX7_particleOf_82 : decode cX7_particleOf 82 = .ok (.bipush 12, 2) := by decide +kernel
theorem dX7_particleOf_84 : decode cX7_particleOf 84 = .ok (.aload_n 0, 1) := by decide +kernel
theorem dX7_particleOf_85 : decode cX7_particleOf 85 = .ok (.invokevirtual 102, 3) := by decide +kernel
theorem dX7_particleOf_88 : decode cX7_particleOf 88 = .ok (.imul, 1) := by decide +kernel
theorem dX7_particleOf_89 : decode cX7_particleOf 89 = .ok (.iadd, 1) := by decide +kernel
theorem dX7_particleOf_90 : decode cX7_particleOf 90 = .ok (.iload_n 1, 1) := by decide +kernel
theorem dX7_particleOf_91 : decode cX7_particleOf 91 = .ok (.iadd, 1) := by decide +kernel
theorem dX7_particleOf_92 : decode cX7_particleOf 92 = .ok (.iaload, 1) := by decide +kernel
theorem dX7_particleOf_93 : decode cX7_particleOf 93 = .ok (.ireturn, 1) := by decide +kernel
theorem dX7_particleOf_94 : decode cX7_particleOf 94 = .ok (.aload_n 0, 1) := by decide +kernel
theorem dX7_particleOf_95 : decode cX7_particleOf 95 = .ok (.iload_n 1, 1) := by decide +kernel
theorem dX7_particleOf_96 : decode cX7_particleOf 96 = .ok (.invokevirtual 117, 3) := by decide +kernel
theorem dX7_particleOf_99 : decode cX7_particleOf 99 = .ok (.ireturn, 1) := by decide +kernel
theorem dX7_particleOf_100 : decode cX7_particleOf 100 = .ok (.aload_n 0, 1) := by decide +kernel
theorem dX7_particleOf_101 : decode cX7_particleOf 101 = .ok (.getfield 7, 3) := by decide +kernel
theorem dX7_particleOf_104 : decode cX7_particleOf 104 = .ok (.bipush 8, 2) := by decide +kernel
theorem dX7_particleOf_106 : decode cX7_particleOf 106 = .ok (.iload_n 1, 1) := by decide +kernel
theorem dX7_particleOf_107 : decode cX7_particleOf 107 = .ok (.iadd, 1) := by decide +kernel
theorem dX7_particleOf_108 : decode cX7_particleOf 108 = .ok (.iaload, 1) := by decide +kernel
theorem dX7_particleOf_109 : decode cX7_particleOf 109 = .ok (.i2l, 1) := by decide +kernel
theorem dX7_particleOf_110 : decode cX7_particleOf 110 = .ok (.aload_n 0, 1) := by decide +kernel
theorem dX7_particleOf_111 : decode cX7_particleOf 111 = .ok (.invokevirtual 52, 3) := by decide +kernel
theorem dX7_particleOf_114 : decode cX7_particleOf 114 = .ok (.i2l, 1) := by decide +kernel
theorem dX7_particleOf_115 : decode cX7_particleOf 115 = .ok (.iload_n 2, 1) := by decide +kernel
theorem dX7_particleOf_116 : decode cX7_particleOf 116 = .ok (.iconst 4, 1) := by decide +kernel
theorem dX7_particleOf_117 : decode cX7_particleOf 117 = .ok (.isub, 1) := by decide +kernel
theorem dX7_particleOf_118 : decode cX7_particleOf 118 = .ok (.invokestatic 121, 3) := by decide +kernel
theorem dX7_particleOf_121 : decode cX7_particleOf 121 = .ok (.ireturn, 1) := by decide +kernel
theorem dX7_particleOf_122 : decode cX7_particleOf 122 = .ok (.aload_n 0, 1) := by decide +kernel
theorem dX7_particleOf_123 : decode cX7_particleOf 123 = .ok (.iload_n 1, 1) := by decide +kernel
theorem dX7_particleOf_124 : decode cX7_particleOf 124 = .ok (.invokevirtual 125, 3) := by decide +kernel
theorem dX7_particleOf_127 : decode cX7_particleOf 127 = .ok (.ireturn, 1) := by decide +kernel
theorem dX7_particleOf_128 : decode cX7_particleOf 128 = .ok (.ldc 88, 2) := by decide +kernel
theorem dX7_particleOf_130 : decode cX7_particleOf 130 = .ok (.ireturn, 1) := by decide +kernel
theorem dX7_up_0 : decode cX7_up 0 = .ok (.iload_n 1, 1) := by decide +kernel
theorem dX7_up_1 : decode cX7_up 1 = .ok (.istore_n 3, 1) := by decide +kernel
theorem dX7_up_2 : decode cX7_up 2 = .ok (.aload_n 0, 1) := by decide +kernel
theorem dX7_up_3 : decode cX7_up 3 = .ok (.invokevirtual 102, 3) := by decide +kernel
theorem dX7_up_6 : decode cX7_up 6 = .ok (.istore 4, 2) := by decide +kernel
theorem dX7_up_8 : decode cX7_up 8 = .ok (.iload 4, 2) := by decide +kernel
theorem dX7_up_10 : decode cX7_up 10 = .ok (.iload_n 2, 1) := by decide +kernel
theorem dX7_up_11 : decode cX7_up 11 = .ok (.if_icmp .le 25, 3) := by decide +kernel
theorem dX7_up_14 : decode cX7_up 14 = .ok (.aload_n 0, 1) := by decide +kernel
theorem dX7_up_15 : decode cX7_up 15 = .ok (.getfield 7, 3) := by decide +kernel
theorem dX7_up_18 : decode cX7_up 18 = .ok (.bipush 100, 2) := by decide +kernel
theorem dX7_up_20 : decode cX7_up 20 = .ok (.bipush 12, 2) := by decide +kernel
theorem dX7_up_22 : decode cX7_up 22 = .ok (.iload 4, 2) := by decide +kernel
theorem dX7_up_24 : decode cX7_up 24 = .ok (.imul, 1) := by decide +kernel
theorem dX7_up_25 : decode cX7_up 25 = .ok (.iadd, 1) := by decide +kernel
theorem dX7_up_26 : decode cX7_up 26 = .ok (.iload_n 3, 1) := by decide +kernel
theorem dX7_up_27 : decode cX7_up 27 = .ok (.iadd, 1) := by decide +kernel
theorem dX7_up_28 : decode cX7_up 28 = .ok (.iaload, 1) := by decide +kernel
theorem dX7_up_29 : decode cX7_up 29 = .ok (.istore_n 3, 1) := by decide +kernel
theorem dX7_up_30 : decode cX7_up 30 = .ok (.iinc 4 (-1), 3) := by decide +kernel
theorem dX7_up_33 : decode cX7_up 33 = .ok (.goto (-25), 3) := by decide +kernel
theorem dX7_up_36 : decode cX7_up 36 = .ok (.iload_n 3, 1) := by decide +kernel
theorem dX7_up_37 : decode cX7_up 37 = .ok (.ireturn, 1) := by decide +kernel
theorem dX7_alive_0 : decode cX7_alive 0 = .ok (.iconst 0, 1) := by decide +kernel
theorem dX7_alive_1 : decode cX7_alive 1 = .ok (.istore_n 2, 1) := by decide +kernel
theorem dX7_alive_2 : decode cX7_alive 2 = .ok (.iconst 0, 1) := by decide +kernel
theorem dX7_alive_3 : decode cX7_alive 3 = .ok (.istore_n 3, 1) := by decide +kernel
theorem dX7_alive_4 : decode cX7_alive 4 = .ok (.iconst 0, 1) := by decide +kernel
theorem dX7_alive_5 : decode cX7_alive 5 = .ok (.istore 4, 2) := by decide +kernel
theorem dX7_alive_7 : decode cX7_alive 7 = .ok (.iload 4, 2) := by decide +kernel
theorem dX7_alive_9 : decode cX7_alive 9 = .ok (.aload_n 0, 1) := by decide +kernel
theorem dX7_alive_10 : decode cX7_alive 10 = .ok (.getfield 7, 3) := by decide +kernel
theorem dX7_alive_13 : decode cX7_alive 13 = .ok (.iconst 0, 1) := by decide +kernel
theorem dX7_alive_14 : decode cX7_alive 14 = .ok (.iaload, 1) := by decide +kernel
theorem dX7_alive_15 : decode cX7_alive 15 = .ok (.if_icmp .ge 21, 3) := by decide +kernel
theorem dX7_alive_18 : decode cX7_alive 18 = .ok (.iload_n 2, 1) := by decide +kernel
theorem dX7_alive_19 : decode cX7_alive 19 = .ok (.iconst 1, 1) := by decide +kernel
theorem dX7_alive_20 : decode cX7_alive 20 = .ok (.aload_n 0, 1) := by decide +kernel
theorem dX7_alive_21 : decode cX7_alive 21 = .ok (.iload 4, 2) := by decide +kernel
theorem dX7_alive_23 : decode cX7_alive 23 = .ok (.iload_n 1, 1) := by decide +kernel
theorem dX7_alive_24 : decode cX7_alive 24 = .ok (.invokevirtual 128, 3) := by decide +kernel
theorem dX7_alive_27 : decode cX7_alive 27 = .ok (.ishl, 1) := by decide +kernel
theorem dX7_alive_28 : decode cX7_alive 28 = .ok (.ior, 1) := by decide +kernel
theorem dX7_alive_29 : decode cX7_alive 29 = .ok (.istore_n 2, 1) := by decide +kernel
theorem dX7_alive_30 : decode cX7_alive 30 = .ok (.iinc 4 1, 3) := by decide +kernel
theorem dX7_alive_33 : decode cX7_alive 33 = .ok (.goto (-26), 3) := by decide +kernel
theorem dX7_alive_36 : decode cX7_alive 36 = .ok (.iconst 0, 1) := by decide +kernel
theorem dX7_alive_37 : decode cX7_alive 37 = .ok (.istore 4, 2) := by decide +kernel
theorem dX7_alive_39 : decode cX7_alive 39 = .ok (.iload 4, 2) := by decide +kernel
theorem dX7_alive_41 : decode cX7_alive 41 = .ok (.aload_n 0, 1) := by decide +kernel
theorem dX7_alive_42 : decode cX7_alive 42 = .ok (.getfield 7, 3) := by decide +kernel
theorem dX7_alive_45 : decode cX7_alive 45 = .ok (.iconst 0, 1) := by decide +kernel
theorem dX7_alive_46 : decode cX7_alive 46 = .ok (.iaload, 1) := by decide +kernel
theorem dX7_alive_47 : decode cX7_alive 47 = .ok (.if_icmp .ge 18, 3) := by decide +kernel
theorem dX7_alive_50 : decode cX7_alive 50 = .ok (.iload_n 3, 1) := by decide +kernel
theorem dX7_alive_51 : decode cX7_alive 51 = .ok (.iload_n 2, 1) := by decide +kernel
theorem dX7_alive_52 : decode cX7_alive 52 = .ok (.iload 4, 2) := by decide +kernel
theorem dX7_alive_54 : decode cX7_alive 54 = .ok (.ishr, 1) := by decide +kernel
theorem dX7_alive_55 : decode cX7_alive 55 = .ok (.iconst 1, 1) := by decide +kernel
theorem dX7_alive_56 : decode cX7_alive 56 = .ok (.iand, 1) := by decide +kernel
theorem dX7_alive_57 : decode cX7_alive 57 = .ok (.iadd, 1) := by decide +kernel
theorem dX7_alive_58 : decode cX7_alive 58 = .ok (.istore_n 3, 1) := by decide +kernel
theorem dX7_alive_59 : decode cX7_alive 59 = .ok (.iinc 4 1, 3) := by decide +kernel
theorem dX7_alive_62 : decode cX7_alive 62 = .ok (.goto (-23), 3) := by decide +kernel
theorem dX7_alive_65 : decode cX7_alive 65 = .ok (.iload_n 3, 1) := by decide +kernel
theorem dX7_alive_66 : decode cX7_alive 66 = .ok (.ireturn, 1) := by decide +kernel
theorem dX7_generationOf_0 : decode cX7_generationOf 0 = .ok (.aload_n 0, 1) := by decide +kernel
theorem dX7_generationOf_1 : decode cX7_generationOf 1 = .ok (.iload_n 1, 1) := by decide +kernel
theorem dX7_generationOf_2 : decode cX7_generationOf 2 = .ok (.invokevirtual 131, 3) := by decide +kernel
theorem dX7_generationOf_5 : decode cX7_generationOf 5 = .ok (.ifCond .eq 12, 3) := by decide +kernel
theorem dX7_generationOf_8 : decode cX7_generationOf 8 = .ok (.iload_n 2, 1) := by decide +kernel
theorem dX7_generationOf_9 : decode cX7_generationOf 9 = .ok (.iconst 0, 1) := by decide +kernel
theorem dX7_generationOf_10 : decode cX7_generationOf 10 = .ok (.iconst 5, 1) := by decide +kernel
theorem dX7_generationOf_11 : decode cX7_generationOf 11 = .ok (.invokestatic 84, 3) := by decide +kernel
theorem dX7_generationOf_14 : decode cX7_generationOf 14 = .ok (.ifCond .ne 6, 3) := by decide +kernel
theorem dX7_generationOf_17 : decode cX7_generationOf 17 = .ok (.ldc 88, 2) := by decide +kernel
theorem dX7_generationOf_19 : decode cX7_generationOf 19 = .ok (.ireturn, 1) := by decide +kernel
theorem dX7_generationOf_20 : decode cX7_generationOf 20 = .ok (.bipush 20, 2) := by decide +kernel
theorem dX7_generationOf_22 : decode cX7_generationOf 22 = .ok (.iconst 4, 1) := by decide +kernel
theorem dX7_generationOf_23 : decode cX7_generationOf 23 = .ok (.iload_n 1, 1) := by decide +kernel
theorem dX7_generationOf_24 : decode cX7_generationOf 24 = .ok (.imul, 1) := by decide +kernel
theorem dX7_generationOf_25 : decode cX7_generationOf 25 = .ok (.iadd, 1) := by decide +kernel
theorem dX7_generationOf_26 : decode cX7_generationOf 26 = .ok (.istore_n 3, 1) := by decide +kernel
theorem dX7_generationOf_27 : decode cX7_generationOf 27 = .ok (.iload_n 2, 1) := by decide +kernel
theorem dX7_generationOf_28 : decode cX7_generationOf 28 = .ok (.tableswitch 124 0 4 #[36, 43, 70, 94, 118], 36) := by decide +kernel
theorem dX7_generationOf_64 : decode cX7_generationOf 64 = .ok (.aload_n 0, 1) := by decide +kernel
theorem dX7_generationOf_65 : decode cX7_generationOf 65 = .ok (.getfield 7, 3) := by decide +kernel
theorem dX7_generationOf_68 : decode cX7_generationOf 68 = .ok (.iload_n 3, 1) := by decide +kernel
theorem dX7_generationOf_69 : decode cX7_generationOf 69 = .ok (.iaload, 1) := by decide +kernel
theorem dX7_generationOf_70 : decode cX7_generationOf 70 = .ok (.ireturn, 1) := by decide +kernel
theorem dX7_generationOf_71 : decode cX7_generationOf 71 = .ok (.aload_n 0, 1) := by decide +kernel
theorem dX7_generationOf_72 : decode cX7_generationOf 72 = .ok (.getfield 7, 3) := by decide +kernel
theorem dX7_generationOf_75 : decode cX7_generationOf 75 = .ok (.iload_n 3, 1) := by decide +kernel
theorem dX7_generationOf_76 : decode cX7_generationOf 76 = .ok (.iaload, 1) := by decide +kernel
theorem dX7_generationOf_77 : decode cX7_generationOf 77 = .ok (.iconst 1, 1) := by decide +kernel
theorem dX7_generationOf_78 : decode cX7_generationOf 78 = .ok (.if_icmp .ne 17, 3) := by decide +kernel
theorem dX7_generationOf_81 : decode cX7_generationOf 81 = .ok (.aload_n 0, 1) := by decide +kernel
theorem dX7_generationOf_82 : decode cX7_generationOf 82 = .ok (.getfield 7, 3) := by decide +kernel
theorem dX7_generationOf_85 : decode cX7_generationOf 85 = .ok (.iload_n 3, 1) := by decide +kernel
theorem dX7_generationOf_86 : decode cX7_generationOf 86 = .ok (.iconst 1, 1) := by decide +kernel
theorem dX7_generationOf_87 : decode cX7_generationOf 87 = .ok (.iadd, 1) := by decide +kernel
theorem dX7_generationOf_88 : decode cX7_generationOf 88 = .ok (.iaload, 1) := by decide +kernel
theorem dX7_generationOf_89 : decode cX7_generationOf 89 = .ok (.bipush 100, 2) := by decide +kernel
theorem dX7_generationOf_91 : decode cX7_generationOf 91 = .ok (.iadd, 1) := by decide +kernel
theorem dX7_generationOf_92 : decode cX7_generationOf 92 = .ok (.goto 5, 3) := by decide +kernel
theorem dX7_generationOf_95 : decode cX7_generationOf 95 = .ok (.ldc 50, 2) := by decide +kernel
theorem dX7_generationOf_97 : decode cX7_generationOf 97 = .ok (.ireturn, 1) := by decide +kernel
theorem dX7_generationOf_98 : decode cX7_generationOf 98 = .ok (.aload_n 0, 1) := by decide +kernel
theorem dX7_generationOf_99 : decode cX7_generationOf 99 = .ok (.getfield 7, 3) := by decide +kernel
theorem dX7_generationOf_102 : decode cX7_generationOf 102 = .ok (.iload_n 3, 1) := by decide +kernel
theorem dX7_generationOf_103 : decode cX7_generationOf 103 = .ok (.iaload, 1) := by decide +kernel
theorem dX7_generationOf_104 : decode cX7_generationOf 104 = .ok (.iconst 1, 1) := by decide +kernel
theorem dX7_generationOf_105 : decode cX7_generationOf 105 = .ok (.if_icmp .ne 14, 3) := by decide +kernel
theorem dX7_generationOf_108 : decode cX7_generationOf 108 = .ok (.aload_n 0, 1) := by decide +kernel
theorem dX7_generationOf_109 : decode cX7_generationOf 109 = .ok (.getfield 7, 3) := by decide +kernel
theorem dX7_generationOf_112 : decode cX7_generationOf 112 = .ok (.iload_n 3, 1) := by decide +kernel
theorem dX7_generationOf_113 : decode cX7_generationOf 113 = .ok (.iconst 2, 1) := by decide +kernel
theorem dX7_generationOf_114 : decode cX7_generationOf 114 = .ok (.iadd, 1) := by decide +kernel
theorem dX7_generationOf_115 : decode cX7_generationOf 115 = .ok (.iaload, 1) := by decide +kernel
theorem dX7_generationOf_116 : decode cX7_generationOf 116 = .ok (.goto 5, 3) := by decide +kernel
theorem dX7_generationOf_119 : decode cX7_generationOf 119 = .ok (.ldc 50, 2) := by decide +kernel
theorem dX7_generationOf_121 : decode cX7_generationOf 121 = .ok (.ireturn, 1) := by decide +kernel
theorem dX7_generationOf_122 : decode cX7_generationOf 122 = .ok (.aload_n 0, 1) := by decide +kernel
theorem dX7_generationOf_123 : decode cX7_generationOf 123 = .ok (.getfield 7, 3) := by decide +kernel
theorem dX7_generationOf_126 : decode cX7_generationOf 126 = .ok (.iload_n 3, 1) := by decide +kernel
theorem dX7_generationOf_127 : decode cX7_generationOf 127 = .ok (.iaload, 1) := by decide +kernel
theorem dX7_generationOf_128 : decode cX7_generationOf 128 = .ok (.iconst 2, 1) := by decide +kernel
theorem dX7_generationOf_129 : decode cX7_generationOf 129 = .ok (.if_icmp .ne 14, 3) := by decide +kernel
theorem dX7_generationOf_132 : decode cX7_generationOf 132 = .ok (.aload_n 0, 1) := by decide +kernel
theorem dX7_generationOf_133 : decode cX7_generationOf 133 = .ok (.getfield 7, 3) := by decide +kernel
theorem dX7_generationOf_136 : decode cX7_generationOf 136 = .ok (.iload_n 3, 1) := by decide +kernel
theorem dX7_generationOf_137 : decode cX7_generationOf 137 = .ok (.iconst 3, 1) := by decide +kernel
theorem dX7_generationOf_138 : decode cX7_generationOf 138 = .ok (.iadd, 1) := by decide +kernel
theorem dX7_generationOf_139 : decode cX7_generationOf 139 = .ok (.iaload, 1) := by decide +kernel
theorem dX7_generationOf_140 : decode cX7_generationOf 140 = .ok (.goto 5, 3) := by decide +kernel
theorem dX7_generationOf_143 : decode cX7_generationOf 143 = .ok (.ldc 50, 2) := by decide +kernel
theorem dX7_generationOf_145 : decode cX7_generationOf 145 = .ok (.ireturn, 1) := by decide +kernel
theorem dX7_generationOf_146 : decode cX7_generationOf 146 = .ok (.aload_n 0, 1) := by decide +kernel
theorem dX7_generationOf_147 : decode cX7_generationOf 147 = .ok (.iload_n 1, 1) := by decide +kernel
theorem dX7_generationOf_148 : decode cX7_generationOf 148 = .ok (.invokevirtual 134, 3) := by decide +kernel
theorem dX7_generationOf_151 : decode cX7_generationOf 151 = .ok (.ireturn, 1) := by decide +kernel
theorem dX7_generationOf_152 : decode cX7_generationOf 152 = .ok (.aload_n 0, 1) := by decide +kernel
theorem dX7_generationOf_153 : decode cX7_generationOf 153 = .ok (.iload_n 1, 1) := by decide +kernel
theorem dX7_generationOf_154 : decode cX7_generationOf 154 = .ok (.sipush 340, 3) := by decide +kernel
theorem dX7_generationOf_157 : decode cX7_generationOf 157 = .ok (.invokevirtual 114, 3) := by decide +kernel
theorem dX7_generationOf_160 : decode cX7_generationOf 160 = .ok (.ireturn, 1) := by decide +kernel
theorem dX7_ancestor_0 : decode cX7_ancestor 0 = .ok (.aload_n 0, 1) := by decide +kernel
theorem dX7_ancestor_1 : decode cX7_ancestor 1 = .ok (.iload_n 1, 1) := by decide +kernel
theorem dX7_ancestor_2 : decode cX7_ancestor 2 = .ok (.invokevirtual 92, 3) := by decide +kernel
theorem dX7_ancestor_5 : decode cX7_ancestor 5 = .ok (.ifCond .eq 20, 3) := by decide +kernel
theorem dX7_ancestor_8 : decode cX7_ancestor 8 = .ok (.aload_n 0, 1) := by decide +kernel
theorem dX7_ancestor_9 : decode cX7_ancestor 9 = .ok (.iload_n 2, 1) := by decide +kernel
theorem dX7_ancestor_10 : decode cX7_ancestor 10 = .ok (.invokevirtual 131, 3) := by decide +kernel
theorem dX7_ancestor_13 : decode cX7_ancestor 13 = .ok (.ifCond .eq 12, 3) := by decide +kernel
theorem dX7_ancestor_16 : decode cX7_ancestor 16 = .ok (.iload_n 3, 1) := by decide +kernel
theorem dX7_ancestor_17 : decode cX7_ancestor 17 = .ok (.iconst 0, 1) := by decide +kernel
theorem dX7_ancestor_18 : decode cX7_ancestor 18 = .ok (.iconst 1, 1) := by decide +kernel
theorem dX7_ancestor_19 : decode cX7_ancestor 19 = .ok (.invokestatic 84, 3) := by decide +kernel
theorem dX7_ancestor_22 : decode cX7_ancestor 22 = .ok (.ifCond .ne 6, 3) := by decide +kernel
theorem dX7_ancestor_25 : decode cX7_ancestor 25 = .ok (.ldc 88, 2) := by decide +kernel
theorem dX7_ancestor_27 : decode cX7_ancestor 27 = .ok (.ireturn, 1) := by decide +kernel
theorem dX7_ancestor_28 : decode cX7_ancestor 28 = .ok (.aload_n 0, 1) := by decide +kernel
theorem dX7_ancestor_29 : decode cX7_ancestor 29 = .ok (.iload_n 1, 1) := by decide +kernel
theorem dX7_ancestor_30 : decode cX7_ancestor 30 = .ok (.iload_n 2, 1) := by decide +kernel
theorem dX7_ancestor_31 : decode cX7_ancestor 31 = .ok (.invokevirtual 128, 3) := by decide +kernel
theorem dX7_ancestor_34 : decode cX7_ancestor 34 = .ok (.istore 4, 2) := by decide +kernel
theorem dX7_ancestor_36 : decode cX7_ancestor 36 = .ok (.iload_n 3, 1) := by decide +kernel
theorem dX7_ancestor_37 : decode cX7_ancestor 37 = .ok (.ifCond .ne 8, 3) := by decide +kernel
theorem dX7_ancestor_40 : decode cX7_ancestor 40 = .ok (.iload 4, 2) := by decide +kernel
theorem dX7_ancestor_42 : decode cX7_ancestor 42 = .ok (.goto 10, 3) := by decide +kernel
theorem dX7_ancestor_45 : decode cX7_ancestor 45 = .ok (.aload_n 0, 1) := by decide +kernel
theorem dX7_ancestor_46 : decode cX7_ancestor 46 = .ok (.iload_n 2, 1) := by decide +kernel
theorem dX7_ancestor_47 : decode cX7_ancestor 47 = .ok (.iload 4, 2) := by decide +kernel
theorem dX7_ancestor_49 : decode cX7_ancestor 49 = .ok (.invokevirtual 81, 3) := by decide +kernel
theorem dX7_ancestor_52 : decode cX7_ancestor 52 = .ok (.ireturn, 1) := by decide +kernel
theorem dX7_meeting_0 : decode cX7_meeting 0 = .ok (.aload_n 0, 1) := by decide +kernel
theorem dX7_meeting_1 : decode cX7_meeting 1 = .ok (.invokevirtual 102, 3) := by decide +kernel
theorem dX7_meeting_4 : decode cX7_meeting 4 = .ok (.istore 4, 2) := by decide +kernel
theorem dX7_meeting_6 : decode cX7_meeting 6 = .ok (.iload 4, 2) := by decide +kernel
theorem dX7_meeting_8 : decode cX7_meeting 8 = .ok (.ifCond .lt 95, 3) := by decide +kernel
theorem dX7_meeting_11 : decode cX7_meeting 11 = .ok (.aload_n 0, 1) := by decide +kernel
theorem dX7_meeting_12 : decode cX7_meeting 12 = .ok (.iload_n 1, 1) := by decide +kernel
theorem dX7_meeting_13 : decode cX7_meeting 13 = .ok (.iload 4, 2) := by decide +kernel
theorem dX7_meeting_15 : decode cX7_meeting 15 = .ok (.invokevirtual 128, 3) := by decide +kernel
theorem dX7_meeting_18 : decode cX7_meeting 18 = .ok (.aload_n 0, 1) := by decide +kernel
theorem dX7_meeting_19 : decode cX7_meeting 19 = .ok (.iload_n 2, 1) := by decide +kernel
theorem dX7_meeting_20 : decode cX7_meeting 20 = .ok (.iload 4, 2) := by decide +kernel
theorem dX7_meeting_22 : decode cX7_meeting 22 = .ok (.invokevirtual 128, 3) := by decide +kernel
theorem dX7_meeting_25 : decode cX7_meeting 25 = .ok (.if_icmp .ne 7, 3) := by decide +kernel
theorem dX7_meeting_28 : decode cX7_meeting 28 = .ok (.iconst 1, 1) := by decide +kernel
theorem dX7_meeting_29 : decode cX7_meeting 29 = .ok (.goto 4, 3) := by decide +kernel
theorem dX7_meeting_32 : decode cX7_meeting 32 = .ok (.iconst 0, 1) := by decide +kernel
theorem dX7_meeting_33 : decode cX7_meeting 33 = .ok (.istore 5, 2) := by decide +kernel
theorem dX7_meeting_35 : decode cX7_meeting 35 = .ok (.iconst 0, 1) := by decide +kernel
theorem dX7_meeting_36 : decode cX7_meeting 36 = .ok (.istore 6, 2) := by decide +kernel
theorem dX7_meeting_38 : decode cX7_meeting 38 = .ok (.iload 6, 2) := by decide +kernel
theorem dX7_meeting_40 : decode cX7_meeting 40 = .ok (.aload_n 0, 1) := by decide +kernel
theorem dX7_meeting_41 : decode cX7_meeting 41 = .ok (.getfield 7, 3) := by decide +kernel
theorem dX7_meeting_44 : decode cX7_meeting 44 = .ok (.iconst 0, 1) := by decide +kernel
theorem dX7_meeting_45 : decode cX7_meeting 45 = .ok (.iaload, 1) := by decide +kernel
theorem dX7_meeting_46 : decode cX7_meeting 46 = .ok (.if_icmp .ge 43, 3) := by decide +kernel
theorem dX7_meeting_49 : decode cX7_meeting 49 = .ok (.iload_n 3, 1) := by decide +kernel
theorem dX7_meeting_50 : decode cX7_meeting 50 = .ok (.ifCond .eq 39, 3) := by decide +kernel
theorem dX7_meeting_53 : decode cX7_meeting 53 = .ok (.iload 5, 2) := by decide +kernel
theorem dX7_meeting_55 : decode cX7_meeting 55 = .ok (.ifCond .eq 25, 3) := by decide +kernel
theorem dX7_meeting_58 : decode cX7_meeting 58 = .ok (.aload_n 0, 1) := by decide +kernel
theorem dX7_meeting_59 : decode cX7_meeting 59 = .ok (.iload 6, 2) := by decide +kernel
theorem dX7_meeting_61 : decode cX7_meeting 61 = .ok (.iload 4, 2) := by decide +kernel
theorem dX7_meeting_63 : decode cX7_meeting 63 = .ok (.invokevirtual 128, 3) := by decide +kernel
theorem dX7_meeting_66 : decode cX7_meeting 66 = .ok (.aload_n 0, 1) := by decide +kernel
theorem dX7_meeting_67 : decode cX7_meeting 67 = .ok (.iload_n 1, 1) := by decide +kernel
theorem dX7_meeting_68 : decode cX7_meeting 68 = .ok (.iload 4, 2) := by decide +kernel
theorem dX7_meeting_70 : decode cX7_meeting 70 = .ok (.invokevirtual 128, 3) := by decide +kernel
theorem dX7_meeting_73 : decode cX7_meeting 73 = .ok (.if_icmp .ne 7, 3) := by decide +kernel
theorem dX7_meeting_76 : decode cX7_meeting 76 = .ok (.iconst 1, 1) := by decide +kernel
theorem dX7_meeting_77 : decode cX7_meeting 77 = .ok (.goto 4, 3) := by decide +kernel
theorem dX7_meeting_80 : decode cX7_meeting 80 = .ok (.iconst 0, 1) := by decide +kernel
theorem dX7_meeting_81 : decode cX7_meeting 81 = .ok (.istore 5, 2) := by decide +kernel
theorem dX7_meeting_83 : decode cX7_meeting 83 = .ok (.iinc 6 1, 3) := by decide +kernel
theorem dX7_meeting_86 : decode cX7_meeting 86 = .ok (.goto (-48), 3) := by decide +kernel
theorem dX7_meeting_89 : decode cX7_meeting 89 = .ok (.iload 5, 2) := by decide +kernel
theorem dX7_meeting_91 : decode cX7_meeting 91 = .ok (.ifCond .eq 6, 3) := by decide +kernel
theorem dX7_meeting_94 : decode cX7_meeting 94 = .ok (.iload 4, 2) := by decide +kernel
theorem dX7_meeting_96 : decode cX7_meeting 96 = .ok (.ireturn, 1) := by decide +kernel
theorem dX7_meeting_97 : decode cX7_meeting 97 = .ok (.iinc 4 (-1), 3) := by decide +kernel
theorem dX7_meeting_100 : decode cX7_meeting 100 = .ok (.goto (-94), 3) := by decide +kernel
theorem dX7_meeting_103 : decode cX7_meeting 103 = .ok (.ldc 50, 2) := by decide +kernel
theorem dX7_meeting_105 : decode cX7_meeting 105 = .ok (.ireturn, 1) := by decide +kernel
theorem dX7_common_0 : decode cX7_common 0 = .ok (.aload_n 0, 1) := by decide +kernel
theorem dX7_common_1 : decode cX7_common 1 = .ok (.iload_n 1, 1) := by decide +kernel
theorem dX7_common_2 : decode cX7_common 2 = .ok (.invokevirtual 92, 3) := by decide +kernel
theorem dX7_common_5 : decode cX7_common 5 = .ok (.ifCond .eq 21, 3) := by decide +kernel
theorem dX7_common_8 : decode cX7_common 8 = .ok (.aload_n 0, 1) := by decide +kernel
theorem dX7_common_9 : decode cX7_common 9 = .ok (.iload_n 2, 1) := by decide +kernel
theorem dX7_common_10 : decode cX7_common 10 = .ok (.invokevirtual 92, 3) := by decide +kernel
theorem dX7_common_13 : decode cX7_common 13 = .ok (.ifCond .eq 13, 3) := by decide +kernel
theorem dX7_common_16 : decode cX7_common 16 = .ok (.aload_n 0, 1) := by decide +kernel
theorem dX7_common_17 : decode cX7_common 17 = .ok (.iload_n 1, 1) := by decide +kernel
theorem dX7_common_18 : decode cX7_common 18 = .ok (.iload_n 2, 1) := by decide +kernel
theorem dX7_common_19 : decode cX7_common 19 = .ok (.iconst 0, 1) := by decide +kernel
theorem dX7_common_20 : decode cX7_common 20 = .ok (.invokevirtual 137, 3) := by decide +kernel
theorem dX7_common_23 : decode cX7_common 23 = .ok (.goto 5, 3) := by decide +kernel
theorem dX7_common_26 : decode cX7_common 26 = .ok (.ldc 88, 2) := by decide +kernel
theorem dX7_common_28 : decode cX7_common 28 = .ok (.ireturn, 1) := by decide +kernel
theorem dX7_root_0 : decode cX7_root 0 = .ok (.aload_n 0, 1) := by decide +kernel
theorem dX7_root_1 : decode cX7_root 1 = .ok (.iconst 0, 1) := by decide +kernel
theorem dX7_root_2 : decode cX7_root 2 = .ok (.iconst 0, 1) := by decide +kernel
theorem dX7_root_3 : decode cX7_root 3 = .ok (.iconst 1, 1) := by decide +kernel
theorem dX7_root_4 : decode cX7_root 4 = .ok (.invokevirtual 137, 3) := by decide +kernel
theorem dX7_root_7 : decode cX7_root 7 = .ok (.ireturn, 1) := by decide +kernel
theorem dX7_mean_0 : decode cX7_mean 0 = .ok (.aload_n 0, 1) := by decide +kernel
theorem dX7_mean_1 : decode cX7_mean 1 = .ok (.iload_n 1, 1) := by decide +kernel
theorem dX7_mean_2 : decode cX7_mean 2 = .ok (.invokevirtual 131, 3) := by decide +kernel
theorem dX7_mean_5 : decode cX7_mean 5 = .ok (.ifCond .eq 12, 3) := by decide +kernel
theorem dX7_mean_8 : decode cX7_mean 8 = .ok (.iload_n 2, 1) := by decide +kernel
theorem dX7_mean_9 : decode cX7_mean 9 = .ok (.iconst 0, 1) := by decide +kernel
theorem dX7_mean_10 : decode cX7_mean 10 = .ok (.iconst 1, 1) := by decide +kernel
theorem dX7_mean_11 : decode cX7_mean 11 = .ok (.invokestatic 84, 3) := by decide +kernel
theorem dX7_mean_14 : decode cX7_mean 14 = .ok (.ifCond .ne 6, 3) := by decide +kernel
theorem dX7_mean_17 : decode cX7_mean 17 = .ok (.ldc 88, 2) := by decide +kernel
theorem dX7_mean_19 : decode cX7_mean 19 = .ok (.ireturn, 1) := by decide +kernel
theorem dX7_mean_20 : decode cX7_mean 20 = .ok (.lconst 0, 1) := by decide +kernel
theorem dX7_mean_21 : decode cX7_mean 21 = .ok (.lstore_n 3, 1) := by decide +kernel
theorem dX7_mean_22 : decode cX7_mean 22 = .ok (.iconst 0, 1) := by decide +kernel
theorem dX7_mean_23 : decode cX7_mean 23 = .ok (.istore 5, 2) := by decide +kernel
theorem dX7_mean_25 : decode cX7_mean 25 = .ok (.iload 5, 2) := by decide +kernel
theorem dX7_mean_27 : decode cX7_mean 27 = .ok (.aload_n 0, 1) := by decide +kernel
theorem dX7_mean_28 : decode cX7_mean 28 = .ok (.getfield 7, 3) := by decide +kernel
theorem dX7_mean_31 : decode cX7_mean 31 = .ok (.iconst 0, 1) := by decide +kernel
theorem dX7_mean_32 : decode cX7_mean 32 = .ok (.iaload, 1) := by decide +kernel
theorem dX7_mean_33 : decode cX7_mean 33 = .ok (.if_icmp .ge 37, 3) := by decide +kernel
theorem dX7_mean_36 : decode cX7_mean 36 = .ok (.lload_n 3, 1) := by decide +kernel
theorem dX7_mean_37 : decode cX7_mean 37 = .ok (.aload_n 0, 1) := by decide +kernel
theorem dX7_mean_38 : decode cX7_mean 38 = .ok (.getfield 7, 3) := by decide +kernel
theorem dX7_mean_41 : decode cX7_mean 41 = .ok (.bipush 8, 2) := by decide +kernel
theorem dX7_mean_43 : decode cX7_mean 43 = .ok (.iload 5, 2) := by decide +kernel
theorem dX7_mean_45 : decode cX7_mean 45 = .ok (.iadd, 1) := by decide +kernel
theorem dX7_mean_46 : decode cX7_mean 46 = .ok (.iaload, 1) := by decide +kernel
theorem dX7_mean_47 : decode cX7_mean 47 = .ok (.i2l, 1) := by decide +kernel
theorem dX7_mean_48 : decode cX7_mean 48 = .ok (.aload_n 0, 1) := by decide +kernel
theorem dX7_mean_49 : decode cX7_mean 49 = .ok (.iload_n 1, 1) := by decide +kernel
theorem dX7_mean_50 : decode cX7_mean 50 = .ok (.aload_n 0, 1) := by decide +kernel
theorem dX7_mean_51 : decode cX7_mean 51 = .ok (.iload 5, 2) := by decide +kernel
theorem dX7_mean_53 : decode cX7_mean 53 = .ok (.iload_n 1, 1) := by decide +kernel
theorem dX7_mean_54 : decode cX7_mean 54 = .ok (.invokevirtual 128, 3) := by decide +kernel
