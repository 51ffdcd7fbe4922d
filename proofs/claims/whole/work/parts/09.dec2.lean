theorem dX4_greatestSetting_30 : decode cX4_greatestSetting 30 = .ok (.ireturn, 1) := by decide +kernel
theorem dX4_greatestSetting_31 : decode cX4_greatestSetting 31 = .ok (.iconst 2, 1) := by decide +kernel
theorem dX4_greatestSetting_32 : decode cX4_greatestSetting 32 = .ok (.ireturn, 1) := by decide +kernel
theorem dX4_greatestSetting_33 : decode cX4_greatestSetting 33 = .ok (.bipush 99, 2) := by decide +kernel
theorem dX4_greatestSetting_35 : decode cX4_greatestSetting 35 = .ok (.ireturn, 1) := by decide +kernel
theorem dX4_hasParticle_0 : decode cX4_hasParticle 0 = .ok (.iload_n 1, 1) := by decide +kernel
theorem dX4_hasParticle_1 : decode cX4_hasParticle 1 = .ok (.iconst 0, 1) := by decide +kernel
theorem dX4_hasParticle_2 : decode cX4_hasParticle 2 = .ok (.aload_n 0, 1) := by decide +kernel
theorem dX4_hasParticle_3 : decode cX4_hasParticle 3 = .ok (.getfield 12, 3) := by decide +kernel
theorem dX4_hasParticle_6 : decode cX4_hasParticle 6 = .ok (.invokevirtual 107, 3) := by decide +kernel
theorem dX4_hasParticle_9 : decode cX4_hasParticle 9 = .ok (.iconst 1, 1) := by decide +kernel
theorem dX4_hasParticle_10 : decode cX4_hasParticle 10 = .ok (.isub, 1) := by decide +kernel
theorem dX4_hasParticle_11 : decode cX4_hasParticle 11 = .ok (.invokestatic 74, 3) := by decide +kernel
theorem dX4_hasParticle_14 : decode cX4_hasParticle 14 = .ok (.ireturn, 1) := by decide +kernel
theorem dX4_hasGeneration_0 : decode cX4_hasGeneration 0 = .ok (.iload_n 1, 1) := by decide +kernel
theorem dX4_hasGeneration_1 : decode cX4_hasGeneration 1 = .ok (.iconst 0, 1) := by decide +kernel
theorem dX4_hasGeneration_2 : decode cX4_hasGeneration 2 = .ok (.aload_n 0, 1) := by decide +kernel
theorem dX4_hasGeneration_3 : decode cX4_hasGeneration 3 = .ok (.getfield 12, 3) := by decide +kernel
theorem dX4_hasGeneration_6 : decode cX4_hasGeneration 6 = .ok (.invokevirtual 101, 3) := by decide +kernel
theorem dX4_hasGeneration_9 : decode cX4_hasGeneration 9 = .ok (.invokestatic 74, 3) := by decide +kernel
theorem dX4_hasGeneration_12 : decode cX4_hasGeneration 12 = .ok (.ireturn, 1) := by decide +kernel
theorem dX4_tellOfParticle_0 : decode cX4_tellOfParticle 0 = .ok (.aload_n 0, 1) := by decide +kernel
theorem dX4_tellOfParticle_1 : decode cX4_tellOfParticle 1 = .ok (.getfield 12, 3) := by decide +kernel
theorem dX4_tellOfParticle_4 : decode cX4_tellOfParticle 4 = .ok (.invokevirtual 101, 3) := by decide +kernel
theorem dX4_tellOfParticle_7 : decode cX4_tellOfParticle 7 = .ok (.istore_n 3, 1) := by decide +kernel
theorem dX4_tellOfParticle_8 : decode cX4_tellOfParticle 8 = .ok (.aload_n 0, 1) := by decide +kernel
theorem dX4_tellOfParticle_9 : decode cX4_tellOfParticle 9 = .ok (.getfield 12, 3) := by decide +kernel
theorem dX4_tellOfParticle_12 : decode cX4_tellOfParticle 12 = .ok (.iload_n 3, 1) := by decide +kernel
theorem dX4_tellOfParticle_13 : decode cX4_tellOfParticle 13 = .ok (.iload_n 1, 1) := by decide +kernel
theorem dX4_tellOfParticle_14 : decode cX4_tellOfParticle 14 = .ok (.invokevirtual 113, 3) := by decide +kernel
theorem dX4_tellOfParticle_17 : decode cX4_tellOfParticle 17 = .ok (.istore 4, 2) := by decide +kernel
theorem dX4_tellOfParticle_19 : decode cX4_tellOfParticle 19 = .ok (.aload_n 0, 1) := by decide +kernel
theorem dX4_tellOfParticle_20 : decode cX4_tellOfParticle 20 = .ok (.getfield 21, 3) := by decide +kernel
theorem dX4_tellOfParticle_23 : decode cX4_tellOfParticle 23 = .ok (.iload_n 1, 1) := by decide +kernel
theorem dX4_tellOfParticle_24 : decode cX4_tellOfParticle 24 = .ok (.invokevirtual 96, 3) := by decide +kernel
theorem dX4_tellOfParticle_27 : decode cX4_tellOfParticle 27 = .ok (.istore 5, 2) := by decide +kernel
theorem dX4_tellOfParticle_29 : decode cX4_tellOfParticle 29 = .ok (.iload_n 2, 1) := by decide +kernel
theorem dX4_tellOfParticle_30 : decode cX4_tellOfParticle 30 = .ok (.tableswitch 104 0 5 #[38, 41, 44, 63, 74, 89], 38) := by decide +kernel
theorem dX4_tellOfParticle_68 : decode cX4_tellOfParticle 68 = .ok (.iload 4, 2) := by decide +kernel
theorem dX4_tellOfParticle_70 : decode cX4_tellOfParticle 70 = .ok (.ireturn, 1) := by decide +kernel
theorem dX4_tellOfParticle_71 : decode cX4_tellOfParticle 71 = .ok (.iload 5, 2) := by decide +kernel
theorem dX4_tellOfParticle_73 : decode cX4_tellOfParticle 73 = .ok (.ireturn, 1) := by decide +kernel
theorem dX4_tellOfParticle_74 : decode cX4_tellOfParticle 74 = .ok (.iload_n 3, 1) := by decide +kernel
theorem dX4_tellOfParticle_75 : decode cX4_tellOfParticle 75 = .ok (.ifCond .ne 8, 3) := by decide +kernel
theorem dX4_tellOfParticle_78 : decode cX4_tellOfParticle 78 = .ok (.ldc 163, 2) := by decide +kernel
theorem dX4_tellOfParticle_80 : decode cX4_tellOfParticle 80 = .ok (.goto 12, 3) := by decide +kernel
theorem dX4_tellOfParticle_83 : decode cX4_tellOfParticle 83 = .ok (.aload_n 0, 1) := by decide +kernel
theorem dX4_tellOfParticle_84 : decode cX4_tellOfParticle 84 = .ok (.getfield 12, 3) := by decide +kernel
theorem dX4_tellOfParticle_87 : decode cX4_tellOfParticle 87 = .ok (.iload_n 3, 1) := by decide +kernel
theorem dX4_tellOfParticle_88 : decode cX4_tellOfParticle 88 = .ok (.iload_n 1, 1) := by decide +kernel
theorem dX4_tellOfParticle_89 : decode cX4_tellOfParticle 89 = .ok (.invokevirtual 164, 3) := by decide +kernel
theorem dX4_tellOfParticle_92 : decode cX4_tellOfParticle 92 = .ok (.ireturn, 1) := by decide +kernel
theorem dX4_tellOfParticle_93 : decode cX4_tellOfParticle 93 = .ok (.aload_n 0, 1) := by decide +kernel
theorem dX4_tellOfParticle_94 : decode cX4_tellOfParticle 94 = .ok (.getfield 12, 3) := by decide +kernel
theorem dX4_tellOfParticle_97 : decode cX4_tellOfParticle 97 = .ok (.iload_n 3, 1) := by decide +kernel
theorem dX4_tellOfParticle_98 : decode cX4_tellOfParticle 98 = .ok (.iload 4, 2) := by decide +kernel
theorem dX4_tellOfParticle_100 : decode cX4_tellOfParticle 100 = .ok (.invokevirtual 167, 3) := by decide +kernel
theorem dX4_tellOfParticle_103 : decode cX4_tellOfParticle 103 = .ok (.ireturn, 1) := by decide +kernel
theorem dX4_tellOfParticle_104 : decode cX4_tellOfParticle 104 = .ok (.iload 5, 2) := by decide +kernel
theorem dX4_tellOfParticle_106 : decode cX4_tellOfParticle 106 = .ok (.i2l, 1) := by decide +kernel
theorem dX4_tellOfParticle_107 : decode cX4_tellOfParticle 107 = .ok (.aload_n 0, 1) := by decide +kernel
theorem dX4_tellOfParticle_108 : decode cX4_tellOfParticle 108 = .ok (.getfield 21, 3) := by decide +kernel
theorem dX4_tellOfParticle_111 : decode cX4_tellOfParticle 111 = .ok (.invokevirtual 170, 3) := by decide +kernel
theorem dX4_tellOfParticle_114 : decode cX4_tellOfParticle 114 = .ok (.iconst 0, 1) := by decide +kernel
theorem dX4_tellOfParticle_115 : decode cX4_tellOfParticle 115 = .ok (.invokestatic 174, 3) := by decide +kernel
theorem dX4_tellOfParticle_118 : decode cX4_tellOfParticle 118 = .ok (.ireturn, 1) := by decide +kernel
theorem dX4_tellOfParticle_119 : decode cX4_tellOfParticle 119 = .ok (.iload 5, 2) := by decide +kernel
theorem dX4_tellOfParticle_121 : decode cX4_tellOfParticle 121 = .ok (.i2l, 1) := by decide +kernel
theorem dX4_tellOfParticle_122 : decode cX4_tellOfParticle 122 = .ok (.aload_n 0, 1) := by decide +kernel
theorem dX4_tellOfParticle_123 : decode cX4_tellOfParticle 123 = .ok (.getfield 21, 3) := by decide +kernel
theorem dX4_tellOfParticle_126 : decode cX4_tellOfParticle 126 = .ok (.invokevirtual 170, 3) := by decide +kernel
theorem dX4_tellOfParticle_129 : decode cX4_tellOfParticle 129 = .ok (.iconst 1, 1) := by decide +kernel
theorem dX4_tellOfParticle_130 : decode cX4_tellOfParticle 130 = .ok (.invokestatic 174, 3) := by decide +kernel
theorem dX4_tellOfParticle_133 : decode cX4_tellOfParticle 133 = .ok (.ireturn, 1) := by decide +kernel
theorem dX4_tellOfParticle_134 : decode cX4_tellOfParticle 134 = .ok (.aload_n 0, 1) := by decide +kernel
theorem dX4_tellOfParticle_135 : decode cX4_tellOfParticle 135 = .ok (.getfield 21, 3) := by decide +kernel
theorem dX4_tellOfParticle_138 : decode cX4_tellOfParticle 138 = .ok (.iload_n 1, 1) := by decide +kernel
theorem dX4_tellOfParticle_139 : decode cX4_tellOfParticle 139 = .ok (.invokevirtual 178, 3) := by decide +kernel
theorem dX4_tellOfParticle_142 : decode cX4_tellOfParticle 142 = .ok (.ireturn, 1) := by decide +kernel
theorem dX4_tellOfGeneration_0 : decode cX4_tellOfGeneration 0 = .ok (.aload_n 0, 1) := by decide +kernel
theorem dX4_tellOfGeneration_1 : decode cX4_tellOfGeneration 1 = .ok (.getfield 12, 3) := by decide +kernel
theorem dX4_tellOfGeneration_4 : decode cX4_tellOfGeneration 4 = .ok (.iload_n 1, 1) := by decide +kernel
theorem dX4_tellOfGeneration_5 : decode cX4_tellOfGeneration 5 = .ok (.invokevirtual 181, 3) := by decide +kernel
theorem dX4_tellOfGeneration_8 : decode cX4_tellOfGeneration 8 = .ok (.istore_n 3, 1) := by decide +kernel
theorem dX4_tellOfGeneration_9 : decode cX4_tellOfGeneration 9 = .ok (.iload_n 2, 1) := by decide +kernel
theorem dX4_tellOfGeneration_10 : decode cX4_tellOfGeneration 10 = .ok (.tableswitch 105 0 4 #[34, 36, 58, 77, 96], 34) := by decide +kernel
theorem dX4_tellOfGeneration_44 : decode cX4_tellOfGeneration 44 = .ok (.iload_n 3, 1) := by decide +kernel
theorem dX4_tellOfGeneration_45 : decode cX4_tellOfGeneration 45 = .ok (.ireturn, 1) := by decide +kernel
theorem dX4_tellOfGeneration_46 : decode cX4_tellOfGeneration 46 = .ok (.iload_n 3, 1) := by decide +kernel
theorem dX4_tellOfGeneration_47 : decode cX4_tellOfGeneration 47 = .ok (.iconst 1, 1) := by decide +kernel
theorem dX4_tellOfGeneration_48 : decode cX4_tellOfGeneration 48 = .ok (.if_icmp .ne 17, 3) := by decide +kernel
theorem dX4_tellOfGeneration_51 : decode cX4_tellOfGeneration 51 = .ok (.aload_n 0, 1) := by decide +kernel
theorem dX4_tellOfGeneration_52 : decode cX4_tellOfGeneration 52 = .ok (.getfield 12, 3) := by decide +kernel
theorem dX4_tellOfGeneration_55 : decode cX4_tellOfGeneration 55 = .ok (.iload_n 1, 1) := by decide +kernel
theorem dX4_tellOfGeneration_56 : decode cX4_tellOfGeneration 56 = .ok (.invokevirtual 184, 3) := by decide +kernel
theorem dX4_tellOfGeneration_59 : decode cX4_tellOfGeneration 59 = .ok (.bipush 100, 2) := by decide +kernel
theorem dX4_tellOfGeneration_61 : decode cX4_tellOfGeneration 61 = .ok (.iadd, 1) := by decide +kernel
theorem dX4_tellOfGeneration_62 : decode cX4_tellOfGeneration 62 = .ok (.goto 5, 3) := by decide +kernel
theorem dX4_tellOfGeneration_65 : decode cX4_tellOfGeneration 65 = .ok (.ldc 163, 2) := by decide +kernel
theorem dX4_tellOfGeneration_67 : decode cX4_tellOfGeneration 67 = .ok (.ireturn, 1) := by decide +kernel
theorem dX4_tellOfGeneration_68 : decode cX4_tellOfGeneration 68 = .ok (.iload_n 3, 1) := by decide +kernel
theorem dX4_tellOfGeneration_69 : decode cX4_tellOfGeneration 69 = .ok (.iconst 1, 1) := by decide +kernel
theorem dX4_tellOfGeneration_70 : decode cX4_tellOfGeneration 70 = .ok (.if_icmp .ne 14, 3) := by decide +kernel
theorem dX4_tellOfGeneration_73 : decode cX4_tellOfGeneration 73 = .ok (.aload_n 0, 1) := by decide +kernel
theorem dX4_tellOfGeneration_74 : decode cX4_tellOfGeneration 74 = .ok (.getfield 12, 3) := by decide +kernel
theorem dX4_tellOfGeneration_77 : decode cX4_tellOfGeneration 77 = .ok (.iload_n 1, 1) := by decide +kernel
theorem dX4_tellOfGeneration_78 : decode cX4_tellOfGeneration 78 = .ok (.invokevirtual 187, 3) := by decide +kernel
theorem dX4_tellOfGeneration_81 : decode cX4_tellOfGeneration 81 = .ok (.goto 5, 3) := by decide +kernel
theorem dX4_tellOfGeneration_84 : decode cX4_tellOfGeneration 84 = .ok (.ldc 163, 2) := by decide +kernel
theorem dX4_tellOfGeneration_86 : decode cX4_tellOfGeneration 86 = .ok (.ireturn, 1) := by decide +kernel
theorem dX4_tellOfGeneration_87 : decode cX4_tellOfGeneration 87 = .ok (.iload_n 3, 1) := by decide +kernel
theorem dX4_tellOfGeneration_88 : decode cX4_tellOfGeneration 88 = .ok (.iconst 2, 1) := by decide +kernel
theorem dX4_tellOfGeneration_89 : decode cX4_tellOfGeneration 89 = .ok (.if_icmp .ne 14, 3) := by decide +kernel
theorem dX4_tellOfGeneration_92 : decode cX4_tellOfGeneration 92 = .ok (.aload_n 0, 1) := by decide +kernel
theorem dX4_tellOfGeneration_93 : decode cX4_tellOfGeneration 93 = .ok (.getfield 12, 3) := by decide +kernel
theorem dX4_tellOfGeneration_96 : decode cX4_tellOfGeneration 96 = .ok (.iload_n 1, 1) := by decide +kernel
theorem dX4_tellOfGeneration_97 : decode cX4_tellOfGeneration 97 = .ok (.invokevirtual 190, 3) := by decide +kernel
theorem dX4_tellOfGeneration_100 : decode cX4_tellOfGeneration 100 = .ok (.goto 5, 3) := by decide +kernel
theorem dX4_tellOfGeneration_103 : decode cX4_tellOfGeneration 103 = .ok (.ldc 163, 2) := by decide +kernel
theorem dX4_tellOfGeneration_105 : decode cX4_tellOfGeneration 105 = .ok (.ireturn, 1) := by decide +kernel
theorem dX4_tellOfGeneration_106 : decode cX4_tellOfGeneration 106 = .ok (.aload_n 0, 1) := by decide +kernel
theorem dX4_tellOfGeneration_107 : decode cX4_tellOfGeneration 107 = .ok (.getfield 12, 3) := by decide +kernel
theorem dX4_tellOfGeneration_110 : decode cX4_tellOfGeneration 110 = .ok (.iload_n 1, 1) := by decide +kernel
theorem dX4_tellOfGeneration_111 : decode cX4_tellOfGeneration 111 = .ok (.invokevirtual 157, 3) := by decide +kernel
theorem dX4_tellOfGeneration_114 : decode cX4_tellOfGeneration 114 = .ok (.ireturn, 1) := by decide +kernel
theorem dX4_tellOfGeneration_115 : decode cX4_tellOfGeneration 115 = .ok (.aload_n 0, 1) := by decide +kernel
theorem dX4_tellOfGeneration_116 : decode cX4_tellOfGeneration 116 = .ok (.getfield 12, 3) := by decide +kernel
theorem dX4_tellOfGeneration_119 : decode cX4_tellOfGeneration 119 = .ok (.iload_n 1, 1) := by decide +kernel
theorem dX4_tellOfGeneration_120 : decode cX4_tellOfGeneration 120 = .ok (.invokevirtual 193, 3) := by decide +kernel
theorem dX4_tellOfGeneration_123 : decode cX4_tellOfGeneration 123 = .ok (.ireturn, 1) := by decide +kernel
theorem dX4_tellOfAncestor_0 : decode cX4_tellOfAncestor 0 = .ok (.aload_n 0, 1) := by decide +kernel
theorem dX4_tellOfAncestor_1 : decode cX4_tellOfAncestor 1 = .ok (.getfield 12, 3) := by decide +kernel
theorem dX4_tellOfAncestor_4 : decode cX4_tellOfAncestor 4 = .ok (.iload_n 2, 1) := by decide +kernel
theorem dX4_tellOfAncestor_5 : decode cX4_tellOfAncestor 5 = .ok (.iload_n 1, 1) := by decide +kernel
theorem dX4_tellOfAncestor_6 : decode cX4_tellOfAncestor 6 = .ok (.invokevirtual 196, 3) := by decide +kernel
theorem dX4_tellOfAncestor_9 : decode cX4_tellOfAncestor 9 = .ok (.istore 4, 2) := by decide +kernel
theorem dX4_tellOfAncestor_11 : decode cX4_tellOfAncestor 11 = .ok (.iload_n 3, 1) := by decide +kernel
theorem dX4_tellOfAncestor_12 : decode cX4_tellOfAncestor 12 = .ok (.ifCond .ne 8, 3) := by decide +kernel
theorem dX4_tellOfAncestor_15 : decode cX4_tellOfAncestor 15 = .ok (.iload 4, 2) := by decide +kernel
theorem dX4_tellOfAncestor_17 : decode cX4_tellOfAncestor 17 = .ok (.goto 13, 3) := by decide +kernel
theorem dX4_tellOfAncestor_20 : decode cX4_tellOfAncestor 20 = .ok (.aload_n 0, 1) := by decide +kernel
theorem dX4_tellOfAncestor_21 : decode cX4_tellOfAncestor 21 = .ok (.getfield 12, 3) := by decide +kernel
theorem dX4_tellOfAncestor_24 : decode cX4_tellOfAncestor 24 = .ok (.iload_n 2, 1) := by decide +kernel
theorem dX4_tellOfAncestor_25 : decode cX4_tellOfAncestor 25 = .ok (.iload 4, 2) := by decide +kernel
theorem dX4_tellOfAncestor_27 : decode cX4_tellOfAncestor 27 = .ok (.invokevirtual 113, 3) := by decide +kernel
theorem dX4_tellOfAncestor_30 : decode cX4_tellOfAncestor 30 = .ok (.ireturn, 1) := by decide +kernel
theorem dX4_meetingOfTwo_0 : decode cX4_meetingOfTwo 0 = .ok (.aload_n 0, 1) := by decide +kernel
theorem dX4_meetingOfTwo_1 : decode cX4_meetingOfTwo 1 = .ok (.getfield 12, 3) := by decide +kernel
theorem dX4_meetingOfTwo_4 : decode cX4_meetingOfTwo 4 = .ok (.iload_n 1, 1) := by decide +kernel
theorem dX4_meetingOfTwo_5 : decode cX4_meetingOfTwo 5 = .ok (.iload_n 2, 1) := by decide +kernel
theorem dX4_meetingOfTwo_6 : decode cX4_meetingOfTwo 6 = .ok (.invokevirtual 199, 3) := by decide +kernel
theorem dX4_meetingOfTwo_9 : decode cX4_meetingOfTwo 9 = .ok (.ireturn, 1) := by decide +kernel
theorem dX4_meetingOfAll_0 : decode cX4_meetingOfAll 0 = .ok (.aload_n 0, 1) := by decide +kernel
theorem dX4_meetingOfAll_1 : decode cX4_meetingOfAll 1 = .ok (.getfield 12, 3) := by decide +kernel
theorem dX4_meetingOfAll_4 : decode cX4_meetingOfAll 4 = .ok (.invokevirtual 101, 3) := by decide +kernel
theorem dX4_meetingOfAll_7 : decode cX4_meetingOfAll 7 = .ok (.istore_n 1, 1) := by decide +kernel
theorem dX4_meetingOfAll_8 : decode cX4_meetingOfAll 8 = .ok (.iconst 1, 1) := by decide +kernel
theorem dX4_meetingOfAll_9 : decode cX4_meetingOfAll 9 = .ok (.istore_n 2, 1) := by decide +kernel
theorem dX4_meetingOfAll_10 : decode cX4_meetingOfAll 10 = .ok (.iload_n 2, 1) := by decide +kernel
theorem dX4_meetingOfAll_11 : decode cX4_meetingOfAll 11 = .ok (.aload_n 0, 1) := by decide +kernel
theorem dX4_meetingOfAll_12 : decode cX4_meetingOfAll 12 = .ok (.getfield 12, 3) := by decide +kernel
theorem dX4_meetingOfAll_15 : decode cX4_meetingOfAll 15 = .ok (.invokevirtual 107, 3) := by decide +kernel
theorem dX4_meetingOfAll_18 : decode cX4_meetingOfAll 18 = .ok (.if_icmp .ge 23, 3) := by decide +kernel
theorem dX4_meetingOfAll_21 : decode cX4_meetingOfAll 21 = .ok (.iload_n 1, 1) := by decide +kernel
theorem dX4_meetingOfAll_22 : decode cX4_meetingOfAll 22 = .ok (.aload_n 0, 1) := by decide +kernel
theorem dX4_meetingOfAll_23 : decode cX4_meetingOfAll 23 = .ok (.getfield 12, 3) := by decide +kernel
theorem dX4_meetingOfAll_26 : decode cX4_meetingOfAll 26 = .ok (.iconst 0, 1) := by decide +kernel
theorem dX4_meetingOfAll_27 : decode cX4_meetingOfAll 27 = .ok (.iload_n 2, 1) := by decide +kernel
theorem dX4_meetingOfAll_28 : decode cX4_meetingOfAll 28 = .ok (.invokevirtual 199, 3) := by decide +kernel
theorem dX4_meetingOfAll_31 : decode cX4_meetingOfAll 31 = .ok (.invokestatic 202, 3) := by decide +kernel
theorem dX4_meetingOfAll_34 : decode cX4_meetingOfAll 34 = .ok (.istore_n 1, 1) := by decide +kernel
theorem dX4_meetingOfAll_35 : decode cX4_meetingOfAll 35 = .ok (.iinc 2 1, 3) := by decide +kernel
theorem dX4_meetingOfAll_38 : decode cX4_meetingOfAll 38 = .ok (.goto (-28), 3) := by decide +kernel
theorem dX4_meetingOfAll_41 : decode cX4_meetingOfAll 41 = .ok (.iload_n 1, 1) := by decide +kernel
theorem dX4_meetingOfAll_42 : decode cX4_meetingOfAll 42 = .ok (.ireturn, 1) := by decide +kernel
theorem dX4_partOfMean_0 : decode cX4_partOfMean 0 = .ok (.lconst 0, 1) := by decide +kernel
theorem dX4_partOfMean_1 : decode cX4_partOfMean 1 = .ok (.lstore_n 3, 1) := by decide +kernel
theorem dX4_partOfMean_2 : decode cX4_partOfMean 2 = .ok (.iconst 0, 1) := by decide +kernel
theorem dX4_partOfMean_3 : decode cX4_partOfMean 3 = .ok (.istore 5, 2) := by decide +kernel
theorem dX4_partOfMean_5 : decode cX4_partOfMean 5 = .ok (.iload 5, 2) := by decide +kernel
theorem dX4_partOfMean_7 : decode cX4_partOfMean 7 = .ok (.aload_n 0, 1) := by decide +kernel
theorem dX4_partOfMean_8 : decode cX4_partOfMean 8 = .ok (.getfield 12, 3) := by decide +kernel
theorem dX4_partOfMean_11 : decode cX4_partOfMean 11 = .ok (.invokevirtual 107, 3) := by decide +kernel
theorem dX4_partOfMean_14 : decode cX4_partOfMean 14 = .ok (.if_icmp .ge 46, 3) := by decide +kernel
theorem dX4_partOfMean_17 : decode cX4_partOfMean 17 = .ok (.aload_n 0, 1) := by decide +kernel
theorem dX4_partOfMean_18 : decode cX4_partOfMean 18 = .ok (.getfield 12, 3) := by decide +kernel
theorem dX4_partOfMean_21 : decode cX4_partOfMean 21 = .ok (.iload_n 1, 1) := by decide +kernel
theorem dX4_partOfMean_22 : decode cX4_partOfMean 22 = .ok (.aload_n 0, 1) := by decide +kernel
theorem dX4_partOfMean_23 : decode cX4_partOfMean 23 = .ok (.getfield 12, 3) := by decide +kernel
theorem dX4_partOfMean_26 : decode cX4_partOfMean 26 = .ok (.iload_n 1, 1) := by decide +kernel
theorem dX4_partOfMean_27 : decode cX4_partOfMean 27 = .ok (.iload 5, 2) := by decide +kernel
theorem dX4_partOfMean_29 : decode cX4_partOfMean 29 = .ok (.invokevirtual 196, 3) := by decide +kernel
theorem dX4_partOfMean_32 : decode cX4_partOfMean 32 = .ok (.invokevirtual 113, 3) := by decide +kernel
theorem dX4_partOfMean_35 : decode cX4_partOfMean 35 = .ok (.i2l, 1) := by decide +kernel
theorem dX4_partOfMean_36 : decode cX4_partOfMean 36 = .ok (.lstore 6, 2) := by decide +kernel
theorem dX4_partOfMean_38 : decode cX4_partOfMean 38 = .ok (.lload_n 3, 1) := by decide +kernel
theorem dX4_partOfMean_39 : decode cX4_partOfMean 39 = .ok (.aload_n 0, 1) := by decide +kernel
theorem dX4_partOfMean_40 : decode cX4_partOfMean 40 = .ok (.getfield 21, 3) := by decide +kernel
theorem dX4_partOfMean_43 : decode cX4_partOfMean 43 = .ok (.iload 5, 2) := by decide +kernel
theorem dX4_partOfMean_45 : decode cX4_partOfMean 45 = .ok (.invokevirtual 96, 3) := by decide +kernel
theorem dX4_partOfMean_48 : decode cX4_partOfMean 48 = .ok (.i2l, 1) := by decide +kernel
theorem dX4_partOfMean_49 : decode cX4_partOfMean 49 = .ok (.lload 6, 2) := by decide +kernel
theorem dX4_partOfMean_51 : decode cX4_partOfMean 51 = .ok (.lmul, 1) := by decide +kernel
theorem dX4_partOfMean_52 : decode cX4_partOfMean 52 = .ok (.ladd, 1) := by decide +kernel
theorem dX4_partOfMean_53 : decode cX4_partOfMean 53 = .ok (.lstore_n 3, 1) := by decide +kernel
theorem dX4_partOfMean_54 : decode cX4_partOfMean 54 = .ok (.iinc 5 1, 3) := by decide +kernel
theorem dX4_partOfMean_57 : decode cX4_partOfMean 57 = .ok (.goto (-52), 3) := by decide +kernel
theorem dX4_partOfMean_60 : decode cX4_partOfMean 60 = .ok (.lload_n 3, 1) := by decide +kernel
theorem dX4_partOfMean_61 : decode cX4_partOfMean 61 = .ok (.aload_n 0, 1) := by decide +kernel
theorem dX4_partOfMean_62 : decode cX4_partOfMean 62 = .ok (.getfield 21, 3) := by decide +kernel
theorem dX4_partOfMean_65 : decode cX4_partOfMean 65 = .ok (.invokevirtual 170, 3) := by decide +kernel
theorem dX4_partOfMean_68 : decode cX4_partOfMean 68 = .ok (.iload_n 2, 1) := by decide +kernel
theorem dX4_partOfMean_69 : decode cX4_partOfMean 69 = .ok (.invokestatic 174, 3) := by decide +kernel
theorem dX4_partOfMean_72 : decode cX4_partOfMean 72 = .ok (.ireturn, 1) := by decide +kernel
theorem dX4_partOfShare_0 : decode cX4_partOfShare 0 = .ok (.lconst 0, 1) := by decide +kernel
theorem dX4_partOfShare_1 : decode cX4_partOfShare 1 = .ok (.lstore 5, 2) := by decide +kernel
theorem dX4_partOfShare_3 : decode cX4_partOfShare 3 = .ok (.iconst 0, 1) := by decide +kernel
theorem dX4_partOfShare_4 : decode cX4_partOfShare 4 = .ok (.istore 7, 2) := by decide +kernel
theorem dX4_partOfShare_6 : decode cX4_partOfShare 6 = .ok (.iload 7, 2) := by decide +kernel
theorem dX4_partOfShare_8 : decode cX4_partOfShare 8 = .ok (.aload_n 0, 1) := by decide +kernel
theorem dX4_partOfShare_9 : decode cX4_partOfShare 9 = .ok (.getfield 12, 3) := by decide +kernel
theorem dX4_partOfShare_12 : decode cX4_partOfShare 12 = .ok (.invokevirtual 107, 3) := by decide +kernel
theorem dX4_partOfShare_15 : decode cX4_partOfShare 15 = .ok (.if_icmp .ge 54, 3) := by decide +kernel
theorem dX4_partOfShare_18 : decode cX4_partOfShare 18 = .ok (.aload_n 0, 1) := by decide +kernel
theorem dX4_partOfShare_19 : decode cX4_partOfShare 19 = .ok (.getfield 12, 3) := by decide +kernel
theorem dX4_partOfShare_22 : decode cX4_partOfShare 22 = .ok (.iload_n 1, 1) := by decide +kernel
theorem dX4_partOfShare_23 : decode cX4_partOfShare 23 = .ok (.aload_n 0, 1) := by decide +kernel
theorem dX4_partOfShare_24 : decode cX4_partOfShare 24 = .ok (.getfield 12, 3) := by decide +kernel
theorem dX4_partOfShare_27 : decode cX4_partOfShare 27 = .ok (.iload_n 1, 1) := by decide +kernel
theorem dX4_partOfShare_28 : decode cX4_partOfShare 28 = .ok (.iload 7, 2) := by decide +kernel
theorem dX4_partOfShare_30 : decode cX4_partOfShare 30 = .ok (.invokevirtual 196, 3) := by decide +kernel
theorem dX4_partOfShare_33 : decode cX4_partOfShare 33 = .ok (.invokevirtual 113, 3) := by decide +kernel
theorem dX4_partOfShare_36 : decode cX4_partOfShare 36 = .ok (.istore 8, 2) := by decide +kernel
theorem dX4_partOfShare_38 : decode cX4_partOfShare 38 = .ok (.iload 8, 2) := by decide +kernel
theorem dX4_partOfShare_40 : decode cX4_partOfShare 40 = .ok (.iload_n 2, 1) := by decide +kernel
theorem dX4_partOfShare_41 : decode cX4_partOfShare 41 = .ok (.iload_n 3, 1) := by decide +kernel
theorem dX4_partOfShare_42 : decode cX4_partOfShare 42 = .ok (.invokestatic 74, 3) := by decide +kernel
theorem dX4_partOfShare_45 : decode cX4_partOfShare 45 = .ok (.ifCond .eq 18, 3) := by decide +kernel
theorem dX4_partOfShare_48 : decode cX4_partOfShare 48 = .ok (.lload 5, 2) := by decide +kernel
theorem dX4_partOfShare_50 : decode cX4_partOfShare 50 = .ok (.aload_n 0, 1) := by decide +kernel
theorem dX4_partOfShare_51 : decode cX4_partOfShare 51 = .ok (.getfield 21, 3) := by decide +kernel
theorem dX4_partOfShare_54 : decode cX4_partOfShare 54 = .ok (.iload 7, 2) := by decide +kernel
theorem dX4_partOfShare_56 : decode cX4_partOfShare 56 = .ok (.invokevirtual 96, 3) := by decide +kernel
theorem dX4_partOfShare_59 : decode cX4_partOfShare 59 = .ok (.i2l, 1) := by decide +kernel
theorem dX4_partOfShare_60 : decode cX4_partOfShare 60 = .ok (.ladd, 1) := by decide +kernel
theorem dX4_partOfShare_61 : decode cX4_partOfShare 61 = .ok (.lstore 5, 2) := by decide +kernel
theorem dX4_partOfShare_63 : decode cX4_partOfShare 63 = .ok (.iinc 7 1, 3) := by decide +kernel
theorem dX4_partOfShare_66 : decode cX4_partOfShare 66 = .ok (.goto (-60), 3) := by decide +kernel
theorem dX4_partOfShare_69 : decode cX4_partOfShare 69 = .ok (.lload 5, 2) := by decide +kernel
theorem dX4_partOfShare_71 : decode cX4_partOfShare 71 = .ok (.aload_n 0, 1) := by decide +kernel
theorem dX4_partOfShare_72 : decode cX4_partOfShare 72 = .ok (.getfield 21, 3) := by decide +kernel
theorem dX4_partOfShare_75 : decode cX4_partOfShare 75 = .ok (.invokevirtual 170, 3) := by decide +kernel
theorem dX4_partOfShare_78 : decode cX4_partOfShare 78 = .ok (.iload 4, 2) := by decide +kernel
theorem dX4_partOfShare_80 : decode cX4_partOfShare 80 = .ok (.invokestatic 174, 3) := by decide +kernel
theorem dX4_partOfShare_83 : decode cX4_partOfShare 83 = .ok (.ireturn, 1) := by decide +kernel
theorem dX4_chosenBy_0 : decode cX4_chosenBy 0 = .ok (.aload_n 0, 1) := by decide +kernel
theorem dX4_chosenBy_1 : decode cX4_chosenBy 1 = .ok (.getfield 34, 3) := by decide +kernel
theorem dX4_chosenBy_4 : decode cX4_chosenBy 4 = .ok (.iload_n 1, 1) := by decide +kernel
theorem dX4_chosenBy_5 : decode cX4_chosenBy 5 = .ok (.aload_n 0, 1) := by decide +kernel
theorem dX4_chosenBy_6 : decode cX4_chosenBy 6 = .ok (.getfield 21, 3) := by decide +kernel
theorem dX4_chosenBy_9 : decode cX4_chosenBy 9 = .ok (.aload_n 0, 1) := by decide +kernel
theorem dX4_chosenBy_10 : decode cX4_chosenBy 10 = .ok (.getfield 30, 3) := by decide +kernel
theorem dX4_chosenBy_13 : decode cX4_chosenBy 13 = .ok (.iconst 2, 1) := by decide +kernel
theorem dX4_chosenBy_14 : decode cX4_chosenBy 14 = .ok (.invokevirtual 137, 3) := by decide +kernel
theorem dX4_chosenBy_17 : decode cX4_chosenBy 17 = .ok (.aload_n 0, 1) := by decide +kernel
theorem dX4_chosenBy_18 : decode cX4_chosenBy 18 = .ok (.getfield 58, 3) := by decide +kernel
theorem dX4_chosenBy_21 : decode cX4_chosenBy 21 = .ok (.invokevirtual 143, 3) := by decide +kernel
theorem dX4_chosenBy_24 : decode cX4_chosenBy 24 = .ok (.aload_n 0, 1) := by decide +kernel
theorem dX4_chosenBy_25 : decode cX4_chosenBy 25 = .ok (.getfield 34, 3) := by decide +kernel
theorem dX4_chosenBy_28 : decode cX4_chosenBy 28 = .ok (.iload_n 2, 1) := by decide +kernel
theorem dX4_chosenBy_29 : decode cX4_chosenBy 29 = .ok (.invokevirtual 152, 3) := by decide +kernel
theorem dX4_chosenBy_32 : decode cX4_chosenBy 32 = .ok (.ireturn, 1) := by decide +kernel
theorem dX4_number_0 : decode cX4_number 0 = .ok (.iload_n 1, 1) := by decide +kernel
theorem dX4_number_1 : decode cX4_number 1 = .ok (.tableswitch 205 0 22 #[107, 115, 123, 132, 140, 145, 153, 168, 173, 205, 205, 205, 205, 205, 205, 205, 205, 205, 205, 205, 178, 187, 196], 107) := by decide +kernel
theorem dX4_number_108 : decode cX4_number 108 = .ok (.aload_n 0, 1) := by decide +kernel
theorem dX4_number_109 : decode cX4_number 109 = .ok (.getfield 12, 3) := by decide +kernel
theorem dX4_number_112 : decode cX4_number 112 = .ok (.invokevirtual 107, 3) := by decide +kernel
theorem dX4_number_115 : decode cX4_number 115 = .ok (.ireturn, 1) := by decide +kernel
theorem dX4_number_116 : decode cX4_number 116 = .ok (.aload_n 0, 1) := by decide +kernel
theorem dX4_number_117 : decode cX4_number 117 = .ok (.getfield 12, 3) := by decide +kernel
theorem dX4_number_120 : decode cX4_number 120 = .ok (.invokevirtual 79, 3) := by decide +kernel
theorem dX4_number_123 : decode cX4_number 123 = .ok (.ireturn, 1) := by decide +kernel
theorem dX4_number_124 : decode cX4_number 124 = .ok (.aload_n 0, 1) := by decide +kernel
theorem dX4_number_125 : decode cX4_number 125 = .ok (.getfield 21, 3) := by decide +kernel
theorem dX4_number_128 : decode cX4_number 128 = .ok (.invokevirtual 170, 3) := by decide +kernel
theorem dX4_number_131 : decode cX4_number 131 = .ok (.l2i, 1) := by decide +kernel
theorem dX4_number_132 : decode cX4_number 132 = .ok (.ireturn, 1) := by decide +kernel
theorem dX4_number_133 : decode cX4_number 133 = .ok (.aload_n 0, 1) := by decide +kernel
theorem dX4_number_134 : decode cX4_number 134 = .ok (.getfield 21, 3) := by decide +kernel
theorem dX4_number_137 : decode cX4_number 137 = .ok (.invokevirtual 134, 3) := by decide +kernel
theorem dX4_number_140 : decode cX4_number 140 = .ok (.ireturn, 1) := by decide +kernel
theorem dX4_number_141 : decode cX4_number 141 = .ok (.aload_n 0, 1) := by decide +kernel
theorem dX4_number_142 : decode cX4_number 142 = .ok (.getfield 58, 3) := by decide +kernel
theorem dX4_number_145 : decode cX4_number 145 = .ok (.ireturn, 1) := by decide +kernel
theorem dX4_number_146 : decode cX4_number 146 = .ok (.aload_n 0, 1) := by decide +kernel
theorem dX4_number_147 : decode cX4_number 147 = .ok (.getfield 21, 3) := by decide +kernel
theorem dX4_number_150 : decode cX4_number 150 = .ok (.invokevirtual 205, 3) := by decide +kernel
theorem dX4_number_153 : decode cX4_number 153 = .ok (.ireturn, 1) := by decide +kernel
theorem dX4_number_154 : decode cX4_number 154 = .ok (.aload_n 0, 1) := by decide +kernel
theorem dX4_number_155 : decode cX4_number 155 = .ok (.getfield 12, 3) := by decide +kernel
theorem dX4_number_158 : decode cX4_number 158 = .ok (.aload_n 0, 1) := by decide +kernel
theorem dX4_number_159 : decode cX4_number 159 = .ok (.getfield 12, 3) := by decide +kernel
theorem dX4_number_162 : decode cX4_number 162 = .ok (.invokevirtual 101, 3) := by decide +kernel
theorem dX4_number_165 : decode cX4_number 165 = .ok (.invokevirtual 193, 3) := by decide +kernel
theorem dX4_number_168 : decode cX4_number 168 = .ok (.ireturn, 1) := by decide +kernel
theorem dX4_number_169 : decode cX4_number 169 = .ok (.aload_n 0, 1) := by decide +kernel
theorem dX4_number_170 : decode cX4_number 170 = .ok (.getfield 62, 3) := by decide +kernel
theorem dX4_number_173 : decode cX4_number 173 = .ok (.ireturn, 1) := by decide +kernel
theorem dX4_number_174 : decode cX4_number 174 = .ok (.aload_n 0, 1) := by decide +kernel
theorem dX4_number_175 : decode cX4_number 175 = .ok (.getfield 65, 3) := by decide +kernel
theorem dX4_number_178 : decode cX4_number 178 = .ok (.ireturn, 1) := by decide +kernel
theorem dX4_number_179 : decode cX4_number 179 = .ok (.aload_n 0, 1) := by decide +kernel
theorem dX4_number_180 : decode cX4_number 180 = .ok (.getfield 30, 3) := by decide +kernel
theorem dX4_number_183 : decode cX4_number 183 = .ok (.iconst 0, 1) := by decide +kernel
theorem dX4_number_184 : decode cX4_number 184 = .ok (.invokevirtual 137, 3) := by decide +kernel
theorem dX4_number_187 : decode cX4_number 187 = .ok (.ireturn, 1) := by decide +kernel
theorem dX4_number_188 : decode cX4_number 188 = .ok (.aload_n 0, 1) := by decide +kernel
theorem dX4_number_189 : decode cX4_number 189 = .ok (.getfield 30, 3) := by decide +kernel
theorem dX4_number_192 : decode cX4_number 192 = .ok (.iconst 1, 1) := by decide +kernel
theorem dX4_number_193 : decode cX4_number 193 = .ok (.invokevirtual 137, 3) := by decide +kernel
theorem dX4_number_196 : decode cX4_number 196 = .ok (.ireturn, 1) := by decide +kernel
theorem dX4_number_197 : decode cX4_number 197 = .ok (.aload_n 0, 1) := by decide +kernel
theorem dX4_number_198 : decode cX4_number 198 = .ok (.getfield 30, 3) := by decide +kernel
theorem dX4_number_201 : decode cX4_number 201 = .ok (.iconst 2, 1) := by decide +kernel
theorem dX4_number_202 : decode cX4_number 202 = .ok (.invokevirtual 137, 3) := by decide +kernel
theorem dX4_number_205 : decode cX4_number 205 = .ok (.ireturn, 1) := by decide +kernel
theorem dX4_number_206 : decode cX4_number 206 = .ok (.ldc 78, 2) := by decide +kernel
theorem dX4_number_208 : decode cX4_number 208 = .ok (.ireturn, 1) := by decide +kernel
theorem dX5_init_0 : decode cX5_init 0 = .ok (.aload_n 0, 1) := by decide +kernel
theorem dX5_init_1 : decode cX5_init 1 = .ok (.invokespecial 3, 3) := by decide +kernel
theorem dX5_init_4 : decode cX5_init 4 = .ok (.aload_n 0, 1) := by decide +kernel
theorem dX5_init_5 : decode cX5_init 5 = .ok (.bipush 12, 2) := by decide +kernel
theorem dX5_init_7 : decode cX5_init 7 = .ok (.newarray .int, 2) := by decide +kernel
theorem dX5_init_9 : decode cX5_init 9 = .ok (.putfield 9, 3) := by decide +kernel
theorem dX5_init_12 : decode cX5_init 12 = .ok (.aload_n 0, 1) := by decide +kernel
theorem dX5_init_13 : decode cX5_init 13 = .ok (.iconst 0, 1) := by decide +kernel
theorem dX5_init_14 : decode cX5_init 14 = .ok (.putfield 15, 3) := by decide +kernel
theorem dX5_init_17 : decode cX5_init 17 = .ok (.return_, 1) := by decide +kernel
theorem dX5_copyWeights_0 : decode cX5_copyWeights 0 = .ok (.aload_n 0, 1) := by decide +kernel
theorem dX5_copyWeights_1 : decode cX5_copyWeights 1 = .ok (.aload_n 1, 1) := by decide +kernel
theorem dX5_copyWeights_2 : decode cX5_copyWeights 2 = .ok (.getfield 15, 3) := by decide +kernel
theorem dX5_copyWeights_5 : decode cX5_copyWeights 5 = .ok (.putfield 15, 3) := by decide +kernel
theorem dX5_copyWeights_8 : decode cX5_copyWeights 8 = .ok (.iconst 0, 1) := by decide +kernel
theorem dX5_copyWeights_9 : decode cX5_copyWeights 9 = .ok (.istore_n 2, 1) := by decide +kernel
theorem dX5_copyWeights_10 : decode cX5_copyWeights 10 = .ok (.iload_n 2, 1) := by decide +kernel
theorem dX5_copyWeights_11 : decode cX5_copyWeights 11 = .ok (.aload_n 0, 1) := by decide +kernel
theorem dX5_copyWeights_12 : decode cX5_copyWeights 12 = .ok (.getfield 9, 3) := by decide +kernel
theorem dX5_copyWeights_15 : decode cX5_copyWeights 15 = .ok (.arraylength, 1) := by decide +kernel
theorem dX5_copyWeights_16 : decode cX5_copyWeights 16 = .ok (.if_icmp .ge 30, 3) := by decide +kernel
theorem dX5_copyWeights_19 : decode cX5_copyWeights 19 = .ok (.iload_n 2, 1) := by decide +kernel
theorem dX5_copyWeights_20 : decode cX5_copyWeights 20 = .ok (.aload_n 1, 1) := by decide +kernel
theorem dX5_copyWeights_21 : decode cX5_copyWeights 21 = .ok (.getfield 9, 3) := by decide +kernel
theorem dX5_copyWeights_24 : decode cX5_copyWeights 24 = .ok (.arraylength, 1) := by decide +kernel
theorem dX5_copyWeights_25 : decode cX5_copyWeights 25 = .ok (.if_icmp .ge 21, 3) := by decide +kernel
theorem dX5_copyWeights_28 : decode cX5_copyWeights 28 = .ok (.aload_n 0, 1) := by decide +kernel
theorem dX5_copyWeights_29 : decode cX5_copyWeights 29 = .ok (.getfield 9, 3) := by decide +kernel
theorem dX5_copyWeights_32 : decode cX5_copyWeights 32 = .ok (.iload_n 2, 1) := by decide +kernel
theorem dX5_copyWeights_33 : decode cX5_copyWeights 33 = .ok (.aload_n 1, 1) := by decide +kernel
theorem dX5_copyWeights_34 : decode cX5_copyWeights 34 = .ok (.getfield 9, 3) := by decide +kernel
theorem dX5_copyWeights_37 : decode cX5_copyWeights 37 = .ok (.iload_n 2, 1) := by decide +kernel
theorem dX5_copyWeights_38 : decode cX5_copyWeights 38 = .ok (.iaload, 1) := by decide +kernel
theorem dX5_copyWeights_39 : decode cX5_copyWeights 39 = .ok (.iastore, 1) := by decide +kernel
theorem dX5_copyWeights_40 : decode cX5_copyWeights 40 = .ok (.iinc 2 1, 3) := by decide +kernel
theorem dX5_copyWeights_43 : decode cX5_copyWeights 43 = .ok (.goto (-33), 3) := by decide +kernel
theorem dX5_copyWeights_46 : decode cX5_copyWeights 46 = .ok (.return_, 1) := by decide +kernel
theorem dX5_makeEqual_0 : decode cX5_makeEqual 0 = .ok (.aload_n 0, 1) := by decide +kernel
theorem dX5_makeEqual_1 : decode cX5_makeEqual 1 = .ok (.iconst 0, 1) := by decide +kernel
theorem dX5_makeEqual_2 : decode cX5_makeEqual 2 = .ok (.iload_n 1, 1) := by decide +kernel
theorem dX5_makeEqual_3 : decode cX5_makeEqual 3 = .ok (.aload_n 0, 1) := by decide +kernel
theorem dX5_makeEqual_4 : decode cX5_makeEqual 4 = .ok (.getfield 9, 3) := by decide +kernel
theorem dX5_makeEqual_7 : decode cX5_makeEqual 7 = .ok (.arraylength, 1) := by decide +kernel
theorem dX5_makeEqual_8 : decode cX5_makeEqual 8 = .ok (.invokestatic 19, 3) := by decide +kernel
theorem dX5_makeEqual_11 : decode cX5_makeEqual 11 = .ok (.invokestatic 25, 3) := by decide +kernel
theorem dX5_makeEqual_14 : decode cX5_makeEqual 14 = .ok (.putfield 15, 3) := by decide +kernel
theorem dX5_makeEqual_17 : decode cX5_makeEqual 17 = .ok (.iconst 0, 1) := by decide +kernel
theorem dX5_makeEqual_18 : decode cX5_makeEqual 18 = .ok (.istore_n 2, 1) := by decide +kernel
theorem dX5_makeEqual_19 : decode cX5_makeEqual 19 = .ok (.iload_n 2, 1) := by decide +kernel
theorem dX5_makeEqual_20 : decode cX5_makeEqual 20 = .ok (.aload_n 0, 1) := by decide +kernel
theorem dX5_makeEqual_21 : decode cX5_makeEqual 21 = .ok (.getfield 15, 3) := by decide +kernel
theorem dX5_makeEqual_24 : decode cX5_makeEqual 24 = .ok (.if_icmp .ge 25, 3) := by decide +kernel
theorem dX5_makeEqual_27 : decode cX5_makeEqual 27 = .ok (.iload_n 2, 1) := by decide +kernel
theorem dX5_makeEqual_28 : decode cX5_makeEqual 28 = .ok (.aload_n 0, 1) := by decide +kernel
theorem dX5_makeEqual_29 : decode cX5_makeEqual 29 = .ok (.getfield 9, 3) := by decide +kernel
theorem dX5_makeEqual_32 : decode cX5_makeEqual 32 = .ok (.arraylength, 1) := by decide +kernel
theorem dX5_makeEqual_33 : decode cX5_makeEqual 33 = .ok (.if_icmp .ge 16, 3) := by decide +kernel
theorem dX5_makeEqual_36 : decode cX5_makeEqual 36 = .ok (.aload_n 0, 1) := by decide +kernel
theorem dX5_makeEqual_37 : decode cX5_makeEqual 37 = .ok (.getfield 9, 3) := by decide +kernel
theorem dX5_makeEqual_40 : decode cX5_makeEqual 40 = .ok (.iload_n 2, 1) := by decide +kernel
theorem dX5_makeEqual_41 : decode cX5_makeEqual 41 = .ok (.iconst 1, 1) := by decide +kernel
theorem dX5_makeEqual_42 : decode cX5_makeEqual 42 = .ok (.iastore, 1) := by decide +kernel
theorem dX5_makeEqual_43 : decode cX5_makeEqual 43 = .ok (.iinc 2 1, 3) := by decide +kernel
theorem dX5_makeEqual_46 : decode cX5_makeEqual 46 = .ok (.goto (-27), 3) := by decide +kernel
theorem dX5_makeEqual_49 : decode cX5_makeEqual 49 = .ok (.return_, 1) := by decide +kernel
theorem dX5_weightOf_0 : decode cX5_weightOf 0 = .ok (.iload_n 1, 1) := by decide +kernel
theorem dX5_weightOf_1 : decode cX5_weightOf 1 = .ok (.ifCond .lt 12, 3) := by decide +kernel
theorem dX5_weightOf_4 : decode cX5_weightOf 4 = .ok (.iload_n 1, 1) := by decide +kernel
theorem dX5_weightOf_5 : decode cX5_weightOf 5 = .ok (.aload_n 0, 1) := by decide +kernel
theorem dX5_weightOf_6 : decode cX5_weightOf 6 = .ok (.getfield 9, 3) := by decide +kernel
theorem dX5_weightOf_9 : decode cX5_weightOf 9 = .ok (.arraylength, 1) := by decide +kernel
theorem dX5_weightOf_10 : decode cX5_weightOf 10 = .ok (.if_icmp .lt 5, 3) := by decide +kernel
theorem dX5_weightOf_13 : decode cX5_weightOf 13 = .ok (.iconst 0, 1) := by decide +kernel
theorem dX5_weightOf_14 : decode cX5_weightOf 14 = .ok (.ireturn, 1) := by decide +kernel
theorem dX5_weightOf_15 : decode cX5_weightOf 15 = .ok (.aload_n 0, 1) := by decide +kernel
theorem dX5_weightOf_16 : decode cX5_weightOf 16 = .ok (.getfield 9, 3) := by decide +kernel
theorem dX5_weightOf_19 : decode cX5_weightOf 19 = .ok (.iload_n 1, 1) := by decide +kernel
theorem dX5_weightOf_20 : decode cX5_weightOf 20 = .ok (.iaload, 1) := by decide +kernel
theorem dX5_weightOf_21 : decode cX5_weightOf 21 = .ok (.ireturn, 1) := by decide +kernel
theorem dX5_putWeight_0 : decode cX5_putWeight 0 = .ok (.iload_n 1, 1) := by decide +kernel
theorem dX5_putWeight_1 : decode cX5_putWeight 1 = .ok (.ifCond .lt 19, 3) := by decide +kernel
theorem dX5_putWeight_4 : decode cX5_putWeight 4 = .ok (.iload_n 1, 1) := by decide +kernel
theorem dX5_putWeight_5 : decode cX5_putWeight 5 = .ok (.aload_n 0, 1) := by decide +kernel
theorem dX5_putWeight_6 : decode cX5_putWeight 6 = .ok (.getfield 9, 3) := by decide +kernel
theorem dX5_putWeight_9 : decode cX5_putWeight 9 = .ok (.arraylength, 1) := by decide +kernel
theorem dX5_putWeight_10 : decode cX5_putWeight 10 = .ok (.if_icmp .ge 10, 3) := by decide +kernel
theorem dX5_putWeight_13 : decode cX5_putWeight 13 = .ok (.aload_n 0, 1) := by decide +kernel
theorem dX5_putWeight_14 : decode cX5_putWeight 14 = .ok (.getfield 9, 3) := by decide +kernel
theorem dX5_putWeight_17 : decode cX5_putWeight 17 = .ok (.iload_n 1, 1) := by decide +kernel
theorem dX5_putWeight_18 : decode cX5_putWeight 18 = .ok (.iload_n 2, 1) := by decide +kernel
theorem dX5_putWeight_19 : decode cX5_putWeight 19 = .ok (.iastore, 1) := by decide +kernel
theorem dX5_putWeight_20 : decode cX5_putWeight 20 = .ok (.return_, 1) := by decide +kernel
theorem dX5_reduce_0 : decode cX5_reduce 0 = .ok (.lconst 0, 1) := by decide +kernel
theorem dX5_reduce_1 : decode cX5_reduce 1 = .ok (.lstore_n 1, 1) := by decide +kernel
theorem dX5_reduce_2 : decode cX5_reduce 2 = .ok (.iconst 0, 1) := by decide +kernel
theorem dX5_reduce_3 : decode cX5_reduce 3 = .ok (.istore_n 3, 1) := by decide +kernel
theorem dX5_reduce_4 : decode cX5_reduce 4 = .ok (.iload_n 3, 1) := by decide +kernel
theorem dX5_reduce_5 : decode cX5_reduce 5 = .ok (.aload_n 0, 1) := by decide +kernel
theorem dX5_reduce_6 : decode cX5_reduce 6 = .ok (.getfield 15, 3) := by decide +kernel
theorem dX5_reduce_9 : decode cX5_reduce 9 = .ok (.if_icmp .ge 30, 3) := by decide +kernel
theorem dX5_reduce_12 : decode cX5_reduce 12 = .ok (.iload_n 3, 1) := by decide +kernel
theorem dX5_reduce_13 : decode cX5_reduce 13 = .ok (.aload_n 0, 1) := by decide +kernel
theorem dX5_reduce_14 : decode cX5_reduce 14 = .ok (.getfield 9, 3) := by decide +kernel
theorem dX5_reduce_17 : decode cX5_reduce 17 = .ok (.arraylength, 1) := by decide +kernel
theorem dX5_reduce_18 : decode cX5_reduce 18 = .ok (.if_icmp .ge 21, 3) := by decide +kernel
theorem dX5_reduce_21 : decode cX5_reduce 21 = .ok (.lload_n 1, 1) := by decide +kernel
theorem dX5_reduce_22 : decode cX5_reduce 22 = .ok (.aload_n 0, 1) := by decide +kernel
theorem dX5_reduce_23 : decode cX5_reduce 23 = .ok (.getfield 9, 3) := by decide +kernel
theorem dX5_reduce_26 : decode cX5_reduce 26 = .ok (.iload_n 3, 1) := by decide +kernel
theorem dX5_reduce_27 : decode cX5_reduce 27 = .ok (.iaload, 1) := by decide +kernel
theorem dX5_reduce_28 : decode cX5_reduce 28 = .ok (.i2l, 1) := by decide +kernel
theorem dX5_reduce_29 : decode cX5_reduce 29 = .ok (.invokestatic 28, 3) := by decide +kernel
theorem dX5_reduce_32 : decode cX5_reduce 32 = .ok (.lstore_n 1, 1) := by decide +kernel
theorem dX5_reduce_33 : decode cX5_reduce 33 = .ok (.iinc 3 1, 3) := by decide +kernel
theorem dX5_reduce_36 : decode cX5_reduce 36 = .ok (.goto (-32), 3) := by decide +kernel
theorem dX5_reduce_39 : decode cX5_reduce 39 = .ok (.lload_n 1, 1) := by decide +kernel
theorem dX5_reduce_40 : decode cX5_reduce 40 = .ok (.lconst 0, 1) := by decide +kernel
theorem dX5_reduce_41 : decode cX5_reduce 41 = .ok (.lcmp, 1) := by decide +kernel
theorem dX5_reduce_42 : decode cX5_reduce 42 = .ok (.ifCond .gt 5, 3) := by decide +kernel
theorem dX5_reduce_45 : decode cX5_reduce 45 = .ok (.iconst 0, 1) := by decide +kernel
theorem dX5_reduce_46 : decode cX5_reduce 46 = .ok (.ireturn, 1) := by decide +kernel
theorem dX5_reduce_47 : decode cX5_reduce 47 = .ok (.iconst 0, 1) := by decide +kernel
theorem dX5_reduce_48 : decode cX5_reduce 48 = .ok (.istore_n 3, 1) := by decide +kernel
theorem dX5_reduce_49 : decode cX5_reduce 49 = .ok (.iload_n 3, 1) := by decide +kernel
theorem dX5_reduce_50 : decode cX5_reduce 50 = .ok (.aload_n 0, 1) := by decide +kernel
theorem dX5_reduce_51 : decode cX5_reduce 51 = .ok (.getfield 15, 3) := by decide +kernel
theorem dX5_reduce_54 : decode cX5_reduce 54 = .ok (.if_icmp .ge 34, 3) := by decide +kernel
theorem dX5_reduce_57 : decode cX5_reduce 57 = .ok (.iload_n 3, 1) := by decide +kernel
theorem dX5_reduce_58 : decode cX5_reduce 58 = .ok (.aload_n 0, 1) := by decide +kernel
theorem dX5_reduce_59 : decode cX5_reduce 59 = .ok (.getfield 9, 3) := by decide +kernel
theorem dX5_reduce_62 : decode cX5_reduce 62 = .ok (.arraylength, 1) := by decide +kernel
theorem dX5_reduce_63 : decode cX5_reduce 63 = .ok (.if_icmp .ge 25, 3) := by decide +kernel
theorem dX5_reduce_66 : decode cX5_reduce 66 = .ok (.aload_n 0, 1) := by decide +kernel
theorem dX5_reduce_67 : decode cX5_reduce 67 = .ok (.getfield 9, 3) := by decide +kernel
theorem dX5_reduce_70 : decode cX5_reduce 70 = .ok (.iload_n 3, 1) := by decide +kernel
theorem dX5_reduce_71 : decode cX5_reduce 71 = .ok (.aload_n 0, 1) := by decide +kernel
theorem dX5_reduce_72 : decode cX5_reduce 72 = .ok (.getfield 9, 3) := by decide +kernel
theorem dX5_reduce_75 : decode cX5_reduce 75 = .ok (.iload_n 3, 1) := by decide +kernel
theorem dX5_reduce_76 : decode cX5_reduce 76 = .ok (.iaload, 1) := by decide +kernel
theorem dX5_reduce_77 : decode cX5_reduce 77 = .ok (.i2l, 1) := by decide +kernel
theorem dX5_reduce_78 : decode cX5_reduce 78 = .ok (.lload_n 1, 1) := by decide +kernel
theorem dX5_reduce_79 : decode cX5_reduce 79 = .ok (.ldiv, 1) := by decide +kernel
theorem dX5_reduce_80 : decode cX5_reduce 80 = .ok (.l2i, 1) := by decide +kernel
theorem dX5_reduce_81 : decode cX5_reduce 81 = .ok (.iastore, 1) := by decide +kernel
theorem dX5_reduce_82 : decode cX5_reduce 82 = .ok (.iinc 3 1, 3) := by decide +kernel
theorem dX5_reduce_85 : decode cX5_reduce 85 = .ok (.goto (-36), 3) := by decide +kernel
theorem dX5_reduce_88 : decode cX5_reduce 88 = .ok (.iconst 1, 1) := by decide +kernel
theorem dX5_reduce_89 : decode cX5_reduce 89 = .ok (.ireturn, 1) := by decide +kernel
theorem dX5_greatest_0 : decode cX5_greatest 0 = .ok (.iconst 0, 1) := by decide +kernel
theorem dX5_greatest_1 : decode cX5_greatest 1 = .ok (.istore_n 1, 1) := by decide +kernel
theorem dX5_greatest_2 : decode cX5_greatest 2 = .ok (.iconst 0, 1) := by decide +kernel
theorem dX5_greatest_3 : decode cX5_greatest 3 = .ok (.istore_n 2, 1) := by decide +kernel
theorem dX5_greatest_4 : decode cX5_greatest 4 = .ok (.iload_n 2, 1) := by decide +kernel
theorem dX5_greatest_5 : decode cX5_greatest 5 = .ok (.aload_n 0, 1) := by decide +kernel
theorem dX5_greatest_6 : decode cX5_greatest 6 = .ok (.getfield 15, 3) := by decide +kernel
theorem dX5_greatest_9 : decode cX5_greatest 9 = .ok (.if_icmp .ge 29, 3) := by decide +kernel
theorem dX5_greatest_12 : decode cX5_greatest 12 = .ok (.iload_n 2, 1) := by decide +kernel
theorem dX5_greatest_13 : decode cX5_greatest 13 = .ok (.aload_n 0, 1) := by decide +kernel
theorem dX5_greatest_14 : decode cX5_greatest 14 = .ok (.getfield 9, 3) := by decide +kernel
theorem dX5_greatest_17 : decode cX5_greatest 17 = .ok (.arraylength, 1) := by decide +kernel
theorem dX5_greatest_18 : decode cX5_greatest 18 = .ok (.if_icmp .ge 20, 3) := by decide +kernel
theorem dX5_greatest_21 : decode cX5_greatest 21 = .ok (.iload_n 1, 1) := by decide +kernel
theorem dX5_greatest_22 : decode cX5_greatest 22 = .ok (.aload_n 0, 1) := by decide +kernel
theorem dX5_greatest_23 : decode cX5_greatest 23 = .ok (.getfield 9, 3) := by decide +kernel
theorem dX5_greatest_26 : decode cX5_greatest 26 = .ok (.iload_n 2, 1) := by decide +kernel
theorem dX5_greatest_27 : decode cX5_greatest 27 = .ok (.iaload, 1) := by decide +kernel
theorem dX5_greatest_28 : decode cX5_greatest 28 = .ok (.invokestatic 25, 3) := by decide +kernel
theorem dX5_greatest_31 : decode cX5_greatest 31 = .ok (.istore_n 1, 1) := by decide +kernel
theorem dX5_greatest_32 : decode cX5_greatest 32 = .ok (.iinc 2 1, 3) := by decide +kernel
theorem dX5_greatest_35 : decode cX5_greatest 35 = .ok (.goto (-31), 3) := by decide +kernel
theorem dX5_greatest_38 : decode cX5_greatest 38 = .ok (.iload_n 1, 1) := by decide +kernel
theorem dX5_greatest_39 : decode cX5_greatest 39 = .ok (.ireturn, 1) := by decide +kernel
theorem dX5_sum_0 : decode cX5_sum 0 = .ok (.lconst 0, 1) := by decide +kernel
theorem dX5_sum_1 : decode cX5_sum 1 = .ok (.lstore_n 1, 1) := by decide +kernel
theorem dX5_sum_2 : decode cX5_sum 2 = .ok (.iconst 0, 1) := by decide +kernel
theorem dX5_sum_3 : decode cX5_sum 3 = .ok (.istore_n 3, 1) := by decide +kernel
theorem dX5_sum_4 : decode cX5_sum 4 = .ok (.iload_n 3, 1) := by decide +kernel
theorem dX5_sum_5 : decode cX5_sum 5 = .ok (.aload_n 0, 1) := by decide +kernel
theorem dX5_sum_6 : decode cX5_sum 6 = .ok (.getfield 15, 3) := by decide +kernel
theorem dX5_sum_9 : decode cX5_sum 9 = .ok (.if_icmp .ge 28, 3) := by decide +kernel
theorem dX5_sum_12 : decode cX5_sum 12 = .ok (.iload_n 3, 1) := by decide +kernel
theorem dX5_sum_13 : decode cX5_sum 13 = .ok (.aload_n 0, 1) := by decide +kernel
theorem dX5_sum_14 : decode cX5_sum 14 = .ok (.getfield 9, 3) := by decide +kernel
theorem dX5_sum_17 : decode cX5_sum 17 = .ok (.arraylength, 1) := by decide +kernel
theorem dX5_sum_18 : decode cX5_sum 18 = .ok (.if_icmp .ge 19, 3) := by decide +kernel
theorem dX5_sum_21 : decode cX5_sum 21 = .ok (.lload_n 1, 1) := by decide +kernel
theorem dX5_sum_22 : decode cX5_sum 22 = .ok (.aload_n 0, 1) := by decide +kernel
theorem dX5_sum_23 : decode cX5_sum 23 = .ok (.getfield 9, 3) := by decide +kernel
theorem dX5_sum_26 : decode cX5_sum 26 = .ok (.iload_n 3, 1) := by decide +kernel
theorem dX5_sum_27 : decode cX5_sum 27 = .ok (.iaload, 1) := by decide +kernel
theorem dX5_sum_28 : decode cX5_sum 28 = .ok (.i2l, 1) := by decide +kernel
theorem dX5_sum_29 : decode cX5_sum 29 = .ok (.ladd, 1) := by decide +kernel
theorem dX5_sum_30 : decode cX5_sum 30 = .ok (.lstore_n 1, 1) := by decide +kernel
theorem dX5_sum_31 : decode cX5_sum 31 = .ok (.iinc 3 1, 3) := by decide +kernel
theorem dX5_sum_34 : decode cX5_sum 34 = .ok (.goto (-30), 3) := by decide +kernel
theorem dX5_sum_37 : decode cX5_sum 37 = .ok (.lload_n 1, 1) := by decide +kernel
theorem dX5_sum_38 : decode cX5_sum 38 = .ok (.lreturn, 1) := by decide +kernel
theorem dX5_effectiveCount_0 : decode cX5_effectiveCount 0 = .ok (.lconst 0, 1) := by decide +kernel
theorem dX5_effectiveCount_1 : decode cX5_effectiveCount 1 = .ok (.lstore_n 1, 1) := by decide +kernel
theorem dX5_effectiveCount_2 : decode cX5_effectiveCount 2 = .ok (.lconst 0, 1) := by decide +kernel
theorem dX5_effectiveCount_3 : decode cX5_effectiveCount 3 = .ok (.lstore_n 3, 1) := by decide +kernel
theorem dX5_effectiveCount_4 : decode cX5_effectiveCount 4 = .ok (.iconst 0, 1) := by decide +kernel
theorem dX5_effectiveCount_5 : decode cX5_effectiveCount 5 = .ok (.istore 5, 2) := by decide +kernel
theorem dX5_effectiveCount_7 : decode cX5_effectiveCount 7 = .ok (.iload 5, 2) := by decide +kernel
theorem dX5_effectiveCount_9 : decode cX5_effectiveCount 9 = .ok (.aload_n 0, 1) := by decide +kernel
theorem dX5_effectiveCount_10 : decode cX5_effectiveCount 10 = .ok (.getfield 15, 3) := by decide +kernel
theorem dX5_effectiveCount_13 : decode cX5_effectiveCount 13 = .ok (.if_icmp .ge 42, 3) := by decide +kernel
theorem dX5_effectiveCount_16 : decode cX5_effectiveCount 16 = .ok (.iload 5, 2) := by decide +kernel
theorem dX5_effectiveCount_18 : decode cX5_effectiveCount 18 = .ok (.aload_n 0, 1) := by decide +kernel
theorem dX5_effectiveCount_19 : decode cX5_effectiveCount 19 = .ok (.getfield 9, 3) := by decide +kernel
theorem dX5_effectiveCount_22 : decode cX5_effectiveCount 22 = .ok (.arraylength, 1) := by decide +kernel
theorem dX5_effectiveCount_23 : decode cX5_effectiveCount 23 = .ok (.if_icmp .ge 32, 3) := by decide +kernel
theorem dX5_effectiveCount_26 : decode cX5_effectiveCount 26 = .ok (.aload_n 0, 1) := by decide +kernel
theorem dX5_effectiveCount_27 : decode cX5_effectiveCount 27 = .ok (.getfield 9, 3) := by decide +kernel
theorem dX5_effectiveCount_30 : decode cX5_effectiveCount 30 = .ok (.iload 5, 2) := by decide +kernel
theorem dX5_effectiveCount_32 : decode cX5_effectiveCount 32 = .ok (.iaload, 1) := by decide +kernel
theorem dX5_effectiveCount_33 : decode cX5_effectiveCount 33 = .ok (.i2l, 1) := by decide +kernel
theorem dX5_effectiveCount_34 : decode cX5_effectiveCount 34 = .ok (.lstore 6, 2) := by decide +kernel
theorem dX5_effectiveCount_36 : decode cX5_effectiveCount 36 = .ok (.lload_n 1, 1) := by decide +kernel
theorem dX5_effectiveCount_37 : decode cX5_effectiveCount 37 = .ok (.lload 6, 2) := by decide +kernel
theorem dX5_effectiveCount_39 : decode cX5_effectiveCount 39 = .ok (.ladd, 1) := by decide +kernel
theorem dX5_effectiveCount_40 : decode cX5_effectiveCount 40 = .ok (.lstore_n 1, 1) := by decide +kernel
theorem dX5_effectiveCount_41 : decode cX5_effectiveCount 41 = .ok (.lload_n 3, 1) := by decide +kernel
theorem dX5_effectiveCount_42 : decode cX5_effectiveCount 42 = .ok (.lload 6, 2) := by decide +kernel
theorem dX5_effectiveCount_44 : decode cX5_effectiveCount 44 = .ok (.lload 6, 2) := by decide +kernel
theorem dX5_effectiveCount_46 : decode cX5_effectiveCount 46 = .ok (.lmul, 1) := by decide +kernel
theorem dX5_effectiveCount_47 : decode cX5_effectiveCount 47 = .ok (.ladd, 1) := by decide +kernel
theorem dX5_effectiveCount_48 : decode cX5_effectiveCount 48 = .ok (.lstore_n 3, 1) := by decide +kernel
theorem dX5_effectiveCount_49 : decode cX5_effectiveCount 49 = .ok (.iinc 5 1, 3) := by decide +kernel
theorem dX5_effectiveCount_52 : decode cX5_effectiveCount 52 = .ok (.goto (-45), 3) := by decide +kernel
theorem dX5_effectiveCount_55 : decode cX5_effectiveCount 55 = .ok (.lload_n 3, 1) := by decide +kernel
theorem dX5_effectiveCount_56 : decode cX5_effectiveCount 56 = .ok (.lconst 0, 1) := by decide +kernel
theorem dX5_effectiveCount_57 : decode cX5_effectiveCount 57 = .ok (.lcmp, 1) := by decide +kernel
theorem dX5_effectiveCount_58 : decode cX5_effectiveCount 58 = .ok (.ifCond .gt 5, 3) := by decide +kernel
theorem dX5_effectiveCount_61 : decode cX5_effectiveCount 61 = .ok (.iconst 0, 1) := by decide +kernel
theorem dX5_effectiveCount_62 : decode cX5_effectiveCount 62 = .ok (.ireturn, 1) := by decide +kernel
theorem dX5_effectiveCount_63 : decode cX5_effectiveCount 63 = .ok (.lload_n 1, 1) := by decide +kernel
theorem dX5_effectiveCount_64 : decode cX5_effectiveCount 64 = .ok (.lload_n 1, 1) := by decide +kernel
theorem dX5_effectiveCount_65 : decode cX5_effectiveCount 65 = .ok (.lmul, 1) := by decide +kernel
theorem dX5_effectiveCount_66 : decode cX5_effectiveCount 66 = .ok (.lload_n 3, 1) := by decide +kernel
theorem dX5_effectiveCount_67 : decode cX5_effectiveCount 67 = .ok (.ldiv, 1) := by decide +kernel
theorem dX5_effectiveCount_68 : decode cX5_effectiveCount 68 = .ok (.l2i, 1) := by decide +kernel
theorem dX5_effectiveCount_69 : decode cX5_effectiveCount 69 = .ok (.ireturn, 1) := by decide +kernel
theorem dX5_howManyAreZero_0 : decode cX5_howManyAreZero 0 = .ok (.iconst 0, 1) := by decide +kernel
theorem dX5_howManyAreZero_1 : decode cX5_howManyAreZero 1 = .ok (.istore_n 1, 1) := by decide +kernel
theorem dX5_howManyAreZero_2 : decode cX5_howManyAreZero 2 = .ok (.iconst 0, 1) := by decide +kernel
theorem dX5_howManyAreZero_3 : decode cX5_howManyAreZero 3 = .ok (.istore_n 2, 1) := by decide +kernel
theorem dX5_howManyAreZero_4 : decode cX5_howManyAreZero 4 = .ok (.iload_n 2, 1) := by decide +kernel
theorem dX5_howManyAreZero_5 : decode cX5_howManyAreZero 5 = .ok (.aload_n 0, 1) := by decide +kernel
theorem dX5_howManyAreZero_6 : decode cX5_howManyAreZero 6 = .ok (.getfield 15, 3) := by decide +kernel
theorem dX5_howManyAreZero_9 : decode cX5_howManyAreZero 9 = .ok (.if_icmp .ge 30, 3) := by decide +kernel
theorem dX5_howManyAreZero_12 : decode cX5_howManyAreZero 12 = .ok (.iload_n 2, 1) := by decide +kernel
theorem dX5_howManyAreZero_13 : decode cX5_howManyAreZero 13 = .ok (.aload_n 0, 1) := by decide +kernel
theorem dX5_howManyAreZero_14 : decode cX5_howManyAreZero 14 = .ok (.getfield 9, 3) := by decide +kernel
theorem dX5_howManyAreZero_17 : decode cX5_howManyAreZero 17 = .ok (.arraylength, 1) := by decide +kernel
theorem dX5_howManyAreZero_18 : decode cX5_howManyAreZero 18 = .ok (.if_icmp .ge 21, 3) := by decide +kernel
theorem dX5_howManyAreZero_21 : decode cX5_howManyAreZero 21 = .ok (.aload_n 0, 1) := by decide +kernel
theorem dX5_howManyAreZero_22 : decode cX5_howManyAreZero 22 = .ok (.getfield 9, 3) := by decide +kernel
theorem dX5_howManyAreZero_25 : decode cX5_howManyAreZero 25 = .ok (.iload_n 2, 1) := by decide +kernel
theorem dX5_howManyAreZero_26 : decode cX5_howManyAreZero 26 = .ok (.iaload, 1) := by decide +kernel
theorem dX5_howManyAreZero_27 : decode cX5_howManyAreZero 27 = .ok (.ifCond .ne 6, 3) := by decide +kernel
theorem dX5_howManyAreZero_30 : decode cX5_howManyAreZero 30 = .ok (.iinc 1 1, 3) := by decide +kernel
theorem dX5_howManyAreZero_33 : decode cX5_howManyAreZero 33 = .ok (.iinc 2 1, 3) := by decide +kernel
theorem dX5_howManyAreZero_36 : decode cX5_howManyAreZero 36 = .ok (.goto (-32), 3) := by decide +kernel
theorem dX5_howManyAreZero_39 : decode cX5_howManyAreZero 39 = .ok (.iload_n 1, 1) := by decide +kernel
theorem dX5_howManyAreZero_40 : decode cX5_howManyAreZero 40 = .ok (.ireturn, 1) := by decide +kernel
theorem dX5_howManyAheadOf_0 : decode cX5_howManyAheadOf 0 = .ok (.aload_n 0, 1) := by decide +kernel
theorem dX5_howManyAheadOf_1 : decode cX5_howManyAheadOf 1 = .ok (.iload_n 1, 1) := by decide +kernel
theorem dX5_howManyAheadOf_2 : decode cX5_howManyAheadOf 2 = .ok (.invokevirtual 32, 3) := by decide +kernel
theorem dX5_howManyAheadOf_5 : decode cX5_howManyAheadOf 5 = .ok (.istore_n 2, 1) := by decide +kernel
theorem dX5_howManyAheadOf_6 : decode cX5_howManyAheadOf 6 = .ok (.iconst 0, 1) := by decide +kernel
theorem dX5_howManyAheadOf_7 : decode cX5_howManyAheadOf 7 = .ok (.istore_n 3, 1) := by decide +kernel
theorem dX5_howManyAheadOf_8 : decode cX5_howManyAheadOf 8 = .ok (.iconst 0, 1) := by decide +kernel
theorem dX5_howManyAheadOf_9 : decode cX5_howManyAheadOf 9 = .ok (.istore 4, 2) := by decide +kernel
theorem dX5_howManyAheadOf_11 : decode cX5_howManyAheadOf 11 = .ok (.iload 4, 2) := by decide +kernel
theorem dX5_howManyAheadOf_13 : decode cX5_howManyAheadOf 13 = .ok (.aload_n 0, 1) := by decide +kernel
theorem dX5_howManyAheadOf_14 : decode cX5_howManyAheadOf 14 = .ok (.getfield 15, 3) := by decide +kernel
theorem dX5_howManyAheadOf_17 : decode cX5_howManyAheadOf 17 = .ok (.if_icmp .ge 50, 3) := by decide +kernel
theorem dX5_howManyAheadOf_20 : decode cX5_howManyAheadOf 20 = .ok (.iload 4, 2) := by decide +kernel
theorem dX5_howManyAheadOf_22 : decode cX5_howManyAheadOf 22 = .ok (.aload_n 0, 1) := by decide +kernel
theorem dX5_howManyAheadOf_23 : decode cX5_howManyAheadOf 23 = .ok (.getfield 9, 3) := by decide +kernel
theorem dX5_howManyAheadOf_26 : decode cX5_howManyAheadOf 26 = .ok (.arraylength, 1) := by decide +kernel
theorem dX5_howManyAheadOf_27 : decode cX5_howManyAheadOf 27 = .ok (.if_icmp .ge 40, 3) := by decide +kernel
theorem dX5_howManyAheadOf_30 : decode cX5_howManyAheadOf 30 = .ok (.aload_n 0, 1) := by decide +kernel
theorem dX5_howManyAheadOf_31 : decode cX5_howManyAheadOf 31 = .ok (.getfield 9, 3) := by decide +kernel
theorem dX5_howManyAheadOf_34 : decode cX5_howManyAheadOf 34 = .ok (.iload 4, 2) := by decide +kernel
theorem dX5_howManyAheadOf_36 : decode cX5_howManyAheadOf 36 = .ok (.iaload, 1) := by decide +kernel
theorem dX5_howManyAheadOf_37 : decode cX5_howManyAheadOf 37 = .ok (.iload_n 2, 1) := by decide +kernel
theorem dX5_howManyAheadOf_38 : decode cX5_howManyAheadOf 38 = .ok (.if_icmp .gt 20, 3) := by decide +kernel
theorem dX5_howManyAheadOf_41 : decode cX5_howManyAheadOf 41 = .ok (.aload_n 0, 1) := by decide +kernel
theorem dX5_howManyAheadOf_42 : decode cX5_howManyAheadOf 42 = .ok (.getfield 9, 3) := by decide +kernel
theorem dX5_howManyAheadOf_45 : decode cX5_howManyAheadOf 45 = .ok (.iload 4, 2) := by decide +kernel
theorem dX5_howManyAheadOf_47 : decode cX5_howManyAheadOf 47 = .ok (.iaload, 1) := by decide +kernel
theorem dX5_howManyAheadOf_48 : decode cX5_howManyAheadOf 48 = .ok (.iload_n 2, 1) := by decide +kernel
theorem dX5_howManyAheadOf_49 : decode cX5_howManyAheadOf 49 = .ok (.if_icmp .ne 12, 3) := by decide +kernel
theorem dX5_howManyAheadOf_52 : decode cX5_howManyAheadOf 52 = .ok (.iload 4, 2) := by decide +kernel
theorem dX5_howManyAheadOf_54 : decode cX5_howManyAheadOf 54 = .ok (.iload_n 1, 1) := by decide +kernel
theorem dX5_howManyAheadOf_55 : decode cX5_howManyAheadOf 55 = .ok (.if_icmp .ge 6, 3) := by decide +kernel
theorem dX5_howManyAheadOf_58 : decode cX5_howManyAheadOf 58 = .ok (.iinc 3 1, 3) := by decide +kernel
theorem dX5_howManyAheadOf_61 : decode cX5_howManyAheadOf 61 = .ok (.iinc 4 1, 3) := by decide +kernel
theorem dX5_howManyAheadOf_64 : decode cX5_howManyAheadOf 64 = .ok (.goto (-53), 3) := by decide +kernel
theorem dX5_howManyAheadOf_67 : decode cX5_howManyAheadOf 67 = .ok (.iload_n 3, 1) := by decide +kernel
theorem dX5_howManyAheadOf_68 : decode cX5_howManyAheadOf 68 = .ok (.ireturn, 1) := by decide +kernel
theorem dX5_firstAbove_0 : decode cX5_firstAbove 0 = .ok (.lconst 0, 1) := by decide +kernel
theorem dX5_firstAbove_1 : decode cX5_firstAbove 1 = .ok (.lstore_n 3, 1) := by decide +kernel
theorem dX5_firstAbove_2 : decode cX5_firstAbove 2 = .ok (.iconst 0, 1) := by decide +kernel
theorem dX5_firstAbove_3 : decode cX5_firstAbove 3 = .ok (.istore 5, 2) := by decide +kernel
theorem dX5_firstAbove_5 : decode cX5_firstAbove 5 = .ok (.iload 5, 2) := by decide +kernel
theorem dX5_firstAbove_7 : decode cX5_firstAbove 7 = .ok (.aload_n 0, 1) := by decide +kernel
theorem dX5_firstAbove_8 : decode cX5_firstAbove 8 = .ok (.getfield 15, 3) := by decide +kernel
theorem dX5_firstAbove_11 : decode cX5_firstAbove 11 = .ok (.if_icmp .ge 45, 3) := by decide +kernel
theorem dX5_firstAbove_14 : decode cX5_firstAbove 14 = .ok (.iload 5, 2) := by decide +kernel
theorem dX5_firstAbove_16 : decode cX5_firstAbove 16 = .ok (.aload_n 0, 1) := by decide +kernel
theorem dX5_firstAbove_17 : decode cX5_firstAbove 17 = .ok (.getfield 9, 3) := by decide +kernel
theorem dX5_firstAbove_20 : decode cX5_firstAbove 20 = .ok (.arraylength, 1) := by decide +kernel
theorem dX5_firstAbove_21 : decode cX5_firstAbove 21 = .ok (.if_icmp .ge 35, 3) := by decide +kernel
theorem dX5_firstAbove_24 : decode cX5_firstAbove 24 = .ok (.lload_n 3, 1) := by decide +kernel
theorem dX5_firstAbove_25 : decode cX5_firstAbove 25 = .ok (.aload_n 0, 1) := by decide +kernel
theorem dX5_firstAbove_26 : decode cX5_firstAbove 26 = .ok (.getfield 9, 3) := by decide +kernel
theorem dX5_firstAbove_29 : decode cX5_firstAbove 29 = .ok (.iload 5, 2) := by decide +kernel
theorem dX5_firstAbove_31 : decode cX5_firstAbove 31 = .ok (.iaload, 1) := by decide +kernel
theorem dX5_firstAbove_32 : decode cX5_firstAbove 32 = .ok (.i2l, 1) := by decide +kernel
theorem dX5_firstAbove_33 : decode cX5_firstAbove 33 = .ok (.ladd, 1) := by decide +kernel
theorem dX5_firstAbove_34 : decode cX5_firstAbove 34 = .ok (.lstore_n 3, 1) := by decide +kernel
theorem dX5_firstAbove_35 : decode cX5_firstAbove 35 = .ok (.aload_n 0, 1) := by decide +kernel
theorem dX5_firstAbove_36 : decode cX5_firstAbove 36 = .ok (.getfield 15, 3) := by decide +kernel
theorem dX5_firstAbove_39 : decode cX5_firstAbove 39 = .ok (.i2l, 1) := by decide +kernel
theorem dX5_firstAbove_40 : decode cX5_firstAbove 40 = .ok (.lload_n 3, 1) := by decide +kernel
theorem dX5_firstAbove_41 : decode cX5_firstAbove 41 = .ok (.lmul, 1) := by decide +kernel
theorem dX5_firstAbove_42 : decode cX5_firstAbove 42 = .ok (.lload_n 1, 1) := by decide +kernel
theorem dX5_firstAbove_43 : decode cX5_firstAbove 43 = .ok (.lcmp, 1) := by decide +kernel
theorem dX5_firstAbove_44 : decode cX5_firstAbove 44 = .ok (.ifCond .le 6, 3) := by decide +kernel
theorem dX5_firstAbove_47 : decode cX5_firstAbove 47 = .ok (.iload 5, 2) := by decide +kernel
theorem dX5_firstAbove_49 : decode cX5_firstAbove 49 = .ok (.ireturn, 1) := by decide +kernel
theorem dX5_firstAbove_50 : decode cX5_firstAbove 50 = .ok (.iinc 5 1, 3) := by decide +kernel
theorem dX5_firstAbove_53 : decode cX5_firstAbove 53 = .ok (.goto (-48), 3) := by decide +kernel
theorem dX5_firstAbove_56 : decode cX5_firstAbove 56 = .ok (.iconst 0, 1) := by decide +kernel
theorem dX5_firstAbove_57 : decode cX5_firstAbove 57 = .ok (.ireturn, 1) := by decide +kernel
theorem dX6_init_0 : decode cX6_init 0 = .ok (.aload_n 0, 1) := by decide +kernel
theorem dX6_init_1 : decode cX6_init 1 = .ok (.invokespecial 1, 3) := by decide +kernel
theorem dX6_init_4 : decode cX6_init 4 = .ok (.new 7, 3) := by decide +kernel
theorem dX6_init_7 : decode cX6_init 7 = .ok (.dup, 1) := by decide +kernel
theorem dX6_init_8 : decode cX6_init 8 = .ok (.invokespecial 9, 3) := by decide +kernel
theorem dX6_init_11 : decode cX6_init 11 = .ok (.astore_n 1, 1) := by decide +kernel
theorem dX6_init_12 : decode cX6_init 12 = .ok (.aload_n 0, 1) := by decide +kernel
theorem dX6_init_13 : decode cX6_init 13 = .ok (.new 10, 3) := by decide +kernel
theorem dX6_init_16 : decode cX6_init 16 = .ok (.dup, 1) := by decide +kernel
theorem dX6_init_17 : decode cX6_init 17 = .ok (.aload_n 1, 1) := by decide +kernel
theorem dX6_init_18 : decode cX6_init 18 = .ok (.invokespecial 12, 3) := by decide +kernel
theorem dX6_init_21 : decode cX6_init 21 = .ok (.putfield 15, 3) := by decide +kernel
theorem dX6_init_24 : decode cX6_init 24 = .ok (.aload_n 0, 1) := by decide +kernel
theorem dX6_init_25 : decode cX6_init 25 = .ok (.new 10, 3) := by decide +kernel
theorem dX6_init_28 : decode cX6_init 28 = .ok (.dup, 1) := by decide +kernel
theorem dX6_init_29 : decode cX6_init 29 = .ok (.aload_n 1, 1) := by decide +kernel
theorem dX6_init_30 : decode cX6_init 30 = .ok (.invokespecial 12, 3) := by decide +kernel
theorem dX6_init_33 : decode cX6_init 33 = .ok (.putfield 21, 3) := by decide +kernel
theorem dX6_init_36 : decode cX6_init 36 = .ok (.aload_n 0, 1) := by decide +kernel
theorem dX6_init_37 : decode cX6_init 37 = .ok (.new 10, 3) := by decide +kernel
theorem dX6_init_40 : decode cX6_init 40 = .ok (.dup, 1) := by decide +kernel
theorem dX6_init_41 : decode cX6_init 41 = .ok (.aload_n 1, 1) := by decide +kernel
theorem dX6_init_42 : decode cX6_init 42 = .ok (.invokespecial 12, 3) := by decide +kernel
theorem dX6_init_45 : decode cX6_init 45 = .ok (.putfield 24, 3) := by decide +kernel
theorem dX6_init_48 : decode cX6_init 48 = .ok (.aload_n 0, 1) := by decide +kernel
theorem dX6_init_49 : decode cX6_init 49 = .ok (.new 10, 3) := by decide +kernel
theorem dX6_init_52 : decode cX6_init 52 = .ok (.dup, 1) := by decide +kernel
theorem dX6_init_53 : decode cX6_init 53 = .ok (.aload_n 1, 1) := by decide +kernel
theorem dX6_init_54 : decode cX6_init 54 = .ok (.invokespecial 12, 3) := by decide +kernel
theorem dX6_init_57 : decode cX6_init 57 = .ok (.putfield 27, 3) := by decide +kernel
theorem dX6_init_60 : decode cX6_init 60 = .ok (.aload_n 0, 1) := by decide +kernel
theorem dX6_init_61 : decode cX6_init 61 = .ok (.new 10, 3) := by decide +kernel
theorem dX6_init_64 : decode cX6_init 64 = .ok (.dup, 1) := by decide +kernel
theorem dX6_init_65 : decode cX6_init 65 = .ok (.aload_n 1, 1) := by decide +kernel
