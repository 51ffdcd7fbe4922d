theorem dL_isSo_757 : decode cL_isSo 757 = .ok (.iaload, 1) := by decide +kernel
theorem dL_isSo_758 : decode cL_isSo 758 = .ok (.if_icmp .ne 29, 3) := by decide +kernel
theorem dL_isSo_761 : decode cL_isSo 761 = .ok (.aload_n 0, 1) := by decide +kernel
theorem dL_isSo_762 : decode cL_isSo 762 = .ok (.bipush 22, 2) := by decide +kernel
theorem dL_isSo_764 : decode cL_isSo 764 = .ok (.invokevirtual 96, 3) := by decide +kernel
theorem dL_isSo_767 : decode cL_isSo 767 = .ok (.aload_n 1, 1) := by decide +kernel
theorem dL_isSo_768 : decode cL_isSo 768 = .ok (.bipush 7, 2) := by decide +kernel
theorem dL_isSo_770 : decode cL_isSo 770 = .ok (.iaload, 1) := by decide +kernel
theorem dL_isSo_771 : decode cL_isSo 771 = .ok (.if_icmp .ne 16, 3) := by decide +kernel
theorem dL_isSo_774 : decode cL_isSo 774 = .ok (.aload_n 0, 1) := by decide +kernel
theorem dL_isSo_775 : decode cL_isSo 775 = .ok (.bipush 10, 2) := by decide +kernel
theorem dL_isSo_777 : decode cL_isSo 777 = .ok (.invokevirtual 96, 3) := by decide +kernel
theorem dL_isSo_780 : decode cL_isSo 780 = .ok (.ifCond .ne 7, 3) := by decide +kernel
theorem dL_isSo_783 : decode cL_isSo 783 = .ok (.iconst 1, 1) := by decide +kernel
theorem dL_isSo_784 : decode cL_isSo 784 = .ok (.goto 4, 3) := by decide +kernel
theorem dL_isSo_787 : decode cL_isSo 787 = .ok (.iconst 0, 1) := by decide +kernel
theorem dL_isSo_788 : decode cL_isSo 788 = .ok (.ireturn, 1) := by decide +kernel
theorem dL_law_0 : decode cL_law 0 = .ok (.new 52, 3) := by decide +kernel
theorem dL_law_3 : decode cL_law 3 = .ok (.dup, 1) := by decide +kernel
theorem dL_law_4 : decode cL_law 4 = .ok (.invokespecial 103, 3) := by decide +kernel
theorem dL_law_7 : decode cL_law 7 = .ok (.astore_n 1, 1) := by decide +kernel
theorem dL_law_8 : decode cL_law 8 = .ok (.bipush 8, 2) := by decide +kernel
theorem dL_law_10 : decode cL_law 10 = .ok (.newarray .int, 2) := by decide +kernel
theorem dL_law_12 : decode cL_law 12 = .ok (.astore_n 2, 1) := by decide +kernel
theorem dL_law_13 : decode cL_law 13 = .ok (.bipush 12, 2) := by decide +kernel
theorem dL_law_15 : decode cL_law 15 = .ok (.newarray .int, 2) := by decide +kernel
theorem dL_law_17 : decode cL_law 17 = .ok (.astore_n 3, 1) := by decide +kernel
theorem dL_law_18 : decode cL_law 18 = .ok (.bipush 60, 2) := by decide +kernel
theorem dL_law_20 : decode cL_law 20 = .ok (.newarray .int, 2) := by decide +kernel
theorem dL_law_22 : decode cL_law 22 = .ok (.astore 4, 2) := by decide +kernel
theorem dL_law_24 : decode cL_law 24 = .ok (.bipush 60, 2) := by decide +kernel
theorem dL_law_26 : decode cL_law 26 = .ok (.newarray .long, 2) := by decide +kernel
theorem dL_law_28 : decode cL_law 28 = .ok (.astore 5, 2) := by decide +kernel
theorem dL_law_30 : decode cL_law 30 = .ok (.aload_n 2, 1) := by decide +kernel
theorem dL_law_31 : decode cL_law 31 = .ok (.aload_n 3, 1) := by decide +kernel
theorem dL_law_32 : decode cL_law 32 = .ok (.aload 4, 2) := by decide +kernel
theorem dL_law_34 : decode cL_law 34 = .ok (.aload 5, 2) := by decide +kernel
theorem dL_law_36 : decode cL_law 36 = .ok (.iconst 4, 1) := by decide +kernel
theorem dL_law_37 : decode cL_law 37 = .ok (.iconst 0, 1) := by decide +kernel
theorem dL_law_38 : decode cL_law 38 = .ok (.bipush 10, 2) := by decide +kernel
theorem dL_law_40 : decode cL_law 40 = .ok (.invokestatic 47, 3) := by decide +kernel
theorem dL_law_43 : decode cL_law 43 = .ok (.aload_n 2, 1) := by decide +kernel
theorem dL_law_44 : decode cL_law 44 = .ok (.iconst 5, 1) := by decide +kernel
theorem dL_law_45 : decode cL_law 45 = .ok (.iconst 3, 1) := by decide +kernel
theorem dL_law_46 : decode cL_law 46 = .ok (.iastore, 1) := by decide +kernel
theorem dL_law_47 : decode cL_law 47 = .ok (.aload_n 2, 1) := by decide +kernel
theorem dL_law_48 : decode cL_law 48 = .ok (.bipush 7, 2) := by decide +kernel
theorem dL_law_50 : decode cL_law 50 = .ok (.bipush 50, 2) := by decide +kernel
theorem dL_law_52 : decode cL_law 52 = .ok (.iastore, 1) := by decide +kernel
theorem dL_law_53 : decode cL_law 53 = .ok (.aload_n 1, 1) := by decide +kernel
theorem dL_law_54 : decode cL_law 54 = .ok (.aload_n 2, 1) := by decide +kernel
theorem dL_law_55 : decode cL_law 55 = .ok (.aload_n 3, 1) := by decide +kernel
theorem dL_law_56 : decode cL_law 56 = .ok (.aload 4, 2) := by decide +kernel
theorem dL_law_58 : decode cL_law 58 = .ok (.aload 5, 2) := by decide +kernel
theorem dL_law_60 : decode cL_law 60 = .ok (.invokestatic 104, 3) := by decide +kernel
theorem dL_law_63 : decode cL_law 63 = .ok (.istore 6, 2) := by decide +kernel
theorem dL_law_65 : decode cL_law 65 = .ok (.iconst 0, 1) := by decide +kernel
theorem dL_law_66 : decode cL_law 66 = .ok (.istore 7, 2) := by decide +kernel
theorem dL_law_68 : decode cL_law 68 = .ok (.iload 7, 2) := by decide +kernel
theorem dL_law_70 : decode cL_law 70 = .ok (.iconst 3, 1) := by decide +kernel
theorem dL_law_71 : decode cL_law 71 = .ok (.if_icmp .ge 59, 3) := by decide +kernel
theorem dL_law_74 : decode cL_law 74 = .ok (.iload 6, 2) := by decide +kernel
theorem dL_law_76 : decode cL_law 76 = .ok (.ifCond .eq 54, 3) := by decide +kernel
theorem dL_law_79 : decode cL_law 79 = .ok (.aload_n 1, 1) := by decide +kernel
theorem dL_law_80 : decode cL_law 80 = .ok (.aload_n 2, 1) := by decide +kernel
theorem dL_law_81 : decode cL_law 81 = .ok (.aload_n 3, 1) := by decide +kernel
theorem dL_law_82 : decode cL_law 82 = .ok (.aload 4, 2) := by decide +kernel
theorem dL_law_84 : decode cL_law 84 = .ok (.aload 5, 2) := by decide +kernel
theorem dL_law_86 : decode cL_law 86 = .ok (.aload_n 0, 1) := by decide +kernel
theorem dL_law_87 : decode cL_law 87 = .ok (.iconst 1, 1) := by decide +kernel
theorem dL_law_88 : decode cL_law 88 = .ok (.iload 7, 2) := by decide +kernel
theorem dL_law_90 : decode cL_law 90 = .ok (.iadd, 1) := by decide +kernel
theorem dL_law_91 : decode cL_law 91 = .ok (.invokestatic 108, 3) := by decide +kernel
theorem dL_law_94 : decode cL_law 94 = .ok (.ldc 8, 2) := by decide +kernel
theorem dL_law_96 : decode cL_law 96 = .ok (.iand, 1) := by decide +kernel
theorem dL_law_97 : decode cL_law 97 = .ok (.sipush 2112, 3) := by decide +kernel
theorem dL_law_100 : decode cL_law 100 = .ok (.idiv, 1) := by decide +kernel
theorem dL_law_101 : decode cL_law 101 = .ok (.sipush 2112, 3) := by decide +kernel
theorem dL_law_104 : decode cL_law 104 = .ok (.imul, 1) := by decide +kernel
theorem dL_law_105 : decode cL_law 105 = .ok (.iload 7, 2) := by decide +kernel
theorem dL_law_107 : decode cL_law 107 = .ok (.ifCond .ne 7, 3) := by decide +kernel
theorem dL_law_110 : decode cL_law 110 = .ok (.iconst 0, 1) := by decide +kernel
theorem dL_law_111 : decode cL_law 111 = .ok (.goto 7, 3) := by decide +kernel
theorem dL_law_114 : decode cL_law 114 = .ok (.iload 7, 2) := by decide +kernel
theorem dL_law_116 : decode cL_law 116 = .ok (.iconst 3, 1) := by decide +kernel
theorem dL_law_117 : decode cL_law 117 = .ok (.iadd, 1) := by decide +kernel
theorem dL_law_118 : decode cL_law 118 = .ok (.iadd, 1) := by decide +kernel
theorem dL_law_119 : decode cL_law 119 = .ok (.invokestatic 111, 3) := by decide +kernel
theorem dL_law_122 : decode cL_law 122 = .ok (.istore 6, 2) := by decide +kernel
theorem dL_law_124 : decode cL_law 124 = .ok (.iinc 7 1, 3) := by decide +kernel
theorem dL_law_127 : decode cL_law 127 = .ok (.goto (-59), 3) := by decide +kernel
theorem dL_law_130 : decode cL_law 130 = .ok (.bipush 12, 2) := by decide +kernel
theorem dL_law_132 : decode cL_law 132 = .ok (.aload_n 0, 1) := by decide +kernel
theorem dL_law_133 : decode cL_law 133 = .ok (.iconst 0, 1) := by decide +kernel
theorem dL_law_134 : decode cL_law 134 = .ok (.invokestatic 108, 3) := by decide +kernel
theorem dL_law_137 : decode cL_law 137 = .ok (.bipush 46, 2) := by decide +kernel
theorem dL_law_139 : decode cL_law 139 = .ok (.invokestatic 43, 3) := by decide +kernel
theorem dL_law_142 : decode cL_law 142 = .ok (.iadd, 1) := by decide +kernel
theorem dL_law_143 : decode cL_law 143 = .ok (.istore 7, 2) := by decide +kernel
theorem dL_law_145 : decode cL_law 145 = .ok (.iconst 0, 1) := by decide +kernel
theorem dL_law_146 : decode cL_law 146 = .ok (.istore 8, 2) := by decide +kernel
theorem dL_law_148 : decode cL_law 148 = .ok (.iload 8, 2) := by decide +kernel
theorem dL_law_150 : decode cL_law 150 = .ok (.iload 7, 2) := by decide +kernel
theorem dL_law_152 : decode cL_law 152 = .ok (.if_icmp .ge 62, 3) := by decide +kernel
theorem dL_law_155 : decode cL_law 155 = .ok (.iload 6, 2) := by decide +kernel
theorem dL_law_157 : decode cL_law 157 = .ok (.ifCond .eq 57, 3) := by decide +kernel
theorem dL_law_160 : decode cL_law 160 = .ok (.aload_n 1, 1) := by decide +kernel
theorem dL_law_161 : decode cL_law 161 = .ok (.aload_n 2, 1) := by decide +kernel
theorem dL_law_162 : decode cL_law 162 = .ok (.aload_n 3, 1) := by decide +kernel
theorem dL_law_163 : decode cL_law 163 = .ok (.aload 4, 2) := by decide +kernel
theorem dL_law_165 : decode cL_law 165 = .ok (.aload 5, 2) := by decide +kernel
theorem dL_law_167 : decode cL_law 167 = .ok (.aload_n 0, 1) := by decide +kernel
theorem dL_law_168 : decode cL_law 168 = .ok (.iconst 4, 1) := by decide +kernel
theorem dL_law_169 : decode cL_law 169 = .ok (.iload 8, 2) := by decide +kernel
theorem dL_law_171 : decode cL_law 171 = .ok (.iadd, 1) := by decide +kernel
theorem dL_law_172 : decode cL_law 172 = .ok (.invokestatic 108, 3) := by decide +kernel
theorem dL_law_175 : decode cL_law 175 = .ok (.sipush 7919, 3) := by decide +kernel
theorem dL_law_178 : decode cL_law 178 = .ok (.iload 8, 2) := by decide +kernel
theorem dL_law_180 : decode cL_law 180 = .ok (.imul, 1) := by decide +kernel
theorem dL_law_181 : decode cL_law 181 = .ok (.ixor, 1) := by decide +kernel
theorem dL_law_182 : decode cL_law 182 = .ok (.invokestatic 111, 3) := by decide +kernel
theorem dL_law_185 : decode cL_law 185 = .ok (.ifCond .eq 20, 3) := by decide +kernel
theorem dL_law_188 : decode cL_law 188 = .ok (.aload_n 1, 1) := by decide +kernel
theorem dL_law_189 : decode cL_law 189 = .ok (.aload_n 2, 1) := by decide +kernel
theorem dL_law_190 : decode cL_law 190 = .ok (.aload_n 3, 1) := by decide +kernel
theorem dL_law_191 : decode cL_law 191 = .ok (.aload 4, 2) := by decide +kernel
theorem dL_law_193 : decode cL_law 193 = .ok (.aload 5, 2) := by decide +kernel
theorem dL_law_195 : decode cL_law 195 = .ok (.invokestatic 104, 3) := by decide +kernel
theorem dL_law_198 : decode cL_law 198 = .ok (.ifCond .eq 7, 3) := by decide +kernel
theorem dL_law_201 : decode cL_law 201 = .ok (.iconst 1, 1) := by decide +kernel
theorem dL_law_202 : decode cL_law 202 = .ok (.goto 4, 3) := by decide +kernel
theorem dL_law_205 : decode cL_law 205 = .ok (.iconst 0, 1) := by decide +kernel
theorem dL_law_206 : decode cL_law 206 = .ok (.istore 6, 2) := by decide +kernel
theorem dL_law_208 : decode cL_law 208 = .ok (.iinc 8 1, 3) := by decide +kernel
theorem dL_law_211 : decode cL_law 211 = .ok (.goto (-63), 3) := by decide +kernel
theorem dL_law_214 : decode cL_law 214 = .ok (.iload 6, 2) := by decide +kernel
theorem dL_law_216 : decode cL_law 216 = .ok (.ifCond .eq 41, 3) := by decide +kernel
theorem dL_law_219 : decode cL_law 219 = .ok (.aload_n 1, 1) := by decide +kernel
theorem dL_law_220 : decode cL_law 220 = .ok (.bipush 11, 2) := by decide +kernel
theorem dL_law_222 : decode cL_law 222 = .ok (.invokevirtual 96, 3) := by decide +kernel
theorem dL_law_225 : decode cL_law 225 = .ok (.ldc 95, 2) := by decide +kernel
theorem dL_law_227 : decode cL_law 227 = .ok (.if_icmp .ne 30, 3) := by decide +kernel
theorem dL_law_230 : decode cL_law 230 = .ok (.aload_n 1, 1) := by decide +kernel
theorem dL_law_231 : decode cL_law 231 = .ok (.bipush 23, 2) := by decide +kernel
theorem dL_law_233 : decode cL_law 233 = .ok (.invokevirtual 96, 3) := by decide +kernel
theorem dL_law_236 : decode cL_law 236 = .ok (.ldc 95, 2) := by decide +kernel
theorem dL_law_238 : decode cL_law 238 = .ok (.if_icmp .ne 19, 3) := by decide +kernel
theorem dL_law_241 : decode cL_law 241 = .ok (.aload_n 1, 1) := by decide +kernel
theorem dL_law_242 : decode cL_law 242 = .ok (.iconst 0, 1) := by decide +kernel
theorem dL_law_243 : decode cL_law 243 = .ok (.bipush 6, 2) := by decide +kernel
theorem dL_law_245 : decode cL_law 245 = .ok (.invokevirtual 100, 3) := by decide +kernel
theorem dL_law_248 : decode cL_law 248 = .ok (.ldc 95, 2) := by decide +kernel
theorem dL_law_250 : decode cL_law 250 = .ok (.if_icmp .ne 7, 3) := by decide +kernel
theorem dL_law_253 : decode cL_law 253 = .ok (.iconst 1, 1) := by decide +kernel
theorem dL_law_254 : decode cL_law 254 = .ok (.goto 4, 3) := by decide +kernel
theorem dL_law_257 : decode cL_law 257 = .ok (.iconst 0, 1) := by decide +kernel
theorem dL_law_258 : decode cL_law 258 = .ok (.ireturn, 1) := by decide +kernel
