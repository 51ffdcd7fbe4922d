theorem dX0_init_0 : decode cX0_init 0 = .ok (.aload_n 0, 1) := by decide +kernel
theorem dX0_init_1 : decode cX0_init 1 = .ok (.invokespecial 3, 3) := by decide +kernel
theorem dX0_init_4 : decode cX0_init 4 = .ok (.aload_n 0, 1) := by decide +kernel
theorem dX0_init_5 : decode cX0_init 5 = .ok (.bipush 12, 2) := by decide +kernel
theorem dX0_init_7 : decode cX0_init 7 = .ok (.newarray .int, 2) := by decide +kernel
theorem dX0_init_9 : decode cX0_init 9 = .ok (.putfield 9, 3) := by decide +kernel
theorem dX0_init_12 : decode cX0_init 12 = .ok (.aload_n 0, 1) := by decide +kernel
theorem dX0_init_13 : decode cX0_init 13 = .ok (.bipush 12, 2) := by decide +kernel
theorem dX0_init_15 : decode cX0_init 15 = .ok (.newarray .long, 2) := by decide +kernel
theorem dX0_init_17 : decode cX0_init 17 = .ok (.putfield 15, 3) := by decide +kernel
theorem dX0_init_20 : decode cX0_init 20 = .ok (.aload_n 0, 1) := by decide +kernel
theorem dX0_init_21 : decode cX0_init 21 = .ok (.iconst 0, 1) := by decide +kernel
theorem dX0_init_22 : decode cX0_init 22 = .ok (.putfield 19, 3) := by decide +kernel
theorem dX0_init_25 : decode cX0_init 25 = .ok (.return_, 1) := by decide +kernel
theorem dX0_chosenFor_0 : decode cX0_chosenFor 0 = .ok (.iload_n 1, 1) := by decide +kernel
theorem dX0_chosenFor_1 : decode cX0_chosenFor 1 = .ok (.ifCond .lt 12, 3) := by decide +kernel
theorem dX0_chosenFor_4 : decode cX0_chosenFor 4 = .ok (.iload_n 1, 1) := by decide +kernel
theorem dX0_chosenFor_5 : decode cX0_chosenFor 5 = .ok (.aload_n 0, 1) := by decide +kernel
theorem dX0_chosenFor_6 : decode cX0_chosenFor 6 = .ok (.getfield 9, 3) := by decide +kernel
theorem dX0_chosenFor_9 : decode cX0_chosenFor 9 = .ok (.arraylength, 1) := by decide +kernel
theorem dX0_chosenFor_10 : decode cX0_chosenFor 10 = .ok (.if_icmp .lt 5, 3) := by decide +kernel
theorem dX0_chosenFor_13 : decode cX0_chosenFor 13 = .ok (.iconst 0, 1) := by decide +kernel
theorem dX0_chosenFor_14 : decode cX0_chosenFor 14 = .ok (.ireturn, 1) := by decide +kernel
theorem dX0_chosenFor_15 : decode cX0_chosenFor 15 = .ok (.aload_n 0, 1) := by decide +kernel
theorem dX0_chosenFor_16 : decode cX0_chosenFor 16 = .ok (.getfield 9, 3) := by decide +kernel
theorem dX0_chosenFor_19 : decode cX0_chosenFor 19 = .ok (.iload_n 1, 1) := by decide +kernel
theorem dX0_chosenFor_20 : decode cX0_chosenFor 20 = .ok (.iaload, 1) := by decide +kernel
theorem dX0_chosenFor_21 : decode cX0_chosenFor 21 = .ok (.ireturn, 1) := by decide +kernel
theorem dX0_noise_0 : decode cX0_noise 0 = .ok (.aload_n 0, 1) := by decide +kernel
theorem dX0_noise_1 : decode cX0_noise 1 = .ok (.getfield 19, 3) := by decide +kernel
theorem dX0_noise_4 : decode cX0_noise 4 = .ok (.ireturn, 1) := by decide +kernel
theorem dX0_choose_0 : decode cX0_choose 0 = .ok (.aload_n 0, 1) := by decide +kernel
theorem dX0_choose_1 : decode cX0_choose 1 = .ok (.iload 4, 2) := by decide +kernel
theorem dX0_choose_3 : decode cX0_choose 3 = .ok (.putfield 19, 3) := by decide +kernel
theorem dX0_choose_6 : decode cX0_choose 6 = .ok (.iload_n 1, 1) := by decide +kernel
theorem dX0_choose_7 : decode cX0_choose 7 = .ok (.ifCond .ne 12, 3) := by decide +kernel
theorem dX0_choose_10 : decode cX0_choose 10 = .ok (.aload_n 0, 1) := by decide +kernel
theorem dX0_choose_11 : decode cX0_choose 11 = .ok (.aload_n 2, 1) := by decide +kernel
theorem dX0_choose_12 : decode cX0_choose 12 = .ok (.iload_n 3, 1) := by decide +kernel
theorem dX0_choose_13 : decode cX0_choose 13 = .ok (.invokevirtual 23, 3) := by decide +kernel
theorem dX0_choose_16 : decode cX0_choose 16 = .ok (.goto 21, 3) := by decide +kernel
theorem dX0_choose_19 : decode cX0_choose 19 = .ok (.iload_n 1, 1) := by decide +kernel
theorem dX0_choose_20 : decode cX0_choose 20 = .ok (.iconst 1, 1) := by decide +kernel
theorem dX0_choose_21 : decode cX0_choose 21 = .ok (.if_icmp .ne 11, 3) := by decide +kernel
theorem dX0_choose_24 : decode cX0_choose 24 = .ok (.aload_n 0, 1) := by decide +kernel
theorem dX0_choose_25 : decode cX0_choose 25 = .ok (.aload_n 2, 1) := by decide +kernel
theorem dX0_choose_26 : decode cX0_choose 26 = .ok (.invokevirtual 27, 3) := by decide +kernel
theorem dX0_choose_29 : decode cX0_choose 29 = .ok (.goto 8, 3) := by decide +kernel
theorem dX0_choose_32 : decode cX0_choose 32 = .ok (.aload_n 0, 1) := by decide +kernel
theorem dX0_choose_33 : decode cX0_choose 33 = .ok (.aload_n 2, 1) := by decide +kernel
theorem dX0_choose_34 : decode cX0_choose 34 = .ok (.invokevirtual 31, 3) := by decide +kernel
theorem dX0_choose_37 : decode cX0_choose 37 = .ok (.return_, 1) := by decide +kernel
theorem dX0_chooseByOffset_0 : decode cX0_chooseByOffset 0 = .ok (.aload_n 1, 1) := by decide +kernel
theorem dX0_chooseByOffset_1 : decode cX0_chooseByOffset 1 = .ok (.invokevirtual 34, 3) := by decide +kernel
theorem dX0_chooseByOffset_4 : decode cX0_chooseByOffset 4 = .ok (.lstore_n 3, 1) := by decide +kernel
theorem dX0_chooseByOffset_5 : decode cX0_chooseByOffset 5 = .ok (.iload_n 2, 1) := by decide +kernel
theorem dX0_chooseByOffset_6 : decode cX0_chooseByOffset 6 = .ok (.i2l, 1) := by decide +kernel
theorem dX0_chooseByOffset_7 : decode cX0_chooseByOffset 7 = .ok (.lload_n 3, 1) := by decide +kernel
theorem dX0_chooseByOffset_8 : decode cX0_chooseByOffset 8 = .ok (.lmul, 1) := by decide +kernel
theorem dX0_chooseByOffset_9 : decode cX0_chooseByOffset 9 = .ok (.ldc2_w 40, 3) := by decide +kernel
theorem dX0_chooseByOffset_12 : decode cX0_chooseByOffset 12 = .ok (.ldiv, 1) := by decide +kernel
theorem dX0_chooseByOffset_13 : decode cX0_chooseByOffset 13 = .ok (.lstore 5, 2) := by decide +kernel
theorem dX0_chooseByOffset_15 : decode cX0_chooseByOffset 15 = .ok (.iconst 0, 1) := by decide +kernel
theorem dX0_chooseByOffset_16 : decode cX0_chooseByOffset 16 = .ok (.istore 7, 2) := by decide +kernel
theorem dX0_chooseByOffset_18 : decode cX0_chooseByOffset 18 = .ok (.iload 7, 2) := by decide +kernel
theorem dX0_chooseByOffset_20 : decode cX0_chooseByOffset 20 = .ok (.aload_n 1, 1) := by decide +kernel
theorem dX0_chooseByOffset_21 : decode cX0_chooseByOffset 21 = .ok (.getfield 42, 3) := by decide +kernel
theorem dX0_chooseByOffset_24 : decode cX0_chooseByOffset 24 = .ok (.if_icmp .ge 38, 3) := by decide +kernel
theorem dX0_chooseByOffset_27 : decode cX0_chooseByOffset 27 = .ok (.iload 7, 2) := by decide +kernel
theorem dX0_chooseByOffset_29 : decode cX0_chooseByOffset 29 = .ok (.aload_n 0, 1) := by decide +kernel
theorem dX0_chooseByOffset_30 : decode cX0_chooseByOffset 30 = .ok (.getfield 9, 3) := by decide +kernel
theorem dX0_chooseByOffset_33 : decode cX0_chooseByOffset 33 = .ok (.arraylength, 1) := by decide +kernel
theorem dX0_chooseByOffset_34 : decode cX0_chooseByOffset 34 = .ok (.if_icmp .ge 28, 3) := by decide +kernel
theorem dX0_chooseByOffset_37 : decode cX0_chooseByOffset 37 = .ok (.aload_n 0, 1) := by decide +kernel
theorem dX0_chooseByOffset_38 : decode cX0_chooseByOffset 38 = .ok (.getfield 9, 3) := by decide +kernel
theorem dX0_chooseByOffset_41 : decode cX0_chooseByOffset 41 = .ok (.iload 7, 2) := by decide +kernel
theorem dX0_chooseByOffset_43 : decode cX0_chooseByOffset 43 = .ok (.aload_n 1, 1) := by decide +kernel
theorem dX0_chooseByOffset_44 : decode cX0_chooseByOffset 44 = .ok (.iload 7, 2) := by decide +kernel
theorem dX0_chooseByOffset_46 : decode cX0_chooseByOffset 46 = .ok (.i2l, 1) := by decide +kernel
theorem dX0_chooseByOffset_47 : decode cX0_chooseByOffset 47 = .ok (.lload_n 3, 1) := by decide +kernel
theorem dX0_chooseByOffset_48 : decode cX0_chooseByOffset 48 = .ok (.lmul, 1) := by decide +kernel
theorem dX0_chooseByOffset_49 : decode cX0_chooseByOffset 49 = .ok (.lload 5, 2) := by decide +kernel
theorem dX0_chooseByOffset_51 : decode cX0_chooseByOffset 51 = .ok (.ladd, 1) := by decide +kernel
theorem dX0_chooseByOffset_52 : decode cX0_chooseByOffset 52 = .ok (.invokevirtual 45, 3) := by decide +kernel
theorem dX0_chooseByOffset_55 : decode cX0_chooseByOffset 55 = .ok (.iastore, 1) := by decide +kernel
theorem dX0_chooseByOffset_56 : decode cX0_chooseByOffset 56 = .ok (.iinc 7 1, 3) := by decide +kernel
theorem dX0_chooseByOffset_59 : decode cX0_chooseByOffset 59 = .ok (.goto (-41), 3) := by decide +kernel
theorem dX0_chooseByOffset_62 : decode cX0_chooseByOffset 62 = .ok (.return_, 1) := by decide +kernel
theorem dX0_chooseByNoises_0 : decode cX0_chooseByNoises 0 = .ok (.aload_n 1, 1) := by decide +kernel
theorem dX0_chooseByNoises_1 : decode cX0_chooseByNoises 1 = .ok (.invokevirtual 34, 3) := by decide +kernel
theorem dX0_chooseByNoises_4 : decode cX0_chooseByNoises 4 = .ok (.lstore_n 2, 1) := by decide +kernel
theorem dX0_chooseByNoises_5 : decode cX0_chooseByNoises 5 = .ok (.lload_n 2, 1) := by decide +kernel
theorem dX0_chooseByNoises_6 : decode cX0_chooseByNoises 6 = .ok (.lconst 0, 1) := by decide +kernel
theorem dX0_chooseByNoises_7 : decode cX0_chooseByNoises 7 = .ok (.lcmp, 1) := by decide +kernel
theorem dX0_chooseByNoises_8 : decode cX0_chooseByNoises 8 = .ok (.ifCond .gt 4, 3) := by decide +kernel
theorem dX0_chooseByNoises_11 : decode cX0_chooseByNoises 11 = .ok (.return_, 1) := by decide +kernel
theorem dX0_chooseByNoises_12 : decode cX0_chooseByNoises 12 = .ok (.iconst 0, 1) := by decide +kernel
theorem dX0_chooseByNoises_13 : decode cX0_chooseByNoises 13 = .ok (.istore 4, 2) := by decide +kernel
theorem dX0_chooseByNoises_15 : decode cX0_chooseByNoises 15 = .ok (.iload 4, 2) := by decide +kernel
theorem dX0_chooseByNoises_17 : decode cX0_chooseByNoises 17 = .ok (.aload_n 1, 1) := by decide +kernel
theorem dX0_chooseByNoises_18 : decode cX0_chooseByNoises 18 = .ok (.getfield 42, 3) := by decide +kernel
theorem dX0_chooseByNoises_21 : decode cX0_chooseByNoises 21 = .ok (.if_icmp .ge 54, 3) := by decide +kernel
theorem dX0_chooseByNoises_24 : decode cX0_chooseByNoises 24 = .ok (.iload 4, 2) := by decide +kernel
theorem dX0_chooseByNoises_26 : decode cX0_chooseByNoises 26 = .ok (.aload_n 0, 1) := by decide +kernel
theorem dX0_chooseByNoises_27 : decode cX0_chooseByNoises 27 = .ok (.getfield 9, 3) := by decide +kernel
theorem dX0_chooseByNoises_30 : decode cX0_chooseByNoises 30 = .ok (.arraylength, 1) := by decide +kernel
theorem dX0_chooseByNoises_31 : decode cX0_chooseByNoises 31 = .ok (.if_icmp .ge 44, 3) := by decide +kernel
theorem dX0_chooseByNoises_34 : decode cX0_chooseByNoises 34 = .ok (.aload_n 0, 1) := by decide +kernel
theorem dX0_chooseByNoises_35 : decode cX0_chooseByNoises 35 = .ok (.aload_n 0, 1) := by decide +kernel
theorem dX0_chooseByNoises_36 : decode cX0_chooseByNoises 36 = .ok (.getfield 19, 3) := by decide +kernel
theorem dX0_chooseByNoises_39 : decode cX0_chooseByNoises 39 = .ok (.invokestatic 49, 3) := by decide +kernel
theorem dX0_chooseByNoises_42 : decode cX0_chooseByNoises 42 = .ok (.putfield 19, 3) := by decide +kernel
theorem dX0_chooseByNoises_45 : decode cX0_chooseByNoises 45 = .ok (.aload_n 0, 1) := by decide +kernel
theorem dX0_chooseByNoises_46 : decode cX0_chooseByNoises 46 = .ok (.getfield 9, 3) := by decide +kernel
theorem dX0_chooseByNoises_49 : decode cX0_chooseByNoises 49 = .ok (.iload 4, 2) := by decide +kernel
theorem dX0_chooseByNoises_51 : decode cX0_chooseByNoises 51 = .ok (.aload_n 1, 1) := by decide +kernel
theorem dX0_chooseByNoises_52 : decode cX0_chooseByNoises 52 = .ok (.iload 4, 2) := by decide +kernel
theorem dX0_chooseByNoises_54 : decode cX0_chooseByNoises 54 = .ok (.i2l, 1) := by decide +kernel
theorem dX0_chooseByNoises_55 : decode cX0_chooseByNoises 55 = .ok (.lload_n 2, 1) := by decide +kernel
theorem dX0_chooseByNoises_56 : decode cX0_chooseByNoises 56 = .ok (.lmul, 1) := by decide +kernel
theorem dX0_chooseByNoises_57 : decode cX0_chooseByNoises 57 = .ok (.aload_n 0, 1) := by decide +kernel
theorem dX0_chooseByNoises_58 : decode cX0_chooseByNoises 58 = .ok (.getfield 19, 3) := by decide +kernel
theorem dX0_chooseByNoises_61 : decode cX0_chooseByNoises 61 = .ok (.i2l, 1) := by decide +kernel
theorem dX0_chooseByNoises_62 : decode cX0_chooseByNoises 62 = .ok (.lload_n 2, 1) := by decide +kernel
theorem dX0_chooseByNoises_63 : decode cX0_chooseByNoises 63 = .ok (.lrem, 1) := by decide +kernel
theorem dX0_chooseByNoises_64 : decode cX0_chooseByNoises 64 = .ok (.ladd, 1) := by decide +kernel
theorem dX0_chooseByNoises_65 : decode cX0_chooseByNoises 65 = .ok (.invokevirtual 45, 3) := by decide +kernel
theorem dX0_chooseByNoises_68 : decode cX0_chooseByNoises 68 = .ok (.iastore, 1) := by decide +kernel
theorem dX0_chooseByNoises_69 : decode cX0_chooseByNoises 69 = .ok (.iinc 4 1, 3) := by decide +kernel
theorem dX0_chooseByNoises_72 : decode cX0_chooseByNoises 72 = .ok (.goto (-57), 3) := by decide +kernel
theorem dX0_chooseByNoises_75 : decode cX0_chooseByNoises 75 = .ok (.return_, 1) := by decide +kernel
theorem dX0_chooseByShares_0 : decode cX0_chooseByShares 0 = .ok (.aload_n 1, 1) := by decide +kernel
theorem dX0_chooseByShares_1 : decode cX0_chooseByShares 1 = .ok (.invokevirtual 34, 3) := by decide +kernel
theorem dX0_chooseByShares_4 : decode cX0_chooseByShares 4 = .ok (.lstore_n 2, 1) := by decide +kernel
theorem dX0_chooseByShares_5 : decode cX0_chooseByShares 5 = .ok (.lload_n 2, 1) := by decide +kernel
theorem dX0_chooseByShares_6 : decode cX0_chooseByShares 6 = .ok (.lconst 0, 1) := by decide +kernel
theorem dX0_chooseByShares_7 : decode cX0_chooseByShares 7 = .ok (.lcmp, 1) := by decide +kernel
theorem dX0_chooseByShares_8 : decode cX0_chooseByShares 8 = .ok (.ifCond .gt 4, 3) := by decide +kernel
theorem dX0_chooseByShares_11 : decode cX0_chooseByShares 11 = .ok (.return_, 1) := by decide +kernel
theorem dX0_chooseByShares_12 : decode cX0_chooseByShares 12 = .ok (.aload_n 1, 1) := by decide +kernel
theorem dX0_chooseByShares_13 : decode cX0_chooseByShares 13 = .ok (.getfield 42, 3) := by decide +kernel
theorem dX0_chooseByShares_16 : decode cX0_chooseByShares 16 = .ok (.i2l, 1) := by decide +kernel
theorem dX0_chooseByShares_17 : decode cX0_chooseByShares 17 = .ok (.lstore 4, 2) := by decide +kernel
theorem dX0_chooseByShares_19 : decode cX0_chooseByShares 19 = .ok (.lload 4, 2) := by decide +kernel
theorem dX0_chooseByShares_21 : decode cX0_chooseByShares 21 = .ok (.lstore 6, 2) := by decide +kernel
theorem dX0_chooseByShares_23 : decode cX0_chooseByShares 23 = .ok (.iconst 0, 1) := by decide +kernel
theorem dX0_chooseByShares_24 : decode cX0_chooseByShares 24 = .ok (.istore 8, 2) := by decide +kernel
theorem dX0_chooseByShares_26 : decode cX0_chooseByShares 26 = .ok (.iload 8, 2) := by decide +kernel
theorem dX0_chooseByShares_28 : decode cX0_chooseByShares 28 = .ok (.i2l, 1) := by decide +kernel
theorem dX0_chooseByShares_29 : decode cX0_chooseByShares 29 = .ok (.lload 4, 2) := by decide +kernel
theorem dX0_chooseByShares_31 : decode cX0_chooseByShares 31 = .ok (.lcmp, 1) := by decide +kernel
theorem dX0_chooseByShares_32 : decode cX0_chooseByShares 32 = .ok (.ifCond .ge 51, 3) := by decide +kernel
theorem dX0_chooseByShares_35 : decode cX0_chooseByShares 35 = .ok (.iload 8, 2) := by decide +kernel
theorem dX0_chooseByShares_37 : decode cX0_chooseByShares 37 = .ok (.aload_n 0, 1) := by decide +kernel
theorem dX0_chooseByShares_38 : decode cX0_chooseByShares 38 = .ok (.getfield 15, 3) := by decide +kernel
theorem dX0_chooseByShares_41 : decode cX0_chooseByShares 41 = .ok (.arraylength, 1) := by decide +kernel
theorem dX0_chooseByShares_42 : decode cX0_chooseByShares 42 = .ok (.if_icmp .ge 41, 3) := by decide +kernel
theorem dX0_chooseByShares_45 : decode cX0_chooseByShares 45 = .ok (.lload 4, 2) := by decide +kernel
theorem dX0_chooseByShares_47 : decode cX0_chooseByShares 47 = .ok (.aload_n 1, 1) := by decide +kernel
theorem dX0_chooseByShares_48 : decode cX0_chooseByShares 48 = .ok (.iload 8, 2) := by decide +kernel
theorem dX0_chooseByShares_50 : decode cX0_chooseByShares 50 = .ok (.invokevirtual 53, 3) := by decide +kernel
theorem dX0_chooseByShares_53 : decode cX0_chooseByShares 53 = .ok (.i2l, 1) := by decide +kernel
theorem dX0_chooseByShares_54 : decode cX0_chooseByShares 54 = .ok (.lmul, 1) := by decide +kernel
theorem dX0_chooseByShares_55 : decode cX0_chooseByShares 55 = .ok (.lstore 9, 2) := by decide +kernel
theorem dX0_chooseByShares_57 : decode cX0_chooseByShares 57 = .ok (.lload 6, 2) := by decide +kernel
theorem dX0_chooseByShares_59 : decode cX0_chooseByShares 59 = .ok (.lload 9, 2) := by decide +kernel
theorem dX0_chooseByShares_61 : decode cX0_chooseByShares 61 = .ok (.lload_n 2, 1) := by decide +kernel
theorem dX0_chooseByShares_62 : decode cX0_chooseByShares 62 = .ok (.ldiv, 1) := by decide +kernel
theorem dX0_chooseByShares_63 : decode cX0_chooseByShares 63 = .ok (.lsub, 1) := by decide +kernel
theorem dX0_chooseByShares_64 : decode cX0_chooseByShares 64 = .ok (.lstore 6, 2) := by decide +kernel
theorem dX0_chooseByShares_66 : decode cX0_chooseByShares 66 = .ok (.aload_n 0, 1) := by decide +kernel
theorem dX0_chooseByShares_67 : decode cX0_chooseByShares 67 = .ok (.getfield 15, 3) := by decide +kernel
theorem dX0_chooseByShares_70 : decode cX0_chooseByShares 70 = .ok (.iload 8, 2) := by decide +kernel
theorem dX0_chooseByShares_72 : decode cX0_chooseByShares 72 = .ok (.lload 9, 2) := by decide +kernel
theorem dX0_chooseByShares_74 : decode cX0_chooseByShares 74 = .ok (.lload_n 2, 1) := by decide +kernel
theorem dX0_chooseByShares_75 : decode cX0_chooseByShares 75 = .ok (.lrem, 1) := by decide +kernel
theorem dX0_chooseByShares_76 : decode cX0_chooseByShares 76 = .ok (.lastore, 1) := by decide +kernel
theorem dX0_chooseByShares_77 : decode cX0_chooseByShares 77 = .ok (.iinc 8 1, 3) := by decide +kernel
theorem dX0_chooseByShares_80 : decode cX0_chooseByShares 80 = .ok (.goto (-54), 3) := by decide +kernel
theorem dX0_chooseByShares_83 : decode cX0_chooseByShares 83 = .ok (.iconst 0, 1) := by decide +kernel
theorem dX0_chooseByShares_84 : decode cX0_chooseByShares 84 = .ok (.istore 8, 2) := by decide +kernel
theorem dX0_chooseByShares_86 : decode cX0_chooseByShares 86 = .ok (.iconst 0, 1) := by decide +kernel
theorem dX0_chooseByShares_87 : decode cX0_chooseByShares 87 = .ok (.istore 9, 2) := by decide +kernel
theorem dX0_chooseByShares_89 : decode cX0_chooseByShares 89 = .ok (.iload 9, 2) := by decide +kernel
theorem dX0_chooseByShares_91 : decode cX0_chooseByShares 91 = .ok (.i2l, 1) := by decide +kernel
theorem dX0_chooseByShares_92 : decode cX0_chooseByShares 92 = .ok (.lload 4, 2) := by decide +kernel
theorem dX0_chooseByShares_94 : decode cX0_chooseByShares 94 = .ok (.lcmp, 1) := by decide +kernel
theorem dX0_chooseByShares_95 : decode cX0_chooseByShares 95 = .ok (.ifCond .ge 94, 3) := by decide +kernel
theorem dX0_chooseByShares_98 : decode cX0_chooseByShares 98 = .ok (.iload 9, 2) := by decide +kernel
theorem dX0_chooseByShares_100 : decode cX0_chooseByShares 100 = .ok (.aload_n 0, 1) := by decide +kernel
theorem dX0_chooseByShares_101 : decode cX0_chooseByShares 101 = .ok (.getfield 15, 3) := by decide +kernel
theorem dX0_chooseByShares_104 : decode cX0_chooseByShares 104 = .ok (.arraylength, 1) := by decide +kernel
theorem dX0_chooseByShares_105 : decode cX0_chooseByShares 105 = .ok (.if_icmp .ge 84, 3) := by decide +kernel
theorem dX0_chooseByShares_108 : decode cX0_chooseByShares 108 = .ok (.lload 4, 2) := by decide +kernel
theorem dX0_chooseByShares_110 : decode cX0_chooseByShares 110 = .ok (.aload_n 1, 1) := by decide +kernel
theorem dX0_chooseByShares_111 : decode cX0_chooseByShares 111 = .ok (.iload 9, 2) := by decide +kernel
theorem dX0_chooseByShares_113 : decode cX0_chooseByShares 113 = .ok (.invokevirtual 53, 3) := by decide +kernel
theorem dX0_chooseByShares_116 : decode cX0_chooseByShares 116 = .ok (.i2l, 1) := by decide +kernel
theorem dX0_chooseByShares_117 : decode cX0_chooseByShares 117 = .ok (.lmul, 1) := by decide +kernel
theorem dX0_chooseByShares_118 : decode cX0_chooseByShares 118 = .ok (.lload_n 2, 1) := by decide +kernel
theorem dX0_chooseByShares_119 : decode cX0_chooseByShares 119 = .ok (.ldiv, 1) := by decide +kernel
theorem dX0_chooseByShares_120 : decode cX0_chooseByShares 120 = .ok (.lstore 10, 2) := by decide +kernel
theorem dX0_chooseByShares_122 : decode cX0_chooseByShares 122 = .ok (.aload_n 0, 1) := by decide +kernel
theorem dX0_chooseByShares_123 : decode cX0_chooseByShares 123 = .ok (.iload 9, 2) := by decide +kernel
theorem dX0_chooseByShares_125 : decode cX0_chooseByShares 125 = .ok (.lload 4, 2) := by decide +kernel
theorem dX0_chooseByShares_127 : decode cX0_chooseByShares 127 = .ok (.invokevirtual 56, 3) := by decide +kernel
theorem dX0_chooseByShares_130 : decode cX0_chooseByShares 130 = .ok (.i2l, 1) := by decide +kernel
theorem dX0_chooseByShares_131 : decode cX0_chooseByShares 131 = .ok (.lload 6, 2) := by decide +kernel
theorem dX0_chooseByShares_133 : decode cX0_chooseByShares 133 = .ok (.lcmp, 1) := by decide +kernel
theorem dX0_chooseByShares_134 : decode cX0_chooseByShares 134 = .ok (.ifCond .ge 9, 3) := by decide +kernel
theorem dX0_chooseByShares_137 : decode cX0_chooseByShares 137 = .ok (.lload 10, 2) := by decide +kernel
theorem dX0_chooseByShares_139 : decode cX0_chooseByShares 139 = .ok (.lconst 1, 1) := by decide +kernel
theorem dX0_chooseByShares_140 : decode cX0_chooseByShares 140 = .ok (.ladd, 1) := by decide +kernel
theorem dX0_chooseByShares_141 : decode cX0_chooseByShares 141 = .ok (.lstore 10, 2) := by decide +kernel
theorem dX0_chooseByShares_143 : decode cX0_chooseByShares 143 = .ok (.iconst 0, 1) := by decide +kernel
theorem dX0_chooseByShares_144 : decode cX0_chooseByShares 144 = .ok (.istore 12, 2) := by decide +kernel
theorem dX0_chooseByShares_146 : decode cX0_chooseByShares 146 = .ok (.iload 12, 2) := by decide +kernel
theorem dX0_chooseByShares_148 : decode cX0_chooseByShares 148 = .ok (.i2l, 1) := by decide +kernel
theorem dX0_chooseByShares_149 : decode cX0_chooseByShares 149 = .ok (.lload 10, 2) := by decide +kernel
theorem dX0_chooseByShares_151 : decode cX0_chooseByShares 151 = .ok (.lcmp, 1) := by decide +kernel
theorem dX0_chooseByShares_152 : decode cX0_chooseByShares 152 = .ok (.ifCond .ge 31, 3) := by decide +kernel
theorem dX0_chooseByShares_155 : decode cX0_chooseByShares 155 = .ok (.iload 8, 2) := by decide +kernel
theorem dX0_chooseByShares_157 : decode cX0_chooseByShares 157 = .ok (.aload_n 0, 1) := by decide +kernel
theorem dX0_chooseByShares_158 : decode cX0_chooseByShares 158 = .ok (.getfield 9, 3) := by decide +kernel
theorem dX0_chooseByShares_161 : decode cX0_chooseByShares 161 = .ok (.arraylength, 1) := by decide +kernel
theorem dX0_chooseByShares_162 : decode cX0_chooseByShares 162 = .ok (.if_icmp .ge 21, 3) := by decide +kernel
theorem dX0_chooseByShares_165 : decode cX0_chooseByShares 165 = .ok (.aload_n 0, 1) := by decide +kernel
theorem dX0_chooseByShares_166 : decode cX0_chooseByShares 166 = .ok (.getfield 9, 3) := by decide +kernel
theorem dX0_chooseByShares_169 : decode cX0_chooseByShares 169 = .ok (.iload 8, 2) := by decide +kernel
theorem dX0_chooseByShares_171 : decode cX0_chooseByShares 171 = .ok (.iload 9, 2) := by decide +kernel
theorem dX0_chooseByShares_173 : decode cX0_chooseByShares 173 = .ok (.iastore, 1) := by decide +kernel
theorem dX0_chooseByShares_174 : decode cX0_chooseByShares 174 = .ok (.iinc 8 1, 3) := by decide +kernel
theorem dX0_chooseByShares_177 : decode cX0_chooseByShares 177 = .ok (.iinc 12 1, 3) := by decide +kernel
theorem dX0_chooseByShares_180 : decode cX0_chooseByShares 180 = .ok (.goto (-34), 3) := by decide +kernel
theorem dX0_chooseByShares_183 : decode cX0_chooseByShares 183 = .ok (.iinc 9 1, 3) := by decide +kernel
theorem dX0_chooseByShares_186 : decode cX0_chooseByShares 186 = .ok (.goto (-97), 3) := by decide +kernel
theorem dX0_chooseByShares_189 : decode cX0_chooseByShares 189 = .ok (.return_, 1) := by decide +kernel
theorem dX0_restsAheadOf_0 : decode cX0_restsAheadOf 0 = .ok (.iconst 0, 1) := by decide +kernel
theorem dX0_restsAheadOf_1 : decode cX0_restsAheadOf 1 = .ok (.istore 4, 2) := by decide +kernel
theorem dX0_restsAheadOf_3 : decode cX0_restsAheadOf 3 = .ok (.iload_n 1, 1) := by decide +kernel
theorem dX0_restsAheadOf_4 : decode cX0_restsAheadOf 4 = .ok (.ifCond .lt 12, 3) := by decide +kernel
theorem dX0_restsAheadOf_7 : decode cX0_restsAheadOf 7 = .ok (.iload_n 1, 1) := by decide +kernel
theorem dX0_restsAheadOf_8 : decode cX0_restsAheadOf 8 = .ok (.aload_n 0, 1) := by decide +kernel
theorem dX0_restsAheadOf_9 : decode cX0_restsAheadOf 9 = .ok (.getfield 15, 3) := by decide +kernel
theorem dX0_restsAheadOf_12 : decode cX0_restsAheadOf 12 = .ok (.arraylength, 1) := by decide +kernel
theorem dX0_restsAheadOf_13 : decode cX0_restsAheadOf 13 = .ok (.if_icmp .lt 6, 3) := by decide +kernel
theorem dX0_restsAheadOf_16 : decode cX0_restsAheadOf 16 = .ok (.iload 4, 2) := by decide +kernel
theorem dX0_restsAheadOf_18 : decode cX0_restsAheadOf 18 = .ok (.ireturn, 1) := by decide +kernel
theorem dX0_restsAheadOf_19 : decode cX0_restsAheadOf 19 = .ok (.aload_n 0, 1) := by decide +kernel
theorem dX0_restsAheadOf_20 : decode cX0_restsAheadOf 20 = .ok (.getfield 15, 3) := by decide +kernel
theorem dX0_restsAheadOf_23 : decode cX0_restsAheadOf 23 = .ok (.iload_n 1, 1) := by decide +kernel
theorem dX0_restsAheadOf_24 : decode cX0_restsAheadOf 24 = .ok (.laload, 1) := by decide +kernel
theorem dX0_restsAheadOf_25 : decode cX0_restsAheadOf 25 = .ok (.lstore 5, 2) := by decide +kernel
theorem dX0_restsAheadOf_27 : decode cX0_restsAheadOf 27 = .ok (.iconst 0, 1) := by decide +kernel
theorem dX0_restsAheadOf_28 : decode cX0_restsAheadOf 28 = .ok (.istore 7, 2) := by decide +kernel
theorem dX0_restsAheadOf_30 : decode cX0_restsAheadOf 30 = .ok (.iload 7, 2) := by decide +kernel
theorem dX0_restsAheadOf_32 : decode cX0_restsAheadOf 32 = .ok (.i2l, 1) := by decide +kernel
theorem dX0_restsAheadOf_33 : decode cX0_restsAheadOf 33 = .ok (.lload_n 2, 1) := by decide +kernel
theorem dX0_restsAheadOf_34 : decode cX0_restsAheadOf 34 = .ok (.lcmp, 1) := by decide +kernel
theorem dX0_restsAheadOf_35 : decode cX0_restsAheadOf 35 = .ok (.ifCond .ge 54, 3) := by decide +kernel
theorem dX0_restsAheadOf_38 : decode cX0_restsAheadOf 38 = .ok (.iload 7, 2) := by decide +kernel
theorem dX0_restsAheadOf_40 : decode cX0_restsAheadOf 40 = .ok (.aload_n 0, 1) := by decide +kernel
theorem dX0_restsAheadOf_41 : decode cX0_restsAheadOf 41 = .ok (.getfield 15, 3) := by decide +kernel
theorem dX0_restsAheadOf_44 : decode cX0_restsAheadOf 44 = .ok (.arraylength, 1) := by decide +kernel
theorem dX0_restsAheadOf_45 : decode cX0_restsAheadOf 45 = .ok (.if_icmp .ge 44, 3) := by decide +kernel
theorem dX0_restsAheadOf_48 : decode cX0_restsAheadOf 48 = .ok (.aload_n 0, 1) := by decide +kernel
theorem dX0_restsAheadOf_49 : decode cX0_restsAheadOf 49 = .ok (.getfield 15, 3) := by decide +kernel
theorem dX0_restsAheadOf_52 : decode cX0_restsAheadOf 52 = .ok (.iload 7, 2) := by decide +kernel
theorem dX0_restsAheadOf_54 : decode cX0_restsAheadOf 54 = .ok (.laload, 1) := by decide +kernel
theorem dX0_restsAheadOf_55 : decode cX0_restsAheadOf 55 = .ok (.lload 5, 2) := by decide +kernel
theorem dX0_restsAheadOf_57 : decode cX0_restsAheadOf 57 = .ok (.lcmp, 1) := by decide +kernel
theorem dX0_restsAheadOf_58 : decode cX0_restsAheadOf 58 = .ok (.ifCond .gt 22, 3) := by decide +kernel
theorem dX0_restsAheadOf_61 : decode cX0_restsAheadOf 61 = .ok (.aload_n 0, 1) := by decide +kernel
theorem dX0_restsAheadOf_62 : decode cX0_restsAheadOf 62 = .ok (.getfield 15, 3) := by decide +kernel
theorem dX0_restsAheadOf_65 : decode cX0_restsAheadOf 65 = .ok (.iload 7, 2) := by decide +kernel
theorem dX0_restsAheadOf_67 : decode cX0_restsAheadOf 67 = .ok (.laload, 1) := by decide +kernel
theorem dX0_restsAheadOf_68 : decode cX0_restsAheadOf 68 = .ok (.lload 5, 2) := by decide +kernel
theorem dX0_restsAheadOf_70 : decode cX0_restsAheadOf 70 = .ok (.lcmp, 1) := by decide +kernel
theorem dX0_restsAheadOf_71 : decode cX0_restsAheadOf 71 = .ok (.ifCond .ne 12, 3) := by decide +kernel
theorem dX0_restsAheadOf_74 : decode cX0_restsAheadOf 74 = .ok (.iload 7, 2) := by decide +kernel
theorem dX0_restsAheadOf_76 : decode cX0_restsAheadOf 76 = .ok (.iload_n 1, 1) := by decide +kernel
theorem dX0_restsAheadOf_77 : decode cX0_restsAheadOf 77 = .ok (.if_icmp .ge 6, 3) := by decide +kernel
theorem dX0_restsAheadOf_80 : decode cX0_restsAheadOf 80 = .ok (.iinc 4 1, 3) := by decide +kernel
theorem dX0_restsAheadOf_83 : decode cX0_restsAheadOf 83 = .ok (.iinc 7 1, 3) := by decide +kernel
theorem dX0_restsAheadOf_86 : decode cX0_restsAheadOf 86 = .ok (.goto (-56), 3) := by decide +kernel
theorem dX0_restsAheadOf_89 : decode cX0_restsAheadOf 89 = .ok (.iload 4, 2) := by decide +kernel
theorem dX0_restsAheadOf_91 : decode cX0_restsAheadOf 91 = .ok (.ireturn, 1) := by decide +kernel
theorem dX1_init_0 : decode cX1_init 0 = .ok (.aload_n 0, 1) := by decide +kernel
theorem dX1_init_1 : decode cX1_init 1 = .ok (.invokespecial 3, 3) := by decide +kernel
theorem dX1_init_4 : decode cX1_init 4 = .ok (.aload_n 0, 1) := by decide +kernel
theorem dX1_init_5 : decode cX1_init 5 = .ok (.new 9, 3) := by decide +kernel
theorem dX1_init_8 : decode cX1_init 8 = .ok (.dup, 1) := by decide +kernel
theorem dX1_init_9 : decode cX1_init 9 = .ok (.sipush 240, 3) := by decide +kernel
theorem dX1_init_12 : decode cX1_init 12 = .ok (.invokespecial 11, 3) := by decide +kernel
theorem dX1_init_15 : decode cX1_init 15 = .ok (.putfield 14, 3) := by decide +kernel
theorem dX1_init_18 : decode cX1_init 18 = .ok (.aload_n 0, 1) := by decide +kernel
theorem dX1_init_19 : decode cX1_init 19 = .ok (.new 9, 3) := by decide +kernel
theorem dX1_init_22 : decode cX1_init 22 = .ok (.dup, 1) := by decide +kernel
theorem dX1_init_23 : decode cX1_init 23 = .ok (.sipush 240, 3) := by decide +kernel
theorem dX1_init_26 : decode cX1_init 26 = .ok (.invokespecial 11, 3) := by decide +kernel
theorem dX1_init_29 : decode cX1_init 29 = .ok (.putfield 20, 3) := by decide +kernel
theorem dX1_init_32 : decode cX1_init 32 = .ok (.aload_n 0, 1) := by decide +kernel
theorem dX1_init_33 : decode cX1_init 33 = .ok (.new 9, 3) := by decide +kernel
theorem dX1_init_36 : decode cX1_init 36 = .ok (.dup, 1) := by decide +kernel
theorem dX1_init_37 : decode cX1_init 37 = .ok (.bipush 20, 2) := by decide +kernel
theorem dX1_init_39 : decode cX1_init 39 = .ok (.invokespecial 11, 3) := by decide +kernel
theorem dX1_init_42 : decode cX1_init 42 = .ok (.putfield 23, 3) := by decide +kernel
theorem dX1_init_45 : decode cX1_init 45 = .ok (.aload_n 0, 1) := by decide +kernel
theorem dX1_init_46 : decode cX1_init 46 = .ok (.new 9, 3) := by decide +kernel
theorem dX1_init_49 : decode cX1_init 49 = .ok (.dup, 1) := by decide +kernel
theorem dX1_init_50 : decode cX1_init 50 = .ok (.bipush 20, 2) := by decide +kernel
theorem dX1_init_52 : decode cX1_init 52 = .ok (.invokespecial 11, 3) := by decide +kernel
theorem dX1_init_55 : decode cX1_init 55 = .ok (.putfield 26, 3) := by decide +kernel
theorem dX1_init_58 : decode cX1_init 58 = .ok (.aload_n 0, 1) := by decide +kernel
theorem dX1_init_59 : decode cX1_init 59 = .ok (.new 9, 3) := by decide +kernel
theorem dX1_init_62 : decode cX1_init 62 = .ok (.dup, 1) := by decide +kernel
theorem dX1_init_63 : decode cX1_init 63 = .ok (.bipush 20, 2) := by decide +kernel
theorem dX1_init_65 : decode cX1_init 65 = .ok (.invokespecial 11, 3) := by decide +kernel
theorem dX1_init_68 : decode cX1_init 68 = .ok (.putfield 29, 3) := by decide +kernel
theorem dX1_init_71 : decode cX1_init 71 = .ok (.aload_n 0, 1) := by decide +kernel
theorem dX1_init_72 : decode cX1_init 72 = .ok (.new 9, 3) := by decide +kernel
theorem dX1_init_75 : decode cX1_init 75 = .ok (.dup, 1) := by decide +kernel
theorem dX1_init_76 : decode cX1_init 76 = .ok (.bipush 20, 2) := by decide +kernel
theorem dX1_init_78 : decode cX1_init 78 = .ok (.invokespecial 11, 3) := by decide +kernel
theorem dX1_init_81 : decode cX1_init 81 = .ok (.putfield 32, 3) := by decide +kernel
theorem dX1_init_84 : decode cX1_init 84 = .ok (.aload_n 0, 1) := by decide +kernel
theorem dX1_init_85 : decode cX1_init 85 = .ok (.iconst 0, 1) := by decide +kernel
theorem dX1_init_86 : decode cX1_init 86 = .ok (.putfield 35, 3) := by decide +kernel
theorem dX1_init_89 : decode cX1_init 89 = .ok (.aload_n 0, 1) := by decide +kernel
theorem dX1_init_90 : decode cX1_init 90 = .ok (.iconst 0, 1) := by decide +kernel
theorem dX1_init_91 : decode cX1_init 91 = .ok (.putfield 39, 3) := by decide +kernel
theorem dX1_init_94 : decode cX1_init 94 = .ok (.return_, 1) := by decide +kernel
theorem dX1_copyLineage_0 : decode cX1_copyLineage 0 = .ok (.aload_n 0, 1) := by decide +kernel
theorem dX1_copyLineage_1 : decode cX1_copyLineage 1 = .ok (.getfield 14, 3) := by decide +kernel
theorem dX1_copyLineage_4 : decode cX1_copyLineage 4 = .ok (.aload_n 1, 1) := by decide +kernel
theorem dX1_copyLineage_5 : decode cX1_copyLineage 5 = .ok (.getfield 14, 3) := by decide +kernel
theorem dX1_copyLineage_8 : decode cX1_copyLineage 8 = .ok (.invokevirtual 42, 3) := by decide +kernel
theorem dX1_copyLineage_11 : decode cX1_copyLineage 11 = .ok (.aload_n 0, 1) := by decide +kernel
theorem dX1_copyLineage_12 : decode cX1_copyLineage 12 = .ok (.getfield 20, 3) := by decide +kernel
theorem dX1_copyLineage_15 : decode cX1_copyLineage 15 = .ok (.aload_n 1, 1) := by decide +kernel
theorem dX1_copyLineage_16 : decode cX1_copyLineage 16 = .ok (.getfield 20, 3) := by decide +kernel
theorem dX1_copyLineage_19 : decode cX1_copyLineage 19 = .ok (.invokevirtual 42, 3) := by decide +kernel
theorem dX1_copyLineage_22 : decode cX1_copyLineage 22 = .ok (.aload_n 0, 1) := by decide +kernel
theorem dX1_copyLineage_23 : decode cX1_copyLineage 23 = .ok (.getfield 23, 3) := by decide +kernel
theorem dX1_copyLineage_26 : decode cX1_copyLineage 26 = .ok (.aload_n 1, 1) := by decide +kernel
theorem dX1_copyLineage_27 : decode cX1_copyLineage 27 = .ok (.getfield 23, 3) := by decide +kernel
theorem dX1_copyLineage_30 : decode cX1_copyLineage 30 = .ok (.invokevirtual 42, 3) := by decide +kernel
theorem dX1_copyLineage_33 : decode cX1_copyLineage 33 = .ok (.aload_n 0, 1) := by decide +kernel
theorem dX1_copyLineage_34 : decode cX1_copyLineage 34 = .ok (.getfield 26, 3) := by decide +kernel
theorem dX1_copyLineage_37 : decode cX1_copyLineage 37 = .ok (.aload_n 1, 1) := by decide +kernel
theorem dX1_copyLineage_38 : decode cX1_copyLineage 38 = .ok (.getfield 26, 3) := by decide +kernel
theorem dX1_copyLineage_41 : decode cX1_copyLineage 41 = .ok (.invokevirtual 42, 3) := by decide +kernel
theorem dX1_copyLineage_44 : decode cX1_copyLineage 44 = .ok (.aload_n 0, 1) := by decide +kernel
theorem dX1_copyLineage_45 : decode cX1_copyLineage 45 = .ok (.getfield 29, 3) := by decide +kernel
theorem dX1_copyLineage_48 : decode cX1_copyLineage 48 = .ok (.aload_n 1, 1) := by decide +kernel
theorem dX1_copyLineage_49 : decode cX1_copyLineage 49 = .ok (.getfield 29, 3) := by decide +kernel
theorem dX1_copyLineage_52 : decode cX1_copyLineage 52 = .ok (.invokevirtual 42, 3) := by decide +kernel
theorem dX1_copyLineage_55 : decode cX1_copyLineage 55 = .ok (.aload_n 0, 1) := by decide +kernel
theorem dX1_copyLineage_56 : decode cX1_copyLineage 56 = .ok (.getfield 32, 3) := by decide +kernel
theorem dX1_copyLineage_59 : decode cX1_copyLineage 59 = .ok (.aload_n 1, 1) := by decide +kernel
theorem dX1_copyLineage_60 : decode cX1_copyLineage 60 = .ok (.getfield 32, 3) := by decide +kernel
theorem dX1_copyLineage_63 : decode cX1_copyLineage 63 = .ok (.invokevirtual 42, 3) := by decide +kernel
theorem dX1_copyLineage_66 : decode cX1_copyLineage 66 = .ok (.aload_n 0, 1) := by decide +kernel
theorem dX1_copyLineage_67 : decode cX1_copyLineage 67 = .ok (.aload_n 1, 1) := by decide +kernel
theorem dX1_copyLineage_68 : decode cX1_copyLineage 68 = .ok (.getfield 35, 3) := by decide +kernel
theorem dX1_copyLineage_71 : decode cX1_copyLineage 71 = .ok (.putfield 35, 3) := by decide +kernel
theorem dX1_copyLineage_74 : decode cX1_copyLineage 74 = .ok (.aload_n 0, 1) := by decide +kernel
theorem dX1_copyLineage_75 : decode cX1_copyLineage 75 = .ok (.aload_n 1, 1) := by decide +kernel
theorem dX1_copyLineage_76 : decode cX1_copyLineage 76 = .ok (.getfield 39, 3) := by decide +kernel
theorem dX1_copyLineage_79 : decode cX1_copyLineage 79 = .ok (.putfield 39, 3) := by decide +kernel
theorem dX1_copyLineage_82 : decode cX1_copyLineage 82 = .ok (.return_, 1) := by decide +kernel
theorem dX1_startWith_0 : decode cX1_startWith 0 = .ok (.aload_n 0, 1) := by decide +kernel
theorem dX1_startWith_1 : decode cX1_startWith 1 = .ok (.iload_n 1, 1) := by decide +kernel
theorem dX1_startWith_2 : decode cX1_startWith 2 = .ok (.putfield 35, 3) := by decide +kernel
theorem dX1_startWith_5 : decode cX1_startWith 5 = .ok (.aload_n 0, 1) := by decide +kernel
theorem dX1_startWith_6 : decode cX1_startWith 6 = .ok (.iconst 1, 1) := by decide +kernel
theorem dX1_startWith_7 : decode cX1_startWith 7 = .ok (.putfield 39, 3) := by decide +kernel
theorem dX1_startWith_10 : decode cX1_startWith 10 = .ok (.aload_n 0, 1) := by decide +kernel
theorem dX1_startWith_11 : decode cX1_startWith 11 = .ok (.getfield 23, 3) := by decide +kernel
theorem dX1_startWith_14 : decode cX1_startWith 14 = .ok (.iconst 0, 1) := by decide +kernel
theorem dX1_startWith_15 : decode cX1_startWith 15 = .ok (.iconst 0, 1) := by decide +kernel
theorem dX1_startWith_16 : decode cX1_startWith 16 = .ok (.invokevirtual 46, 3) := by decide +kernel
theorem dX1_startWith_19 : decode cX1_startWith 19 = .ok (.iconst 0, 1) := by decide +kernel
theorem dX1_startWith_20 : decode cX1_startWith 20 = .ok (.istore 4, 2) := by decide +kernel
theorem dX1_startWith_22 : decode cX1_startWith 22 = .ok (.iload 4, 2) := by decide +kernel
theorem dX1_startWith_24 : decode cX1_startWith 24 = .ok (.iload_n 1, 1) := by decide +kernel
theorem dX1_startWith_25 : decode cX1_startWith 25 = .ok (.if_icmp .ge 34, 3) := by decide +kernel
theorem dX1_startWith_28 : decode cX1_startWith 28 = .ok (.iload 4, 2) := by decide +kernel
theorem dX1_startWith_30 : decode cX1_startWith 30 = .ok (.bipush 12, 2) := by decide +kernel
theorem dX1_startWith_32 : decode cX1_startWith 32 = .ok (.if_icmp .ge 27, 3) := by decide +kernel
theorem dX1_startWith_35 : decode cX1_startWith 35 = .ok (.aload_n 0, 1) := by decide +kernel
theorem dX1_startWith_36 : decode cX1_startWith 36 = .ok (.getfield 14, 3) := by decide +kernel
theorem dX1_startWith_39 : decode cX1_startWith 39 = .ok (.iload 4, 2) := by decide +kernel
theorem dX1_startWith_41 : decode cX1_startWith 41 = .ok (.iload_n 2, 1) := by decide +kernel
theorem dX1_startWith_42 : decode cX1_startWith 42 = .ok (.iload 4, 2) := by decide +kernel
theorem dX1_startWith_44 : decode cX1_startWith 44 = .ok (.iload_n 3, 1) := by decide +kernel
theorem dX1_startWith_45 : decode cX1_startWith 45 = .ok (.imul, 1) := by decide +kernel
theorem dX1_startWith_46 : decode cX1_startWith 46 = .ok (.iadd, 1) := by decide +kernel
theorem dX1_startWith_47 : decode cX1_startWith 47 = .ok (.invokestatic 50, 3) := by decide +kernel
theorem dX1_startWith_50 : decode cX1_startWith 50 = .ok (.invokevirtual 46, 3) := by decide +kernel
theorem dX1_startWith_53 : decode cX1_startWith 53 = .ok (.iinc 4 1, 3) := by decide +kernel
theorem dX1_startWith_56 : decode cX1_startWith 56 = .ok (.goto (-34), 3) := by decide +kernel
theorem dX1_startWith_59 : decode cX1_startWith 59 = .ok (.return_, 1) := by decide +kernel
theorem dX1_addMoved_0 : decode cX1_addMoved 0 = .ok (.aload_n 0, 1) := by decide +kernel
theorem dX1_addMoved_1 : decode cX1_addMoved 1 = .ok (.getfield 23, 3) := by decide +kernel
theorem dX1_addMoved_4 : decode cX1_addMoved 4 = .ok (.aload_n 0, 1) := by decide +kernel
theorem dX1_addMoved_5 : decode cX1_addMoved 5 = .ok (.getfield 39, 3) := by decide +kernel
theorem dX1_addMoved_8 : decode cX1_addMoved 8 = .ok (.iconst 1, 1) := by decide +kernel
theorem dX1_addMoved_9 : decode cX1_addMoved 9 = .ok (.invokevirtual 46, 3) := by decide +kernel
theorem dX1_addMoved_12 : decode cX1_addMoved 12 = .ok (.aload_n 0, 1) := by decide +kernel
theorem dX1_addMoved_13 : decode cX1_addMoved 13 = .ok (.getfield 26, 3) := by decide +kernel
theorem dX1_addMoved_16 : decode cX1_addMoved 16 = .ok (.aload_n 0, 1) := by decide +kernel
theorem dX1_addMoved_17 : decode cX1_addMoved 17 = .ok (.getfield 39, 3) := by decide +kernel
theorem dX1_addMoved_20 : decode cX1_addMoved 20 = .ok (.iload_n 1, 1) := by decide +kernel
theorem dX1_addMoved_21 : decode cX1_addMoved 21 = .ok (.invokevirtual 46, 3) := by decide +kernel
theorem dX1_addMoved_24 : decode cX1_addMoved 24 = .ok (.aload_n 0, 1) := by decide +kernel
theorem dX1_addMoved_25 : decode cX1_addMoved 25 = .ok (.getfield 29, 3) := by decide +kernel
theorem dX1_addMoved_28 : decode cX1_addMoved 28 = .ok (.aload_n 0, 1) := by decide +kernel
theorem dX1_addMoved_29 : decode cX1_addMoved 29 = .ok (.getfield 39, 3) := by decide +kernel
theorem dX1_addMoved_32 : decode cX1_addMoved 32 = .ok (.iload_n 2, 1) := by decide +kernel
theorem dX1_addMoved_33 : decode cX1_addMoved 33 = .ok (.invokevirtual 46, 3) := by decide +kernel
theorem dX1_addMoved_36 : decode cX1_addMoved 36 = .ok (.aload_n 0, 1) := by decide +kernel
theorem dX1_addMoved_37 : decode cX1_addMoved 37 = .ok (.dup, 1) := by decide +kernel
theorem dX1_addMoved_38 : decode cX1_addMoved 38 = .ok (.getfield 39, 3) := by decide +kernel
theorem dX1_addMoved_41 : decode cX1_addMoved 41 = .ok (.iconst 1, 1) := by decide +kernel
theorem dX1_addMoved_42 : decode cX1_addMoved 42 = .ok (.iadd, 1) := by decide +kernel
theorem dX1_addMoved_43 : decode cX1_addMoved 43 = .ok (.putfield 39, 3) := by decide +kernel
theorem dX1_addMoved_46 : decode cX1_addMoved 46 = .ok (.return_, 1) := by decide +kernel
theorem dX1_addResampled_0 : decode cX1_addResampled 0 = .ok (.aload_n 0, 1) := by decide +kernel
theorem dX1_addResampled_1 : decode cX1_addResampled 1 = .ok (.getfield 23, 3) := by decide +kernel
theorem dX1_addResampled_4 : decode cX1_addResampled 4 = .ok (.aload_n 0, 1) := by decide +kernel
theorem dX1_addResampled_5 : decode cX1_addResampled 5 = .ok (.getfield 39, 3) := by decide +kernel
theorem dX1_addResampled_8 : decode cX1_addResampled 8 = .ok (.iconst 2, 1) := by decide +kernel
theorem dX1_addResampled_9 : decode cX1_addResampled 9 = .ok (.invokevirtual 46, 3) := by decide +kernel
theorem dX1_addResampled_12 : decode cX1_addResampled 12 = .ok (.aload_n 0, 1) := by decide +kernel
theorem dX1_addResampled_13 : decode cX1_addResampled 13 = .ok (.getfield 32, 3) := by decide +kernel
theorem dX1_addResampled_16 : decode cX1_addResampled 16 = .ok (.aload_n 0, 1) := by decide +kernel
theorem dX1_addResampled_17 : decode cX1_addResampled 17 = .ok (.getfield 39, 3) := by decide +kernel
theorem dX1_addResampled_20 : decode cX1_addResampled 20 = .ok (.iload_n 1, 1) := by decide +kernel
theorem dX1_addResampled_21 : decode cX1_addResampled 21 = .ok (.invokevirtual 46, 3) := by decide +kernel
theorem dX1_addResampled_24 : decode cX1_addResampled 24 = .ok (.aload_n 0, 1) := by decide +kernel
theorem dX1_addResampled_25 : decode cX1_addResampled 25 = .ok (.dup, 1) := by decide +kernel
theorem dX1_addResampled_26 : decode cX1_addResampled 26 = .ok (.getfield 39, 3) := by decide +kernel
theorem dX1_addResampled_29 : decode cX1_addResampled 29 = .ok (.iconst 1, 1) := by decide +kernel
theorem dX1_addResampled_30 : decode cX1_addResampled 30 = .ok (.iadd, 1) := by decide +kernel
theorem dX1_addResampled_31 : decode cX1_addResampled 31 = .ok (.putfield 39, 3) := by decide +kernel
theorem dX1_addResampled_34 : decode cX1_addResampled 34 = .ok (.return_, 1) := by decide +kernel
theorem dX1_putParticle_0 : decode cX1_putParticle 0 = .ok (.aload_n 0, 1) := by decide +kernel
theorem dX1_putParticle_1 : decode cX1_putParticle 1 = .ok (.invokevirtual 54, 3) := by decide +kernel
theorem dX1_putParticle_4 : decode cX1_putParticle 4 = .ok (.bipush 12, 2) := by decide +kernel
theorem dX1_putParticle_6 : decode cX1_putParticle 6 = .ok (.imul, 1) := by decide +kernel
theorem dX1_putParticle_7 : decode cX1_putParticle 7 = .ok (.iload_n 1, 1) := by decide +kernel
theorem dX1_putParticle_8 : decode cX1_putParticle 8 = .ok (.iadd, 1) := by decide +kernel
theorem dX1_putParticle_9 : decode cX1_putParticle 9 = .ok (.istore 4, 2) := by decide +kernel
theorem dX1_putParticle_11 : decode cX1_putParticle 11 = .ok (.aload_n 0, 1) := by decide +kernel
theorem dX1_putParticle_12 : decode cX1_putParticle 12 = .ok (.getfield 20, 3) := by decide +kernel
theorem dX1_putParticle_15 : decode cX1_putParticle 15 = .ok (.iload 4, 2) := by decide +kernel
theorem dX1_putParticle_17 : decode cX1_putParticle 17 = .ok (.iload_n 2, 1) := by decide +kernel
theorem dX1_putParticle_18 : decode cX1_putParticle 18 = .ok (.invokevirtual 46, 3) := by decide +kernel
theorem dX1_putParticle_21 : decode cX1_putParticle 21 = .ok (.aload_n 0, 1) := by decide +kernel
theorem dX1_putParticle_22 : decode cX1_putParticle 22 = .ok (.getfield 14, 3) := by decide +kernel
theorem dX1_putParticle_25 : decode cX1_putParticle 25 = .ok (.iload 4, 2) := by decide +kernel
theorem dX1_putParticle_27 : decode cX1_putParticle 27 = .ok (.iload_n 3, 1) := by decide +kernel
theorem dX1_putParticle_28 : decode cX1_putParticle 28 = .ok (.invokevirtual 46, 3) := by decide +kernel
theorem dX1_putParticle_31 : decode cX1_putParticle 31 = .ok (.return_, 1) := by decide +kernel
theorem dX1_many_0 : decode cX1_many 0 = .ok (.aload_n 0, 1) := by decide +kernel
theorem dX1_many_1 : decode cX1_many 1 = .ok (.getfield 35, 3) := by decide +kernel
theorem dX1_many_4 : decode cX1_many 4 = .ok (.ireturn, 1) := by decide +kernel
theorem dX1_generations_0 : decode cX1_generations 0 = .ok (.aload_n 0, 1) := by decide +kernel
theorem dX1_generations_1 : decode cX1_generations 1 = .ok (.getfield 39, 3) := by decide +kernel
theorem dX1_generations_4 : decode cX1_generations 4 = .ok (.ireturn, 1) := by decide +kernel
theorem dX1_latest_0 : decode cX1_latest 0 = .ok (.aload_n 0, 1) := by decide +kernel
theorem dX1_latest_1 : decode cX1_latest 1 = .ok (.getfield 39, 3) := by decide +kernel
theorem dX1_latest_4 : decode cX1_latest 4 = .ok (.iconst 1, 1) := by decide +kernel
theorem dX1_latest_5 : decode cX1_latest 5 = .ok (.isub, 1) := by decide +kernel
theorem dX1_latest_6 : decode cX1_latest 6 = .ok (.ireturn, 1) := by decide +kernel
theorem dX1_placeIn_0 : decode cX1_placeIn 0 = .ok (.aload_n 0, 1) := by decide +kernel
theorem dX1_placeIn_1 : decode cX1_placeIn 1 = .ok (.getfield 14, 3) := by decide +kernel
theorem dX1_placeIn_4 : decode cX1_placeIn 4 = .ok (.iload_n 1, 1) := by decide +kernel
theorem dX1_placeIn_5 : decode cX1_placeIn 5 = .ok (.bipush 12, 2) := by decide +kernel
theorem dX1_placeIn_7 : decode cX1_placeIn 7 = .ok (.imul, 1) := by decide +kernel
theorem dX1_placeIn_8 : decode cX1_placeIn 8 = .ok (.iload_n 2, 1) := by decide +kernel
theorem dX1_placeIn_9 : decode cX1_placeIn 9 = .ok (.iadd, 1) := by decide +kernel
theorem dX1_placeIn_10 : decode cX1_placeIn 10 = .ok (.invokevirtual 58, 3) := by decide +kernel
theorem dX1_placeIn_13 : decode cX1_placeIn 13 = .ok (.ireturn, 1) := by decide +kernel
theorem dX1_parentIn_0 : decode cX1_parentIn 0 = .ok (.aload_n 0, 1) := by decide +kernel
theorem dX1_parentIn_1 : decode cX1_parentIn 1 = .ok (.getfield 20, 3) := by decide +kernel
theorem dX1_parentIn_4 : decode cX1_parentIn 4 = .ok (.iload_n 1, 1) := by decide +kernel
theorem dX1_parentIn_5 : decode cX1_parentIn 5 = .ok (.bipush 12, 2) := by decide +kernel
theorem dX1_parentIn_7 : decode cX1_parentIn 7 = .ok (.imul, 1) := by decide +kernel
theorem dX1_parentIn_8 : decode cX1_parentIn 8 = .ok (.iload_n 2, 1) := by decide +kernel
theorem dX1_parentIn_9 : decode cX1_parentIn 9 = .ok (.iadd, 1) := by decide +kernel
theorem dX1_parentIn_10 : decode cX1_parentIn 10 = .ok (.invokevirtual 58, 3) := by decide +kernel
theorem dX1_parentIn_13 : decode cX1_parentIn 13 = .ok (.ireturn, 1) := by decide +kernel
theorem dX1_originOf_0 : decode cX1_originOf 0 = .ok (.aload_n 0, 1) := by decide +kernel
theorem dX1_originOf_1 : decode cX1_originOf 1 = .ok (.getfield 23, 3) := by decide +kernel
theorem dX1_originOf_4 : decode cX1_originOf 4 = .ok (.iload_n 1, 1) := by decide +kernel
theorem dX1_originOf_5 : decode cX1_originOf 5 = .ok (.invokevirtual 58, 3) := by decide +kernel
theorem dX1_originOf_8 : decode cX1_originOf 8 = .ok (.ireturn, 1) := by decide +kernel
theorem dX1_driftOf_0 : decode cX1_driftOf 0 = .ok (.aload_n 0, 1) := by decide +kernel
theorem dX1_driftOf_1 : decode cX1_driftOf 1 = .ok (.getfield 26, 3) := by decide +kernel
theorem dX1_driftOf_4 : decode cX1_driftOf 4 = .ok (.iload_n 1, 1) := by decide +kernel
theorem dX1_driftOf_5 : decode cX1_driftOf 5 = .ok (.invokevirtual 58, 3) := by decide +kernel
theorem dX1_driftOf_8 : decode cX1_driftOf 8 = .ok (.ireturn, 1) := by decide +kernel
theorem dX1_spreadOf_0 : decode cX1_spreadOf 0 = .ok (.aload_n 0, 1) := by decide +kernel
theorem dX1_spreadOf_1 : decode cX1_spreadOf 1 = .ok (.getfield 29, 3) := by decide +kernel
theorem dX1_spreadOf_4 : decode cX1_spreadOf 4 = .ok (.iload_n 1, 1) := by decide +kernel
theorem dX1_spreadOf_5 : decode cX1_spreadOf 5 = .ok (.invokevirtual 58, 3) := by decide +kernel
theorem dX1_spreadOf_8 : decode cX1_spreadOf 8 = .ok (.ireturn, 1) := by decide +kernel
theorem dX1_schemeOf_0 : decode cX1_schemeOf 0 = .ok (.aload_n 0, 1) := by decide +kernel
theorem dX1_schemeOf_1 : decode cX1_schemeOf 1 = .ok (.getfield 32, 3) := by decide +kernel
theorem dX1_schemeOf_4 : decode cX1_schemeOf 4 = .ok (.iload_n 1, 1) := by decide +kernel
theorem dX1_schemeOf_5 : decode cX1_schemeOf 5 = .ok (.invokevirtual 58, 3) := by decide +kernel
theorem dX1_schemeOf_8 : decode cX1_schemeOf 8 = .ok (.ireturn, 1) := by decide +kernel
theorem dX1_ancestorIn_0 : decode cX1_ancestorIn 0 = .ok (.iload_n 2, 1) := by decide +kernel
theorem dX1_ancestorIn_1 : decode cX1_ancestorIn 1 = .ok (.istore_n 3, 1) := by decide +kernel
theorem dX1_ancestorIn_2 : decode cX1_ancestorIn 2 = .ok (.aload_n 0, 1) := by decide +kernel
theorem dX1_ancestorIn_3 : decode cX1_ancestorIn 3 = .ok (.invokevirtual 54, 3) := by decide +kernel
theorem dX1_ancestorIn_6 : decode cX1_ancestorIn 6 = .ok (.istore 4, 2) := by decide +kernel
theorem dX1_ancestorIn_8 : decode cX1_ancestorIn 8 = .ok (.iload 4, 2) := by decide +kernel
theorem dX1_ancestorIn_10 : decode cX1_ancestorIn 10 = .ok (.iload_n 1, 1) := by decide +kernel
theorem dX1_ancestorIn_11 : decode cX1_ancestorIn 11 = .ok (.if_icmp .le 24, 3) := by decide +kernel
theorem dX1_ancestorIn_14 : decode cX1_ancestorIn 14 = .ok (.aload_n 0, 1) := by decide +kernel
theorem dX1_ancestorIn_15 : decode cX1_ancestorIn 15 = .ok (.getfield 20, 3) := by decide +kernel
theorem dX1_ancestorIn_18 : decode cX1_ancestorIn 18 = .ok (.iload 4, 2) := by decide +kernel
theorem dX1_ancestorIn_20 : decode cX1_ancestorIn 20 = .ok (.bipush 12, 2) := by decide +kernel
theorem dX1_ancestorIn_22 : decode cX1_ancestorIn 22 = .ok (.imul, 1) := by decide +kernel
theorem dX1_ancestorIn_23 : decode cX1_ancestorIn 23 = .ok (.iload_n 3, 1) := by decide +kernel
theorem dX1_ancestorIn_24 : decode cX1_ancestorIn 24 = .ok (.iadd, 1) := by decide +kernel
theorem dX1_ancestorIn_25 : decode cX1_ancestorIn 25 = .ok (.invokevirtual 58, 3) := by decide +kernel
theorem dX1_ancestorIn_28 : decode cX1_ancestorIn 28 = .ok (.istore_n 3, 1) := by decide +kernel
theorem dX1_ancestorIn_29 : decode cX1_ancestorIn 29 = .ok (.iinc 4 (-1), 3) := by decide +kernel
theorem dX1_ancestorIn_32 : decode cX1_ancestorIn 32 = .ok (.goto (-24), 3) := by decide +kernel
theorem dX1_ancestorIn_35 : decode cX1_ancestorIn 35 = .ok (.iload_n 3, 1) := by decide +kernel
theorem dX1_ancestorIn_36 : decode cX1_ancestorIn 36 = .ok (.ireturn, 1) := by decide +kernel
theorem dX1_howManyAreAncestors_0 : decode cX1_howManyAreAncestors 0 = .ok (.iconst 0, 1) := by decide +kernel
theorem dX1_howManyAreAncestors_1 : decode cX1_howManyAreAncestors 1 = .ok (.istore_n 2, 1) := by decide +kernel
theorem dX1_howManyAreAncestors_2 : decode cX1_howManyAreAncestors 2 = .ok (.iconst 0, 1) := by decide +kernel
theorem dX1_howManyAreAncestors_3 : decode cX1_howManyAreAncestors 3 = .ok (.istore_n 3, 1) := by decide +kernel
theorem dX1_howManyAreAncestors_4 : decode cX1_howManyAreAncestors 4 = .ok (.iload_n 3, 1) := by decide +kernel
theorem dX1_howManyAreAncestors_5 : decode cX1_howManyAreAncestors 5 = .ok (.aload_n 0, 1) := by decide +kernel
theorem dX1_howManyAreAncestors_6 : decode cX1_howManyAreAncestors 6 = .ok (.getfield 35, 3) := by decide +kernel
theorem dX1_howManyAreAncestors_9 : decode cX1_howManyAreAncestors 9 = .ok (.if_icmp .ge 20, 3) := by decide +kernel
theorem dX1_howManyAreAncestors_12 : decode cX1_howManyAreAncestors 12 = .ok (.iload_n 2, 1) := by decide +kernel
theorem dX1_howManyAreAncestors_13 : decode cX1_howManyAreAncestors 13 = .ok (.iconst 1, 1) := by decide +kernel
theorem dX1_howManyAreAncestors_14 : decode cX1_howManyAreAncestors 14 = .ok (.aload_n 0, 1) := by decide +kernel
theorem dX1_howManyAreAncestors_15 : decode cX1_howManyAreAncestors 15 = .ok (.iload_n 1, 1) := by decide +kernel
theorem dX1_howManyAreAncestors_16 : decode cX1_howManyAreAncestors 16 = .ok (.iload_n 3, 1) := by decide +kernel
theorem dX1_howManyAreAncestors_17 : decode cX1_howManyAreAncestors 17 = .ok (.invokevirtual 61, 3) := by decide +kernel
theorem dX1_howManyAreAncestors_20 : decode cX1_howManyAreAncestors 20 = .ok (.ishl, 1) := by decide +kernel
theorem dX1_howManyAreAncestors_21 : decode cX1_howManyAreAncestors 21 = .ok (.ior, 1) := by decide +kernel
theorem dX1_howManyAreAncestors_22 : decode cX1_howManyAreAncestors 22 = .ok (.istore_n 2, 1) := by decide +kernel
theorem dX1_howManyAreAncestors_23 : decode cX1_howManyAreAncestors 23 = .ok (.iinc 3 1, 3) := by decide +kernel
theorem dX1_howManyAreAncestors_26 : decode cX1_howManyAreAncestors 26 = .ok (.goto (-22), 3) := by decide +kernel
theorem dX1_howManyAreAncestors_29 : decode cX1_howManyAreAncestors 29 = .ok (.iload_n 2, 1) := by decide +kernel
theorem dX1_howManyAreAncestors_30 : decode cX1_howManyAreAncestors 30 = .ok (.invokestatic 65, 3) := by decide +kernel
theorem dX1_howManyAreAncestors_33 : decode cX1_howManyAreAncestors 33 = .ok (.ireturn, 1) := by decide +kernel
theorem dX1_howManyAt_0 : decode cX1_howManyAt 0 = .ok (.iconst 0, 1) := by decide +kernel
theorem dX1_howManyAt_1 : decode cX1_howManyAt 1 = .ok (.istore_n 3, 1) := by decide +kernel
theorem dX1_howManyAt_2 : decode cX1_howManyAt 2 = .ok (.iconst 0, 1) := by decide +kernel
theorem dX1_howManyAt_3 : decode cX1_howManyAt 3 = .ok (.istore 4, 2) := by decide +kernel
theorem dX1_howManyAt_5 : decode cX1_howManyAt 5 = .ok (.iload 4, 2) := by decide +kernel
theorem dX1_howManyAt_7 : decode cX1_howManyAt 7 = .ok (.aload_n 0, 1) := by decide +kernel
theorem dX1_howManyAt_8 : decode cX1_howManyAt 8 = .ok (.getfield 35, 3) := by decide +kernel
theorem dX1_howManyAt_11 : decode cX1_howManyAt 11 = .ok (.if_icmp .ge 23, 3) := by decide +kernel
theorem dX1_howManyAt_14 : decode cX1_howManyAt 14 = .ok (.aload_n 0, 1) := by decide +kernel
theorem dX1_howManyAt_15 : decode cX1_howManyAt 15 = .ok (.iload_n 1, 1) := by decide +kernel
theorem dX1_howManyAt_16 : decode cX1_howManyAt 16 = .ok (.iload 4, 2) := by decide +kernel
theorem dX1_howManyAt_18 : decode cX1_howManyAt 18 = .ok (.invokevirtual 70, 3) := by decide +kernel
theorem dX1_howManyAt_21 : decode cX1_howManyAt 21 = .ok (.iload_n 2, 1) := by decide +kernel
theorem dX1_howManyAt_22 : decode cX1_howManyAt 22 = .ok (.if_icmp .ne 6, 3) := by decide +kernel
theorem dX1_howManyAt_25 : decode cX1_howManyAt 25 = .ok (.iinc 3 1, 3) := by decide +kernel
theorem dX1_howManyAt_28 : decode cX1_howManyAt 28 = .ok (.iinc 4 1, 3) := by decide +kernel
theorem dX1_howManyAt_31 : decode cX1_howManyAt 31 = .ok (.goto (-26), 3) := by decide +kernel
theorem dX1_howManyAt_34 : decode cX1_howManyAt 34 = .ok (.iload_n 3, 1) := by decide +kernel
theorem dX1_howManyAt_35 : decode cX1_howManyAt 35 = .ok (.ireturn, 1) := by decide +kernel
theorem dX1_howManyUnlikePlaces_0 : decode cX1_howManyUnlikePlaces 0 = .ok (.iconst 0, 1) := by decide +kernel
theorem dX1_howManyUnlikePlaces_1 : decode cX1_howManyUnlikePlaces 1 = .ok (.istore_n 2, 1) := by decide +kernel
theorem dX1_howManyUnlikePlaces_2 : decode cX1_howManyUnlikePlaces 2 = .ok (.iconst 0, 1) := by decide +kernel
theorem dX1_howManyUnlikePlaces_3 : decode cX1_howManyUnlikePlaces 3 = .ok (.istore_n 3, 1) := by decide +kernel
theorem dX1_howManyUnlikePlaces_4 : decode cX1_howManyUnlikePlaces 4 = .ok (.iload_n 3, 1) := by decide +kernel
theorem dX1_howManyUnlikePlaces_5 : decode cX1_howManyUnlikePlaces 5 = .ok (.aload_n 0, 1) := by decide +kernel
theorem dX1_howManyUnlikePlaces_6 : decode cX1_howManyUnlikePlaces 6 = .ok (.getfield 35, 3) := by decide +kernel
theorem dX1_howManyUnlikePlaces_9 : decode cX1_howManyUnlikePlaces 9 = .ok (.if_icmp .ge 21, 3) := by decide +kernel
theorem dX1_howManyUnlikePlaces_12 : decode cX1_howManyUnlikePlaces 12 = .ok (.aload_n 0, 1) := by decide +kernel
theorem dX1_howManyUnlikePlaces_13 : decode cX1_howManyUnlikePlaces 13 = .ok (.iload_n 1, 1) := by decide +kernel
theorem dX1_howManyUnlikePlaces_14 : decode cX1_howManyUnlikePlaces 14 = .ok (.iload_n 3, 1) := by decide +kernel
theorem dX1_howManyUnlikePlaces_15 : decode cX1_howManyUnlikePlaces 15 = .ok (.invokevirtual 73, 3) := by decide +kernel
theorem dX1_howManyUnlikePlaces_18 : decode cX1_howManyUnlikePlaces 18 = .ok (.ifCond .eq 6, 3) := by decide +kernel
theorem dX1_howManyUnlikePlaces_21 : decode cX1_howManyUnlikePlaces 21 = .ok (.iinc 2 1, 3) := by decide +kernel
theorem dX1_howManyUnlikePlaces_24 : decode cX1_howManyUnlikePlaces 24 = .ok (.iinc 3 1, 3) := by decide +kernel
theorem dX1_howManyUnlikePlaces_27 : decode cX1_howManyUnlikePlaces 27 = .ok (.goto (-23), 3) := by decide +kernel
theorem dX1_howManyUnlikePlaces_30 : decode cX1_howManyUnlikePlaces 30 = .ok (.iload_n 2, 1) := by decide +kernel
theorem dX1_howManyUnlikePlaces_31 : decode cX1_howManyUnlikePlaces 31 = .ok (.ireturn, 1) := by decide +kernel
theorem dX1_isFirstAtItsPlace_0 : decode cX1_isFirstAtItsPlace 0 = .ok (.aload_n 0, 1) := by decide +kernel
theorem dX1_isFirstAtItsPlace_1 : decode cX1_isFirstAtItsPlace 1 = .ok (.iload_n 1, 1) := by decide +kernel
theorem dX1_isFirstAtItsPlace_2 : decode cX1_isFirstAtItsPlace 2 = .ok (.iload_n 2, 1) := by decide +kernel
theorem dX1_isFirstAtItsPlace_3 : decode cX1_isFirstAtItsPlace 3 = .ok (.invokevirtual 70, 3) := by decide +kernel
theorem dX1_isFirstAtItsPlace_6 : decode cX1_isFirstAtItsPlace 6 = .ok (.istore_n 3, 1) := by decide +kernel
theorem dX1_isFirstAtItsPlace_7 : decode cX1_isFirstAtItsPlace 7 = .ok (.iconst 0, 1) := by decide +kernel
theorem dX1_isFirstAtItsPlace_8 : decode cX1_isFirstAtItsPlace 8 = .ok (.istore 4, 2) := by decide +kernel
theorem dX1_isFirstAtItsPlace_10 : decode cX1_isFirstAtItsPlace 10 = .ok (.iload 4, 2) := by decide +kernel
theorem dX1_isFirstAtItsPlace_12 : decode cX1_isFirstAtItsPlace 12 = .ok (.iload_n 2, 1) := by decide +kernel
theorem dX1_isFirstAtItsPlace_13 : decode cX1_isFirstAtItsPlace 13 = .ok (.if_icmp .ge 22, 3) := by decide +kernel
theorem dX1_isFirstAtItsPlace_16 : decode cX1_isFirstAtItsPlace 16 = .ok (.aload_n 0, 1) := by decide +kernel
theorem dX1_isFirstAtItsPlace_17 : decode cX1_isFirstAtItsPlace 17 = .ok (.iload_n 1, 1) := by decide +kernel
theorem dX1_isFirstAtItsPlace_18 : decode cX1_isFirstAtItsPlace 18 = .ok (.iload 4, 2) := by decide +kernel
theorem dX1_isFirstAtItsPlace_20 : decode cX1_isFirstAtItsPlace 20 = .ok (.invokevirtual 70, 3) := by decide +kernel
theorem dX1_isFirstAtItsPlace_23 : decode cX1_isFirstAtItsPlace 23 = .ok (.iload_n 3, 1) := by decide +kernel
theorem dX1_isFirstAtItsPlace_24 : decode cX1_isFirstAtItsPlace 24 = .ok (.if_icmp .ne 5, 3) := by decide +kernel
theorem dX1_isFirstAtItsPlace_27 : decode cX1_isFirstAtItsPlace 27 = .ok (.iconst 0, 1) := by decide +kernel
theorem dX1_isFirstAtItsPlace_28 : decode cX1_isFirstAtItsPlace 28 = .ok (.ireturn, 1) := by decide +kernel
theorem dX1_isFirstAtItsPlace_29 : decode cX1_isFirstAtItsPlace 29 = .ok (.iinc 4 1, 3) := by decide +kernel
theorem dX1_isFirstAtItsPlace_32 : decode cX1_isFirstAtItsPlace 32 = .ok (.goto (-22), 3) := by decide +kernel
theorem dX1_isFirstAtItsPlace_35 : decode cX1_isFirstAtItsPlace 35 = .ok (.iconst 1, 1) := by decide +kernel
theorem dX1_isFirstAtItsPlace_36 : decode cX1_isFirstAtItsPlace 36 = .ok (.ireturn, 1) := by decide +kernel
theorem dX2_init_0 : decode cX2_init 0 = .ok (.aload_n 0, 1) := by decide +kernel
theorem dX2_init_1 : decode cX2_init 1 = .ok (.invokespecial 1, 3) := by decide +kernel
theorem dX2_init_4 : decode cX2_init 4 = .ok (.aload_n 0, 1) := by decide +kernel
theorem dX2_init_5 : decode cX2_init 5 = .ok (.iconst 0, 1) := by decide +kernel
theorem dX2_init_6 : decode cX2_init 6 = .ok (.iload_n 1, 1) := by decide +kernel
theorem dX2_init_7 : decode cX2_init 7 = .ok (.invokestatic 7, 3) := by decide +kernel
theorem dX2_init_10 : decode cX2_init 10 = .ok (.newarray .int, 2) := by decide +kernel
theorem dX2_init_12 : decode cX2_init 12 = .ok (.putfield 13, 3) := by decide +kernel
theorem dX2_init_15 : decode cX2_init 15 = .ok (.return_, 1) := by decide +kernel
theorem dX2_at_0 : decode cX2_at 0 = .ok (.iload_n 1, 1) := by decide +kernel
theorem dX2_at_1 : decode cX2_at 1 = .ok (.ifCond .lt 12, 3) := by decide +kernel
theorem dX2_at_4 : decode cX2_at 4 = .ok (.iload_n 1, 1) := by decide +kernel
theorem dX2_at_5 : decode cX2_at 5 = .ok (.aload_n 0, 1) := by decide +kernel
theorem dX2_at_6 : decode cX2_at 6 = .ok (.getfield 13, 3) := by decide +kernel
theorem dX2_at_9 : decode cX2_at 9 = .ok (.arraylength, 1) := by decide +kernel
theorem dX2_at_10 : decode cX2_at 10 = .ok (.if_icmp .lt 5, 3) := by decide +kernel
theorem dX2_at_13 : decode cX2_at 13 = .ok (.iconst 0, 1) := by decide +kernel
theorem dX2_at_14 : decode cX2_at 14 = .ok (.ireturn, 1) := by decide +kernel
theorem dX2_at_15 : decode cX2_at 15 = .ok (.aload_n 0, 1) := by decide +kernel
theorem dX2_at_16 : decode cX2_at 16 = .ok (.getfield 13, 3) := by decide +kernel
theorem dX2_at_19 : decode cX2_at 19 = .ok (.iload_n 1, 1) := by decide +kernel
theorem dX2_at_20 : decode cX2_at 20 = .ok (.iaload, 1) := by decide +kernel
theorem dX2_at_21 : decode cX2_at 21 = .ok (.ireturn, 1) := by decide +kernel
theorem dX2_put_0 : decode cX2_put 0 = .ok (.iload_n 1, 1) := by decide +kernel
theorem dX2_put_1 : decode cX2_put 1 = .ok (.ifCond .lt 19, 3) := by decide +kernel
theorem dX2_put_4 : decode cX2_put 4 = .ok (.iload_n 1, 1) := by decide +kernel
theorem dX2_put_5 : decode cX2_put 5 = .ok (.aload_n 0, 1) := by decide +kernel
theorem dX2_put_6 : decode cX2_put 6 = .ok (.getfield 13, 3) := by decide +kernel
theorem dX2_put_9 : decode cX2_put 9 = .ok (.arraylength, 1) := by decide +kernel
theorem dX2_put_10 : decode cX2_put 10 = .ok (.if_icmp .ge 10, 3) := by decide +kernel
theorem dX2_put_13 : decode cX2_put 13 = .ok (.aload_n 0, 1) := by decide +kernel
theorem dX2_put_14 : decode cX2_put 14 = .ok (.getfield 13, 3) := by decide +kernel
theorem dX2_put_17 : decode cX2_put 17 = .ok (.iload_n 1, 1) := by decide +kernel
theorem dX2_put_18 : decode cX2_put 18 = .ok (.iload_n 2, 1) := by decide +kernel
theorem dX2_put_19 : decode cX2_put 19 = .ok (.iastore, 1) := by decide +kernel
theorem dX2_put_20 : decode cX2_put 20 = .ok (.return_, 1) := by decide +kernel
theorem dX2_copyRow_0 : decode cX2_copyRow 0 = .ok (.iconst 0, 1) := by decide +kernel
theorem dX2_copyRow_1 : decode cX2_copyRow 1 = .ok (.istore_n 2, 1) := by decide +kernel
theorem dX2_copyRow_2 : decode cX2_copyRow 2 = .ok (.iload_n 2, 1) := by decide +kernel
theorem dX2_copyRow_3 : decode cX2_copyRow 3 = .ok (.aload_n 0, 1) := by decide +kernel
theorem dX2_copyRow_4 : decode cX2_copyRow 4 = .ok (.getfield 13, 3) := by decide +kernel
theorem dX2_copyRow_7 : decode cX2_copyRow 7 = .ok (.arraylength, 1) := by decide +kernel
theorem dX2_copyRow_8 : decode cX2_copyRow 8 = .ok (.if_icmp .ge 30, 3) := by decide +kernel
theorem dX2_copyRow_11 : decode cX2_copyRow 11 = .ok (.iload_n 2, 1) := by decide +kernel
theorem dX2_copyRow_12 : decode cX2_copyRow 12 = .ok (.aload_n 1, 1) := by decide +kernel
theorem dX2_copyRow_13 : decode cX2_copyRow 13 = .ok (.getfield 13, 3) := by decide +kernel
theorem dX2_copyRow_16 : decode cX2_copyRow 16 = .ok (.arraylength, 1) := by decide +kernel
theorem dX2_copyRow_17 : decode cX2_copyRow 17 = .ok (.if_icmp .ge 21, 3) := by decide +kernel
theorem dX2_copyRow_20 : decode cX2_copyRow 20 = .ok (.aload_n 0, 1) := by decide +kernel
theorem dX2_copyRow_21 : decode cX2_copyRow 21 = .ok (.getfield 13, 3) := by decide +kernel
theorem dX2_copyRow_24 : decode cX2_copyRow 24 = .ok (.iload_n 2, 1) := by decide +kernel
theorem dX2_copyRow_25 : decode cX2_copyRow 25 = .ok (.aload_n 1, 1) := by decide +kernel
theorem dX2_copyRow_26 : decode cX2_copyRow 26 = .ok (.getfield 13, 3) := by decide +kernel
theorem dX2_copyRow_29 : decode cX2_copyRow 29 = .ok (.iload_n 2, 1) := by decide +kernel
theorem dX2_copyRow_30 : decode cX2_copyRow 30 = .ok (.iaload, 1) := by decide +kernel
theorem dX2_copyRow_31 : decode cX2_copyRow 31 = .ok (.iastore, 1) := by decide +kernel
theorem dX2_copyRow_32 : decode cX2_copyRow 32 = .ok (.iinc 2 1, 3) := by decide +kernel
theorem dX2_copyRow_35 : decode cX2_copyRow 35 = .ok (.goto (-33), 3) := by decide +kernel
theorem dX2_copyRow_38 : decode cX2_copyRow 38 = .ok (.return_, 1) := by decide +kernel
theorem dX3_init_0 : decode cX3_init 0 = .ok (.aload_n 0, 1) := by decide +kernel
theorem dX3_init_1 : decode cX3_init 1 = .ok (.invokespecial 3, 3) := by decide +kernel
theorem dX3_init_4 : decode cX3_init 4 = .ok (.aload_n 0, 1) := by decide +kernel
theorem dX3_init_5 : decode cX3_init 5 = .ok (.bipush 60, 2) := by decide +kernel
theorem dX3_init_7 : decode cX3_init 7 = .ok (.newarray .int, 2) := by decide +kernel
theorem dX3_init_9 : decode cX3_init 9 = .ok (.putfield 9, 3) := by decide +kernel
theorem dX3_init_12 : decode cX3_init 12 = .ok (.return_, 1) := by decide +kernel
theorem dX3_length_0 : decode cX3_length 0 = .ok (.aload_n 0, 1) := by decide +kernel
theorem dX3_length_1 : decode cX3_length 1 = .ok (.getfield 15, 3) := by decide +kernel
theorem dX3_length_4 : decode cX3_length 4 = .ok (.ireturn, 1) := by decide +kernel
theorem dX4_init_0 : decode cX4_init 0 = .ok (.aload_n 0, 1) := by decide +kernel
theorem dX4_init_1 : decode cX4_init 1 = .ok (.invokespecial 3, 3) := by decide +kernel
theorem dX4_init_4 : decode cX4_init 4 = .ok (.aload_n 0, 1) := by decide +kernel
theorem dX4_init_5 : decode cX4_init 5 = .ok (.new 9, 3) := by decide +kernel
theorem dX4_init_8 : decode cX4_init 8 = .ok (.dup, 1) := by decide +kernel
theorem dX4_init_9 : decode cX4_init 9 = .ok (.invokespecial 11, 3) := by decide +kernel
theorem dX4_init_12 : decode cX4_init 12 = .ok (.putfield 12, 3) := by decide +kernel
theorem dX4_init_15 : decode cX4_init 15 = .ok (.aload_n 0, 1) := by decide +kernel
theorem dX4_init_16 : decode cX4_init 16 = .ok (.new 18, 3) := by decide +kernel
theorem dX4_init_19 : decode cX4_init 19 = .ok (.dup, 1) := by decide +kernel
theorem dX4_init_20 : decode cX4_init 20 = .ok (.invokespecial 20, 3) := by decide +kernel
theorem dX4_init_23 : decode cX4_init 23 = .ok (.putfield 21, 3) := by decide +kernel
theorem dX4_init_26 : decode cX4_init 26 = .ok (.aload_n 0, 1) := by decide +kernel
theorem dX4_init_27 : decode cX4_init 27 = .ok (.new 25, 3) := by decide +kernel
theorem dX4_init_30 : decode cX4_init 30 = .ok (.dup, 1) := by decide +kernel
