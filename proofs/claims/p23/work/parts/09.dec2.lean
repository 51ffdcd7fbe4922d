theorem dX5_reduce_49 : decode cX5_reduce 49 = .ok (.iload_n 3, 1) := by decide +kernel
theorem dX5_reduce_50 : decode cX5_reduce 50 = .ok (.aload_n 0, 1) := by decide +kernel
theorem dX5_reduce_51 : decode cX5_reduce 51 = .ok (.getfield 15, 3) := by decide +kernel
theorem dX5_reduce_54 : decode cX5_reduce 54 = .ok (.if_icmp .ge 34, 3) := by decide +kernel
theorem dX5_reduce_57 : decode cX5_reduce 57 = .ok (.iload_n 3, 1) := by decide +kernel
theorem dX5_reduce_58 : decode cX5_reduce 58 = .ok (.aload_n 0, 1) := by decide +kernel
theorem dX5_reduce_59 : decode cX5_reduce 59 = .ok (.getfield 9, 3) := by decide +kernel
theorem dX5_reduce_62 : decode cX5_reduce 62 = .ok (.arraylength, 1) := by decide +kernel
theorem dX5_reduce_63 : decode cX5_reduce 63 = .ok (.if_icmp .ge 25, 3) := by decide +kernel
theorem dX5_reduce_66 : decode cX5_reduce 66 = .ok (.aload_n 0, 1) := by decide +kernel
theorem dX5_reduce_67 : decode cX5_reduce 67 = .ok (.getfield 9, 3) := by decide +kernel
theorem dX5_reduce_70 : decode cX5_reduce 70 = .ok (.iload_n 3, 1) := by decide +kernel
theorem dX5_reduce_71 : decode cX5_reduce 71 = .ok (.aload_n 0, 1) := by decide +kernel
theorem dX5_reduce_72 : decode cX5_reduce 72 = .ok (.getfield 9, 3) := by decide +kernel
theorem dX5_reduce_75 : decode cX5_reduce 75 = .ok (.iload_n 3, 1) := by decide +kernel
theorem dX5_reduce_76 : decode cX5_reduce 76 = .ok (.iaload, 1) := by decide +kernel
theorem dX5_reduce_77 : decode cX5_reduce 77 = .ok (.i2l, 1) := by decide +kernel
theorem dX5_reduce_78 : decode cX5_reduce 78 = .ok (.lload_n 1, 1) := by decide +kernel
theorem dX5_reduce_79 : decode cX5_reduce 79 = .ok (.ldiv, 1) := by decide +kernel
theorem dX5_reduce_80 : decode cX5_reduce 80 = .ok (.l2i, 1) := by decide +kernel
theorem dX5_reduce_81 : decode cX5_reduce 81 = .ok (.iastore, 1) := by decide +kernel
theorem dX5_reduce_82 : decode cX5_reduce 82 = .ok (.iinc 3 1, 3) := by decide +kernel
theorem dX5_reduce_85 : decode cX5_reduce 85 = .ok (.goto (-36), 3) := by decide +kernel
theorem dX5_reduce_88 : decode cX5_reduce 88 = .ok (.iconst 1, 1) := by decide +kernel
theorem dX5_reduce_89 : decode cX5_reduce 89 = .ok (.ireturn, 1) := by decide +kernel
theorem dX5_greatest_0 : decode cX5_greatest 0 = .ok (.iconst 0, 1) := by decide +kernel
theorem dX5_greatest_1 : decode cX5_greatest 1 = .ok (.istore_n 1, 1) := by decide +kernel
theorem dX5_greatest_2 : decode cX5_greatest 2 = .ok (.iconst 0, 1) := by decide +kernel
theorem dX5_greatest_3 : decode cX5_greatest 3 = .ok (.istore_n 2, 1) := by decide +kernel
theorem dX5_greatest_4 : decode cX5_greatest 4 = .ok (.iload_n 2, 1) := by decide +kernel
theorem dX5_greatest_5 : decode cX5_greatest 5 = .ok (.aload_n 0, 1) := by decide +kernel
theorem dX5_greatest_6 : decode cX5_greatest 6 = .ok (.getfield 15, 3) := by decide +kernel
theorem dX5_greatest_9 : decode cX5_greatest 9 = .ok (.if_icmp .ge 29, 3) := by decide +kernel
theorem dX5_greatest_12 : decode cX5_greatest 12 = .ok (.iload_n 2, 1) := by decide +kernel
theorem dX5_greatest_13 : decode cX5_greatest 13 = .ok (.aload_n 0, 1) := by decide +kernel
theorem dX5_greatest_14 : decode cX5_greatest 14 = .ok (.getfield 9, 3) := by decide +kernel
theorem dX5_greatest_17 : decode cX5_greatest 17 = .ok (.arraylength, 1) := by decide +kernel
theorem dX5_greatest_18 : decode cX5_greatest 18 = .ok (.if_icmp .ge 20, 3) := by decide +kernel
theorem dX5_greatest_21 : decode cX5_greatest 21 = .ok (.iload_n 1, 1) := by decide +kernel
theorem dX5_greatest_22 : decode cX5_greatest 22 = .ok (.aload_n 0, 1) := by decide +kernel
theorem dX5_greatest_23 : decode cX5_greatest 23 = .ok (.getfield 9, 3) := by decide +kernel
theorem dX5_greatest_26 : decode cX5_greatest 26 = .ok (.iload_n 2, 1) := by decide +kernel
theorem dX5_greatest_27 : decode cX5_greatest 27 = .ok (.iaload, 1) := by decide +kernel
theorem dX5_greatest_28 : decode cX5_greatest 28 = .ok (.invokestatic 25, 3) := by decide +kernel
theorem dX5_greatest_31 : decode cX5_greatest 31 = .ok (.istore_n 1, 1) := by decide +kernel
theorem dX5_greatest_32 : decode cX5_greatest 32 = .ok (.iinc 2 1, 3) := by decide +kernel
theorem dX5_greatest_35 : decode cX5_greatest 35 = .ok (.goto (-31), 3) := by decide +kernel
theorem dX5_greatest_38 : decode cX5_greatest 38 = .ok (.iload_n 1, 1) := by decide +kernel
theorem dX5_greatest_39 : decode cX5_greatest 39 = .ok (.ireturn, 1) := by decide +kernel
theorem dX5_sum_0 : decode cX5_sum 0 = .ok (.lconst 0, 1) := by decide +kernel
theorem dX5_sum_1 : decode cX5_sum 1 = .ok (.lstore_n 1, 1) := by decide +kernel
theorem dX5_sum_2 : decode cX5_sum 2 = .ok (.iconst 0, 1) := by decide +kernel
theorem dX5_sum_3 : decode cX5_sum 3 = .ok (.istore_n 3, 1) := by decide +kernel
theorem dX5_sum_4 : decode cX5_sum 4 = .ok (.iload_n 3, 1) := by decide +kernel
theorem dX5_sum_5 : decode cX5_sum 5 = .ok (.aload_n 0, 1) := by decide +kernel
theorem dX5_sum_6 : decode cX5_sum 6 = .ok (.getfield 15, 3) := by decide +kernel
theorem dX5_sum_9 : decode cX5_sum 9 = .ok (.if_icmp .ge 28, 3) := by decide +kernel
theorem dX5_sum_12 : decode cX5_sum 12 = .ok (.iload_n 3, 1) := by decide +kernel
theorem dX5_sum_13 : decode cX5_sum 13 = .ok (.aload_n 0, 1) := by decide +kernel
theorem dX5_sum_14 : decode cX5_sum 14 = .ok (.getfield 9, 3) := by decide +kernel
theorem dX5_sum_17 : decode cX5_sum 17 = .ok (.arraylength, 1) := by decide +kernel
theorem dX5_sum_18 : decode cX5_sum 18 = .ok (.if_icmp .ge 19, 3) := by decide +kernel
theorem dX5_sum_21 : decode cX5_sum 21 = .ok (.lload_n 1, 1) := by decide +kernel
theorem dX5_sum_22 : decode cX5_sum 22 = .ok (.aload_n 0, 1) := by decide +kernel
theorem dX5_sum_23 : decode cX5_sum 23 = .ok (.getfield 9, 3) := by decide +kernel
theorem dX5_sum_26 : decode cX5_sum 26 = .ok (.iload_n 3, 1) := by decide +kernel
theorem dX5_sum_27 : decode cX5_sum 27 = .ok (.iaload, 1) := by decide +kernel
theorem dX5_sum_28 : decode cX5_sum 28 = .ok (.i2l, 1) := by decide +kernel
theorem dX5_sum_29 : decode cX5_sum 29 = .ok (.ladd, 1) := by decide +kernel
theorem dX5_sum_30 : decode cX5_sum 30 = .ok (.lstore_n 1, 1) := by decide +kernel
theorem dX5_sum_31 : decode cX5_sum 31 = .ok (.iinc 3 1, 3) := by decide +kernel
theorem dX5_sum_34 : decode cX5_sum 34 = .ok (.goto (-30), 3) := by decide +kernel
theorem dX5_sum_37 : decode cX5_sum 37 = .ok (.lload_n 1, 1) := by decide +kernel
theorem dX5_sum_38 : decode cX5_sum 38 = .ok (.lreturn, 1) := by decide +kernel
theorem dX5_effectiveCount_0 : decode cX5_effectiveCount 0 = .ok (.lconst 0, 1) := by decide +kernel
theorem dX5_effectiveCount_1 : decode cX5_effectiveCount 1 = .ok (.lstore_n 1, 1) := by decide +kernel
theorem dX5_effectiveCount_2 : decode cX5_effectiveCount 2 = .ok (.lconst 0, 1) := by decide +kernel
theorem dX5_effectiveCount_3 : decode cX5_effectiveCount 3 = .ok (.lstore_n 3, 1) := by decide +kernel
theorem dX5_effectiveCount_4 : decode cX5_effectiveCount 4 = .ok (.iconst 0, 1) := by decide +kernel
theorem dX5_effectiveCount_5 : decode cX5_effectiveCount 5 = .ok (.istore 5, 2) := by decide +kernel
theorem dX5_effectiveCount_7 : decode cX5_effectiveCount 7 = .ok (.iload 5, 2) := by decide +kernel
theorem dX5_effectiveCount_9 : decode cX5_effectiveCount 9 = .ok (.aload_n 0, 1) := by decide +kernel
theorem dX5_effectiveCount_10 : decode cX5_effectiveCount 10 = .ok (.getfield 15, 3) := by decide +kernel
theorem dX5_effectiveCount_13 : decode cX5_effectiveCount 13 = .ok (.if_icmp .ge 42, 3) := by decide +kernel
theorem dX5_effectiveCount_16 : decode cX5_effectiveCount 16 = .ok (.iload 5, 2) := by decide +kernel
theorem dX5_effectiveCount_18 : decode cX5_effectiveCount 18 = .ok (.aload_n 0, 1) := by decide +kernel
theorem dX5_effectiveCount_19 : decode cX5_effectiveCount 19 = .ok (.getfield 9, 3) := by decide +kernel
theorem dX5_effectiveCount_22 : decode cX5_effectiveCount 22 = .ok (.arraylength, 1) := by decide +kernel
theorem dX5_effectiveCount_23 : decode cX5_effectiveCount 23 = .ok (.if_icmp .ge 32, 3) := by decide +kernel
theorem dX5_effectiveCount_26 : decode cX5_effectiveCount 26 = .ok (.aload_n 0, 1) := by decide +kernel
theorem dX5_effectiveCount_27 : decode cX5_effectiveCount 27 = .ok (.getfield 9, 3) := by decide +kernel
theorem dX5_effectiveCount_30 : decode cX5_effectiveCount 30 = .ok (.iload 5, 2) := by decide +kernel
theorem dX5_effectiveCount_32 : decode cX5_effectiveCount 32 = .ok (.iaload, 1) := by decide +kernel
theorem dX5_effectiveCount_33 : decode cX5_effectiveCount 33 = .ok (.i2l, 1) := by decide +kernel
theorem dX5_effectiveCount_34 : decode cX5_effectiveCount 34 = .ok (.lstore 6, 2) := by decide +kernel
theorem dX5_effectiveCount_36 : decode cX5_effectiveCount 36 = .ok (.lload_n 1, 1) := by decide +kernel
theorem dX5_effectiveCount_37 : decode cX5_effectiveCount 37 = .ok (.lload 6, 2) := by decide +kernel
theorem dX5_effectiveCount_39 : decode cX5_effectiveCount 39 = .ok (.ladd, 1) := by decide +kernel
theorem dX5_effectiveCount_40 : decode cX5_effectiveCount 40 = .ok (.lstore_n 1, 1) := by decide +kernel
theorem dX5_effectiveCount_41 : decode cX5_effectiveCount 41 = .ok (.lload_n 3, 1) := by decide +kernel
theorem dX5_effectiveCount_42 : decode cX5_effectiveCount 42 = .ok (.lload 6, 2) := by decide +kernel
theorem dX5_effectiveCount_44 : decode cX5_effectiveCount 44 = .ok (.lload 6, 2) := by decide +kernel
theorem dX5_effectiveCount_46 : decode cX5_effectiveCount 46 = .ok (.lmul, 1) := by decide +kernel
theorem dX5_effectiveCount_47 : decode cX5_effectiveCount 47 = .ok (.ladd, 1) := by decide +kernel
theorem dX5_effectiveCount_48 : decode cX5_effectiveCount 48 = .ok (.lstore_n 3, 1) := by decide +kernel
theorem dX5_effectiveCount_49 : decode cX5_effectiveCount 49 = .ok (.iinc 5 1, 3) := by decide +kernel
theorem dX5_effectiveCount_52 : decode cX5_effectiveCount 52 = .ok (.goto (-45), 3) := by decide +kernel
theorem dX5_effectiveCount_55 : decode cX5_effectiveCount 55 = .ok (.lload_n 3, 1) := by decide +kernel
theorem dX5_effectiveCount_56 : decode cX5_effectiveCount 56 = .ok (.lconst 0, 1) := by decide +kernel
theorem dX5_effectiveCount_57 : decode cX5_effectiveCount 57 = .ok (.lcmp, 1) := by decide +kernel
theorem dX5_effectiveCount_58 : decode cX5_effectiveCount 58 = .ok (.ifCond .gt 5, 3) := by decide +kernel
theorem dX5_effectiveCount_61 : decode cX5_effectiveCount 61 = .ok (.iconst 0, 1) := by decide +kernel
theorem dX5_effectiveCount_62 : decode cX5_effectiveCount 62 = .ok (.ireturn, 1) := by decide +kernel
theorem dX5_effectiveCount_63 : decode cX5_effectiveCount 63 = .ok (.lload_n 1, 1) := by decide +kernel
theorem dX5_effectiveCount_64 : decode cX5_effectiveCount 64 = .ok (.lload_n 1, 1) := by decide +kernel
theorem dX5_effectiveCount_65 : decode cX5_effectiveCount 65 = .ok (.lmul, 1) := by decide +kernel
theorem dX5_effectiveCount_66 : decode cX5_effectiveCount 66 = .ok (.lload_n 3, 1) := by decide +kernel
theorem dX5_effectiveCount_67 : decode cX5_effectiveCount 67 = .ok (.ldiv, 1) := by decide +kernel
theorem dX5_effectiveCount_68 : decode cX5_effectiveCount 68 = .ok (.l2i, 1) := by decide +kernel
theorem dX5_effectiveCount_69 : decode cX5_effectiveCount 69 = .ok (.ireturn, 1) := by decide +kernel
theorem dX5_howManyAreZero_0 : decode cX5_howManyAreZero 0 = .ok (.iconst 0, 1) := by decide +kernel
theorem dX5_howManyAreZero_1 : decode cX5_howManyAreZero 1 = .ok (.istore_n 1, 1) := by decide +kernel
theorem dX5_howManyAreZero_2 : decode cX5_howManyAreZero 2 = .ok (.iconst 0, 1) := by decide +kernel
theorem dX5_howManyAreZero_3 : decode cX5_howManyAreZero 3 = .ok (.istore_n 2, 1) := by decide +kernel
theorem dX5_howManyAreZero_4 : decode cX5_howManyAreZero 4 = .ok (.iload_n 2, 1) := by decide +kernel
theorem dX5_howManyAreZero_5 : decode cX5_howManyAreZero 5 = .ok (.aload_n 0, 1) := by decide +kernel
theorem dX5_howManyAreZero_6 : decode cX5_howManyAreZero 6 = .ok (.getfield 15, 3) := by decide +kernel
theorem dX5_howManyAreZero_9 : decode cX5_howManyAreZero 9 = .ok (.if_icmp .ge 30, 3) := by decide +kernel
theorem dX5_howManyAreZero_12 : decode cX5_howManyAreZero 12 = .ok (.iload_n 2, 1) := by decide +kernel
theorem dX5_howManyAreZero_13 : decode cX5_howManyAreZero 13 = .ok (.aload_n 0, 1) := by decide +kernel
theorem dX5_howManyAreZero_14 : decode cX5_howManyAreZero 14 = .ok (.getfield 9, 3) := by decide +kernel
theorem dX5_howManyAreZero_17 : decode cX5_howManyAreZero 17 = .ok (.arraylength, 1) := by decide +kernel
theorem dX5_howManyAreZero_18 : decode cX5_howManyAreZero 18 = .ok (.if_icmp .ge 21, 3) := by decide +kernel
theorem dX5_howManyAreZero_21 : decode cX5_howManyAreZero 21 = .ok (.aload_n 0, 1) := by decide +kernel
theorem dX5_howManyAreZero_22 : decode cX5_howManyAreZero 22 = .ok (.getfield 9, 3) := by decide +kernel
theorem dX5_howManyAreZero_25 : decode cX5_howManyAreZero 25 = .ok (.iload_n 2, 1) := by decide +kernel
theorem dX5_howManyAreZero_26 : decode cX5_howManyAreZero 26 = .ok (.iaload, 1) := by decide +kernel
theorem dX5_howManyAreZero_27 : decode cX5_howManyAreZero 27 = .ok (.ifCond .ne 6, 3) := by decide +kernel
theorem dX5_howManyAreZero_30 : decode cX5_howManyAreZero 30 = .ok (.iinc 1 1, 3) := by decide +kernel
theorem dX5_howManyAreZero_33 : decode cX5_howManyAreZero 33 = .ok (.iinc 2 1, 3) := by decide +kernel
theorem dX5_howManyAreZero_36 : decode cX5_howManyAreZero 36 = .ok (.goto (-32), 3) := by decide +kernel
theorem dX5_howManyAreZero_39 : decode cX5_howManyAreZero 39 = .ok (.iload_n 1, 1) := by decide +kernel
theorem dX5_howManyAreZero_40 : decode cX5_howManyAreZero 40 = .ok (.ireturn, 1) := by decide +kernel
theorem dX5_howManyAheadOf_0 : decode cX5_howManyAheadOf 0 = .ok (.aload_n 0, 1) := by decide +kernel
theorem dX5_howManyAheadOf_1 : decode cX5_howManyAheadOf 1 = .ok (.iload_n 1, 1) := by decide +kernel
theorem dX5_howManyAheadOf_2 : decode cX5_howManyAheadOf 2 = .ok (.invokevirtual 32, 3) := by decide +kernel
theorem dX5_howManyAheadOf_5 : decode cX5_howManyAheadOf 5 = .ok (.istore_n 2, 1) := by decide +kernel
theorem dX5_howManyAheadOf_6 : decode cX5_howManyAheadOf 6 = .ok (.iconst 0, 1) := by decide +kernel
theorem dX5_howManyAheadOf_7 : decode cX5_howManyAheadOf 7 = .ok (.istore_n 3, 1) := by decide +kernel
theorem dX5_howManyAheadOf_8 : decode cX5_howManyAheadOf 8 = .ok (.iconst 0, 1) := by decide +kernel
theorem dX5_howManyAheadOf_9 : decode cX5_howManyAheadOf 9 = .ok (.istore 4, 2) := by decide +kernel
theorem dX5_howManyAheadOf_11 : decode cX5_howManyAheadOf 11 = .ok (.iload 4, 2) := by decide +kernel
theorem dX5_howManyAheadOf_13 : decode cX5_howManyAheadOf 13 = .ok (.aload_n 0, 1) := by decide +kernel
theorem dX5_howManyAheadOf_14 : decode cX5_howManyAheadOf 14 = .ok (.getfield 15, 3) := by decide +kernel
theorem dX5_howManyAheadOf_17 : decode cX5_howManyAheadOf 17 = .ok (.if_icmp .ge 50, 3) := by decide +kernel
theorem dX5_howManyAheadOf_20 : decode cX5_howManyAheadOf 20 = .ok (.iload 4, 2) := by decide +kernel
theorem dX5_howManyAheadOf_22 : decode cX5_howManyAheadOf 22 = .ok (.aload_n 0, 1) := by decide +kernel
theorem dX5_howManyAheadOf_23 : decode cX5_howManyAheadOf 23 = .ok (.getfield 9, 3) := by decide +kernel
theorem dX5_howManyAheadOf_26 : decode cX5_howManyAheadOf 26 = .ok (.arraylength, 1) := by decide +kernel
theorem dX5_howManyAheadOf_27 : decode cX5_howManyAheadOf 27 = .ok (.if_icmp .ge 40, 3) := by decide +kernel
theorem dX5_howManyAheadOf_30 : decode cX5_howManyAheadOf 30 = .ok (.aload_n 0, 1) := by decide +kernel
theorem dX5_howManyAheadOf_31 : decode cX5_howManyAheadOf 31 = .ok (.getfield 9, 3) := by decide +kernel
theorem dX5_howManyAheadOf_34 : decode cX5_howManyAheadOf 34 = .ok (.iload 4, 2) := by decide +kernel
theorem dX5_howManyAheadOf_36 : decode cX5_howManyAheadOf 36 = .ok (.iaload, 1) := by decide +kernel
theorem dX5_howManyAheadOf_37 : decode cX5_howManyAheadOf 37 = .ok (.iload_n 2, 1) := by decide +kernel
theorem dX5_howManyAheadOf_38 : decode cX5_howManyAheadOf 38 = .ok (.if_icmp .gt 20, 3) := by decide +kernel
theorem dX5_howManyAheadOf_41 : decode cX5_howManyAheadOf 41 = .ok (.aload_n 0, 1) := by decide +kernel
theorem dX5_howManyAheadOf_42 : decode cX5_howManyAheadOf 42 = .ok (.getfield 9, 3) := by decide +kernel
theorem dX5_howManyAheadOf_45 : decode cX5_howManyAheadOf 45 = .ok (.iload 4, 2) := by decide +kernel
theorem dX5_howManyAheadOf_47 : decode cX5_howManyAheadOf 47 = .ok (.iaload, 1) := by decide +kernel
theorem dX5_howManyAheadOf_48 : decode cX5_howManyAheadOf 48 = .ok (.iload_n 2, 1) := by decide +kernel
theorem dX5_howManyAheadOf_49 : decode cX5_howManyAheadOf 49 = .ok (.if_icmp .ne 12, 3) := by decide +kernel
theorem dX5_howManyAheadOf_52 : decode cX5_howManyAheadOf 52 = .ok (.iload 4, 2) := by decide +kernel
theorem dX5_howManyAheadOf_54 : decode cX5_howManyAheadOf 54 = .ok (.iload_n 1, 1) := by decide +kernel
theorem dX5_howManyAheadOf_55 : decode cX5_howManyAheadOf 55 = .ok (.if_icmp .ge 6, 3) := by decide +kernel
theorem dX5_howManyAheadOf_58 : decode cX5_howManyAheadOf 58 = .ok (.iinc 3 1, 3) := by decide +kernel
theorem dX5_howManyAheadOf_61 : decode cX5_howManyAheadOf 61 = .ok (.iinc 4 1, 3) := by decide +kernel
theorem dX5_howManyAheadOf_64 : decode cX5_howManyAheadOf 64 = .ok (.goto (-53), 3) := by decide +kernel
theorem dX5_howManyAheadOf_67 : decode cX5_howManyAheadOf 67 = .ok (.iload_n 3, 1) := by decide +kernel
theorem dX5_howManyAheadOf_68 : decode cX5_howManyAheadOf 68 = .ok (.ireturn, 1) := by decide +kernel
theorem dX5_firstAbove_0 : decode cX5_firstAbove 0 = .ok (.lconst 0, 1) := by decide +kernel
theorem dX5_firstAbove_1 : decode cX5_firstAbove 1 = .ok (.lstore_n 3, 1) := by decide +kernel
theorem dX5_firstAbove_2 : decode cX5_firstAbove 2 = .ok (.iconst 0, 1) := by decide +kernel
theorem dX5_firstAbove_3 : decode cX5_firstAbove 3 = .ok (.istore 5, 2) := by decide +kernel
theorem dX5_firstAbove_5 : decode cX5_firstAbove 5 = .ok (.iload 5, 2) := by decide +kernel
theorem dX5_firstAbove_7 : decode cX5_firstAbove 7 = .ok (.aload_n 0, 1) := by decide +kernel
theorem dX5_firstAbove_8 : decode cX5_firstAbove 8 = .ok (.getfield 15, 3) := by decide +kernel
theorem dX5_firstAbove_11 : decode cX5_firstAbove 11 = .ok (.if_icmp .ge 45, 3) := by decide +kernel
theorem dX5_firstAbove_14 : decode cX5_firstAbove 14 = .ok (.iload 5, 2) := by decide +kernel
theorem dX5_firstAbove_16 : decode cX5_firstAbove 16 = .ok (.aload_n 0, 1) := by decide +kernel
theorem dX5_firstAbove_17 : decode cX5_firstAbove 17 = .ok (.getfield 9, 3) := by decide +kernel
theorem dX5_firstAbove_20 : decode cX5_firstAbove 20 = .ok (.arraylength, 1) := by decide +kernel
theorem dX5_firstAbove_21 : decode cX5_firstAbove 21 = .ok (.if_icmp .ge 35, 3) := by decide +kernel
theorem dX5_firstAbove_24 : decode cX5_firstAbove 24 = .ok (.lload_n 3, 1) := by decide +kernel
theorem dX5_firstAbove_25 : decode cX5_firstAbove 25 = .ok (.aload_n 0, 1) := by decide +kernel
theorem dX5_firstAbove_26 : decode cX5_firstAbove 26 = .ok (.getfield 9, 3) := by decide +kernel
theorem dX5_firstAbove_29 : decode cX5_firstAbove 29 = .ok (.iload 5, 2) := by decide +kernel
theorem dX5_firstAbove_31 : decode cX5_firstAbove 31 = .ok (.iaload, 1) := by decide +kernel
theorem dX5_firstAbove_32 : decode cX5_firstAbove 32 = .ok (.i2l, 1) := by decide +kernel
theorem dX5_firstAbove_33 : decode cX5_firstAbove 33 = .ok (.ladd, 1) := by decide +kernel
theorem dX5_firstAbove_34 : decode cX5_firstAbove 34 = .ok (.lstore_n 3, 1) := by decide +kernel
theorem dX5_firstAbove_35 : decode cX5_firstAbove 35 = .ok (.aload_n 0, 1) := by decide +kernel
theorem dX5_firstAbove_36 : decode cX5_firstAbove 36 = .ok (.getfield 15, 3) := by decide +kernel
theorem dX5_firstAbove_39 : decode cX5_firstAbove 39 = .ok (.i2l, 1) := by decide +kernel
theorem dX5_firstAbove_40 : decode cX5_firstAbove 40 = .ok (.lload_n 3, 1) := by decide +kernel
theorem dX5_firstAbove_41 : decode cX5_firstAbove 41 = .ok (.lmul, 1) := by decide +kernel
theorem dX5_firstAbove_42 : decode cX5_firstAbove 42 = .ok (.lload_n 1, 1) := by decide +kernel
theorem dX5_firstAbove_43 : decode cX5_firstAbove 43 = .ok (.lcmp, 1) := by decide +kernel
theorem dX5_firstAbove_44 : decode cX5_firstAbove 44 = .ok (.ifCond .le 6, 3) := by decide +kernel
theorem dX5_firstAbove_47 : decode cX5_firstAbove 47 = .ok (.iload 5, 2) := by decide +kernel
theorem dX5_firstAbove_49 : decode cX5_firstAbove 49 = .ok (.ireturn, 1) := by decide +kernel
theorem dX5_firstAbove_50 : decode cX5_firstAbove 50 = .ok (.iinc 5 1, 3) := by decide +kernel
theorem dX5_firstAbove_53 : decode cX5_firstAbove 53 = .ok (.goto (-48), 3) := by decide +kernel
theorem dX5_firstAbove_56 : decode cX5_firstAbove 56 = .ok (.iconst 0, 1) := by decide +kernel
theorem dX5_firstAbove_57 : decode cX5_firstAbove 57 = .ok (.ireturn, 1) := by decide +kernel
theorem dX6_init_0 : decode cX6_init 0 = .ok (.aload_n 0, 1) := by decide +kernel
theorem dX6_init_1 : decode cX6_init 1 = .ok (.invokespecial 1, 3) := by decide +kernel
theorem dX6_init_4 : decode cX6_init 4 = .ok (.new 7, 3) := by decide +kernel
theorem dX6_init_7 : decode cX6_init 7 = .ok (.dup, 1) := by decide +kernel
theorem dX6_init_8 : decode cX6_init 8 = .ok (.invokespecial 9, 3) := by decide +kernel
theorem dX6_init_11 : decode cX6_init 11 = .ok (.astore_n 1, 1) := by decide +kernel
theorem dX6_init_12 : decode cX6_init 12 = .ok (.aload_n 0, 1) := by decide +kernel
theorem dX6_init_13 : decode cX6_init 13 = .ok (.new 10, 3) := by decide +kernel
theorem dX6_init_16 : decode cX6_init 16 = .ok (.dup, 1) := by decide +kernel
theorem dX6_init_17 : decode cX6_init 17 = .ok (.aload_n 1, 1) := by decide +kernel
theorem dX6_init_18 : decode cX6_init 18 = .ok (.invokespecial 12, 3) := by decide +kernel
theorem dX6_init_21 : decode cX6_init 21 = .ok (.putfield 15, 3) := by decide +kernel
theorem dX6_init_24 : decode cX6_init 24 = .ok (.aload_n 0, 1) := by decide +kernel
theorem dX6_init_25 : decode cX6_init 25 = .ok (.new 10, 3) := by decide +kernel
theorem dX6_init_28 : decode cX6_init 28 = .ok (.dup, 1) := by decide +kernel
theorem dX6_init_29 : decode cX6_init 29 = .ok (.aload_n 1, 1) := by decide +kernel
theorem dX6_init_30 : decode cX6_init 30 = .ok (.invokespecial 12, 3) := by decide +kernel
theorem dX6_init_33 : decode cX6_init 33 = .ok (.putfield 21, 3) := by decide +kernel
theorem dX6_init_36 : decode cX6_init 36 = .ok (.aload_n 0, 1) := by decide +kernel
theorem dX6_init_37 : decode cX6_init 37 = .ok (.new 10, 3) := by decide +kernel
theorem dX6_init_40 : decode cX6_init 40 = .ok (.dup, 1) := by decide +kernel
theorem dX6_init_41 : decode cX6_init 41 = .ok (.aload_n 1, 1) := by decide +kernel
theorem dX6_init_42 : decode cX6_init 42 = .ok (.invokespecial 12, 3) := by decide +kernel
theorem dX6_init_45 : decode cX6_init 45 = .ok (.putfield 24, 3) := by decide +kernel
theorem dX6_init_48 : decode cX6_init 48 = .ok (.aload_n 0, 1) := by decide +kernel
theorem dX6_init_49 : decode cX6_init 49 = .ok (.new 10, 3) := by decide +kernel
theorem dX6_init_52 : decode cX6_init 52 = .ok (.dup, 1) := by decide +kernel
theorem dX6_init_53 : decode cX6_init 53 = .ok (.aload_n 1, 1) := by decide +kernel
theorem dX6_init_54 : decode cX6_init 54 = .ok (.invokespecial 12, 3) := by decide +kernel
theorem dX6_init_57 : decode cX6_init 57 = .ok (.putfield 27, 3) := by decide +kernel
theorem dX6_init_60 : decode cX6_init 60 = .ok (.aload_n 0, 1) := by decide +kernel
theorem dX6_init_61 : decode cX6_init 61 = .ok (.new 10, 3) := by decide +kernel
theorem dX6_init_64 : decode cX6_init 64 = .ok (.dup, 1) := by decide +kernel
theorem dX6_init_65 : decode cX6_init 65 = .ok (.aload_n 1, 1) := by decide +kernel
theorem dX6_init_66 : decode cX6_init 66 = .ok (.invokespecial 12, 3) := by decide +kernel
theorem dX6_init_69 : decode cX6_init 69 = .ok (.putfield 30, 3) := by decide +kernel
theorem dX6_init_72 : decode cX6_init 72 = .ok (.aload_n 0, 1) := by decide +kernel
theorem dX6_init_73 : decode cX6_init 73 = .ok (.new 10, 3) := by decide +kernel
theorem dX6_init_76 : decode cX6_init 76 = .ok (.dup, 1) := by decide +kernel
theorem dX6_init_77 : decode cX6_init 77 = .ok (.aload_n 1, 1) := by decide +kernel
theorem dX6_init_78 : decode cX6_init 78 = .ok (.invokespecial 12, 3) := by decide +kernel
theorem dX6_init_81 : decode cX6_init 81 = .ok (.putfield 33, 3) := by decide +kernel
theorem dX6_init_84 : decode cX6_init 84 = .ok (.aload_n 0, 1) := by decide +kernel
theorem dX6_init_85 : decode cX6_init 85 = .ok (.iconst 0, 1) := by decide +kernel
theorem dX6_init_86 : decode cX6_init 86 = .ok (.putfield 36, 3) := by decide +kernel
theorem dX6_init_89 : decode cX6_init 89 = .ok (.aload_n 0, 1) := by decide +kernel
theorem dX6_init_90 : decode cX6_init 90 = .ok (.new 40, 3) := by decide +kernel
theorem dX6_init_93 : decode cX6_init 93 = .ok (.dup, 1) := by decide +kernel
theorem dX6_init_94 : decode cX6_init 94 = .ok (.invokespecial 42, 3) := by decide +kernel
theorem dX6_init_97 : decode cX6_init 97 = .ok (.putfield 43, 3) := by decide +kernel
theorem dX6_init_100 : decode cX6_init 100 = .ok (.return_, 1) := by decide +kernel
theorem dX6_begin_0 : decode cX6_begin 0 = .ok (.aload_n 0, 1) := by decide +kernel
theorem dX6_begin_1 : decode cX6_begin 1 = .ok (.getfield 21, 3) := by decide +kernel
theorem dX6_begin_4 : decode cX6_begin 4 = .ok (.aload_n 0, 1) := by decide +kernel
theorem dX6_begin_5 : decode cX6_begin 5 = .ok (.getfield 15, 3) := by decide +kernel
theorem dX6_begin_8 : decode cX6_begin 8 = .ok (.invokevirtual 47, 3) := by decide +kernel
theorem dX6_begin_11 : decode cX6_begin 11 = .ok (.aload_n 0, 1) := by decide +kernel
theorem dX6_begin_12 : decode cX6_begin 12 = .ok (.aload_n 0, 1) := by decide +kernel
theorem dX6_begin_13 : decode cX6_begin 13 = .ok (.getfield 21, 3) := by decide +kernel
theorem dX6_begin_16 : decode cX6_begin 16 = .ok (.iload_n 1, 1) := by decide +kernel
theorem dX6_begin_17 : decode cX6_begin 17 = .ok (.iload_n 2, 1) := by decide +kernel
theorem dX6_begin_18 : decode cX6_begin 18 = .ok (.iload_n 3, 1) := by decide +kernel
theorem dX6_begin_19 : decode cX6_begin 19 = .ok (.invokevirtual 51, 3) := by decide +kernel
theorem dX6_begin_22 : decode cX6_begin 22 = .ok (.invokevirtual 55, 3) := by decide +kernel
theorem dX6_begin_25 : decode cX6_begin 25 = .ok (.ireturn, 1) := by decide +kernel
theorem dX6_weigh_0 : decode cX6_weigh 0 = .ok (.aload_n 0, 1) := by decide +kernel
theorem dX6_weigh_1 : decode cX6_weigh 1 = .ok (.getfield 21, 3) := by decide +kernel
theorem dX6_weigh_4 : decode cX6_weigh 4 = .ok (.aload_n 0, 1) := by decide +kernel
theorem dX6_weigh_5 : decode cX6_weigh 5 = .ok (.getfield 15, 3) := by decide +kernel
theorem dX6_weigh_8 : decode cX6_weigh 8 = .ok (.invokevirtual 47, 3) := by decide +kernel
theorem dX6_weigh_11 : decode cX6_weigh 11 = .ok (.aload_n 0, 1) := by decide +kernel
theorem dX6_weigh_12 : decode cX6_weigh 12 = .ok (.aload_n 0, 1) := by decide +kernel
theorem dX6_weigh_13 : decode cX6_weigh 13 = .ok (.getfield 21, 3) := by decide +kernel
theorem dX6_weigh_16 : decode cX6_weigh 16 = .ok (.iload_n 1, 1) := by decide +kernel
theorem dX6_weigh_17 : decode cX6_weigh 17 = .ok (.iload_n 2, 1) := by decide +kernel
theorem dX6_weigh_18 : decode cX6_weigh 18 = .ok (.invokevirtual 59, 3) := by decide +kernel
theorem dX6_weigh_21 : decode cX6_weigh 21 = .ok (.invokevirtual 55, 3) := by decide +kernel
theorem dX6_weigh_24 : decode cX6_weigh 24 = .ok (.ireturn, 1) := by decide +kernel
theorem dX6_move_0 : decode cX6_move 0 = .ok (.aload_n 0, 1) := by decide +kernel
theorem dX6_move_1 : decode cX6_move 1 = .ok (.getfield 21, 3) := by decide +kernel
theorem dX6_move_4 : decode cX6_move 4 = .ok (.aload_n 0, 1) := by decide +kernel
theorem dX6_move_5 : decode cX6_move 5 = .ok (.getfield 15, 3) := by decide +kernel
theorem dX6_move_8 : decode cX6_move 8 = .ok (.invokevirtual 47, 3) := by decide +kernel
theorem dX6_move_11 : decode cX6_move 11 = .ok (.aload_n 0, 1) := by decide +kernel
theorem dX6_move_12 : decode cX6_move 12 = .ok (.aload_n 0, 1) := by decide +kernel
theorem dX6_move_13 : decode cX6_move 13 = .ok (.getfield 21, 3) := by decide +kernel
theorem dX6_move_16 : decode cX6_move 16 = .ok (.iload_n 1, 1) := by decide +kernel
theorem dX6_move_17 : decode cX6_move 17 = .ok (.iload_n 2, 1) := by decide +kernel
theorem dX6_move_18 : decode cX6_move 18 = .ok (.invokevirtual 63, 3) := by decide +kernel
theorem dX6_move_21 : decode cX6_move 21 = .ok (.invokevirtual 55, 3) := by decide +kernel
theorem dX6_move_24 : decode cX6_move 24 = .ok (.ireturn, 1) := by decide +kernel
theorem dX6_observe_0 : decode cX6_observe 0 = .ok (.aload_n 0, 1) := by decide +kernel
theorem dX6_observe_1 : decode cX6_observe 1 = .ok (.getfield 21, 3) := by decide +kernel
theorem dX6_observe_4 : decode cX6_observe 4 = .ok (.aload_n 0, 1) := by decide +kernel
theorem dX6_observe_5 : decode cX6_observe 5 = .ok (.getfield 15, 3) := by decide +kernel
theorem dX6_observe_8 : decode cX6_observe 8 = .ok (.invokevirtual 47, 3) := by decide +kernel
theorem dX6_observe_11 : decode cX6_observe 11 = .ok (.aload_n 0, 1) := by decide +kernel
theorem dX6_observe_12 : decode cX6_observe 12 = .ok (.aload_n 0, 1) := by decide +kernel
theorem dX6_observe_13 : decode cX6_observe 13 = .ok (.getfield 21, 3) := by decide +kernel
theorem dX6_observe_16 : decode cX6_observe 16 = .ok (.iload_n 1, 1) := by decide +kernel
theorem dX6_observe_17 : decode cX6_observe 17 = .ok (.iload_n 2, 1) := by decide +kernel
theorem dX6_observe_18 : decode cX6_observe 18 = .ok (.invokevirtual 66, 3) := by decide +kernel
theorem dX6_observe_21 : decode cX6_observe 21 = .ok (.invokevirtual 55, 3) := by decide +kernel
theorem dX6_observe_24 : decode cX6_observe 24 = .ok (.ireturn, 1) := by decide +kernel
theorem dX6_resample_0 : decode cX6_resample 0 = .ok (.aload_n 0, 1) := by decide +kernel
theorem dX6_resample_1 : decode cX6_resample 1 = .ok (.getfield 21, 3) := by decide +kernel
theorem dX6_resample_4 : decode cX6_resample 4 = .ok (.aload_n 0, 1) := by decide +kernel
theorem dX6_resample_5 : decode cX6_resample 5 = .ok (.getfield 15, 3) := by decide +kernel
theorem dX6_resample_8 : decode cX6_resample 8 = .ok (.invokevirtual 47, 3) := by decide +kernel
theorem dX6_resample_11 : decode cX6_resample 11 = .ok (.aload_n 0, 1) := by decide +kernel
theorem dX6_resample_12 : decode cX6_resample 12 = .ok (.aload_n 0, 1) := by decide +kernel
theorem dX6_resample_13 : decode cX6_resample 13 = .ok (.getfield 21, 3) := by decide +kernel
theorem dX6_resample_16 : decode cX6_resample 16 = .ok (.invokevirtual 69, 3) := by decide +kernel
theorem dX6_resample_19 : decode cX6_resample 19 = .ok (.invokevirtual 55, 3) := by decide +kernel
theorem dX6_resample_22 : decode cX6_resample 22 = .ok (.ireturn, 1) := by decide +kernel
theorem dX6_set_0 : decode cX6_set 0 = .ok (.aload_n 0, 1) := by decide +kernel
theorem dX6_set_1 : decode cX6_set 1 = .ok (.getfield 21, 3) := by decide +kernel
theorem dX6_set_4 : decode cX6_set 4 = .ok (.aload_n 0, 1) := by decide +kernel
theorem dX6_set_5 : decode cX6_set 5 = .ok (.getfield 15, 3) := by decide +kernel
theorem dX6_set_8 : decode cX6_set 8 = .ok (.invokevirtual 47, 3) := by decide +kernel
theorem dX6_set_11 : decode cX6_set 11 = .ok (.aload_n 0, 1) := by decide +kernel
theorem dX6_set_12 : decode cX6_set 12 = .ok (.aload_n 0, 1) := by decide +kernel
theorem dX6_set_13 : decode cX6_set 13 = .ok (.getfield 21, 3) := by decide +kernel
theorem dX6_set_16 : decode cX6_set 16 = .ok (.iload_n 1, 1) := by decide +kernel
theorem dX6_set_17 : decode cX6_set 17 = .ok (.iload_n 2, 1) := by decide +kernel
theorem dX6_set_18 : decode cX6_set 18 = .ok (.invokevirtual 73, 3) := by decide +kernel
theorem dX6_set_21 : decode cX6_set 21 = .ok (.invokevirtual 55, 3) := by decide +kernel
theorem dX6_set_24 : decode cX6_set 24 = .ok (.ireturn, 1) := by decide +kernel
theorem dX6_particleOf_0 : decode cX6_particleOf 0 = .ok (.aload_n 0, 1) := by decide +kernel
theorem dX6_particleOf_1 : decode cX6_particleOf 1 = .ok (.getfield 15, 3) := by decide +kernel
theorem dX6_particleOf_4 : decode cX6_particleOf 4 = .ok (.iload_n 1, 1) := by decide +kernel
theorem dX6_particleOf_5 : decode cX6_particleOf 5 = .ok (.invokevirtual 76, 3) := by decide +kernel
theorem dX6_particleOf_8 : decode cX6_particleOf 8 = .ok (.ifCond .eq 13, 3) := by decide +kernel
theorem dX6_particleOf_11 : decode cX6_particleOf 11 = .ok (.iload_n 2, 1) := by decide +kernel
theorem dX6_particleOf_12 : decode cX6_particleOf 12 = .ok (.iconst 0, 1) := by decide +kernel
theorem dX6_particleOf_13 : decode cX6_particleOf 13 = .ok (.bipush 6, 2) := by decide +kernel
theorem dX6_particleOf_15 : decode cX6_particleOf 15 = .ok (.invokestatic 80, 3) := by decide +kernel
theorem dX6_particleOf_18 : decode cX6_particleOf 18 = .ok (.ifCond .ne 6, 3) := by decide +kernel
theorem dX6_particleOf_21 : decode cX6_particleOf 21 = .ok (.ldc 84, 2) := by decide +kernel
theorem dX6_particleOf_23 : decode cX6_particleOf 23 = .ok (.ireturn, 1) := by decide +kernel
theorem dX6_particleOf_24 : decode cX6_particleOf 24 = .ok (.aload_n 0, 1) := by decide +kernel
theorem dX6_particleOf_25 : decode cX6_particleOf 25 = .ok (.getfield 15, 3) := by decide +kernel
theorem dX6_particleOf_28 : decode cX6_particleOf 28 = .ok (.iload_n 1, 1) := by decide +kernel
theorem dX6_particleOf_29 : decode cX6_particleOf 29 = .ok (.iload_n 2, 1) := by decide +kernel
theorem dX6_particleOf_30 : decode cX6_particleOf 30 = .ok (.invokevirtual 85, 3) := by decide +kernel
theorem dX6_particleOf_33 : decode cX6_particleOf 33 = .ok (.ireturn, 1) := by decide +kernel
theorem dX6_generationOf_0 : decode cX6_generationOf 0 = .ok (.aload_n 0, 1) := by decide +kernel
theorem dX6_generationOf_1 : decode cX6_generationOf 1 = .ok (.getfield 15, 3) := by decide +kernel
theorem dX6_generationOf_4 : decode cX6_generationOf 4 = .ok (.iload_n 1, 1) := by decide +kernel
theorem dX6_generationOf_5 : decode cX6_generationOf 5 = .ok (.invokevirtual 88, 3) := by decide +kernel
theorem dX6_generationOf_8 : decode cX6_generationOf 8 = .ok (.ifCond .eq 12, 3) := by decide +kernel
theorem dX6_generationOf_11 : decode cX6_generationOf 11 = .ok (.iload_n 2, 1) := by decide +kernel
theorem dX6_generationOf_12 : decode cX6_generationOf 12 = .ok (.iconst 0, 1) := by decide +kernel
theorem dX6_generationOf_13 : decode cX6_generationOf 13 = .ok (.iconst 5, 1) := by decide +kernel
theorem dX6_generationOf_14 : decode cX6_generationOf 14 = .ok (.invokestatic 80, 3) := by decide +kernel
theorem dX6_generationOf_17 : decode cX6_generationOf 17 = .ok (.ifCond .ne 6, 3) := by decide +kernel
theorem dX6_generationOf_20 : decode cX6_generationOf 20 = .ok (.ldc 84, 2) := by decide +kernel
theorem dX6_generationOf_22 : decode cX6_generationOf 22 = .ok (.ireturn, 1) := by decide +kernel
theorem dX6_generationOf_23 : decode cX6_generationOf 23 = .ok (.aload_n 0, 1) := by decide +kernel
theorem dX6_generationOf_24 : decode cX6_generationOf 24 = .ok (.getfield 15, 3) := by decide +kernel
theorem dX6_generationOf_27 : decode cX6_generationOf 27 = .ok (.iload_n 1, 1) := by decide +kernel
theorem dX6_generationOf_28 : decode cX6_generationOf 28 = .ok (.iload_n 2, 1) := by decide +kernel
theorem dX6_generationOf_29 : decode cX6_generationOf 29 = .ok (.invokevirtual 91, 3) := by decide +kernel
theorem dX6_generationOf_32 : decode cX6_generationOf 32 = .ok (.ireturn, 1) := by decide +kernel
theorem dX6_count_0 : decode cX6_count 0 = .ok (.iload_n 1, 1) := by decide +kernel
theorem dX6_count_1 : decode cX6_count 1 = .ok (.bipush 9, 2) := by decide +kernel
theorem dX6_count_3 : decode cX6_count 3 = .ok (.if_icmp .ne 8, 3) := by decide +kernel
theorem dX6_count_6 : decode cX6_count 6 = .ok (.aload_n 0, 1) := by decide +kernel
theorem dX6_count_7 : decode cX6_count 7 = .ok (.getfield 36, 3) := by decide +kernel
theorem dX6_count_10 : decode cX6_count 10 = .ok (.ireturn, 1) := by decide +kernel
theorem dX6_count_11 : decode cX6_count 11 = .ok (.iload_n 1, 1) := by decide +kernel
theorem dX6_count_12 : decode cX6_count 12 = .ok (.bipush 10, 2) := by decide +kernel
theorem dX6_count_14 : decode cX6_count 14 = .ok (.if_icmp .ne 11, 3) := by decide +kernel
theorem dX6_count_17 : decode cX6_count 17 = .ok (.aload_n 0, 1) := by decide +kernel
theorem dX6_count_18 : decode cX6_count 18 = .ok (.getfield 43, 3) := by decide +kernel
theorem dX6_count_21 : decode cX6_count 21 = .ok (.invokevirtual 113, 3) := by decide +kernel
theorem dX6_count_24 : decode cX6_count 24 = .ok (.ireturn, 1) := by decide +kernel
theorem dX6_count_25 : decode cX6_count 25 = .ok (.aload_n 0, 1) := by decide +kernel
theorem dX6_count_26 : decode cX6_count 26 = .ok (.getfield 15, 3) := by decide +kernel
theorem dX6_count_29 : decode cX6_count 29 = .ok (.iload_n 1, 1) := by decide +kernel
theorem dX6_count_30 : decode cX6_count 30 = .ok (.invokevirtual 116, 3) := by decide +kernel
theorem dX6_count_33 : decode cX6_count 33 = .ok (.ireturn, 1) := by decide +kernel
theorem dX6_keepDraftUnlessError_0 : decode cX6_keepDraftUnlessError 0 = .ok (.iload_n 1, 1) := by decide +kernel
theorem dX6_keepDraftUnlessError_1 : decode cX6_keepDraftUnlessError 1 = .ok (.ifCond .ge 5, 3) := by decide +kernel
theorem dX6_keepDraftUnlessError_4 : decode cX6_keepDraftUnlessError 4 = .ok (.iload_n 1, 1) := by decide +kernel
theorem dX6_keepDraftUnlessError_5 : decode cX6_keepDraftUnlessError 5 = .ok (.ireturn, 1) := by decide +kernel
theorem dX6_keepDraftUnlessError_6 : decode cX6_keepDraftUnlessError 6 = .ok (.aload_n 0, 1) := by decide +kernel
theorem dX6_keepDraftUnlessError_7 : decode cX6_keepDraftUnlessError 7 = .ok (.getfield 33, 3) := by decide +kernel
theorem dX6_keepDraftUnlessError_10 : decode cX6_keepDraftUnlessError 10 = .ok (.astore_n 2, 1) := by decide +kernel
theorem dX6_keepDraftUnlessError_11 : decode cX6_keepDraftUnlessError 11 = .ok (.aload_n 0, 1) := by decide +kernel
theorem dX6_keepDraftUnlessError_12 : decode cX6_keepDraftUnlessError 12 = .ok (.aload_n 0, 1) := by decide +kernel
theorem dX6_keepDraftUnlessError_13 : decode cX6_keepDraftUnlessError 13 = .ok (.getfield 30, 3) := by decide +kernel
theorem dX6_keepDraftUnlessError_16 : decode cX6_keepDraftUnlessError 16 = .ok (.putfield 33, 3) := by decide +kernel
theorem dX6_keepDraftUnlessError_19 : decode cX6_keepDraftUnlessError 19 = .ok (.aload_n 0, 1) := by decide +kernel
theorem dX6_keepDraftUnlessError_20 : decode cX6_keepDraftUnlessError 20 = .ok (.aload_n 0, 1) := by decide +kernel
theorem dX6_keepDraftUnlessError_21 : decode cX6_keepDraftUnlessError 21 = .ok (.getfield 27, 3) := by decide +kernel
theorem dX6_keepDraftUnlessError_24 : decode cX6_keepDraftUnlessError 24 = .ok (.putfield 30, 3) := by decide +kernel
theorem dX6_keepDraftUnlessError_27 : decode cX6_keepDraftUnlessError 27 = .ok (.aload_n 0, 1) := by decide +kernel
theorem dX6_keepDraftUnlessError_28 : decode cX6_keepDraftUnlessError 28 = .ok (.aload_n 0, 1) := by decide +kernel
theorem dX6_keepDraftUnlessError_29 : decode cX6_keepDraftUnlessError 29 = .ok (.getfield 24, 3) := by decide +kernel
theorem dX6_keepDraftUnlessError_32 : decode cX6_keepDraftUnlessError 32 = .ok (.putfield 27, 3) := by decide +kernel
theorem dX6_keepDraftUnlessError_35 : decode cX6_keepDraftUnlessError 35 = .ok (.aload_n 0, 1) := by decide +kernel
theorem dX6_keepDraftUnlessError_36 : decode cX6_keepDraftUnlessError 36 = .ok (.aload_n 0, 1) := by decide +kernel
theorem dX6_keepDraftUnlessError_37 : decode cX6_keepDraftUnlessError 37 = .ok (.getfield 15, 3) := by decide +kernel
theorem dX6_keepDraftUnlessError_40 : decode cX6_keepDraftUnlessError 40 = .ok (.putfield 24, 3) := by decide +kernel
theorem dX6_keepDraftUnlessError_43 : decode cX6_keepDraftUnlessError 43 = .ok (.aload_n 0, 1) := by decide +kernel
theorem dX6_keepDraftUnlessError_44 : decode cX6_keepDraftUnlessError 44 = .ok (.aload_n 0, 1) := by decide +kernel
theorem dX6_keepDraftUnlessError_45 : decode cX6_keepDraftUnlessError 45 = .ok (.getfield 21, 3) := by decide +kernel
theorem dX6_keepDraftUnlessError_48 : decode cX6_keepDraftUnlessError 48 = .ok (.putfield 15, 3) := by decide +kernel
theorem dX6_keepDraftUnlessError_51 : decode cX6_keepDraftUnlessError 51 = .ok (.aload_n 0, 1) := by decide +kernel
theorem dX6_keepDraftUnlessError_52 : decode cX6_keepDraftUnlessError 52 = .ok (.aload_n 2, 1) := by decide +kernel
theorem dX6_keepDraftUnlessError_53 : decode cX6_keepDraftUnlessError 53 = .ok (.putfield 21, 3) := by decide +kernel
theorem dX6_keepDraftUnlessError_56 : decode cX6_keepDraftUnlessError 56 = .ok (.aload_n 0, 1) := by decide +kernel
theorem dX6_keepDraftUnlessError_57 : decode cX6_keepDraftUnlessError 57 = .ok (.aload_n 0, 1) := by decide +kernel
theorem dX6_keepDraftUnlessError_58 : decode cX6_keepDraftUnlessError 58 = .ok (.getfield 36, 3) := by decide +kernel
theorem dX6_keepDraftUnlessError_61 : decode cX6_keepDraftUnlessError 61 = .ok (.iconst 1, 1) := by decide +kernel
theorem dX6_keepDraftUnlessError_62 : decode cX6_keepDraftUnlessError 62 = .ok (.iadd, 1) := by decide +kernel
theorem dX6_keepDraftUnlessError_63 : decode cX6_keepDraftUnlessError 63 = .ok (.iconst 4, 1) := by decide +kernel
theorem dX6_keepDraftUnlessError_64 : decode cX6_keepDraftUnlessError 64 = .ok (.invokestatic 137, 3) := by decide +kernel
theorem dX6_keepDraftUnlessError_67 : decode cX6_keepDraftUnlessError 67 = .ok (.putfield 36, 3) := by decide +kernel
theorem dX6_keepDraftUnlessError_70 : decode cX6_keepDraftUnlessError 70 = .ok (.iload_n 1, 1) := by decide +kernel
theorem dX6_keepDraftUnlessError_71 : decode cX6_keepDraftUnlessError 71 = .ok (.ireturn, 1) := by decide +kernel
theorem dX6_isWithin_0 : decode cX6_isWithin 0 = .ok (.iload_n 0, 1) := by decide +kernel
theorem dX6_isWithin_1 : decode cX6_isWithin 1 = .ok (.iload_n 1, 1) := by decide +kernel
theorem dX6_isWithin_2 : decode cX6_isWithin 2 = .ok (.if_icmp .lt 12, 3) := by decide +kernel
theorem dX6_isWithin_5 : decode cX6_isWithin 5 = .ok (.iload_n 0, 1) := by decide +kernel
theorem dX6_isWithin_6 : decode cX6_isWithin 6 = .ok (.iload_n 2, 1) := by decide +kernel
theorem dX6_isWithin_7 : decode cX6_isWithin 7 = .ok (.if_icmp .gt 7, 3) := by decide +kernel
theorem dX6_isWithin_10 : decode cX6_isWithin 10 = .ok (.iconst 1, 1) := by decide +kernel
theorem dX6_isWithin_11 : decode cX6_isWithin 11 = .ok (.goto 4, 3) := by decide +kernel
theorem dX6_isWithin_14 : decode cX6_isWithin 14 = .ok (.iconst 0, 1) := by decide +kernel
theorem dX6_isWithin_15 : decode cX6_isWithin 15 = .ok (.ireturn, 1) := by decide +kernel
theorem dX6_nearestPlace_0 : decode cX6_nearestPlace 0 = .ok (.iconst 0, 1) := by decide +kernel
theorem dX6_nearestPlace_1 : decode cX6_nearestPlace 1 = .ok (.bipush 99, 2) := by decide +kernel
theorem dX6_nearestPlace_3 : decode cX6_nearestPlace 3 = .ok (.iload_n 0, 1) := by decide +kernel
theorem dX6_nearestPlace_4 : decode cX6_nearestPlace 4 = .ok (.invokestatic 137, 3) := by decide +kernel
theorem dX6_nearestPlace_7 : decode cX6_nearestPlace 7 = .ok (.invokestatic 142, 3) := by decide +kernel
theorem dX6_nearestPlace_10 : decode cX6_nearestPlace 10 = .ok (.ireturn, 1) := by decide +kernel
theorem dX6_noiseBehind_0 : decode cX6_noiseBehind 0 = .ok (.iload_n 0, 1) := by decide +kernel
theorem dX6_noiseBehind_1 : decode cX6_noiseBehind 1 = .ok (.bipush 75, 2) := by decide +kernel
theorem dX6_noiseBehind_3 : decode cX6_noiseBehind 3 = .ok (.imul, 1) := by decide +kernel
theorem dX6_noiseBehind_4 : decode cX6_noiseBehind 4 = .ok (.bipush 74, 2) := by decide +kernel
theorem dX6_noiseBehind_6 : decode cX6_noiseBehind 6 = .ok (.iadd, 1) := by decide +kernel
theorem dX6_noiseBehind_7 : decode cX6_noiseBehind 7 = .ok (.ldc 145, 2) := by decide +kernel
theorem dX6_noiseBehind_9 : decode cX6_noiseBehind 9 = .ok (.irem, 1) := by decide +kernel
theorem dX6_noiseBehind_10 : decode cX6_noiseBehind 10 = .ok (.ireturn, 1) := by decide +kernel
theorem dX6_commonDivisor_0 : decode cX6_commonDivisor 0 = .ok (.lload_n 0, 1) := by decide +kernel
theorem dX6_commonDivisor_1 : decode cX6_commonDivisor 1 = .ok (.lstore 4, 2) := by decide +kernel
theorem dX6_commonDivisor_3 : decode cX6_commonDivisor 3 = .ok (.lload_n 2, 1) := by decide +kernel
theorem dX6_commonDivisor_4 : decode cX6_commonDivisor 4 = .ok (.lstore 6, 2) := by decide +kernel
theorem dX6_commonDivisor_6 : decode cX6_commonDivisor 6 = .ok (.iconst 0, 1) := by decide +kernel
theorem dX6_commonDivisor_7 : decode cX6_commonDivisor 7 = .ok (.istore 8, 2) := by decide +kernel
theorem dX6_commonDivisor_9 : decode cX6_commonDivisor 9 = .ok (.iload 8, 2) := by decide +kernel
theorem dX6_commonDivisor_11 : decode cX6_commonDivisor 11 = .ok (.sipush 200, 3) := by decide +kernel
theorem dX6_commonDivisor_14 : decode cX6_commonDivisor 14 = .ok (.if_icmp .ge 31, 3) := by decide +kernel
theorem dX6_commonDivisor_17 : decode cX6_commonDivisor 17 = .ok (.lload 6, 2) := by decide +kernel
theorem dX6_commonDivisor_19 : decode cX6_commonDivisor 19 = .ok (.lconst 0, 1) := by decide +kernel
theorem dX6_commonDivisor_20 : decode cX6_commonDivisor 20 = .ok (.lcmp, 1) := by decide +kernel
theorem dX6_commonDivisor_21 : decode cX6_commonDivisor 21 = .ok (.ifCond .le 24, 3) := by decide +kernel
theorem dX6_commonDivisor_24 : decode cX6_commonDivisor 24 = .ok (.lload 4, 2) := by decide +kernel
theorem dX6_commonDivisor_26 : decode cX6_commonDivisor 26 = .ok (.lload 6, 2) := by decide +kernel
theorem dX6_commonDivisor_28 : decode cX6_commonDivisor 28 = .ok (.lrem, 1) := by decide +kernel
theorem dX6_commonDivisor_29 : decode cX6_commonDivisor 29 = .ok (.lstore 9, 2) := by decide +kernel
theorem dX6_commonDivisor_31 : decode cX6_commonDivisor 31 = .ok (.lload 6, 2) := by decide +kernel
theorem dX6_commonDivisor_33 : decode cX6_commonDivisor 33 = .ok (.lstore 4, 2) := by decide +kernel
theorem dX6_commonDivisor_35 : decode cX6_commonDivisor 35 = .ok (.lload 9, 2) := by decide +kernel
theorem dX6_commonDivisor_37 : decode cX6_commonDivisor 37 = .ok (.lstore 6, 2) := by decide +kernel
theorem dX6_commonDivisor_39 : decode cX6_commonDivisor 39 = .ok (.iinc 8 1, 3) := by decide +kernel
theorem dX6_commonDivisor_42 : decode cX6_commonDivisor 42 = .ok (.goto (-33), 3) := by decide +kernel
theorem dX6_commonDivisor_45 : decode cX6_commonDivisor 45 = .ok (.lload 4, 2) := by decide +kernel
theorem dX6_commonDivisor_47 : decode cX6_commonDivisor 47 = .ok (.lreturn, 1) := by decide +kernel
theorem dX6_partInLowestTerms_0 : decode cX6_partInLowestTerms 0 = .ok (.lload_n 0, 1) := by decide +kernel
theorem dX6_partInLowestTerms_1 : decode cX6_partInLowestTerms 1 = .ok (.lload_n 2, 1) := by decide +kernel
theorem dX6_partInLowestTerms_2 : decode cX6_partInLowestTerms 2 = .ok (.invokestatic 146, 3) := by decide +kernel
theorem dX6_partInLowestTerms_5 : decode cX6_partInLowestTerms 5 = .ok (.lstore 5, 2) := by decide +kernel
theorem dX6_partInLowestTerms_7 : decode cX6_partInLowestTerms 7 = .ok (.lload 5, 2) := by decide +kernel
theorem dX6_partInLowestTerms_9 : decode cX6_partInLowestTerms 9 = .ok (.lconst 0, 1) := by decide +kernel
theorem dX6_partInLowestTerms_10 : decode cX6_partInLowestTerms 10 = .ok (.lcmp, 1) := by decide +kernel
theorem dX6_partInLowestTerms_11 : decode cX6_partInLowestTerms 11 = .ok (.ifCond .gt 5, 3) := by decide +kernel
theorem dX6_partInLowestTerms_14 : decode cX6_partInLowestTerms 14 = .ok (.iconst 0, 1) := by decide +kernel
theorem dX6_partInLowestTerms_15 : decode cX6_partInLowestTerms 15 = .ok (.ireturn, 1) := by decide +kernel
theorem dX6_partInLowestTerms_16 : decode cX6_partInLowestTerms 16 = .ok (.iload 4, 2) := by decide +kernel
theorem dX6_partInLowestTerms_18 : decode cX6_partInLowestTerms 18 = .ok (.ifCond .ne 7, 3) := by decide +kernel
theorem dX6_partInLowestTerms_21 : decode cX6_partInLowestTerms 21 = .ok (.lload_n 0, 1) := by decide +kernel
theorem dX6_partInLowestTerms_22 : decode cX6_partInLowestTerms 22 = .ok (.goto 4, 3) := by decide +kernel
theorem dX6_partInLowestTerms_25 : decode cX6_partInLowestTerms 25 = .ok (.lload_n 2, 1) := by decide +kernel
theorem dX6_partInLowestTerms_26 : decode cX6_partInLowestTerms 26 = .ok (.lload 5, 2) := by decide +kernel
theorem dX6_partInLowestTerms_28 : decode cX6_partInLowestTerms 28 = .ok (.ldiv, 1) := by decide +kernel
theorem dX6_partInLowestTerms_29 : decode cX6_partInLowestTerms 29 = .ok (.l2i, 1) := by decide +kernel
theorem dX6_partInLowestTerms_30 : decode cX6_partInLowestTerms 30 = .ok (.ireturn, 1) := by decide +kernel
theorem dJ6_bitCount_0f7a4_0 : decode cJ6_bitCount_0f7a4 0 = .ok (.iload_n 0, 1) := by decide +kernel
theorem dJ6_bitCount_0f7a4_1 : decode cJ6_bitCount_0f7a4 1 = .ok (.iload_n 0, 1) := by decide +kernel
theorem dJ6_bitCount_0f7a4_2 : decode cJ6_bitCount_0f7a4 2 = .ok (.iconst 1, 1) := by decide +kernel
theorem dJ6_bitCount_0f7a4_3 : decode cJ6_bitCount_0f7a4 3 = .ok (.iushr, 1) := by decide +kernel
theorem dJ6_bitCount_0f7a4_4 : decode cJ6_bitCount_0f7a4 4 = .ok (.ldc_w 265, 3) := by decide +kernel
theorem dJ6_bitCount_0f7a4_7 : decode cJ6_bitCount_0f7a4 7 = .ok (.iand, 1) := by decide +kernel
theorem dJ6_bitCount_0f7a4_8 : decode cJ6_bitCount_0f7a4 8 = .ok (.isub, 1) := by decide +kernel
theorem dJ6_bitCount_0f7a4_9 : decode cJ6_bitCount_0f7a4 9 = .ok (.istore_n 0, 1) := by decide +kernel
theorem dJ6_bitCount_0f7a4_10 : decode cJ6_bitCount_0f7a4 10 = .ok (.iload_n 0, 1) := by decide +kernel
theorem dJ6_bitCount_0f7a4_11 : decode cJ6_bitCount_0f7a4 11 = .ok (.ldc_w 266, 3) := by decide +kernel
theorem dJ6_bitCount_0f7a4_14 : decode cJ6_bitCount_0f7a4 14 = .ok (.iand, 1) := by decide +kernel
theorem dJ6_bitCount_0f7a4_15 : decode cJ6_bitCount_0f7a4 15 = .ok (.iload_n 0, 1) := by decide +kernel
theorem dJ6_bitCount_0f7a4_16 : decode cJ6_bitCount_0f7a4 16 = .ok (.iconst 2, 1) := by decide +kernel
theorem dJ6_bitCount_0f7a4_17 : decode cJ6_bitCount_0f7a4 17 = .ok (.iushr, 1) := by decide +kernel
theorem dJ6_bitCount_0f7a4_18 : decode cJ6_bitCount_0f7a4 18 = .ok (.ldc_w 266, 3) := by decide +kernel
theorem dJ6_bitCount_0f7a4_21 : decode cJ6_bitCount_0f7a4 21 = .ok (.iand, 1) := by decide +kernel
theorem dJ6_bitCount_0f7a4_22 : decode cJ6_bitCount_0f7a4 22 = .ok (.iadd, 1) := by decide +kernel
theorem dJ6_bitCount_0f7a4_23 : decode cJ6_bitCount_0f7a4 23 = .ok (.istore_n 0, 1) := by decide +kernel
theorem dJ6_bitCount_0f7a4_24 : decode cJ6_bitCount_0f7a4 24 = .ok (.iload_n 0, 1) := by decide +kernel
theorem dJ6_bitCount_0f7a4_25 : decode cJ6_bitCount_0f7a4 25 = .ok (.iload_n 0, 1) := by decide +kernel
theorem dJ6_bitCount_0f7a4_26 : decode cJ6_bitCount_0f7a4 26 = .ok (.iconst 4, 1) := by decide +kernel
theorem dJ6_bitCount_0f7a4_27 : decode cJ6_bitCount_0f7a4 27 = .ok (.iushr, 1) := by decide +kernel
theorem dJ6_bitCount_0f7a4_28 : decode cJ6_bitCount_0f7a4 28 = .ok (.iadd, 1) := by decide +kernel
theorem dJ6_bitCount_0f7a4_29 : decode cJ6_bitCount_0f7a4 29 = .ok (.ldc_w 267, 3) := by decide +kernel
theorem dJ6_bitCount_0f7a4_32 : decode cJ6_bitCount_0f7a4 32 = .ok (.iand, 1) := by decide +kernel
theorem dJ6_bitCount_0f7a4_33 : decode cJ6_bitCount_0f7a4 33 = .ok (.istore_n 0, 1) := by decide +kernel
theorem dJ6_bitCount_0f7a4_34 : decode cJ6_bitCount_0f7a4 34 = .ok (.iload_n 0, 1) := by decide +kernel
theorem dJ6_bitCount_0f7a4_35 : decode cJ6_bitCount_0f7a4 35 = .ok (.iload_n 0, 1) := by decide +kernel
theorem dJ6_bitCount_0f7a4_36 : decode cJ6_bitCount_0f7a4 36 = .ok (.bipush 8, 2) := by decide +kernel
theorem dJ6_bitCount_0f7a4_38 : decode cJ6_bitCount_0f7a4 38 = .ok (.iushr, 1) := by decide +kernel
theorem dJ6_bitCount_0f7a4_39 : decode cJ6_bitCount_0f7a4 39 = .ok (.iadd, 1) := by decide +kernel
theorem dJ6_bitCount_0f7a4_40 : decode cJ6_bitCount_0f7a4 40 = .ok (.istore_n 0, 1) := by decide +kernel
theorem dJ6_bitCount_0f7a4_41 : decode cJ6_bitCount_0f7a4 41 = .ok (.iload_n 0, 1) := by decide +kernel
theorem dJ6_bitCount_0f7a4_42 : decode cJ6_bitCount_0f7a4 42 = .ok (.iload_n 0, 1) := by decide +kernel
theorem dJ6_bitCount_0f7a4_43 : decode cJ6_bitCount_0f7a4 43 = .ok (.bipush 16, 2) := by decide +kernel
theorem dJ6_bitCount_0f7a4_45 : decode cJ6_bitCount_0f7a4 45 = .ok (.iushr, 1) := by decide +kernel
theorem dJ6_bitCount_0f7a4_46 : decode cJ6_bitCount_0f7a4 46 = .ok (.iadd, 1) := by decide +kernel
theorem dJ6_bitCount_0f7a4_47 : decode cJ6_bitCount_0f7a4 47 = .ok (.istore_n 0, 1) := by decide +kernel
theorem dJ6_bitCount_0f7a4_48 : decode cJ6_bitCount_0f7a4 48 = .ok (.iload_n 0, 1) := by decide +kernel
theorem dJ6_bitCount_0f7a4_49 : decode cJ6_bitCount_0f7a4 49 = .ok (.bipush 63, 2) := by decide +kernel
theorem dJ6_bitCount_0f7a4_51 : decode cJ6_bitCount_0f7a4 51 = .ok (.iand, 1) := by decide +kernel
theorem dJ6_bitCount_0f7a4_52 : decode cJ6_bitCount_0f7a4 52 = .ok (.ireturn, 1) := by decide +kernel
theorem dJ9_abs_0f7a4_0 : decode cJ9_abs_0f7a4 0 = .ok (.iload_n 0, 1) := by decide +kernel
theorem dJ9_abs_0f7a4_1 : decode cJ9_abs_0f7a4 1 = .ok (.ifCond .ge 8, 3) := by decide +kernel
theorem dJ9_abs_0f7a4_4 : decode cJ9_abs_0f7a4 4 = .ok (.iload_n 0, 1) := by decide +kernel
theorem dJ9_abs_0f7a4_5 : decode cJ9_abs_0f7a4 5 = .ok (.ineg, 1) := by decide +kernel
theorem dJ9_abs_0f7a4_6 : decode cJ9_abs_0f7a4 6 = .ok (.goto 4, 3) := by decide +kernel
theorem dJ9_abs_0f7a4_9 : decode cJ9_abs_0f7a4 9 = .ok (.iload_n 0, 1) := by decide +kernel
theorem dJ9_abs_0f7a4_10 : decode cJ9_abs_0f7a4 10 = .ok (.ireturn, 1) := by decide +kernel
theorem dJ9_max_7cf53_0 : decode cJ9_max_7cf53 0 = .ok (.iload_n 0, 1) := by decide +kernel
theorem dJ9_max_7cf53_1 : decode cJ9_max_7cf53 1 = .ok (.iload_n 1, 1) := by decide +kernel
theorem dJ9_max_7cf53_2 : decode cJ9_max_7cf53 2 = .ok (.if_icmp .lt 7, 3) := by decide +kernel
theorem dJ9_max_7cf53_5 : decode cJ9_max_7cf53 5 = .ok (.iload_n 0, 1) := by decide +kernel
theorem dJ9_max_7cf53_6 : decode cJ9_max_7cf53 6 = .ok (.goto 4, 3) := by decide +kernel
theorem dJ9_max_7cf53_9 : decode cJ9_max_7cf53 9 = .ok (.iload_n 1, 1) := by decide +kernel
theorem dJ9_max_7cf53_10 : decode cJ9_max_7cf53 10 = .ok (.ireturn, 1) := by decide +kernel
theorem dJ9_min_7cf53_0 : decode cJ9_min_7cf53 0 = .ok (.iload_n 0, 1) := by decide +kernel
theorem dJ9_min_7cf53_1 : decode cJ9_min_7cf53 1 = .ok (.iload_n 1, 1) := by decide +kernel
theorem dJ9_min_7cf53_2 : decode cJ9_min_7cf53 2 = .ok (.if_icmp .gt 7, 3) := by decide +kernel
theorem dJ9_min_7cf53_5 : decode cJ9_min_7cf53 5 = .ok (.iload_n 0, 1) := by decide +kernel
theorem dJ9_min_7cf53_6 : decode cJ9_min_7cf53 6 = .ok (.goto 4, 3) := by decide +kernel
theorem dJ9_min_7cf53_9 : decode cJ9_min_7cf53 9 = .ok (.iload_n 1, 1) := by decide +kernel
theorem dJ9_min_7cf53_10 : decode cJ9_min_7cf53 10 = .ok (.ireturn, 1) := by decide +kernel
theorem dL_cell_0 : decode cL_cell 0 = .ok (.iload_n 1, 1) := by decide +kernel
theorem dL_cell_1 : decode cL_cell 1 = .ok (.aload_n 0, 1) := by decide +kernel
theorem dL_cell_2 : decode cL_cell 2 = .ok (.arraylength, 1) := by decide +kernel
theorem dL_cell_3 : decode cL_cell 3 = .ok (.if_icmp .ge 9, 3) := by decide +kernel
theorem dL_cell_6 : decode cL_cell 6 = .ok (.aload_n 0, 1) := by decide +kernel
theorem dL_cell_7 : decode cL_cell 7 = .ok (.iload_n 1, 1) := by decide +kernel
theorem dL_cell_8 : decode cL_cell 8 = .ok (.iaload, 1) := by decide +kernel
theorem dL_cell_9 : decode cL_cell 9 = .ok (.goto 9, 3) := by decide +kernel
theorem dL_cell_12 : decode cL_cell 12 = .ok (.ldc 7, 2) := by decide +kernel
theorem dL_cell_14 : decode cL_cell 14 = .ok (.iload_n 1, 1) := by decide +kernel
theorem dL_cell_15 : decode cL_cell 15 = .ok (.iconst 3, 1) := by decide +kernel
theorem dL_cell_16 : decode cL_cell 16 = .ok (.iadd, 1) := by decide +kernel
theorem dL_cell_17 : decode cL_cell 17 = .ok (.imul, 1) := by decide +kernel
theorem dL_cell_18 : decode cL_cell 18 = .ok (.ireturn, 1) := by decide +kernel
theorem dL_low_0 : decode cL_low 0 = .ok (.iload_n 0, 1) := by decide +kernel
theorem dL_low_1 : decode cL_low 1 = .ok (.ldc 8, 2) := by decide +kernel
theorem dL_low_3 : decode cL_low 3 = .ok (.iand, 1) := by decide +kernel
theorem dL_low_4 : decode cL_low 4 = .ok (.iload_n 1, 1) := by decide +kernel
theorem dL_low_5 : decode cL_low 5 = .ok (.irem, 1) := by decide +kernel
theorem dL_low_6 : decode cL_low 6 = .ok (.ireturn, 1) := by decide +kernel
theorem dL_of_0 : decode cL_of 0 = .ok (.aload_n 0, 1) := by decide +kernel
theorem dL_of_1 : decode cL_of 1 = .ok (.iconst 3, 1) := by decide +kernel
theorem dL_of_2 : decode cL_of 2 = .ok (.iload_n 1, 1) := by decide +kernel
theorem dL_of_3 : decode cL_of 3 = .ok (.imul, 1) := by decide +kernel
theorem dL_of_4 : decode cL_of 4 = .ok (.iload_n 2, 1) := by decide +kernel
theorem dL_of_5 : decode cL_of 5 = .ok (.iconst 4, 1) := by decide +kernel
theorem dL_of_6 : decode cL_of 6 = .ok (.idiv, 1) := by decide +kernel
theorem dL_of_7 : decode cL_of 7 = .ok (.iadd, 1) := by decide +kernel
theorem dL_of_8 : decode cL_of 8 = .ok (.laload, 1) := by decide +kernel
theorem dL_of_9 : decode cL_of 9 = .ok (.bipush 16, 2) := by decide +kernel
theorem dL_of_11 : decode cL_of 11 = .ok (.iload_n 2, 1) := by decide +kernel
theorem dL_of_12 : decode cL_of 12 = .ok (.iconst 4, 1) := by decide +kernel
theorem dL_of_13 : decode cL_of 13 = .ok (.irem, 1) := by decide +kernel
theorem dL_of_14 : decode cL_of 14 = .ok (.imul, 1) := by decide +kernel
theorem dL_of_15 : decode cL_of 15 = .ok (.lshr, 1) := by decide +kernel
theorem dL_of_16 : decode cL_of 16 = .ok (.ldc2_w 9, 3) := by decide +kernel
theorem dL_of_19 : decode cL_of 19 = .ok (.land, 1) := by decide +kernel
theorem dL_of_20 : decode cL_of 20 = .ok (.l2i, 1) := by decide +kernel
theorem dL_of_21 : decode cL_of 21 = .ok (.ireturn, 1) := by decide +kernel
theorem dL_put_0 : decode cL_put 0 = .ok (.iconst 3, 1) := by decide +kernel
theorem dL_put_1 : decode cL_put 1 = .ok (.iload_n 1, 1) := by decide +kernel
theorem dL_put_2 : decode cL_put 2 = .ok (.imul, 1) := by decide +kernel
theorem dL_put_3 : decode cL_put 3 = .ok (.iload_n 2, 1) := by decide +kernel
theorem dL_put_4 : decode cL_put 4 = .ok (.iconst 4, 1) := by decide +kernel
theorem dL_put_5 : decode cL_put 5 = .ok (.idiv, 1) := by decide +kernel
theorem dL_put_6 : decode cL_put 6 = .ok (.iadd, 1) := by decide +kernel
theorem dL_put_7 : decode cL_put 7 = .ok (.istore 5, 2) := by decide +kernel
theorem dL_put_9 : decode cL_put 9 = .ok (.aload_n 0, 1) := by decide +kernel
theorem dL_put_10 : decode cL_put 10 = .ok (.iload 5, 2) := by decide +kernel
theorem dL_put_12 : decode cL_put 12 = .ok (.aload_n 0, 1) := by decide +kernel
theorem dL_put_13 : decode cL_put 13 = .ok (.iload 5, 2) := by decide +kernel
theorem dL_put_15 : decode cL_put 15 = .ok (.laload, 1) := by decide +kernel
theorem dL_put_16 : decode cL_put 16 = .ok (.ldc2_w 9, 3) := by decide +kernel
theorem dL_put_19 : decode cL_put 19 = .ok (.bipush 16, 2) := by decide +kernel
theorem dL_put_21 : decode cL_put 21 = .ok (.iload_n 2, 1) := by decide +kernel
theorem dL_put_22 : decode cL_put 22 = .ok (.iconst 4, 1) := by decide +kernel
theorem dL_put_23 : decode cL_put 23 = .ok (.irem, 1) := by decide +kernel
theorem dL_put_24 : decode cL_put 24 = .ok (.imul, 1) := by decide +kernel
theorem dL_put_25 : decode cL_put 25 = .ok (.lshl, 1) := by decide +kernel
theorem dL_put_26 : decode cL_put 26 = .ok (.ldc2_w 11, 3) := by decide +kernel
theorem dL_put_29 : decode cL_put 29 = .ok (.lxor, 1) := by decide +kernel
theorem dL_put_30 : decode cL_put 30 = .ok (.land, 1) := by decide +kernel
theorem dL_put_31 : decode cL_put 31 = .ok (.iload_n 3, 1) := by decide +kernel
theorem dL_put_32 : decode cL_put 32 = .ok (.sipush 256, 3) := by decide +kernel
theorem dL_put_35 : decode cL_put 35 = .ok (.iload 4, 2) := by decide +kernel
theorem dL_put_37 : decode cL_put 37 = .ok (.imul, 1) := by decide +kernel
theorem dL_put_38 : decode cL_put 38 = .ok (.iadd, 1) := by decide +kernel
theorem dL_put_39 : decode cL_put 39 = .ok (.i2l, 1) := by decide +kernel
theorem dL_put_40 : decode cL_put 40 = .ok (.bipush 16, 2) := by decide +kernel
theorem dL_put_42 : decode cL_put 42 = .ok (.iload_n 2, 1) := by decide +kernel
theorem dL_put_43 : decode cL_put 43 = .ok (.iconst 4, 1) := by decide +kernel
theorem dL_put_44 : decode cL_put 44 = .ok (.irem, 1) := by decide +kernel
theorem dL_put_45 : decode cL_put 45 = .ok (.imul, 1) := by decide +kernel
theorem dL_put_46 : decode cL_put 46 = .ok (.lshl, 1) := by decide +kernel
theorem dL_put_47 : decode cL_put 47 = .ok (.lor, 1) := by decide +kernel
theorem dL_put_48 : decode cL_put 48 = .ok (.lastore, 1) := by decide +kernel
theorem dL_put_49 : decode cL_put 49 = .ok (.return_, 1) := by decide +kernel
theorem dL_place_0 : decode cL_place 0 = .ok (.aload_n 1, 1) := by decide +kernel
theorem dL_place_1 : decode cL_place 1 = .ok (.aload_n 0, 1) := by decide +kernel
theorem dL_place_2 : decode cL_place 2 = .ok (.iconst 1, 1) := by decide +kernel
theorem dL_place_3 : decode cL_place 3 = .ok (.iaload, 1) := by decide +kernel
theorem dL_place_4 : decode cL_place 4 = .ok (.iconst 1, 1) := by decide +kernel
theorem dL_place_5 : decode cL_place 5 = .ok (.isub, 1) := by decide +kernel
theorem dL_place_6 : decode cL_place 6 = .ok (.iload_n 2, 1) := by decide +kernel
theorem dL_place_7 : decode cL_place 7 = .ok (.invokestatic 13, 3) := by decide +kernel
theorem dL_place_10 : decode cL_place 10 = .ok (.sipush 256, 3) := by decide +kernel
theorem dL_place_13 : decode cL_place 13 = .ok (.irem, 1) := by decide +kernel
theorem dL_place_14 : decode cL_place 14 = .ok (.ireturn, 1) := by decide +kernel
theorem dL_begins_0 : decode cL_begins 0 = .ok (.aload_n 0, 1) := by decide +kernel
theorem dL_begins_1 : decode cL_begins 1 = .ok (.iconst 0, 1) := by decide +kernel
theorem dL_begins_2 : decode cL_begins 2 = .ok (.iload 4, 2) := by decide +kernel
theorem dL_begins_4 : decode cL_begins 4 = .ok (.iastore, 1) := by decide +kernel
theorem dL_begins_5 : decode cL_begins 5 = .ok (.aload_n 0, 1) := by decide +kernel
theorem dL_begins_6 : decode cL_begins 6 = .ok (.iconst 1, 1) := by decide +kernel
theorem dL_begins_7 : decode cL_begins 7 = .ok (.iconst 1, 1) := by decide +kernel
theorem dL_begins_8 : decode cL_begins 8 = .ok (.iastore, 1) := by decide +kernel
theorem dL_begins_9 : decode cL_begins 9 = .ok (.aload_n 0, 1) := by decide +kernel
theorem dL_begins_10 : decode cL_begins 10 = .ok (.iconst 2, 1) := by decide +kernel
theorem dL_begins_11 : decode cL_begins 11 = .ok (.iconst 1, 1) := by decide +kernel
theorem dL_begins_12 : decode cL_begins 12 = .ok (.iastore, 1) := by decide +kernel
theorem dL_begins_13 : decode cL_begins 13 = .ok (.aload_n 0, 1) := by decide +kernel
theorem dL_begins_14 : decode cL_begins 14 = .ok (.iconst 3, 1) := by decide +kernel
theorem dL_begins_15 : decode cL_begins 15 = .ok (.iconst 0, 1) := by decide +kernel
theorem dL_begins_16 : decode cL_begins 16 = .ok (.iastore, 1) := by decide +kernel
theorem dL_begins_17 : decode cL_begins 17 = .ok (.aload_n 0, 1) := by decide +kernel
theorem dL_begins_18 : decode cL_begins 18 = .ok (.iconst 4, 1) := by decide +kernel
theorem dL_begins_19 : decode cL_begins 19 = .ok (.iconst 0, 1) := by decide +kernel
theorem dL_begins_20 : decode cL_begins 20 = .ok (.iastore, 1) := by decide +kernel
theorem dL_begins_21 : decode cL_begins 21 = .ok (.aload_n 2, 1) := by decide +kernel
theorem dL_begins_22 : decode cL_begins 22 = .ok (.iconst 0, 1) := by decide +kernel
theorem dL_begins_23 : decode cL_begins 23 = .ok (.iconst 0, 1) := by decide +kernel
theorem dL_begins_24 : decode cL_begins 24 = .ok (.iastore, 1) := by decide +kernel
theorem dL_begins_25 : decode cL_begins 25 = .ok (.iconst 0, 1) := by decide +kernel
theorem dL_begins_26 : decode cL_begins 26 = .ok (.istore 7, 2) := by decide +kernel
theorem dL_begins_28 : decode cL_begins 28 = .ok (.iload 7, 2) := by decide +kernel
theorem dL_begins_30 : decode cL_begins 30 = .ok (.bipush 12, 2) := by decide +kernel
theorem dL_begins_32 : decode cL_begins 32 = .ok (.if_icmp .ge 60, 3) := by decide +kernel
theorem dL_begins_35 : decode cL_begins 35 = .ok (.aload_n 1, 1) := by decide +kernel
theorem dL_begins_36 : decode cL_begins 36 = .ok (.iload 7, 2) := by decide +kernel
theorem dL_begins_38 : decode cL_begins 38 = .ok (.iload 7, 2) := by decide +kernel
theorem dL_begins_40 : decode cL_begins 40 = .ok (.iload 4, 2) := by decide +kernel
theorem dL_begins_42 : decode cL_begins 42 = .ok (.if_icmp .ge 7, 3) := by decide +kernel
theorem dL_begins_45 : decode cL_begins 45 = .ok (.iconst 1, 1) := by decide +kernel
theorem dL_begins_46 : decode cL_begins 46 = .ok (.goto 4, 3) := by decide +kernel
theorem dL_begins_49 : decode cL_begins 49 = .ok (.iconst 0, 1) := by decide +kernel
theorem dL_begins_50 : decode cL_begins 50 = .ok (.iastore, 1) := by decide +kernel
theorem dL_begins_51 : decode cL_begins 51 = .ok (.aload_n 3, 1) := by decide +kernel
theorem dL_begins_52 : decode cL_begins 52 = .ok (.iconst 0, 1) := by decide +kernel
theorem dL_begins_53 : decode cL_begins 53 = .ok (.iload 7, 2) := by decide +kernel
theorem dL_begins_55 : decode cL_begins 55 = .ok (.iload 5, 2) := by decide +kernel
theorem dL_begins_57 : decode cL_begins 57 = .ok (.iload 7, 2) := by decide +kernel
theorem dL_begins_59 : decode cL_begins 59 = .ok (.iload 6, 2) := by decide +kernel
