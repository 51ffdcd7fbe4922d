theorem dX7_isGeneration_6 : decode cX7_isGeneration 6 = .ok (.getfield 7, 3) := by decide +kernel
theorem dX7_isGeneration_9 : decode cX7_isGeneration 9 = .ok (.iconst 1, 1) := by decide +kernel
theorem dX7_isGeneration_10 : decode cX7_isGeneration 10 = .ok (.iaload, 1) := by decide +kernel
theorem dX7_isGeneration_11 : decode cX7_isGeneration 11 = .ok (.if_icmp .ge 7, 3) := by decide +kernel
theorem dX7_isGeneration_14 : decode cX7_isGeneration 14 = .ok (.iconst 1, 1) := by decide +kernel
theorem dX7_isGeneration_15 : decode cX7_isGeneration 15 = .ok (.goto 4, 3) := by decide +kernel
theorem dX7_isGeneration_18 : decode cX7_isGeneration 18 = .ok (.iconst 0, 1) := by decide +kernel
theorem dX7_isGeneration_19 : decode cX7_isGeneration 19 = .ok (.ireturn, 1) := by decide +kernel
theorem dX7_latest_0 : decode cX7_latest 0 = .ok (.aload_n 0, 1) := by decide +kernel
theorem dX7_latest_1 : decode cX7_latest 1 = .ok (.getfield 7, 3) := by decide +kernel
theorem dX7_latest_4 : decode cX7_latest 4 = .ok (.iconst 1, 1) := by decide +kernel
theorem dX7_latest_5 : decode cX7_latest 5 = .ok (.iaload, 1) := by decide +kernel
theorem dX7_latest_6 : decode cX7_latest 6 = .ok (.iconst 1, 1) := by decide +kernel
theorem dX7_latest_7 : decode cX7_latest 7 = .ok (.isub, 1) := by decide +kernel
theorem dX7_latest_8 : decode cX7_latest 8 = .ok (.ireturn, 1) := by decide +kernel
theorem dX7_placeIn_0 : decode cX7_placeIn 0 = .ok (.aload_n 0, 1) := by decide +kernel
theorem dX7_placeIn_1 : decode cX7_placeIn 1 = .ok (.getfield 7, 3) := by decide +kernel
theorem dX7_placeIn_4 : decode cX7_placeIn 4 = .ok (.sipush 340, 3) := by decide +kernel
theorem dX7_placeIn_7 : decode cX7_placeIn 7 = .ok (.bipush 12, 2) := by decide +kernel
theorem dX7_placeIn_9 : decode cX7_placeIn 9 = .ok (.iload_n 1, 1) := by decide +kernel
theorem dX7_placeIn_10 : decode cX7_placeIn 10 = .ok (.imul, 1) := by decide +kernel
theorem dX7_placeIn_11 : decode cX7_placeIn 11 = .ok (.iadd, 1) := by decide +kernel
theorem dX7_placeIn_12 : decode cX7_placeIn 12 = .ok (.iload_n 2, 1) := by decide +kernel
theorem dX7_placeIn_13 : decode cX7_placeIn 13 = .ok (.iadd, 1) := by decide +kernel
theorem dX7_placeIn_14 : decode cX7_placeIn 14 = .ok (.iaload, 1) := by decide +kernel
theorem dX7_placeIn_15 : decode cX7_placeIn 15 = .ok (.ireturn, 1) := by decide +kernel
theorem dX7_takes_0 : decode cX7_takes 0 = .ok (.aload_n 0, 1) := by decide +kernel
theorem dX7_takes_1 : decode cX7_takes 1 = .ok (.getfield 7, 3) := by decide +kernel
theorem dX7_takes_4 : decode cX7_takes 4 = .ok (.iconst 2, 1) := by decide +kernel
theorem dX7_takes_5 : decode cX7_takes 5 = .ok (.aload_n 0, 1) := by decide +kernel
theorem dX7_takes_6 : decode cX7_takes 6 = .ok (.getfield 7, 3) := by decide +kernel
theorem dX7_takes_9 : decode cX7_takes 9 = .ok (.iconst 2, 1) := by decide +kernel
theorem dX7_takes_10 : decode cX7_takes 10 = .ok (.iaload, 1) := by decide +kernel
theorem dX7_takes_11 : decode cX7_takes 11 = .ok (.bipush 75, 2) := by decide +kernel
theorem dX7_takes_13 : decode cX7_takes 13 = .ok (.imul, 1) := by decide +kernel
theorem dX7_takes_14 : decode cX7_takes 14 = .ok (.bipush 74, 2) := by decide +kernel
theorem dX7_takes_16 : decode cX7_takes 16 = .ok (.iadd, 1) := by decide +kernel
theorem dX7_takes_17 : decode cX7_takes 17 = .ok (.ldc 51, 2) := by decide +kernel
theorem dX7_takes_19 : decode cX7_takes 19 = .ok (.irem, 1) := by decide +kernel
theorem dX7_takes_20 : decode cX7_takes 20 = .ok (.iastore, 1) := by decide +kernel
theorem dX7_takes_21 : decode cX7_takes 21 = .ok (.aload_n 0, 1) := by decide +kernel
theorem dX7_takes_22 : decode cX7_takes 22 = .ok (.getfield 7, 3) := by decide +kernel
theorem dX7_takes_25 : decode cX7_takes 25 = .ok (.iconst 2, 1) := by decide +kernel
theorem dX7_takes_26 : decode cX7_takes 26 = .ok (.iaload, 1) := by decide +kernel
theorem dX7_takes_27 : decode cX7_takes 27 = .ok (.ireturn, 1) := by decide +kernel
theorem dX7_divisor_0 : decode cX7_divisor 0 = .ok (.iload_n 0, 1) := by decide +kernel
theorem dX7_divisor_1 : decode cX7_divisor 1 = .ok (.istore_n 2, 1) := by decide +kernel
theorem dX7_divisor_2 : decode cX7_divisor 2 = .ok (.iload_n 1, 1) := by decide +kernel
theorem dX7_divisor_3 : decode cX7_divisor 3 = .ok (.istore_n 3, 1) := by decide +kernel
theorem dX7_divisor_4 : decode cX7_divisor 4 = .ok (.iload_n 3, 1) := by decide +kernel
theorem dX7_divisor_5 : decode cX7_divisor 5 = .ok (.ifCond .eq 16, 3) := by decide +kernel
theorem dX7_divisor_8 : decode cX7_divisor 8 = .ok (.iload_n 2, 1) := by decide +kernel
theorem dX7_divisor_9 : decode cX7_divisor 9 = .ok (.iload_n 3, 1) := by decide +kernel
theorem dX7_divisor_10 : decode cX7_divisor 10 = .ok (.irem, 1) := by decide +kernel
theorem dX7_divisor_11 : decode cX7_divisor 11 = .ok (.istore 4, 2) := by decide +kernel
theorem dX7_divisor_13 : decode cX7_divisor 13 = .ok (.iload_n 3, 1) := by decide +kernel
theorem dX7_divisor_14 : decode cX7_divisor 14 = .ok (.istore_n 2, 1) := by decide +kernel
theorem dX7_divisor_15 : decode cX7_divisor 15 = .ok (.iload 4, 2) := by decide +kernel
theorem dX7_divisor_17 : decode cX7_divisor 17 = .ok (.istore_n 3, 1) := by decide +kernel
theorem dX7_divisor_18 : decode cX7_divisor 18 = .ok (.goto (-14), 3) := by decide +kernel
theorem dX7_divisor_21 : decode cX7_divisor 21 = .ok (.iload_n 2, 1) := by decide +kernel
theorem dX7_divisor_22 : decode cX7_divisor 22 = .ok (.ireturn, 1) := by decide +kernel
theorem dX7_sum_0 : decode cX7_sum 0 = .ok (.iconst 0, 1) := by decide +kernel
theorem dX7_sum_1 : decode cX7_sum 1 = .ok (.istore_n 1, 1) := by decide +kernel
theorem dX7_sum_2 : decode cX7_sum 2 = .ok (.iconst 0, 1) := by decide +kernel
theorem dX7_sum_3 : decode cX7_sum 3 = .ok (.istore_n 2, 1) := by decide +kernel
theorem dX7_sum_4 : decode cX7_sum 4 = .ok (.iload_n 2, 1) := by decide +kernel
theorem dX7_sum_5 : decode cX7_sum 5 = .ok (.aload_n 0, 1) := by decide +kernel
theorem dX7_sum_6 : decode cX7_sum 6 = .ok (.getfield 7, 3) := by decide +kernel
theorem dX7_sum_9 : decode cX7_sum 9 = .ok (.iconst 0, 1) := by decide +kernel
theorem dX7_sum_10 : decode cX7_sum 10 = .ok (.iaload, 1) := by decide +kernel
theorem dX7_sum_11 : decode cX7_sum 11 = .ok (.if_icmp .ge 21, 3) := by decide +kernel
theorem dX7_sum_14 : decode cX7_sum 14 = .ok (.iload_n 1, 1) := by decide +kernel
theorem dX7_sum_15 : decode cX7_sum 15 = .ok (.aload_n 0, 1) := by decide +kernel
theorem dX7_sum_16 : decode cX7_sum 16 = .ok (.getfield 7, 3) := by decide +kernel
theorem dX7_sum_19 : decode cX7_sum 19 = .ok (.bipush 8, 2) := by decide +kernel
theorem dX7_sum_21 : decode cX7_sum 21 = .ok (.iload_n 2, 1) := by decide +kernel
theorem dX7_sum_22 : decode cX7_sum 22 = .ok (.iadd, 1) := by decide +kernel
theorem dX7_sum_23 : decode cX7_sum 23 = .ok (.iaload, 1) := by decide +kernel
theorem dX7_sum_24 : decode cX7_sum 24 = .ok (.iadd, 1) := by decide +kernel
theorem dX7_sum_25 : decode cX7_sum 25 = .ok (.istore_n 1, 1) := by decide +kernel
theorem dX7_sum_26 : decode cX7_sum 26 = .ok (.iinc 2 1, 3) := by decide +kernel
theorem dX7_sum_29 : decode cX7_sum 29 = .ok (.goto (-25), 3) := by decide +kernel
theorem dX7_sum_32 : decode cX7_sum 32 = .ok (.iload_n 1, 1) := by decide +kernel
theorem dX7_sum_33 : decode cX7_sum 33 = .ok (.ireturn, 1) := by decide +kernel
theorem dX7_effective_0 : decode cX7_effective 0 = .ok (.lconst 0, 1) := by decide +kernel
theorem dX7_effective_1 : decode cX7_effective 1 = .ok (.lstore_n 1, 1) := by decide +kernel
theorem dX7_effective_2 : decode cX7_effective 2 = .ok (.aload_n 0, 1) := by decide +kernel
theorem dX7_effective_3 : decode cX7_effective 3 = .ok (.invokevirtual 52, 3) := by decide +kernel
theorem dX7_effective_6 : decode cX7_effective 6 = .ok (.i2l, 1) := by decide +kernel
theorem dX7_effective_7 : decode cX7_effective 7 = .ok (.lstore_n 3, 1) := by decide +kernel
theorem dX7_effective_8 : decode cX7_effective 8 = .ok (.iconst 0, 1) := by decide +kernel
theorem dX7_effective_9 : decode cX7_effective 9 = .ok (.istore 5, 2) := by decide +kernel
theorem dX7_effective_11 : decode cX7_effective 11 = .ok (.iload 5, 2) := by decide +kernel
theorem dX7_effective_13 : decode cX7_effective 13 = .ok (.aload_n 0, 1) := by decide +kernel
theorem dX7_effective_14 : decode cX7_effective 14 = .ok (.getfield 7, 3) := by decide +kernel
theorem dX7_effective_17 : decode cX7_effective 17 = .ok (.iconst 0, 1) := by decide +kernel
theorem dX7_effective_18 : decode cX7_effective 18 = .ok (.iaload, 1) := by decide +kernel
theorem dX7_effective_19 : decode cX7_effective 19 = .ok (.if_icmp .ge 35, 3) := by decide +kernel
theorem dX7_effective_22 : decode cX7_effective 22 = .ok (.lload_n 1, 1) := by decide +kernel
theorem dX7_effective_23 : decode cX7_effective 23 = .ok (.aload_n 0, 1) := by decide +kernel
theorem dX7_effective_24 : decode cX7_effective 24 = .ok (.getfield 7, 3) := by decide +kernel
theorem dX7_effective_27 : decode cX7_effective 27 = .ok (.bipush 8, 2) := by decide +kernel
theorem dX7_effective_29 : decode cX7_effective 29 = .ok (.iload 5, 2) := by decide +kernel
theorem dX7_effective_31 : decode cX7_effective 31 = .ok (.iadd, 1) := by decide +kernel
theorem dX7_effective_32 : decode cX7_effective 32 = .ok (.iaload, 1) := by decide +kernel
theorem dX7_effective_33 : decode cX7_effective 33 = .ok (.i2l, 1) := by decide +kernel
theorem dX7_effective_34 : decode cX7_effective 34 = .ok (.aload_n 0, 1) := by decide +kernel
theorem dX7_effective_35 : decode cX7_effective 35 = .ok (.getfield 7, 3) := by decide +kernel
theorem dX7_effective_38 : decode cX7_effective 38 = .ok (.bipush 8, 2) := by decide +kernel
theorem dX7_effective_40 : decode cX7_effective 40 = .ok (.iload 5, 2) := by decide +kernel
theorem dX7_effective_42 : decode cX7_effective 42 = .ok (.iadd, 1) := by decide +kernel
theorem dX7_effective_43 : decode cX7_effective 43 = .ok (.iaload, 1) := by decide +kernel
theorem dX7_effective_44 : decode cX7_effective 44 = .ok (.i2l, 1) := by decide +kernel
theorem dX7_effective_45 : decode cX7_effective 45 = .ok (.lmul, 1) := by decide +kernel
theorem dX7_effective_46 : decode cX7_effective 46 = .ok (.ladd, 1) := by decide +kernel
theorem dX7_effective_47 : decode cX7_effective 47 = .ok (.lstore_n 1, 1) := by decide +kernel
theorem dX7_effective_48 : decode cX7_effective 48 = .ok (.iinc 5 1, 3) := by decide +kernel
theorem dX7_effective_51 : decode cX7_effective 51 = .ok (.goto (-40), 3) := by decide +kernel
theorem dX7_effective_54 : decode cX7_effective 54 = .ok (.lload_n 3, 1) := by decide +kernel
theorem dX7_effective_55 : decode cX7_effective 55 = .ok (.lload_n 3, 1) := by decide +kernel
theorem dX7_effective_56 : decode cX7_effective 56 = .ok (.lmul, 1) := by decide +kernel
theorem dX7_effective_57 : decode cX7_effective 57 = .ok (.lload_n 1, 1) := by decide +kernel
theorem dX7_effective_58 : decode cX7_effective 58 = .ok (.ldiv, 1) := by decide +kernel
theorem dX7_effective_59 : decode cX7_effective 59 = .ok (.l2i, 1) := by decide +kernel
theorem dX7_effective_60 : decode cX7_effective 60 = .ok (.ireturn, 1) := by decide +kernel
theorem dX7_divides_0 : decode cX7_divides 0 = .ok (.iconst 0, 1) := by decide +kernel
theorem dX7_divides_1 : decode cX7_divides 1 = .ok (.istore_n 1, 1) := by decide +kernel
theorem dX7_divides_2 : decode cX7_divides 2 = .ok (.iconst 0, 1) := by decide +kernel
theorem dX7_divides_3 : decode cX7_divides 3 = .ok (.istore_n 2, 1) := by decide +kernel
theorem dX7_divides_4 : decode cX7_divides 4 = .ok (.iconst 0, 1) := by decide +kernel
theorem dX7_divides_5 : decode cX7_divides 5 = .ok (.istore_n 3, 1) := by decide +kernel
theorem dX7_divides_6 : decode cX7_divides 6 = .ok (.iload_n 3, 1) := by decide +kernel
theorem dX7_divides_7 : decode cX7_divides 7 = .ok (.aload_n 0, 1) := by decide +kernel
theorem dX7_divides_8 : decode cX7_divides 8 = .ok (.getfield 7, 3) := by decide +kernel
theorem dX7_divides_11 : decode cX7_divides 11 = .ok (.iconst 0, 1) := by decide +kernel
theorem dX7_divides_12 : decode cX7_divides 12 = .ok (.iaload, 1) := by decide +kernel
theorem dX7_divides_13 : decode cX7_divides 13 = .ok (.if_icmp .ge 23, 3) := by decide +kernel
theorem dX7_divides_16 : decode cX7_divides 16 = .ok (.aload_n 0, 1) := by decide +kernel
theorem dX7_divides_17 : decode cX7_divides 17 = .ok (.getfield 7, 3) := by decide +kernel
theorem dX7_divides_20 : decode cX7_divides 20 = .ok (.bipush 8, 2) := by decide +kernel
theorem dX7_divides_22 : decode cX7_divides 22 = .ok (.iload_n 3, 1) := by decide +kernel
theorem dX7_divides_23 : decode cX7_divides 23 = .ok (.iadd, 1) := by decide +kernel
theorem dX7_divides_24 : decode cX7_divides 24 = .ok (.iaload, 1) := by decide +kernel
theorem dX7_divides_25 : decode cX7_divides 25 = .ok (.iload_n 1, 1) := by decide +kernel
theorem dX7_divides_26 : decode cX7_divides 26 = .ok (.invokestatic 56, 3) := by decide +kernel
theorem dX7_divides_29 : decode cX7_divides 29 = .ok (.istore_n 1, 1) := by decide +kernel
theorem dX7_divides_30 : decode cX7_divides 30 = .ok (.iinc 3 1, 3) := by decide +kernel
theorem dX7_divides_33 : decode cX7_divides 33 = .ok (.goto (-27), 3) := by decide +kernel
theorem dX7_divides_36 : decode cX7_divides 36 = .ok (.iconst 0, 1) := by decide +kernel
theorem dX7_divides_37 : decode cX7_divides 37 = .ok (.istore_n 3, 1) := by decide +kernel
theorem dX7_divides_38 : decode cX7_divides 38 = .ok (.iload_n 3, 1) := by decide +kernel
theorem dX7_divides_39 : decode cX7_divides 39 = .ok (.aload_n 0, 1) := by decide +kernel
theorem dX7_divides_40 : decode cX7_divides 40 = .ok (.getfield 7, 3) := by decide +kernel
theorem dX7_divides_43 : decode cX7_divides 43 = .ok (.iconst 0, 1) := by decide +kernel
theorem dX7_divides_44 : decode cX7_divides 44 = .ok (.iaload, 1) := by decide +kernel
theorem dX7_divides_45 : decode cX7_divides 45 = .ok (.if_icmp .ge 53, 3) := by decide +kernel
theorem dX7_divides_48 : decode cX7_divides 48 = .ok (.iload_n 1, 1) := by decide +kernel
theorem dX7_divides_49 : decode cX7_divides 49 = .ok (.ifCond .le 49, 3) := by decide +kernel
theorem dX7_divides_52 : decode cX7_divides 52 = .ok (.aload_n 0, 1) := by decide +kernel
theorem dX7_divides_53 : decode cX7_divides 53 = .ok (.getfield 7, 3) := by decide +kernel
theorem dX7_divides_56 : decode cX7_divides 56 = .ok (.bipush 8, 2) := by decide +kernel
theorem dX7_divides_58 : decode cX7_divides 58 = .ok (.iload_n 3, 1) := by decide +kernel
theorem dX7_divides_59 : decode cX7_divides 59 = .ok (.iadd, 1) := by decide +kernel
theorem dX7_divides_60 : decode cX7_divides 60 = .ok (.dup2, 1) := by decide +kernel
theorem dX7_divides_61 : decode cX7_divides 61 = .ok (.iaload, 1) := by decide +kernel
theorem dX7_divides_62 : decode cX7_divides 62 = .ok (.iload_n 1, 1) := by decide +kernel
theorem dX7_divides_63 : decode cX7_divides 63 = .ok (.idiv, 1) := by decide +kernel
theorem dX7_divides_64 : decode cX7_divides 64 = .ok (.iastore, 1) := by decide +kernel
theorem dX7_divides_65 : decode cX7_divides 65 = .ok (.aload_n 0, 1) := by decide +kernel
theorem dX7_divides_66 : decode cX7_divides 66 = .ok (.getfield 7, 3) := by decide +kernel
theorem dX7_divides_69 : decode cX7_divides 69 = .ok (.bipush 8, 2) := by decide +kernel
theorem dX7_divides_71 : decode cX7_divides 71 = .ok (.iload_n 3, 1) := by decide +kernel
theorem dX7_divides_72 : decode cX7_divides 72 = .ok (.iadd, 1) := by decide +kernel
theorem dX7_divides_73 : decode cX7_divides 73 = .ok (.iaload, 1) := by decide +kernel
theorem dX7_divides_74 : decode cX7_divides 74 = .ok (.iload_n 2, 1) := by decide +kernel
theorem dX7_divides_75 : decode cX7_divides 75 = .ok (.if_icmp .le 15, 3) := by decide +kernel
theorem dX7_divides_78 : decode cX7_divides 78 = .ok (.aload_n 0, 1) := by decide +kernel
theorem dX7_divides_79 : decode cX7_divides 79 = .ok (.getfield 7, 3) := by decide +kernel
theorem dX7_divides_82 : decode cX7_divides 82 = .ok (.bipush 8, 2) := by decide +kernel
theorem dX7_divides_84 : decode cX7_divides 84 = .ok (.iload_n 3, 1) := by decide +kernel
theorem dX7_divides_85 : decode cX7_divides 85 = .ok (.iadd, 1) := by decide +kernel
theorem dX7_divides_86 : decode cX7_divides 86 = .ok (.iaload, 1) := by decide +kernel
theorem dX7_divides_87 : decode cX7_divides 87 = .ok (.goto 4, 3) := by decide +kernel
theorem dX7_divides_90 : decode cX7_divides 90 = .ok (.iload_n 2, 1) := by decide +kernel
theorem dX7_divides_91 : decode cX7_divides 91 = .ok (.istore_n 2, 1) := by decide +kernel
theorem dX7_divides_92 : decode cX7_divides 92 = .ok (.iinc 3 1, 3) := by decide +kernel
theorem dX7_divides_95 : decode cX7_divides 95 = .ok (.goto (-57), 3) := by decide +kernel
theorem dX7_divides_98 : decode cX7_divides 98 = .ok (.iload_n 2, 1) := by decide +kernel
theorem dX7_divides_99 : decode cX7_divides 99 = .ok (.ireturn, 1) := by decide +kernel
theorem dX7_byPoints_0 : decode cX7_byPoints 0 = .ok (.aload_n 0, 1) := by decide +kernel
theorem dX7_byPoints_1 : decode cX7_byPoints 1 = .ok (.getfield 7, 3) := by decide +kernel
theorem dX7_byPoints_4 : decode cX7_byPoints 4 = .ok (.iconst 0, 1) := by decide +kernel
theorem dX7_byPoints_5 : decode cX7_byPoints 5 = .ok (.iaload, 1) := by decide +kernel
theorem dX7_byPoints_6 : decode cX7_byPoints 6 = .ok (.istore_n 2, 1) := by decide +kernel
theorem dX7_byPoints_7 : decode cX7_byPoints 7 = .ok (.aload_n 0, 1) := by decide +kernel
theorem dX7_byPoints_8 : decode cX7_byPoints 8 = .ok (.invokevirtual 52, 3) := by decide +kernel
theorem dX7_byPoints_11 : decode cX7_byPoints 11 = .ok (.i2l, 1) := by decide +kernel
theorem dX7_byPoints_12 : decode cX7_byPoints 12 = .ok (.lstore_n 3, 1) := by decide +kernel
theorem dX7_byPoints_13 : decode cX7_byPoints 13 = .ok (.aload_n 0, 1) := by decide +kernel
theorem dX7_byPoints_14 : decode cX7_byPoints 14 = .ok (.getfield 7, 3) := by decide +kernel
theorem dX7_byPoints_17 : decode cX7_byPoints 17 = .ok (.bipush 7, 2) := by decide +kernel
theorem dX7_byPoints_19 : decode cX7_byPoints 19 = .ok (.iaload, 1) := by decide +kernel
theorem dX7_byPoints_20 : decode cX7_byPoints 20 = .ok (.i2l, 1) := by decide +kernel
theorem dX7_byPoints_21 : decode cX7_byPoints 21 = .ok (.lload_n 3, 1) := by decide +kernel
theorem dX7_byPoints_22 : decode cX7_byPoints 22 = .ok (.lmul, 1) := by decide +kernel
theorem dX7_byPoints_23 : decode cX7_byPoints 23 = .ok (.ldc2_w 60, 3) := by decide +kernel
theorem dX7_byPoints_26 : decode cX7_byPoints 26 = .ok (.ldiv, 1) := by decide +kernel
theorem dX7_byPoints_27 : decode cX7_byPoints 27 = .ok (.lstore 5, 2) := by decide +kernel
theorem dX7_byPoints_29 : decode cX7_byPoints 29 = .ok (.iconst 0, 1) := by decide +kernel
theorem dX7_byPoints_30 : decode cX7_byPoints 30 = .ok (.istore 7, 2) := by decide +kernel
theorem dX7_byPoints_32 : decode cX7_byPoints 32 = .ok (.iload 7, 2) := by decide +kernel
theorem dX7_byPoints_34 : decode cX7_byPoints 34 = .ok (.iload_n 2, 1) := by decide +kernel
theorem dX7_byPoints_35 : decode cX7_byPoints 35 = .ok (.if_icmp .ge 88, 3) := by decide +kernel
theorem dX7_byPoints_38 : decode cX7_byPoints 38 = .ok (.iload 7, 2) := by decide +kernel
theorem dX7_byPoints_40 : decode cX7_byPoints 40 = .ok (.i2l, 1) := by decide +kernel
theorem dX7_byPoints_41 : decode cX7_byPoints 41 = .ok (.lload_n 3, 1) := by decide +kernel
theorem dX7_byPoints_42 : decode cX7_byPoints 42 = .ok (.lmul, 1) := by decide +kernel
theorem dX7_byPoints_43 : decode cX7_byPoints 43 = .ok (.iload_n 1, 1) := by decide +kernel
theorem dX7_byPoints_44 : decode cX7_byPoints 44 = .ok (.ifCond .ne 8, 3) := by decide +kernel
theorem dX7_byPoints_47 : decode cX7_byPoints 47 = .ok (.lload 5, 2) := by decide +kernel
theorem dX7_byPoints_49 : decode cX7_byPoints 49 = .ok (.goto 10, 3) := by decide +kernel
theorem dX7_byPoints_52 : decode cX7_byPoints 52 = .ok (.aload_n 0, 1) := by decide +kernel
theorem dX7_byPoints_53 : decode cX7_byPoints 53 = .ok (.invokevirtual 62, 3) := by decide +kernel
theorem dX7_byPoints_56 : decode cX7_byPoints 56 = .ok (.i2l, 1) := by decide +kernel
theorem dX7_byPoints_57 : decode cX7_byPoints 57 = .ok (.lload_n 3, 1) := by decide +kernel
theorem dX7_byPoints_58 : decode cX7_byPoints 58 = .ok (.lrem, 1) := by decide +kernel
theorem dX7_byPoints_59 : decode cX7_byPoints 59 = .ok (.ladd, 1) := by decide +kernel
theorem dX7_byPoints_60 : decode cX7_byPoints 60 = .ok (.lstore 8, 2) := by decide +kernel
theorem dX7_byPoints_62 : decode cX7_byPoints 62 = .ok (.iconst 0, 1) := by decide +kernel
theorem dX7_byPoints_63 : decode cX7_byPoints 63 = .ok (.istore 10, 2) := by decide +kernel
theorem dX7_byPoints_65 : decode cX7_byPoints 65 = .ok (.aload_n 0, 1) := by decide +kernel
theorem dX7_byPoints_66 : decode cX7_byPoints 66 = .ok (.getfield 7, 3) := by decide +kernel
theorem dX7_byPoints_69 : decode cX7_byPoints 69 = .ok (.bipush 8, 2) := by decide +kernel
theorem dX7_byPoints_71 : decode cX7_byPoints 71 = .ok (.iaload, 1) := by decide +kernel
theorem dX7_byPoints_72 : decode cX7_byPoints 72 = .ok (.i2l, 1) := by decide +kernel
theorem dX7_byPoints_73 : decode cX7_byPoints 73 = .ok (.lstore 11, 2) := by decide +kernel
theorem dX7_byPoints_75 : decode cX7_byPoints 75 = .ok (.iload_n 2, 1) := by decide +kernel
theorem dX7_byPoints_76 : decode cX7_byPoints 76 = .ok (.i2l, 1) := by decide +kernel
theorem dX7_byPoints_77 : decode cX7_byPoints 77 = .ok (.lload 11, 2) := by decide +kernel
theorem dX7_byPoints_79 : decode cX7_byPoints 79 = .ok (.lmul, 1) := by decide +kernel
theorem dX7_byPoints_80 : decode cX7_byPoints 80 = .ok (.lload 8, 2) := by decide +kernel
theorem dX7_byPoints_82 : decode cX7_byPoints 82 = .ok (.lcmp, 1) := by decide +kernel
theorem dX7_byPoints_83 : decode cX7_byPoints 83 = .ok (.ifCond .gt 25, 3) := by decide +kernel
theorem dX7_byPoints_86 : decode cX7_byPoints 86 = .ok (.iinc 10 1, 3) := by decide +kernel
theorem dX7_byPoints_89 : decode cX7_byPoints 89 = .ok (.lload 11, 2) := by decide +kernel
theorem dX7_byPoints_91 : decode cX7_byPoints 91 = .ok (.aload_n 0, 1) := by decide +kernel
theorem dX7_byPoints_92 : decode cX7_byPoints 92 = .ok (.getfield 7, 3) := by decide +kernel
theorem dX7_byPoints_95 : decode cX7_byPoints 95 = .ok (.bipush 8, 2) := by decide +kernel
theorem dX7_byPoints_97 : decode cX7_byPoints 97 = .ok (.iload 10, 2) := by decide +kernel
theorem dX7_byPoints_99 : decode cX7_byPoints 99 = .ok (.iadd, 1) := by decide +kernel
theorem dX7_byPoints_100 : decode cX7_byPoints 100 = .ok (.iaload, 1) := by decide +kernel
theorem dX7_byPoints_101 : decode cX7_byPoints 101 = .ok (.i2l, 1) := by decide +kernel
theorem dX7_byPoints_102 : decode cX7_byPoints 102 = .ok (.ladd, 1) := by decide +kernel
theorem dX7_byPoints_103 : decode cX7_byPoints 103 = .ok (.lstore 11, 2) := by decide +kernel
theorem dX7_byPoints_105 : decode cX7_byPoints 105 = .ok (.goto (-30), 3) := by decide +kernel
theorem dX7_byPoints_108 : decode cX7_byPoints 108 = .ok (.aload_n 0, 1) := by decide +kernel
theorem dX7_byPoints_109 : decode cX7_byPoints 109 = .ok (.getfield 22, 3) := by decide +kernel
theorem dX7_byPoints_112 : decode cX7_byPoints 112 = .ok (.iload 7, 2) := by decide +kernel
theorem dX7_byPoints_114 : decode cX7_byPoints 114 = .ok (.iload 10, 2) := by decide +kernel
theorem dX7_byPoints_116 : decode cX7_byPoints 116 = .ok (.iastore, 1) := by decide +kernel
theorem dX7_byPoints_117 : decode cX7_byPoints 117 = .ok (.iinc 7 1, 3) := by decide +kernel
theorem dX7_byPoints_120 : decode cX7_byPoints 120 = .ok (.goto (-88), 3) := by decide +kernel
theorem dX7_byPoints_123 : decode cX7_byPoints 123 = .ok (.return_, 1) := by decide +kernel
theorem dX7_byTimes_0 : decode cX7_byTimes 0 = .ok (.aload_n 0, 1) := by decide +kernel
theorem dX7_byTimes_1 : decode cX7_byTimes 1 = .ok (.getfield 7, 3) := by decide +kernel
theorem dX7_byTimes_4 : decode cX7_byTimes 4 = .ok (.iconst 0, 1) := by decide +kernel
theorem dX7_byTimes_5 : decode cX7_byTimes 5 = .ok (.iaload, 1) := by decide +kernel
theorem dX7_byTimes_6 : decode cX7_byTimes 6 = .ok (.istore_n 1, 1) := by decide +kernel
theorem dX7_byTimes_7 : decode cX7_byTimes 7 = .ok (.aload_n 0, 1) := by decide +kernel
theorem dX7_byTimes_8 : decode cX7_byTimes 8 = .ok (.invokevirtual 52, 3) := by decide +kernel
theorem dX7_byTimes_11 : decode cX7_byTimes 11 = .ok (.i2l, 1) := by decide +kernel
theorem dX7_byTimes_12 : decode cX7_byTimes 12 = .ok (.lstore_n 2, 1) := by decide +kernel
theorem dX7_byTimes_13 : decode cX7_byTimes 13 = .ok (.iload_n 1, 1) := by decide +kernel
theorem dX7_byTimes_14 : decode cX7_byTimes 14 = .ok (.istore 4, 2) := by decide +kernel
theorem dX7_byTimes_16 : decode cX7_byTimes 16 = .ok (.iconst 0, 1) := by decide +kernel
theorem dX7_byTimes_17 : decode cX7_byTimes 17 = .ok (.istore 5, 2) := by decide +kernel
theorem dX7_byTimes_19 : decode cX7_byTimes 19 = .ok (.iload 5, 2) := by decide +kernel
theorem dX7_byTimes_21 : decode cX7_byTimes 21 = .ok (.iload_n 1, 1) := by decide +kernel
theorem dX7_byTimes_22 : decode cX7_byTimes 22 = .ok (.if_icmp .ge 68, 3) := by decide +kernel
theorem dX7_byTimes_25 : decode cX7_byTimes 25 = .ok (.aload_n 0, 1) := by decide +kernel
theorem dX7_byTimes_26 : decode cX7_byTimes 26 = .ok (.getfield 25, 3) := by decide +kernel
theorem dX7_byTimes_29 : decode cX7_byTimes 29 = .ok (.iload 5, 2) := by decide +kernel
theorem dX7_byTimes_31 : decode cX7_byTimes 31 = .ok (.iload_n 1, 1) := by decide +kernel
theorem dX7_byTimes_32 : decode cX7_byTimes 32 = .ok (.i2l, 1) := by decide +kernel
theorem dX7_byTimes_33 : decode cX7_byTimes 33 = .ok (.aload_n 0, 1) := by decide +kernel
theorem dX7_byTimes_34 : decode cX7_byTimes 34 = .ok (.getfield 7, 3) := by decide +kernel
theorem dX7_byTimes_37 : decode cX7_byTimes 37 = .ok (.bipush 8, 2) := by decide +kernel
theorem dX7_byTimes_39 : decode cX7_byTimes 39 = .ok (.iload 5, 2) := by decide +kernel
theorem dX7_byTimes_41 : decode cX7_byTimes 41 = .ok (.iadd, 1) := by decide +kernel
theorem dX7_byTimes_42 : decode cX7_byTimes 42 = .ok (.iaload, 1) := by decide +kernel
theorem dX7_byTimes_43 : decode cX7_byTimes 43 = .ok (.i2l, 1) := by decide +kernel
theorem dX7_byTimes_44 : decode cX7_byTimes 44 = .ok (.lmul, 1) := by decide +kernel
theorem dX7_byTimes_45 : decode cX7_byTimes 45 = .ok (.lload_n 2, 1) := by decide +kernel
theorem dX7_byTimes_46 : decode cX7_byTimes 46 = .ok (.ldiv, 1) := by decide +kernel
theorem dX7_byTimes_47 : decode cX7_byTimes 47 = .ok (.l2i, 1) := by decide +kernel
theorem dX7_byTimes_48 : decode cX7_byTimes 48 = .ok (.iastore, 1) := by decide +kernel
theorem dX7_byTimes_49 : decode cX7_byTimes 49 = .ok (.aload_n 0, 1) := by decide +kernel
theorem dX7_byTimes_50 : decode cX7_byTimes 50 = .ok (.getfield 28, 3) := by decide +kernel
theorem dX7_byTimes_53 : decode cX7_byTimes 53 = .ok (.iload 5, 2) := by decide +kernel
theorem dX7_byTimes_55 : decode cX7_byTimes 55 = .ok (.iload_n 1, 1) := by decide +kernel
theorem dX7_byTimes_56 : decode cX7_byTimes 56 = .ok (.i2l, 1) := by decide +kernel
theorem dX7_byTimes_57 : decode cX7_byTimes 57 = .ok (.aload_n 0, 1) := by decide +kernel
theorem dX7_byTimes_58 : decode cX7_byTimes 58 = .ok (.getfield 7, 3) := by decide +kernel
theorem dX7_byTimes_61 : decode cX7_byTimes 61 = .ok (.bipush 8, 2) := by decide +kernel
theorem dX7_byTimes_63 : decode cX7_byTimes 63 = .ok (.iload 5, 2) := by decide +kernel
theorem dX7_byTimes_65 : decode cX7_byTimes 65 = .ok (.iadd, 1) := by decide +kernel
theorem dX7_byTimes_66 : decode cX7_byTimes 66 = .ok (.iaload, 1) := by decide +kernel
theorem dX7_byTimes_67 : decode cX7_byTimes 67 = .ok (.i2l, 1) := by decide +kernel
theorem dX7_byTimes_68 : decode cX7_byTimes 68 = .ok (.lmul, 1) := by decide +kernel
theorem dX7_byTimes_69 : decode cX7_byTimes 69 = .ok (.lload_n 2, 1) := by decide +kernel
theorem dX7_byTimes_70 : decode cX7_byTimes 70 = .ok (.lrem, 1) := by decide +kernel
theorem dX7_byTimes_71 : decode cX7_byTimes 71 = .ok (.lastore, 1) := by decide +kernel
theorem dX7_byTimes_72 : decode cX7_byTimes 72 = .ok (.iload 4, 2) := by decide +kernel
theorem dX7_byTimes_74 : decode cX7_byTimes 74 = .ok (.aload_n 0, 1) := by decide +kernel
theorem dX7_byTimes_75 : decode cX7_byTimes 75 = .ok (.getfield 25, 3) := by decide +kernel
theorem dX7_byTimes_78 : decode cX7_byTimes 78 = .ok (.iload 5, 2) := by decide +kernel
theorem dX7_byTimes_80 : decode cX7_byTimes 80 = .ok (.iaload, 1) := by decide +kernel
theorem dX7_byTimes_81 : decode cX7_byTimes 81 = .ok (.isub, 1) := by decide +kernel
theorem dX7_byTimes_82 : decode cX7_byTimes 82 = .ok (.istore 4, 2) := by decide +kernel
theorem dX7_byTimes_84 : decode cX7_byTimes 84 = .ok (.iinc 5 1, 3) := by decide +kernel
theorem dX7_byTimes_87 : decode cX7_byTimes 87 = .ok (.goto (-68), 3) := by decide +kernel
theorem dX7_byTimes_90 : decode cX7_byTimes 90 = .ok (.iconst 0, 1) := by decide +kernel
theorem dX7_byTimes_91 : decode cX7_byTimes 91 = .ok (.istore 5, 2) := by decide +kernel
theorem dX7_byTimes_93 : decode cX7_byTimes 93 = .ok (.iload 5, 2) := by decide +kernel
theorem dX7_byTimes_95 : decode cX7_byTimes 95 = .ok (.iload 4, 2) := by decide +kernel
theorem dX7_byTimes_97 : decode cX7_byTimes 97 = .ok (.if_icmp .ge 75, 3) := by decide +kernel
theorem dX7_byTimes_100 : decode cX7_byTimes 100 = .ok (.iconst 0, 1) := by decide +kernel
theorem dX7_byTimes_101 : decode cX7_byTimes 101 = .ok (.istore 6, 2) := by decide +kernel
theorem dX7_byTimes_103 : decode cX7_byTimes 103 = .ok (.iconst 1, 1) := by decide +kernel
theorem dX7_byTimes_104 : decode cX7_byTimes 104 = .ok (.istore 7, 2) := by decide +kernel
theorem dX7_byTimes_106 : decode cX7_byTimes 106 = .ok (.iload 7, 2) := by decide +kernel
theorem dX7_byTimes_108 : decode cX7_byTimes 108 = .ok (.iload_n 1, 1) := by decide +kernel
theorem dX7_byTimes_109 : decode cX7_byTimes 109 = .ok (.if_icmp .ge 36, 3) := by decide +kernel
theorem dX7_byTimes_112 : decode cX7_byTimes 112 = .ok (.aload_n 0, 1) := by decide +kernel
theorem dX7_byTimes_113 : decode cX7_byTimes 113 = .ok (.getfield 28, 3) := by decide +kernel
theorem dX7_byTimes_116 : decode cX7_byTimes 116 = .ok (.iload 7, 2) := by decide +kernel
theorem dX7_byTimes_118 : decode cX7_byTimes 118 = .ok (.laload, 1) := by decide +kernel
theorem dX7_byTimes_119 : decode cX7_byTimes 119 = .ok (.aload_n 0, 1) := by decide +kernel
theorem dX7_byTimes_120 : decode cX7_byTimes 120 = .ok (.getfield 28, 3) := by decide +kernel
theorem dX7_byTimes_123 : decode cX7_byTimes 123 = .ok (.iload 6, 2) := by decide +kernel
theorem dX7_byTimes_125 : decode cX7_byTimes 125 = .ok (.laload, 1) := by decide +kernel
theorem dX7_byTimes_126 : decode cX7_byTimes 126 = .ok (.lcmp, 1) := by decide +kernel
theorem dX7_byTimes_127 : decode cX7_byTimes 127 = .ok (.ifCond .le 8, 3) := by decide +kernel
theorem dX7_byTimes_130 : decode cX7_byTimes 130 = .ok (.iload 7, 2) := by decide +kernel
theorem dX7_byTimes_132 : decode cX7_byTimes 132 = .ok (.goto 5, 3) := by decide +kernel
theorem dX7_byTimes_135 : decode cX7_byTimes 135 = .ok (.iload 6, 2) := by decide +kernel
theorem dX7_byTimes_137 : decode cX7_byTimes 137 = .ok (.istore 6, 2) := by decide +kernel
theorem dX7_byTimes_139 : decode cX7_byTimes 139 = .ok (.iinc 7 1, 3) := by decide +kernel
theorem dX7_byTimes_142 : decode cX7_byTimes 142 = .ok (.goto (-36), 3) := by decide +kernel
theorem dX7_byTimes_145 : decode cX7_byTimes 145 = .ok (.aload_n 0, 1) := by decide +kernel
theorem dX7_byTimes_146 : decode cX7_byTimes 146 = .ok (.getfield 28, 3) := by decide +kernel
theorem dX7_byTimes_149 : decode cX7_byTimes 149 = .ok (.iload 6, 2) := by decide +kernel
theorem dX7_byTimes_151 : decode cX7_byTimes 151 = .ok (.ldc2_w 65, 3) := by decide +kernel
theorem dX7_byTimes_154 : decode cX7_byTimes 154 = .ok (.lastore, 1) := by decide +kernel
theorem dX7_byTimes_155 : decode cX7_byTimes 155 = .ok (.aload_n 0, 1) := by decide +kernel
theorem dX7_byTimes_156 : decode cX7_byTimes 156 = .ok (.getfield 25, 3) := by decide +kernel
theorem dX7_byTimes_159 : decode cX7_byTimes 159 = .ok (.iload 6, 2) := by decide +kernel
theorem dX7_byTimes_161 : decode cX7_byTimes 161 = .ok (.dup2, 1) := by decide +kernel
theorem dX7_byTimes_162 : decode cX7_byTimes 162 = .ok (.iaload, 1) := by decide +kernel
theorem dX7_byTimes_163 : decode cX7_byTimes 163 = .ok (.iconst 1, 1) := by decide +kernel
theorem dX7_byTimes_164 : decode cX7_byTimes 164 = .ok (.iadd, 1) := by decide +kernel
theorem dX7_byTimes_165 : decode cX7_byTimes 165 = .ok (.iastore, 1) := by decide +kernel
theorem dX7_byTimes_166 : decode cX7_byTimes 166 = .ok (.iinc 5 1, 3) := by decide +kernel
theorem dX7_byTimes_169 : decode cX7_byTimes 169 = .ok (.goto (-76), 3) := by decide +kernel
theorem dX7_byTimes_172 : decode cX7_byTimes 172 = .ok (.iconst 0, 1) := by decide +kernel
theorem dX7_byTimes_173 : decode cX7_byTimes 173 = .ok (.istore 5, 2) := by decide +kernel
theorem dX7_byTimes_175 : decode cX7_byTimes 175 = .ok (.iconst 0, 1) := by decide +kernel
theorem dX7_byTimes_176 : decode cX7_byTimes 176 = .ok (.istore 6, 2) := by decide +kernel
theorem dX7_byTimes_178 : decode cX7_byTimes 178 = .ok (.iload 6, 2) := by decide +kernel
theorem dX7_byTimes_180 : decode cX7_byTimes 180 = .ok (.iload_n 1, 1) := by decide +kernel
theorem dX7_byTimes_181 : decode cX7_byTimes 181 = .ok (.if_icmp .ge 42, 3) := by decide +kernel
theorem dX7_byTimes_184 : decode cX7_byTimes 184 = .ok (.iconst 0, 1) := by decide +kernel
theorem dX7_byTimes_185 : decode cX7_byTimes 185 = .ok (.istore 7, 2) := by decide +kernel
theorem dX7_byTimes_187 : decode cX7_byTimes 187 = .ok (.iload 7, 2) := by decide +kernel
theorem dX7_byTimes_189 : decode cX7_byTimes 189 = .ok (.aload_n 0, 1) := by decide +kernel
theorem dX7_byTimes_190 : decode cX7_byTimes 190 = .ok (.getfield 25, 3) := by decide +kernel
theorem dX7_byTimes_193 : decode cX7_byTimes 193 = .ok (.iload 6, 2) := by decide +kernel
theorem dX7_byTimes_195 : decode cX7_byTimes 195 = .ok (.iaload, 1) := by decide +kernel
theorem dX7_byTimes_196 : decode cX7_byTimes 196 = .ok (.if_icmp .ge 21, 3) := by decide +kernel
theorem dX7_byTimes_199 : decode cX7_byTimes 199 = .ok (.aload_n 0, 1) := by decide +kernel
theorem dX7_byTimes_200 : decode cX7_byTimes 200 = .ok (.getfield 22, 3) := by decide +kernel
theorem dX7_byTimes_203 : decode cX7_byTimes 203 = .ok (.iload 5, 2) := by decide +kernel
theorem dX7_byTimes_205 : decode cX7_byTimes 205 = .ok (.iload 6, 2) := by decide +kernel
theorem dX7_byTimes_207 : decode cX7_byTimes 207 = .ok (.iastore, 1) := by decide +kernel
theorem dX7_byTimes_208 : decode cX7_byTimes 208 = .ok (.iinc 5 1, 3) := by decide +kernel
theorem dX7_byTimes_211 : decode cX7_byTimes 211 = .ok (.iinc 7 1, 3) := by decide +kernel
theorem dX7_byTimes_214 : decode cX7_byTimes 214 = .ok (.goto (-27), 3) := by decide +kernel
theorem dX7_byTimes_217 : decode cX7_byTimes 217 = .ok (.iinc 6 1, 3) := by decide +kernel
theorem dX7_byTimes_220 : decode cX7_byTimes 220 = .ok (.goto (-42), 3) := by decide +kernel
theorem dX7_byTimes_223 : decode cX7_byTimes 223 = .ok (.return_, 1) := by decide +kernel
theorem dX7_chooses_0 : decode cX7_chooses 0 = .ok (.iload_n 1, 1) := by decide +kernel
theorem dX7_chooses_1 : decode cX7_chooses 1 = .ok (.iconst 2, 1) := by decide +kernel
theorem dX7_chooses_2 : decode cX7_chooses 2 = .ok (.if_icmp .ne 10, 3) := by decide +kernel
theorem dX7_chooses_5 : decode cX7_chooses 5 = .ok (.aload_n 0, 1) := by decide +kernel
theorem dX7_chooses_6 : decode cX7_chooses 6 = .ok (.invokevirtual 67, 3) := by decide +kernel
theorem dX7_chooses_9 : decode cX7_chooses 9 = .ok (.goto 8, 3) := by decide +kernel
theorem dX7_chooses_12 : decode cX7_chooses 12 = .ok (.aload_n 0, 1) := by decide +kernel
theorem dX7_chooses_13 : decode cX7_chooses 13 = .ok (.iload_n 1, 1) := by decide +kernel
theorem dX7_chooses_14 : decode cX7_chooses 14 = .ok (.invokevirtual 70, 3) := by decide +kernel
theorem dX7_chooses_17 : decode cX7_chooses 17 = .ok (.return_, 1) := by decide +kernel
theorem dX7_follows_0 : decode cX7_follows 0 = .ok (.aload_n 0, 1) := by decide +kernel
theorem dX7_follows_1 : decode cX7_follows 1 = .ok (.getfield 7, 3) := by decide +kernel
theorem dX7_follows_4 : decode cX7_follows 4 = .ok (.iconst 1, 1) := by decide +kernel
theorem dX7_follows_5 : decode cX7_follows 5 = .ok (.iaload, 1) := by decide +kernel
theorem dX7_follows_6 : decode cX7_follows 6 = .ok (.istore 5, 2) := by decide +kernel
theorem dX7_follows_8 : decode cX7_follows 8 = .ok (.bipush 20, 2) := by decide +kernel
theorem dX7_follows_10 : decode cX7_follows 10 = .ok (.iconst 4, 1) := by decide +kernel
theorem dX7_follows_11 : decode cX7_follows 11 = .ok (.iload 5, 2) := by decide +kernel
theorem dX7_follows_13 : decode cX7_follows 13 = .ok (.imul, 1) := by decide +kernel
theorem dX7_follows_14 : decode cX7_follows 14 = .ok (.iadd, 1) := by decide +kernel
theorem dX7_follows_15 : decode cX7_follows 15 = .ok (.istore 6, 2) := by decide +kernel
theorem dX7_follows_17 : decode cX7_follows 17 = .ok (.aload_n 0, 1) := by decide +kernel
theorem dX7_follows_18 : decode cX7_follows 18 = .ok (.getfield 7, 3) := by decide +kernel
theorem dX7_follows_21 : decode cX7_follows 21 = .ok (.iload 6, 2) := by decide +kernel
theorem dX7_follows_23 : decode cX7_follows 23 = .ok (.iload_n 1, 1) := by decide +kernel
theorem dX7_follows_24 : decode cX7_follows 24 = .ok (.iastore, 1) := by decide +kernel
theorem dX7_follows_25 : decode cX7_follows 25 = .ok (.aload_n 0, 1) := by decide +kernel
theorem dX7_follows_26 : decode cX7_follows 26 = .ok (.getfield 7, 3) := by decide +kernel
theorem dX7_follows_29 : decode cX7_follows 29 = .ok (.iload 6, 2) := by decide +kernel
theorem dX7_follows_31 : decode cX7_follows 31 = .ok (.iconst 1, 1) := by decide +kernel
theorem dX7_follows_32 : decode cX7_follows 32 = .ok (.iadd, 1) := by decide +kernel
theorem dX7_follows_33 : decode cX7_follows 33 = .ok (.iload_n 2, 1) := by decide +kernel
theorem dX7_follows_34 : decode cX7_follows 34 = .ok (.iastore, 1) := by decide +kernel
theorem dX7_follows_35 : decode cX7_follows 35 = .ok (.aload_n 0, 1) := by decide +kernel
theorem dX7_follows_36 : decode cX7_follows 36 = .ok (.getfield 7, 3) := by decide +kernel
theorem dX7_follows_39 : decode cX7_follows 39 = .ok (.iload 6, 2) := by decide +kernel
theorem dX7_follows_41 : decode cX7_follows 41 = .ok (.iconst 2, 1) := by decide +kernel
theorem dX7_follows_42 : decode cX7_follows 42 = .ok (.iadd, 1) := by decide +kernel
theorem dX7_follows_43 : decode cX7_follows 43 = .ok (.iload_n 3, 1) := by decide +kernel
theorem dX7_follows_44 : decode cX7_follows 44 = .ok (.iastore, 1) := by decide +kernel
theorem dX7_follows_45 : decode cX7_follows 45 = .ok (.aload_n 0, 1) := by decide +kernel
theorem dX7_follows_46 : decode cX7_follows 46 = .ok (.getfield 7, 3) := by decide +kernel
theorem dX7_follows_49 : decode cX7_follows 49 = .ok (.iload 6, 2) := by decide +kernel
theorem dX7_follows_51 : decode cX7_follows 51 = .ok (.iconst 3, 1) := by decide +kernel
theorem dX7_follows_52 : decode cX7_follows 52 = .ok (.iadd, 1) := by decide +kernel
theorem dX7_follows_53 : decode cX7_follows 53 = .ok (.iload 4, 2) := by decide +kernel
theorem dX7_follows_55 : decode cX7_follows 55 = .ok (.iastore, 1) := by decide +kernel
theorem dX7_follows_56 : decode cX7_follows 56 = .ok (.aload_n 0, 1) := by decide +kernel
theorem dX7_follows_57 : decode cX7_follows 57 = .ok (.getfield 7, 3) := by decide +kernel
theorem dX7_follows_60 : decode cX7_follows 60 = .ok (.iconst 1, 1) := by decide +kernel
theorem dX7_follows_61 : decode cX7_follows 61 = .ok (.dup2, 1) := by decide +kernel
theorem dX7_follows_62 : decode cX7_follows 62 = .ok (.iaload, 1) := by decide +kernel
theorem dX7_follows_63 : decode cX7_follows 63 = .ok (.iconst 1, 1) := by decide +kernel
theorem dX7_follows_64 : decode cX7_follows 64 = .ok (.iadd, 1) := by decide +kernel
theorem dX7_follows_65 : decode cX7_follows 65 = .ok (.iastore, 1) := by decide +kernel
theorem dX7_follows_66 : decode cX7_follows 66 = .ok (.iload 5, 2) := by decide +kernel
theorem dX7_follows_68 : decode cX7_follows 68 = .ok (.ireturn, 1) := by decide +kernel
theorem dX7_resamples_0 : decode cX7_resamples 0 = .ok (.aload_n 0, 1) := by decide +kernel
theorem dX7_resamples_1 : decode cX7_resamples 1 = .ok (.aload_n 0, 1) := by decide +kernel
theorem dX7_resamples_2 : decode cX7_resamples 2 = .ok (.getfield 7, 3) := by decide +kernel
theorem dX7_resamples_5 : decode cX7_resamples 5 = .ok (.bipush 6, 2) := by decide +kernel
theorem dX7_resamples_7 : decode cX7_resamples 7 = .ok (.iaload, 1) := by decide +kernel
theorem dX7_resamples_8 : decode cX7_resamples 8 = .ok (.invokevirtual 74, 3) := by decide +kernel
theorem dX7_resamples_11 : decode cX7_resamples 11 = .ok (.aload_n 0, 1) := by decide +kernel
theorem dX7_resamples_12 : decode cX7_resamples 12 = .ok (.iconst 2, 1) := by decide +kernel
theorem dX7_resamples_13 : decode cX7_resamples 13 = .ok (.iconst 0, 1) := by decide +kernel
theorem dX7_resamples_14 : decode cX7_resamples 14 = .ok (.iconst 0, 1) := by decide +kernel
theorem dX7_resamples_15 : decode cX7_resamples 15 = .ok (.aload_n 0, 1) := by decide +kernel
theorem dX7_resamples_16 : decode cX7_resamples 16 = .ok (.getfield 7, 3) := by decide +kernel
theorem dX7_resamples_19 : decode cX7_resamples 19 = .ok (.bipush 6, 2) := by decide +kernel
theorem dX7_resamples_21 : decode cX7_resamples 21 = .ok (.iaload, 1) := by decide +kernel
theorem dX7_resamples_22 : decode cX7_resamples 22 = .ok (.invokevirtual 77, 3) := by decide +kernel
theorem dX7_resamples_25 : decode cX7_resamples 25 = .ok (.istore_n 1, 1) := by decide +kernel
theorem dX7_resamples_26 : decode cX7_resamples 26 = .ok (.iconst 0, 1) := by decide +kernel
theorem dX7_resamples_27 : decode cX7_resamples 27 = .ok (.istore_n 2, 1) := by decide +kernel
theorem dX7_resamples_28 : decode cX7_resamples 28 = .ok (.iload_n 2, 1) := by decide +kernel
theorem dX7_resamples_29 : decode cX7_resamples 29 = .ok (.aload_n 0, 1) := by decide +kernel
theorem dX7_resamples_30 : decode cX7_resamples 30 = .ok (.getfield 7, 3) := by decide +kernel
theorem dX7_resamples_33 : decode cX7_resamples 33 = .ok (.iconst 0, 1) := by decide +kernel
theorem dX7_resamples_34 : decode cX7_resamples 34 = .ok (.iaload, 1) := by decide +kernel
theorem dX7_resamples_35 : decode cX7_resamples 35 = .ok (.if_icmp .ge 67, 3) := by decide +kernel
theorem dX7_resamples_38 : decode cX7_resamples 38 = .ok (.aload_n 0, 1) := by decide +kernel
theorem dX7_resamples_39 : decode cX7_resamples 39 = .ok (.getfield 7, 3) := by decide +kernel
theorem dX7_resamples_42 : decode cX7_resamples 42 = .ok (.bipush 100, 2) := by decide +kernel
theorem dX7_resamples_44 : decode cX7_resamples 44 = .ok (.bipush 12, 2) := by decide +kernel
theorem dX7_resamples_46 : decode cX7_resamples 46 = .ok (.iload_n 1, 1) := by decide +kernel
theorem dX7_resamples_47 : decode cX7_resamples 47 = .ok (.imul, 1) := by decide +kernel
theorem dX7_resamples_48 : decode cX7_resamples 48 = .ok (.iadd, 1) := by decide +kernel
theorem dX7_resamples_49 : decode cX7_resamples 49 = .ok (.iload_n 2, 1) := by decide +kernel
theorem dX7_resamples_50 : decode cX7_resamples 50 = .ok (.iadd, 1) := by decide +kernel
theorem dX7_resamples_51 : decode cX7_resamples 51 = .ok (.aload_n 0, 1) := by decide +kernel
theorem dX7_resamples_52 : decode cX7_resamples 52 = .ok (.getfield 22, 3) := by decide +kernel
theorem dX7_resamples_55 : decode cX7_resamples 55 = .ok (.iload_n 2, 1) := by decide +kernel
theorem dX7_resamples_56 : decode cX7_resamples 56 = .ok (.iaload, 1) := by decide +kernel
theorem dX7_resamples_57 : decode cX7_resamples 57 = .ok (.iastore, 1) := by decide +kernel
theorem dX7_resamples_58 : decode cX7_resamples 58 = .ok (.aload_n 0, 1) := by decide +kernel
theorem dX7_resamples_59 : decode cX7_resamples 59 = .ok (.getfield 7, 3) := by decide +kernel
theorem dX7_resamples_62 : decode cX7_resamples 62 = .ok (.sipush 340, 3) := by decide +kernel
theorem dX7_resamples_65 : decode cX7_resamples 65 = .ok (.bipush 12, 2) := by decide +kernel
theorem dX7_resamples_67 : decode cX7_resamples 67 = .ok (.iload_n 1, 1) := by decide +kernel
theorem dX7_resamples_68 : decode cX7_resamples 68 = .ok (.imul, 1) := by decide +kernel
theorem dX7_resamples_69 : decode cX7_resamples 69 = .ok (.iadd, 1) := by decide +kernel
theorem dX7_resamples_70 : decode cX7_resamples 70 = .ok (.iload_n 2, 1) := by decide +kernel
theorem dX7_resamples_71 : decode cX7_resamples 71 = .ok (.iadd, 1) := by decide +kernel
theorem dX7_resamples_72 : decode cX7_resamples 72 = .ok (.aload_n 0, 1) := by decide +kernel
theorem dX7_resamples_73 : decode cX7_resamples 73 = .ok (.iload_n 1, 1) := by decide +kernel
theorem dX7_resamples_74 : decode cX7_resamples 74 = .ok (.iconst 1, 1) := by decide +kernel
theorem dX7_resamples_75 : decode cX7_resamples 75 = .ok (.isub, 1) := by decide +kernel
theorem dX7_resamples_76 : decode cX7_resamples 76 = .ok (.aload_n 0, 1) := by decide +kernel
theorem dX7_resamples_77 : decode cX7_resamples 77 = .ok (.getfield 22, 3) := by decide +kernel
theorem dX7_resamples_80 : decode cX7_resamples 80 = .ok (.iload_n 2, 1) := by decide +kernel
theorem dX7_resamples_81 : decode cX7_resamples 81 = .ok (.iaload, 1) := by decide +kernel
theorem dX7_resamples_82 : decode cX7_resamples 82 = .ok (.invokevirtual 81, 3) := by decide +kernel
theorem dX7_resamples_85 : decode cX7_resamples 85 = .ok (.iastore, 1) := by decide +kernel
theorem dX7_resamples_86 : decode cX7_resamples 86 = .ok (.aload_n 0, 1) := by decide +kernel
theorem dX7_resamples_87 : decode cX7_resamples 87 = .ok (.getfield 7, 3) := by decide +kernel
theorem dX7_resamples_90 : decode cX7_resamples 90 = .ok (.bipush 8, 2) := by decide +kernel
theorem dX7_resamples_92 : decode cX7_resamples 92 = .ok (.iload_n 2, 1) := by decide +kernel
theorem dX7_resamples_93 : decode cX7_resamples 93 = .ok (.iadd, 1) := by decide +kernel
theorem dX7_resamples_94 : decode cX7_resamples 94 = .ok (.iconst 1, 1) := by decide +kernel
theorem dX7_resamples_95 : decode cX7_resamples 95 = .ok (.iastore, 1) := by decide +kernel
theorem dX7_resamples_96 : decode cX7_resamples 96 = .ok (.iinc 2 1, 3) := by decide +kernel
theorem dX7_resamples_99 : decode cX7_resamples 99 = .ok (.goto (-71), 3) := by decide +kernel
theorem dX7_resamples_102 : decode cX7_resamples 102 = .ok (.aload_n 0, 1) := by decide +kernel
theorem dX7_resamples_103 : decode cX7_resamples 103 = .ok (.getfield 7, 3) := by decide +kernel
theorem dX7_resamples_106 : decode cX7_resamples 106 = .ok (.iconst 4, 1) := by decide +kernel
theorem dX7_resamples_107 : decode cX7_resamples 107 = .ok (.dup2, 1) := by decide +kernel
theorem dX7_resamples_108 : decode cX7_resamples 108 = .ok (.iaload, 1) := by decide +kernel
theorem dX7_resamples_109 : decode cX7_resamples 109 = .ok (.iconst 1, 1) := by decide +kernel
theorem dX7_resamples_110 : decode cX7_resamples 110 = .ok (.iadd, 1) := by decide +kernel
theorem dX7_resamples_111 : decode cX7_resamples 111 = .ok (.iastore, 1) := by decide +kernel
theorem dX7_resamples_112 : decode cX7_resamples 112 = .ok (.return_, 1) := by decide +kernel
theorem dX7_begin_0 : decode cX7_begin 0 = .ok (.iload_n 1, 1) := by decide +kernel
theorem dX7_begin_1 : decode cX7_begin 1 = .ok (.iconst 1, 1) := by decide +kernel
theorem dX7_begin_2 : decode cX7_begin 2 = .ok (.bipush 12, 2) := by decide +kernel
theorem dX7_begin_4 : decode cX7_begin 4 = .ok (.invokestatic 84, 3) := by decide +kernel
theorem dX7_begin_7 : decode cX7_begin 7 = .ok (.ifCond .eq 23, 3) := by decide +kernel
theorem dX7_begin_10 : decode cX7_begin 10 = .ok (.iload_n 2, 1) := by decide +kernel
theorem dX7_begin_11 : decode cX7_begin 11 = .ok (.iconst 0, 1) := by decide +kernel
theorem dX7_begin_12 : decode cX7_begin 12 = .ok (.bipush 99, 2) := by decide +kernel
theorem dX7_begin_14 : decode cX7_begin 14 = .ok (.invokestatic 84, 3) := by decide +kernel
theorem dX7_begin_17 : decode cX7_begin 17 = .ok (.ifCond .eq 13, 3) := by decide +kernel
theorem dX7_begin_20 : decode cX7_begin 20 = .ok (.iload_n 3, 1) := by decide +kernel
theorem dX7_begin_21 : decode cX7_begin 21 = .ok (.iconst 0, 1) := by decide +kernel
theorem dX7_begin_22 : decode cX7_begin 22 = .ok (.bipush 99, 2) := by decide +kernel
theorem dX7_begin_24 : decode cX7_begin 24 = .ok (.invokestatic 84, 3) := by decide +kernel
theorem dX7_begin_27 : decode cX7_begin 27 = .ok (.ifCond .ne 6, 3) := by decide +kernel
theorem dX7_begin_30 : decode cX7_begin 30 = .ok (.ldc 88, 2) := by decide +kernel
theorem dX7_begin_32 : decode cX7_begin 32 = .ok (.ireturn, 1) := by decide +kernel
theorem dX7_begin_33 : decode cX7_begin 33 = .ok (.aload_n 0, 1) := by decide +kernel
theorem dX7_begin_34 : decode cX7_begin 34 = .ok (.invokevirtual 89, 3) := by decide +kernel
theorem dX7_begin_37 : decode cX7_begin 37 = .ok (.aload_n 0, 1) := by decide +kernel
theorem dX7_begin_38 : decode cX7_begin 38 = .ok (.getfield 7, 3) := by decide +kernel
theorem dX7_begin_41 : decode cX7_begin 41 = .ok (.iconst 1, 1) := by decide +kernel
theorem dX7_begin_42 : decode cX7_begin 42 = .ok (.iaload, 1) := by decide +kernel
theorem dX7_begin_43 : decode cX7_begin 43 = .ok (.istore 4, 2) := by decide +kernel
theorem dX7_begin_45 : decode cX7_begin 45 = .ok (.aload_n 0, 1) := by decide +kernel
theorem dX7_begin_46 : decode cX7_begin 46 = .ok (.iload_n 1, 1) := by decide +kernel
theorem dX7_begin_47 : decode cX7_begin 47 = .ok (.iload_n 2, 1) := by decide +kernel
theorem dX7_begin_48 : decode cX7_begin 48 = .ok (.iload_n 3, 1) := by decide +kernel
theorem dX7_begin_49 : decode cX7_begin 49 = .ok (.invokevirtual 38, 3) := by decide +kernel
theorem dX7_begin_52 : decode cX7_begin 52 = .ok (.iload 4, 2) := by decide +kernel
theorem dX7_begin_54 : decode cX7_begin 54 = .ok (.ireturn, 1) := by decide +kernel
theorem dX7_weigh_0 : decode cX7_weigh 0 = .ok (.aload_n 0, 1) := by decide +kernel
theorem dX7_weigh_1 : decode cX7_weigh 1 = .ok (.iload_n 1, 1) := by decide +kernel
theorem dX7_weigh_2 : decode cX7_weigh 2 = .ok (.invokevirtual 92, 3) := by decide +kernel
theorem dX7_weigh_5 : decode cX7_weigh 5 = .ok (.ifCond .eq 13, 3) := by decide +kernel
theorem dX7_weigh_8 : decode cX7_weigh 8 = .ok (.iload_n 2, 1) := by decide +kernel
theorem dX7_weigh_9 : decode cX7_weigh 9 = .ok (.iconst 0, 1) := by decide +kernel
theorem dX7_weigh_10 : decode cX7_weigh 10 = .ok (.ldc 96, 2) := by decide +kernel
theorem dX7_weigh_12 : decode cX7_weigh 12 = .ok (.invokestatic 84, 3) := by decide +kernel
theorem dX7_weigh_15 : decode cX7_weigh 15 = .ok (.ifCond .ne 6, 3) := by decide +kernel
theorem dX7_weigh_18 : decode cX7_weigh 18 = .ok (.ldc 88, 2) := by decide +kernel
theorem dX7_weigh_20 : decode cX7_weigh 20 = .ok (.ireturn, 1) := by decide +kernel
theorem dX7_weigh_21 : decode cX7_weigh 21 = .ok (.iload_n 2, 1) := by decide +kernel
theorem dX7_weigh_22 : decode cX7_weigh 22 = .ok (.aload_n 0, 1) := by decide +kernel
theorem dX7_weigh_23 : decode cX7_weigh 23 = .ok (.invokevirtual 52, 3) := by decide +kernel
theorem dX7_weigh_26 : decode cX7_weigh 26 = .ok (.iadd, 1) := by decide +kernel
theorem dX7_weigh_27 : decode cX7_weigh 27 = .ok (.aload_n 0, 1) := by decide +kernel
theorem dX7_weigh_28 : decode cX7_weigh 28 = .ok (.getfield 7, 3) := by decide +kernel
theorem dX7_weigh_31 : decode cX7_weigh 31 = .ok (.bipush 8, 2) := by decide +kernel
theorem dX7_weigh_33 : decode cX7_weigh 33 = .ok (.iload_n 1, 1) := by decide +kernel
theorem dX7_weigh_34 : decode cX7_weigh 34 = .ok (.iadd, 1) := by decide +kernel
theorem dX7_weigh_35 : decode cX7_weigh 35 = .ok (.iaload, 1) := by decide +kernel
theorem dX7_weigh_36 : decode cX7_weigh 36 = .ok (.isub, 1) := by decide +kernel
theorem dX7_weigh_37 : decode cX7_weigh 37 = .ok (.ifCond .ne 6, 3) := by decide +kernel
theorem dX7_weigh_40 : decode cX7_weigh 40 = .ok (.ldc 97, 2) := by decide +kernel
theorem dX7_weigh_42 : decode cX7_weigh 42 = .ok (.ireturn, 1) := by decide +kernel
theorem dX7_weigh_43 : decode cX7_weigh 43 = .ok (.aload_n 0, 1) := by decide +kernel
theorem dX7_weigh_44 : decode cX7_weigh 44 = .ok (.invokevirtual 89, 3) := by decide +kernel
theorem dX7_weigh_47 : decode cX7_weigh 47 = .ok (.aload_n 0, 1) := by decide +kernel
theorem dX7_weigh_48 : decode cX7_weigh 48 = .ok (.getfield 7, 3) := by decide +kernel
theorem dX7_weigh_51 : decode cX7_weigh 51 = .ok (.bipush 8, 2) := by decide +kernel
theorem dX7_weigh_53 : decode cX7_weigh 53 = .ok (.iload_n 1, 1) := by decide +kernel
theorem dX7_weigh_54 : decode cX7_weigh 54 = .ok (.iadd, 1) := by decide +kernel
theorem dX7_weigh_55 : decode cX7_weigh 55 = .ok (.iload_n 2, 1) := by decide +kernel
theorem dX7_weigh_56 : decode cX7_weigh 56 = .ok (.iastore, 1) := by decide +kernel
theorem dX7_weigh_57 : decode cX7_weigh 57 = .ok (.aload_n 0, 1) := by decide +kernel
theorem dX7_weigh_58 : decode cX7_weigh 58 = .ok (.invokevirtual 98, 3) := by decide +kernel
theorem dX7_weigh_61 : decode cX7_weigh 61 = .ok (.pop, 1) := by decide +kernel
theorem dX7_weigh_62 : decode cX7_weigh 62 = .ok (.aload_n 0, 1) := by decide +kernel
theorem dX7_weigh_63 : decode cX7_weigh 63 = .ok (.getfield 7, 3) := by decide +kernel
theorem dX7_weigh_66 : decode cX7_weigh 66 = .ok (.bipush 8, 2) := by decide +kernel
theorem dX7_weigh_68 : decode cX7_weigh 68 = .ok (.iload_n 1, 1) := by decide +kernel
theorem dX7_weigh_69 : decode cX7_weigh 69 = .ok (.iadd, 1) := by decide +kernel
theorem dX7_weigh_70 : decode cX7_weigh 70 = .ok (.iaload, 1) := by decide +kernel
theorem dX7_weigh_71 : decode cX7_weigh 71 = .ok (.ireturn, 1) := by decide +kernel
theorem dX7_move_0 : decode cX7_move 0 = .ok (.iload_n 1, 1) := by decide +kernel
theorem dX7_move_1 : decode cX7_move 1 = .ok (.bipush (-99), 2) := by decide +kernel
theorem dX7_move_3 : decode cX7_move 3 = .ok (.bipush 99, 2) := by decide +kernel
theorem dX7_move_5 : decode cX7_move 5 = .ok (.invokestatic 84, 3) := by decide +kernel
theorem dX7_move_8 : decode cX7_move 8 = .ok (.ifCond .eq 13, 3) := by decide +kernel
theorem dX7_move_11 : decode cX7_move 11 = .ok (.iload_n 2, 1) := by decide +kernel
theorem dX7_move_12 : decode cX7_move 12 = .ok (.iconst 0, 1) := by decide +kernel
theorem dX7_move_13 : decode cX7_move 13 = .ok (.bipush 99, 2) := by decide +kernel
theorem dX7_move_15 : decode cX7_move 15 = .ok (.invokestatic 84, 3) := by decide +kernel
theorem dX7_move_18 : decode cX7_move 18 = .ok (.ifCond .ne 6, 3) := by decide +kernel
theorem dX7_move_21 : decode cX7_move 21 = .ok (.ldc 88, 2) := by decide +kernel
theorem dX7_move_23 : decode cX7_move 23 = .ok (.ireturn, 1) := by decide +kernel
theorem dX7_move_24 : decode cX7_move 24 = .ok (.aload_n 0, 1) := by decide +kernel
theorem dX7_move_25 : decode cX7_move 25 = .ok (.getfield 7, 3) := by decide +kernel
theorem dX7_move_28 : decode cX7_move 28 = .ok (.iconst 1, 1) := by decide +kernel
theorem dX7_move_29 : decode cX7_move 29 = .ok (.iaload, 1) := by decide +kernel
theorem dX7_move_30 : decode cX7_move 30 = .ok (.bipush 20, 2) := by decide +kernel
theorem dX7_move_32 : decode cX7_move 32 = .ok (.if_icmp .ne 6, 3) := by decide +kernel
theorem dX7_move_35 : decode cX7_move 35 = .ok (.ldc 101, 2) := by decide +kernel
theorem dX7_move_37 : decode cX7_move 37 = .ok (.ireturn, 1) := by decide +kernel
theorem dX7_move_38 : decode cX7_move 38 = .ok (.aload_n 0, 1) := by decide +kernel
theorem dX7_move_39 : decode cX7_move 39 = .ok (.invokevirtual 89, 3) := by decide +kernel
theorem dX7_move_42 : decode cX7_move 42 = .ok (.aload_n 0, 1) := by decide +kernel
theorem dX7_move_43 : decode cX7_move 43 = .ok (.iconst 1, 1) := by decide +kernel
theorem dX7_move_44 : decode cX7_move 44 = .ok (.iload_n 1, 1) := by decide +kernel
theorem dX7_move_45 : decode cX7_move 45 = .ok (.iload_n 2, 1) := by decide +kernel
theorem dX7_move_46 : decode cX7_move 46 = .ok (.iconst 0, 1) := by decide +kernel
theorem dX7_move_47 : decode cX7_move 47 = .ok (.invokevirtual 77, 3) := by decide +kernel
theorem dX7_move_50 : decode cX7_move 50 = .ok (.istore_n 3, 1) := by decide +kernel
theorem dX7_move_51 : decode cX7_move 51 = .ok (.iconst 0, 1) := by decide +kernel
theorem dX7_move_52 : decode cX7_move 52 = .ok (.istore 4, 2) := by decide +kernel
theorem dX7_move_54 : decode cX7_move 54 = .ok (.iload 4, 2) := by decide +kernel
theorem dX7_move_56 : decode cX7_move 56 = .ok (.aload_n 0, 1) := by decide +kernel
theorem dX7_move_57 : decode cX7_move 57 = .ok (.getfield 7, 3) := by decide +kernel
theorem dX7_move_60 : decode cX7_move 60 = .ok (.iconst 0, 1) := by decide +kernel
theorem dX7_move_61 : decode cX7_move 61 = .ok (.iaload, 1) := by decide +kernel
theorem dX7_move_62 : decode cX7_move 62 = .ok (.if_icmp .ge 91, 3) := by decide +kernel
theorem dX7_move_65 : decode cX7_move 65 = .ok (.aload_n 0, 1) := by decide +kernel
theorem dX7_move_66 : decode cX7_move 66 = .ok (.iload_n 3, 1) := by decide +kernel
theorem dX7_move_67 : decode cX7_move 67 = .ok (.iconst 1, 1) := by decide +kernel
theorem dX7_move_68 : decode cX7_move 68 = .ok (.isub, 1) := by decide +kernel
theorem dX7_move_69 : decode cX7_move 69 = .ok (.iload 4, 2) := by decide +kernel
theorem dX7_move_71 : decode cX7_move 71 = .ok (.invokevirtual 81, 3) := by decide +kernel
theorem dX7_move_74 : decode cX7_move 74 = .ok (.iload_n 1, 1) := by decide +kernel
theorem dX7_move_75 : decode cX7_move 75 = .ok (.iadd, 1) := by decide +kernel
theorem dX7_move_76 : decode cX7_move 76 = .ok (.aload_n 0, 1) := by decide +kernel
theorem dX7_move_77 : decode cX7_move 77 = .ok (.invokevirtual 62, 3) := by decide +kernel
theorem dX7_move_80 : decode cX7_move 80 = .ok (.iconst 2, 1) := by decide +kernel
theorem dX7_move_81 : decode cX7_move 81 = .ok (.iload_n 2, 1) := by decide +kernel
theorem dX7_move_82 : decode cX7_move 82 = .ok (.imul, 1) := by decide +kernel
theorem dX7_move_83 : decode cX7_move 83 = .ok (.iconst 1, 1) := by decide +kernel
theorem dX7_move_84 : decode cX7_move 84 = .ok (.iadd, 1) := by decide +kernel
theorem dX7_move_85 : decode cX7_move 85 = .ok (.irem, 1) := by decide +kernel
theorem dX7_move_86 : decode cX7_move 86 = .ok (.iadd, 1) := by decide +kernel
theorem dX7_move_87 : decode cX7_move 87 = .ok (.iload_n 2, 1) := by decide +kernel
theorem dX7_move_88 : decode cX7_move 88 = .ok (.isub, 1) := by decide +kernel
theorem dX7_move_89 : decode cX7_move 89 = .ok (.istore 5, 2) := by decide +kernel
theorem dX7_move_91 : decode cX7_move 91 = .ok (.aload_n 0, 1) := by decide +kernel
theorem dX7_move_92 : decode cX7_move 92 = .ok (.getfield 7, 3) := by decide +kernel
theorem dX7_move_95 : decode cX7_move 95 = .ok (.bipush 100, 2) := by decide +kernel
theorem dX7_move_97 : decode cX7_move 97 = .ok (.bipush 12, 2) := by decide +kernel
theorem dX7_move_99 : decode cX7_move 99 = .ok (.iload_n 3, 1) := by decide +kernel
theorem dX7_move_100 : decode cX7_move 100 = .ok (.imul, 1) := by decide +kernel
theorem dX7_move_101 : decode cX7_move 101 = .ok (.iadd, 1) := by decide +kernel
theorem dX7_move_102 : decode cX7_move 102 = .ok (.iload 4, 2) := by decide +kernel
theorem dX7_move_104 : decode cX7_move 104 = .ok (.iadd, 1) := by decide +kernel
theorem dX7_move_105 : decode cX7_move 105 = .ok (.iload 4, 2) := by decide +kernel
theorem dX7_move_107 : decode cX7_move 107 = .ok (.iastore, 1) := by decide +kernel
theorem dX7_move_108 : decode cX7_move 108 = .ok (.aload_n 0, 1) := by decide +kernel
theorem dX7_move_109 : decode cX7_move 109 = .ok (.getfield 7, 3) := by decide +kernel
theorem dX7_move_112 : decode cX7_move 112 = .ok (.sipush 340, 3) := by decide +kernel
theorem dX7_move_115 : decode cX7_move 115 = .ok (.bipush 12, 2) := by decide +kernel
theorem dX7_move_117 : decode cX7_move 117 = .ok (.iload_n 3, 1) := by decide +kernel
theorem dX7_move_118 : decode cX7_move 118 = .ok (.imul, 1) := by decide +kernel
theorem dX7_move_119 : decode cX7_move 119 = .ok (.iadd, 1) := by decide +kernel
theorem dX7_move_120 : decode cX7_move 120 = .ok (.iload 4, 2) := by decide +kernel
theorem dX7_move_122 : decode cX7_move 122 = .ok (.iadd, 1) := by decide +kernel
theorem dX7_move_123 : decode cX7_move 123 = .ok (.iload 5, 2) := by decide +kernel
theorem dX7_move_125 : decode cX7_move 125 = .ok (.ifCond .ge 7, 3) := by decide +kernel
theorem dX7_move_128 : decode cX7_move 128 = .ok (.iconst 0, 1) := by decide +kernel
theorem dX7_move_129 : decode cX7_move 129 = .ok (.goto 17, 3) := by decide +kernel
theorem dX7_move_132 : decode cX7_move 132 = .ok (.iload 5, 2) := by decide +kernel
theorem dX7_move_134 : decode cX7_move 134 = .ok (.bipush 99, 2) := by decide +kernel
theorem dX7_move_136 : decode cX7_move 136 = .ok (.if_icmp .le 8, 3) := by decide +kernel
theorem dX7_move_139 : decode cX7_move 139 = .ok (.bipush 99, 2) := by decide +kernel
theorem dX7_move_141 : decode cX7_move 141 = .ok (.goto 5, 3) := by decide +kernel
theorem dX7_move_144 : decode cX7_move 144 = .ok (.iload 5, 2) := by decide +kernel
theorem dX7_move_146 : decode cX7_move 146 = .ok (.iastore, 1) := by decide +kernel
theorem dX7_move_147 : decode cX7_move 147 = .ok (.iinc 4 1, 3) := by decide +kernel
theorem dX7_move_150 : decode cX7_move 150 = .ok (.goto (-96), 3) := by decide +kernel
theorem dX7_move_153 : decode cX7_move 153 = .ok (.iload_n 3, 1) := by decide +kernel
theorem dX7_move_154 : decode cX7_move 154 = .ok (.ireturn, 1) := by decide +kernel
theorem dX7_looks_0 : decode cX7_looks 0 = .ok (.iconst 0, 1) := by decide +kernel
theorem dX7_looks_1 : decode cX7_looks 1 = .ok (.istore_n 3, 1) := by decide +kernel
theorem dX7_looks_2 : decode cX7_looks 2 = .ok (.iload_n 3, 1) := by decide +kernel
theorem dX7_looks_3 : decode cX7_looks 3 = .ok (.aload_n 0, 1) := by decide +kernel
theorem dX7_looks_4 : decode cX7_looks 4 = .ok (.getfield 7, 3) := by decide +kernel
theorem dX7_looks_7 : decode cX7_looks 7 = .ok (.iconst 0, 1) := by decide +kernel
theorem dX7_looks_8 : decode cX7_looks 8 = .ok (.iaload, 1) := by decide +kernel
theorem dX7_looks_9 : decode cX7_looks 9 = .ok (.if_icmp .ge 77, 3) := by decide +kernel
theorem dX7_looks_12 : decode cX7_looks 12 = .ok (.aload_n 0, 1) := by decide +kernel
theorem dX7_looks_13 : decode cX7_looks 13 = .ok (.aload_n 0, 1) := by decide +kernel
