theorem dX4_init_31 : decode cX4_init 31 = .ok (.iconst 3, 1) := by decide +kernel
theorem dX4_init_32 : decode cX4_init 32 = .ok (.invokespecial 27, 3) := by decide +kernel
theorem dX4_init_35 : decode cX4_init 35 = .ok (.putfield 30, 3) := by decide +kernel
theorem dX4_init_38 : decode cX4_init 38 = .ok (.aload_n 0, 1) := by decide +kernel
theorem dX4_init_39 : decode cX4_init 39 = .ok (.aload_n 1, 1) := by decide +kernel
theorem dX4_init_40 : decode cX4_init 40 = .ok (.putfield 34, 3) := by decide +kernel
theorem dX4_init_43 : decode cX4_init 43 = .ok (.aload_n 0, 1) := by decide +kernel
theorem dX4_init_44 : decode cX4_init 44 = .ok (.getfield 30, 3) := by decide +kernel
theorem dX4_init_47 : decode cX4_init 47 = .ok (.iconst 0, 1) := by decide +kernel
theorem dX4_init_48 : decode cX4_init 48 = .ok (.iconst 3, 1) := by decide +kernel
theorem dX4_init_49 : decode cX4_init 49 = .ok (.invokevirtual 38, 3) := by decide +kernel
theorem dX4_init_52 : decode cX4_init 52 = .ok (.aload_n 0, 1) := by decide +kernel
theorem dX4_init_53 : decode cX4_init 53 = .ok (.getfield 30, 3) := by decide +kernel
theorem dX4_init_56 : decode cX4_init 56 = .ok (.iconst 1, 1) := by decide +kernel
theorem dX4_init_57 : decode cX4_init 57 = .ok (.iconst 0, 1) := by decide +kernel
theorem dX4_init_58 : decode cX4_init 58 = .ok (.invokevirtual 38, 3) := by decide +kernel
theorem dX4_init_61 : decode cX4_init 61 = .ok (.aload_n 0, 1) := by decide +kernel
theorem dX4_init_62 : decode cX4_init 62 = .ok (.getfield 30, 3) := by decide +kernel
theorem dX4_init_65 : decode cX4_init 65 = .ok (.iconst 2, 1) := by decide +kernel
theorem dX4_init_66 : decode cX4_init 66 = .ok (.bipush 50, 2) := by decide +kernel
theorem dX4_init_68 : decode cX4_init 68 = .ok (.invokevirtual 38, 3) := by decide +kernel
theorem dX4_init_71 : decode cX4_init 71 = .ok (.aload_n 0, 1) := by decide +kernel
theorem dX4_init_72 : decode cX4_init 72 = .ok (.iconst 4, 1) := by decide +kernel
theorem dX4_init_73 : decode cX4_init 73 = .ok (.iconst 0, 1) := by decide +kernel
theorem dX4_init_74 : decode cX4_init 74 = .ok (.bipush 10, 2) := by decide +kernel
theorem dX4_init_76 : decode cX4_init 76 = .ok (.invokevirtual 42, 3) := by decide +kernel
theorem dX4_init_79 : decode cX4_init 79 = .ok (.return_, 1) := by decide +kernel
theorem dX4_copyState_0 : decode cX4_copyState 0 = .ok (.aload_n 0, 1) := by decide +kernel
theorem dX4_copyState_1 : decode cX4_copyState 1 = .ok (.getfield 12, 3) := by decide +kernel
theorem dX4_copyState_4 : decode cX4_copyState 4 = .ok (.aload_n 1, 1) := by decide +kernel
theorem dX4_copyState_5 : decode cX4_copyState 5 = .ok (.getfield 12, 3) := by decide +kernel
theorem dX4_copyState_8 : decode cX4_copyState 8 = .ok (.invokevirtual 46, 3) := by decide +kernel
theorem dX4_copyState_11 : decode cX4_copyState 11 = .ok (.aload_n 0, 1) := by decide +kernel
theorem dX4_copyState_12 : decode cX4_copyState 12 = .ok (.getfield 21, 3) := by decide +kernel
theorem dX4_copyState_15 : decode cX4_copyState 15 = .ok (.aload_n 1, 1) := by decide +kernel
theorem dX4_copyState_16 : decode cX4_copyState 16 = .ok (.getfield 21, 3) := by decide +kernel
theorem dX4_copyState_19 : decode cX4_copyState 19 = .ok (.invokevirtual 50, 3) := by decide +kernel
theorem dX4_copyState_22 : decode cX4_copyState 22 = .ok (.aload_n 0, 1) := by decide +kernel
theorem dX4_copyState_23 : decode cX4_copyState 23 = .ok (.getfield 30, 3) := by decide +kernel
theorem dX4_copyState_26 : decode cX4_copyState 26 = .ok (.aload_n 1, 1) := by decide +kernel
theorem dX4_copyState_27 : decode cX4_copyState 27 = .ok (.getfield 30, 3) := by decide +kernel
theorem dX4_copyState_30 : decode cX4_copyState 30 = .ok (.invokevirtual 54, 3) := by decide +kernel
theorem dX4_copyState_33 : decode cX4_copyState 33 = .ok (.aload_n 0, 1) := by decide +kernel
theorem dX4_copyState_34 : decode cX4_copyState 34 = .ok (.aload_n 1, 1) := by decide +kernel
theorem dX4_copyState_35 : decode cX4_copyState 35 = .ok (.getfield 58, 3) := by decide +kernel
theorem dX4_copyState_38 : decode cX4_copyState 38 = .ok (.putfield 58, 3) := by decide +kernel
theorem dX4_copyState_41 : decode cX4_copyState 41 = .ok (.aload_n 0, 1) := by decide +kernel
theorem dX4_copyState_42 : decode cX4_copyState 42 = .ok (.aload_n 1, 1) := by decide +kernel
theorem dX4_copyState_43 : decode cX4_copyState 43 = .ok (.getfield 62, 3) := by decide +kernel
theorem dX4_copyState_46 : decode cX4_copyState 46 = .ok (.putfield 62, 3) := by decide +kernel
theorem dX4_copyState_49 : decode cX4_copyState 49 = .ok (.aload_n 0, 1) := by decide +kernel
theorem dX4_copyState_50 : decode cX4_copyState 50 = .ok (.aload_n 1, 1) := by decide +kernel
theorem dX4_copyState_51 : decode cX4_copyState 51 = .ok (.getfield 65, 3) := by decide +kernel
theorem dX4_copyState_54 : decode cX4_copyState 54 = .ok (.putfield 65, 3) := by decide +kernel
theorem dX4_copyState_57 : decode cX4_copyState 57 = .ok (.return_, 1) := by decide +kernel
theorem dX4_startAnew_0 : decode cX4_startAnew 0 = .ok (.aload_n 0, 1) := by decide +kernel
theorem dX4_startAnew_1 : decode cX4_startAnew 1 = .ok (.getfield 12, 3) := by decide +kernel
theorem dX4_startAnew_4 : decode cX4_startAnew 4 = .ok (.iload_n 1, 1) := by decide +kernel
theorem dX4_startAnew_5 : decode cX4_startAnew 5 = .ok (.iload_n 2, 1) := by decide +kernel
theorem dX4_startAnew_6 : decode cX4_startAnew 6 = .ok (.iload_n 3, 1) := by decide +kernel
theorem dX4_startAnew_7 : decode cX4_startAnew 7 = .ok (.invokevirtual 68, 3) := by decide +kernel
theorem dX4_startAnew_10 : decode cX4_startAnew 10 = .ok (.aload_n 0, 1) := by decide +kernel
theorem dX4_startAnew_11 : decode cX4_startAnew 11 = .ok (.getfield 21, 3) := by decide +kernel
theorem dX4_startAnew_14 : decode cX4_startAnew 14 = .ok (.iload_n 1, 1) := by decide +kernel
theorem dX4_startAnew_15 : decode cX4_startAnew 15 = .ok (.invokevirtual 71, 3) := by decide +kernel
theorem dX4_startAnew_18 : decode cX4_startAnew 18 = .ok (.aload_n 0, 1) := by decide +kernel
theorem dX4_startAnew_19 : decode cX4_startAnew 19 = .ok (.iconst 1, 1) := by decide +kernel
theorem dX4_startAnew_20 : decode cX4_startAnew 20 = .ok (.putfield 58, 3) := by decide +kernel
theorem dX4_startAnew_23 : decode cX4_startAnew 23 = .ok (.aload_n 0, 1) := by decide +kernel
theorem dX4_startAnew_24 : decode cX4_startAnew 24 = .ok (.iconst 0, 1) := by decide +kernel
theorem dX4_startAnew_25 : decode cX4_startAnew 25 = .ok (.putfield 62, 3) := by decide +kernel
theorem dX4_startAnew_28 : decode cX4_startAnew 28 = .ok (.aload_n 0, 1) := by decide +kernel
theorem dX4_startAnew_29 : decode cX4_startAnew 29 = .ok (.iconst 0, 1) := by decide +kernel
theorem dX4_startAnew_30 : decode cX4_startAnew 30 = .ok (.putfield 65, 3) := by decide +kernel
theorem dX4_startAnew_33 : decode cX4_startAnew 33 = .ok (.return_, 1) := by decide +kernel
theorem dX4_beginAnew_0 : decode cX4_beginAnew 0 = .ok (.iload_n 1, 1) := by decide +kernel
theorem dX4_beginAnew_1 : decode cX4_beginAnew 1 = .ok (.iconst 1, 1) := by decide +kernel
theorem dX4_beginAnew_2 : decode cX4_beginAnew 2 = .ok (.bipush 12, 2) := by decide +kernel
theorem dX4_beginAnew_4 : decode cX4_beginAnew 4 = .ok (.invokestatic 74, 3) := by decide +kernel
theorem dX4_beginAnew_7 : decode cX4_beginAnew 7 = .ok (.ifCond .eq 23, 3) := by decide +kernel
theorem dX4_beginAnew_10 : decode cX4_beginAnew 10 = .ok (.iload_n 2, 1) := by decide +kernel
theorem dX4_beginAnew_11 : decode cX4_beginAnew 11 = .ok (.iconst 0, 1) := by decide +kernel
theorem dX4_beginAnew_12 : decode cX4_beginAnew 12 = .ok (.bipush 99, 2) := by decide +kernel
theorem dX4_beginAnew_14 : decode cX4_beginAnew 14 = .ok (.invokestatic 74, 3) := by decide +kernel
theorem dX4_beginAnew_17 : decode cX4_beginAnew 17 = .ok (.ifCond .eq 13, 3) := by decide +kernel
theorem dX4_beginAnew_20 : decode cX4_beginAnew 20 = .ok (.iload_n 3, 1) := by decide +kernel
theorem dX4_beginAnew_21 : decode cX4_beginAnew 21 = .ok (.iconst 0, 1) := by decide +kernel
theorem dX4_beginAnew_22 : decode cX4_beginAnew 22 = .ok (.bipush 99, 2) := by decide +kernel
theorem dX4_beginAnew_24 : decode cX4_beginAnew 24 = .ok (.invokestatic 74, 3) := by decide +kernel
theorem dX4_beginAnew_27 : decode cX4_beginAnew 27 = .ok (.ifCond .ne 6, 3) := by decide +kernel
theorem dX4_beginAnew_30 : decode cX4_beginAnew 30 = .ok (.ldc 78, 2) := by decide +kernel
theorem dX4_beginAnew_32 : decode cX4_beginAnew 32 = .ok (.ireturn, 1) := by decide +kernel
theorem dX4_beginAnew_33 : decode cX4_beginAnew 33 = .ok (.aload_n 0, 1) := by decide +kernel
theorem dX4_beginAnew_34 : decode cX4_beginAnew 34 = .ok (.getfield 12, 3) := by decide +kernel
theorem dX4_beginAnew_37 : decode cX4_beginAnew 37 = .ok (.invokevirtual 79, 3) := by decide +kernel
theorem dX4_beginAnew_40 : decode cX4_beginAnew 40 = .ok (.istore 4, 2) := by decide +kernel
theorem dX4_beginAnew_42 : decode cX4_beginAnew 42 = .ok (.aload_n 0, 1) := by decide +kernel
theorem dX4_beginAnew_43 : decode cX4_beginAnew 43 = .ok (.iload_n 1, 1) := by decide +kernel
theorem dX4_beginAnew_44 : decode cX4_beginAnew 44 = .ok (.iload_n 2, 1) := by decide +kernel
theorem dX4_beginAnew_45 : decode cX4_beginAnew 45 = .ok (.iload_n 3, 1) := by decide +kernel
theorem dX4_beginAnew_46 : decode cX4_beginAnew 46 = .ok (.invokevirtual 42, 3) := by decide +kernel
theorem dX4_beginAnew_49 : decode cX4_beginAnew 49 = .ok (.iload 4, 2) := by decide +kernel
theorem dX4_beginAnew_51 : decode cX4_beginAnew 51 = .ok (.ireturn, 1) := by decide +kernel
theorem dX4_changeWeight_0 : decode cX4_changeWeight 0 = .ok (.aload_n 0, 1) := by decide +kernel
theorem dX4_changeWeight_1 : decode cX4_changeWeight 1 = .ok (.iload_n 1, 1) := by decide +kernel
theorem dX4_changeWeight_2 : decode cX4_changeWeight 2 = .ok (.invokevirtual 83, 3) := by decide +kernel
theorem dX4_changeWeight_5 : decode cX4_changeWeight 5 = .ok (.ifCond .eq 13, 3) := by decide +kernel
theorem dX4_changeWeight_8 : decode cX4_changeWeight 8 = .ok (.iload_n 2, 1) := by decide +kernel
theorem dX4_changeWeight_9 : decode cX4_changeWeight 9 = .ok (.iconst 0, 1) := by decide +kernel
theorem dX4_changeWeight_10 : decode cX4_changeWeight 10 = .ok (.ldc 87, 2) := by decide +kernel
theorem dX4_changeWeight_12 : decode cX4_changeWeight 12 = .ok (.invokestatic 74, 3) := by decide +kernel
theorem dX4_changeWeight_15 : decode cX4_changeWeight 15 = .ok (.ifCond .ne 6, 3) := by decide +kernel
theorem dX4_changeWeight_18 : decode cX4_changeWeight 18 = .ok (.ldc 78, 2) := by decide +kernel
theorem dX4_changeWeight_20 : decode cX4_changeWeight 20 = .ok (.ireturn, 1) := by decide +kernel
theorem dX4_changeWeight_21 : decode cX4_changeWeight 21 = .ok (.aload_n 0, 1) := by decide +kernel
theorem dX4_changeWeight_22 : decode cX4_changeWeight 22 = .ok (.getfield 21, 3) := by decide +kernel
theorem dX4_changeWeight_25 : decode cX4_changeWeight 25 = .ok (.iload_n 1, 1) := by decide +kernel
theorem dX4_changeWeight_26 : decode cX4_changeWeight 26 = .ok (.iload_n 2, 1) := by decide +kernel
theorem dX4_changeWeight_27 : decode cX4_changeWeight 27 = .ok (.invokevirtual 88, 3) := by decide +kernel
theorem dX4_changeWeight_30 : decode cX4_changeWeight 30 = .ok (.aload_n 0, 1) := by decide +kernel
theorem dX4_changeWeight_31 : decode cX4_changeWeight 31 = .ok (.getfield 21, 3) := by decide +kernel
theorem dX4_changeWeight_34 : decode cX4_changeWeight 34 = .ok (.invokevirtual 91, 3) := by decide +kernel
theorem dX4_changeWeight_37 : decode cX4_changeWeight 37 = .ok (.ifCond .ne 6, 3) := by decide +kernel
theorem dX4_changeWeight_40 : decode cX4_changeWeight 40 = .ok (.ldc 95, 2) := by decide +kernel
theorem dX4_changeWeight_42 : decode cX4_changeWeight 42 = .ok (.ireturn, 1) := by decide +kernel
theorem dX4_changeWeight_43 : decode cX4_changeWeight 43 = .ok (.aload_n 0, 1) := by decide +kernel
theorem dX4_changeWeight_44 : decode cX4_changeWeight 44 = .ok (.getfield 21, 3) := by decide +kernel
theorem dX4_changeWeight_47 : decode cX4_changeWeight 47 = .ok (.iload_n 1, 1) := by decide +kernel
theorem dX4_changeWeight_48 : decode cX4_changeWeight 48 = .ok (.invokevirtual 96, 3) := by decide +kernel
theorem dX4_changeWeight_51 : decode cX4_changeWeight 51 = .ok (.ireturn, 1) := by decide +kernel
theorem dX4_shift_0 : decode cX4_shift 0 = .ok (.iload_n 1, 1) := by decide +kernel
theorem dX4_shift_1 : decode cX4_shift 1 = .ok (.bipush (-99), 2) := by decide +kernel
theorem dX4_shift_3 : decode cX4_shift 3 = .ok (.bipush 99, 2) := by decide +kernel
theorem dX4_shift_5 : decode cX4_shift 5 = .ok (.invokestatic 74, 3) := by decide +kernel
theorem dX4_shift_8 : decode cX4_shift 8 = .ok (.ifCond .eq 13, 3) := by decide +kernel
theorem dX4_shift_11 : decode cX4_shift 11 = .ok (.iload_n 2, 1) := by decide +kernel
theorem dX4_shift_12 : decode cX4_shift 12 = .ok (.iconst 0, 1) := by decide +kernel
theorem dX4_shift_13 : decode cX4_shift 13 = .ok (.bipush 99, 2) := by decide +kernel
theorem dX4_shift_15 : decode cX4_shift 15 = .ok (.invokestatic 74, 3) := by decide +kernel
theorem dX4_shift_18 : decode cX4_shift 18 = .ok (.ifCond .ne 6, 3) := by decide +kernel
theorem dX4_shift_21 : decode cX4_shift 21 = .ok (.ldc 78, 2) := by decide +kernel
theorem dX4_shift_23 : decode cX4_shift 23 = .ok (.ireturn, 1) := by decide +kernel
theorem dX4_shift_24 : decode cX4_shift 24 = .ok (.aload_n 0, 1) := by decide +kernel
theorem dX4_shift_25 : decode cX4_shift 25 = .ok (.getfield 12, 3) := by decide +kernel
theorem dX4_shift_28 : decode cX4_shift 28 = .ok (.invokevirtual 79, 3) := by decide +kernel
theorem dX4_shift_31 : decode cX4_shift 31 = .ok (.bipush 20, 2) := by decide +kernel
theorem dX4_shift_33 : decode cX4_shift 33 = .ok (.if_icmp .lt 6, 3) := by decide +kernel
theorem dX4_shift_36 : decode cX4_shift 36 = .ok (.ldc 100, 2) := by decide +kernel
theorem dX4_shift_38 : decode cX4_shift 38 = .ok (.ireturn, 1) := by decide +kernel
theorem dX4_shift_39 : decode cX4_shift 39 = .ok (.aload_n 0, 1) := by decide +kernel
theorem dX4_shift_40 : decode cX4_shift 40 = .ok (.getfield 12, 3) := by decide +kernel
theorem dX4_shift_43 : decode cX4_shift 43 = .ok (.invokevirtual 101, 3) := by decide +kernel
theorem dX4_shift_46 : decode cX4_shift 46 = .ok (.istore_n 3, 1) := by decide +kernel
theorem dX4_shift_47 : decode cX4_shift 47 = .ok (.aload_n 0, 1) := by decide +kernel
theorem dX4_shift_48 : decode cX4_shift 48 = .ok (.getfield 12, 3) := by decide +kernel
theorem dX4_shift_51 : decode cX4_shift 51 = .ok (.iload_n 1, 1) := by decide +kernel
theorem dX4_shift_52 : decode cX4_shift 52 = .ok (.iload_n 2, 1) := by decide +kernel
theorem dX4_shift_53 : decode cX4_shift 53 = .ok (.invokevirtual 104, 3) := by decide +kernel
theorem dX4_shift_56 : decode cX4_shift 56 = .ok (.iconst 0, 1) := by decide +kernel
theorem dX4_shift_57 : decode cX4_shift 57 = .ok (.istore 4, 2) := by decide +kernel
theorem dX4_shift_59 : decode cX4_shift 59 = .ok (.iload 4, 2) := by decide +kernel
theorem dX4_shift_61 : decode cX4_shift 61 = .ok (.aload_n 0, 1) := by decide +kernel
theorem dX4_shift_62 : decode cX4_shift 62 = .ok (.getfield 12, 3) := by decide +kernel
theorem dX4_shift_65 : decode cX4_shift 65 = .ok (.invokevirtual 107, 3) := by decide +kernel
theorem dX4_shift_68 : decode cX4_shift 68 = .ok (.if_icmp .ge 63, 3) := by decide +kernel
theorem dX4_shift_71 : decode cX4_shift 71 = .ok (.aload_n 0, 1) := by decide +kernel
theorem dX4_shift_72 : decode cX4_shift 72 = .ok (.aload_n 0, 1) := by decide +kernel
theorem dX4_shift_73 : decode cX4_shift 73 = .ok (.getfield 58, 3) := by decide +kernel
theorem dX4_shift_76 : decode cX4_shift 76 = .ok (.invokestatic 110, 3) := by decide +kernel
theorem dX4_shift_79 : decode cX4_shift 79 = .ok (.putfield 58, 3) := by decide +kernel
theorem dX4_shift_82 : decode cX4_shift 82 = .ok (.iload_n 1, 1) := by decide +kernel
theorem dX4_shift_83 : decode cX4_shift 83 = .ok (.aload_n 0, 1) := by decide +kernel
theorem dX4_shift_84 : decode cX4_shift 84 = .ok (.getfield 58, 3) := by decide +kernel
theorem dX4_shift_87 : decode cX4_shift 87 = .ok (.iconst 2, 1) := by decide +kernel
theorem dX4_shift_88 : decode cX4_shift 88 = .ok (.iload_n 2, 1) := by decide +kernel
theorem dX4_shift_89 : decode cX4_shift 89 = .ok (.imul, 1) := by decide +kernel
theorem dX4_shift_90 : decode cX4_shift 90 = .ok (.iconst 1, 1) := by decide +kernel
theorem dX4_shift_91 : decode cX4_shift 91 = .ok (.iadd, 1) := by decide +kernel
theorem dX4_shift_92 : decode cX4_shift 92 = .ok (.irem, 1) := by decide +kernel
theorem dX4_shift_93 : decode cX4_shift 93 = .ok (.iadd, 1) := by decide +kernel
theorem dX4_shift_94 : decode cX4_shift 94 = .ok (.iload_n 2, 1) := by decide +kernel
theorem dX4_shift_95 : decode cX4_shift 95 = .ok (.isub, 1) := by decide +kernel
theorem dX4_shift_96 : decode cX4_shift 96 = .ok (.istore 5, 2) := by decide +kernel
theorem dX4_shift_98 : decode cX4_shift 98 = .ok (.aload_n 0, 1) := by decide +kernel
theorem dX4_shift_99 : decode cX4_shift 99 = .ok (.getfield 12, 3) := by decide +kernel
theorem dX4_shift_102 : decode cX4_shift 102 = .ok (.iload 4, 2) := by decide +kernel
theorem dX4_shift_104 : decode cX4_shift 104 = .ok (.iload 4, 2) := by decide +kernel
theorem dX4_shift_106 : decode cX4_shift 106 = .ok (.aload_n 0, 1) := by decide +kernel
theorem dX4_shift_107 : decode cX4_shift 107 = .ok (.getfield 12, 3) := by decide +kernel
theorem dX4_shift_110 : decode cX4_shift 110 = .ok (.iload_n 3, 1) := by decide +kernel
theorem dX4_shift_111 : decode cX4_shift 111 = .ok (.iload 4, 2) := by decide +kernel
theorem dX4_shift_113 : decode cX4_shift 113 = .ok (.invokevirtual 113, 3) := by decide +kernel
theorem dX4_shift_116 : decode cX4_shift 116 = .ok (.iload 5, 2) := by decide +kernel
theorem dX4_shift_118 : decode cX4_shift 118 = .ok (.iadd, 1) := by decide +kernel
theorem dX4_shift_119 : decode cX4_shift 119 = .ok (.invokestatic 117, 3) := by decide +kernel
theorem dX4_shift_122 : decode cX4_shift 122 = .ok (.invokevirtual 120, 3) := by decide +kernel
theorem dX4_shift_125 : decode cX4_shift 125 = .ok (.iinc 4 1, 3) := by decide +kernel
theorem dX4_shift_128 : decode cX4_shift 128 = .ok (.goto (-69), 3) := by decide +kernel
theorem dX4_shift_131 : decode cX4_shift 131 = .ok (.aload_n 0, 1) := by decide +kernel
theorem dX4_shift_132 : decode cX4_shift 132 = .ok (.getfield 12, 3) := by decide +kernel
theorem dX4_shift_135 : decode cX4_shift 135 = .ok (.invokevirtual 101, 3) := by decide +kernel
theorem dX4_shift_138 : decode cX4_shift 138 = .ok (.ireturn, 1) := by decide +kernel
theorem dX4_look_0 : decode cX4_look 0 = .ok (.iload_n 1, 1) := by decide +kernel
theorem dX4_look_1 : decode cX4_look 1 = .ok (.iconst 0, 1) := by decide +kernel
theorem dX4_look_2 : decode cX4_look 2 = .ok (.bipush 99, 2) := by decide +kernel
theorem dX4_look_4 : decode cX4_look 4 = .ok (.invokestatic 74, 3) := by decide +kernel
theorem dX4_look_7 : decode cX4_look 7 = .ok (.ifCond .eq 13, 3) := by decide +kernel
theorem dX4_look_10 : decode cX4_look 10 = .ok (.iload_n 2, 1) := by decide +kernel
theorem dX4_look_11 : decode cX4_look 11 = .ok (.iconst 1, 1) := by decide +kernel
theorem dX4_look_12 : decode cX4_look 12 = .ok (.bipush 99, 2) := by decide +kernel
theorem dX4_look_14 : decode cX4_look 14 = .ok (.invokestatic 74, 3) := by decide +kernel
theorem dX4_look_17 : decode cX4_look 17 = .ok (.ifCond .ne 6, 3) := by decide +kernel
theorem dX4_look_20 : decode cX4_look 20 = .ok (.ldc 78, 2) := by decide +kernel
theorem dX4_look_22 : decode cX4_look 22 = .ok (.ireturn, 1) := by decide +kernel
theorem dX4_look_23 : decode cX4_look 23 = .ok (.iconst 0, 1) := by decide +kernel
theorem dX4_look_24 : decode cX4_look 24 = .ok (.istore_n 3, 1) := by decide +kernel
theorem dX4_look_25 : decode cX4_look 25 = .ok (.iload_n 3, 1) := by decide +kernel
theorem dX4_look_26 : decode cX4_look 26 = .ok (.aload_n 0, 1) := by decide +kernel
theorem dX4_look_27 : decode cX4_look 27 = .ok (.getfield 12, 3) := by decide +kernel
theorem dX4_look_30 : decode cX4_look 30 = .ok (.invokevirtual 107, 3) := by decide +kernel
theorem dX4_look_33 : decode cX4_look 33 = .ok (.if_icmp .ge 56, 3) := by decide +kernel
theorem dX4_look_36 : decode cX4_look 36 = .ok (.aload_n 0, 1) := by decide +kernel
theorem dX4_look_37 : decode cX4_look 37 = .ok (.getfield 12, 3) := by decide +kernel
theorem dX4_look_40 : decode cX4_look 40 = .ok (.aload_n 0, 1) := by decide +kernel
theorem dX4_look_41 : decode cX4_look 41 = .ok (.getfield 12, 3) := by decide +kernel
theorem dX4_look_44 : decode cX4_look 44 = .ok (.invokevirtual 101, 3) := by decide +kernel
theorem dX4_look_47 : decode cX4_look 47 = .ok (.iload_n 3, 1) := by decide +kernel
theorem dX4_look_48 : decode cX4_look 48 = .ok (.invokevirtual 113, 3) := by decide +kernel
theorem dX4_look_51 : decode cX4_look 51 = .ok (.iload_n 1, 1) := by decide +kernel
theorem dX4_look_52 : decode cX4_look 52 = .ok (.isub, 1) := by decide +kernel
theorem dX4_look_53 : decode cX4_look 53 = .ok (.invokestatic 123, 3) := by decide +kernel
theorem dX4_look_56 : decode cX4_look 56 = .ok (.istore 4, 2) := by decide +kernel
theorem dX4_look_58 : decode cX4_look 58 = .ok (.aload_n 0, 1) := by decide +kernel
theorem dX4_look_59 : decode cX4_look 59 = .ok (.getfield 21, 3) := by decide +kernel
theorem dX4_look_62 : decode cX4_look 62 = .ok (.iload_n 3, 1) := by decide +kernel
theorem dX4_look_63 : decode cX4_look 63 = .ok (.aload_n 0, 1) := by decide +kernel
theorem dX4_look_64 : decode cX4_look 64 = .ok (.getfield 21, 3) := by decide +kernel
theorem dX4_look_67 : decode cX4_look 67 = .ok (.iload_n 3, 1) := by decide +kernel
theorem dX4_look_68 : decode cX4_look 68 = .ok (.invokevirtual 96, 3) := by decide +kernel
theorem dX4_look_71 : decode cX4_look 71 = .ok (.iconst 0, 1) := by decide +kernel
theorem dX4_look_72 : decode cX4_look 72 = .ok (.iload_n 2, 1) := by decide +kernel
theorem dX4_look_73 : decode cX4_look 73 = .ok (.iload 4, 2) := by decide +kernel
theorem dX4_look_75 : decode cX4_look 75 = .ok (.isub, 1) := by decide +kernel
theorem dX4_look_76 : decode cX4_look 76 = .ok (.invokestatic 128, 3) := by decide +kernel
theorem dX4_look_79 : decode cX4_look 79 = .ok (.imul, 1) := by decide +kernel
theorem dX4_look_80 : decode cX4_look 80 = .ok (.invokevirtual 88, 3) := by decide +kernel
theorem dX4_look_83 : decode cX4_look 83 = .ok (.iinc 3 1, 3) := by decide +kernel
theorem dX4_look_86 : decode cX4_look 86 = .ok (.goto (-61), 3) := by decide +kernel
theorem dX4_look_89 : decode cX4_look 89 = .ok (.aload_n 0, 1) := by decide +kernel
theorem dX4_look_90 : decode cX4_look 90 = .ok (.getfield 21, 3) := by decide +kernel
theorem dX4_look_93 : decode cX4_look 93 = .ok (.invokevirtual 91, 3) := by decide +kernel
theorem dX4_look_96 : decode cX4_look 96 = .ok (.ifCond .ne 6, 3) := by decide +kernel
theorem dX4_look_99 : decode cX4_look 99 = .ok (.ldc 95, 2) := by decide +kernel
theorem dX4_look_101 : decode cX4_look 101 = .ok (.ireturn, 1) := by decide +kernel
theorem dX4_look_102 : decode cX4_look 102 = .ok (.aload_n 0, 1) := by decide +kernel
theorem dX4_look_103 : decode cX4_look 103 = .ok (.getfield 21, 3) := by decide +kernel
theorem dX4_look_106 : decode cX4_look 106 = .ok (.invokevirtual 131, 3) := by decide +kernel
theorem dX4_look_109 : decode cX4_look 109 = .ok (.ldc 87, 2) := by decide +kernel
theorem dX4_look_111 : decode cX4_look 111 = .ok (.if_icmp .le 6, 3) := by decide +kernel
theorem dX4_look_114 : decode cX4_look 114 = .ok (.ldc 100, 2) := by decide +kernel
theorem dX4_look_116 : decode cX4_look 116 = .ok (.ireturn, 1) := by decide +kernel
theorem dX4_look_117 : decode cX4_look 117 = .ok (.aload_n 0, 1) := by decide +kernel
theorem dX4_look_118 : decode cX4_look 118 = .ok (.dup, 1) := by decide +kernel
theorem dX4_look_119 : decode cX4_look 119 = .ok (.getfield 62, 3) := by decide +kernel
theorem dX4_look_122 : decode cX4_look 122 = .ok (.iconst 1, 1) := by decide +kernel
theorem dX4_look_123 : decode cX4_look 123 = .ok (.iadd, 1) := by decide +kernel
theorem dX4_look_124 : decode cX4_look 124 = .ok (.putfield 62, 3) := by decide +kernel
theorem dX4_look_127 : decode cX4_look 127 = .ok (.aload_n 0, 1) := by decide +kernel
theorem dX4_look_128 : decode cX4_look 128 = .ok (.getfield 21, 3) := by decide +kernel
theorem dX4_look_131 : decode cX4_look 131 = .ok (.invokevirtual 134, 3) := by decide +kernel
theorem dX4_look_134 : decode cX4_look 134 = .ok (.istore_n 3, 1) := by decide +kernel
theorem dX4_look_135 : decode cX4_look 135 = .ok (.iload_n 3, 1) := by decide +kernel
theorem dX4_look_136 : decode cX4_look 136 = .ok (.aload_n 0, 1) := by decide +kernel
theorem dX4_look_137 : decode cX4_look 137 = .ok (.getfield 30, 3) := by decide +kernel
theorem dX4_look_140 : decode cX4_look 140 = .ok (.iconst 0, 1) := by decide +kernel
theorem dX4_look_141 : decode cX4_look 141 = .ok (.invokevirtual 137, 3) := by decide +kernel
theorem dX4_look_144 : decode cX4_look 144 = .ok (.if_icmp .ge 15, 3) := by decide +kernel
theorem dX4_look_147 : decode cX4_look 147 = .ok (.aload_n 0, 1) := by decide +kernel
theorem dX4_look_148 : decode cX4_look 148 = .ok (.invokevirtual 140, 3) := by decide +kernel
theorem dX4_look_151 : decode cX4_look 151 = .ok (.ldc 100, 2) := by decide +kernel
theorem dX4_look_153 : decode cX4_look 153 = .ok (.if_icmp .ne 6, 3) := by decide +kernel
theorem dX4_look_156 : decode cX4_look 156 = .ok (.ldc 100, 2) := by decide +kernel
theorem dX4_look_158 : decode cX4_look 158 = .ok (.ireturn, 1) := by decide +kernel
theorem dX4_look_159 : decode cX4_look 159 = .ok (.iload_n 3, 1) := by decide +kernel
theorem dX4_look_160 : decode cX4_look 160 = .ok (.ireturn, 1) := by decide +kernel
theorem dX4_renew_0 : decode cX4_renew 0 = .ok (.aload_n 0, 1) := by decide +kernel
theorem dX4_renew_1 : decode cX4_renew 1 = .ok (.getfield 12, 3) := by decide +kernel
theorem dX4_renew_4 : decode cX4_renew 4 = .ok (.invokevirtual 79, 3) := by decide +kernel
theorem dX4_renew_7 : decode cX4_renew 7 = .ok (.bipush 20, 2) := by decide +kernel
theorem dX4_renew_9 : decode cX4_renew 9 = .ok (.if_icmp .lt 6, 3) := by decide +kernel
theorem dX4_renew_12 : decode cX4_renew 12 = .ok (.ldc 100, 2) := by decide +kernel
theorem dX4_renew_14 : decode cX4_renew 14 = .ok (.ireturn, 1) := by decide +kernel
theorem dX4_renew_15 : decode cX4_renew 15 = .ok (.aload_n 0, 1) := by decide +kernel
theorem dX4_renew_16 : decode cX4_renew 16 = .ok (.getfield 30, 3) := by decide +kernel
theorem dX4_renew_19 : decode cX4_renew 19 = .ok (.iconst 1, 1) := by decide +kernel
theorem dX4_renew_20 : decode cX4_renew 20 = .ok (.invokevirtual 137, 3) := by decide +kernel
theorem dX4_renew_23 : decode cX4_renew 23 = .ok (.istore_n 1, 1) := by decide +kernel
theorem dX4_renew_24 : decode cX4_renew 24 = .ok (.aload_n 0, 1) := by decide +kernel
theorem dX4_renew_25 : decode cX4_renew 25 = .ok (.getfield 34, 3) := by decide +kernel
theorem dX4_renew_28 : decode cX4_renew 28 = .ok (.iload_n 1, 1) := by decide +kernel
theorem dX4_renew_29 : decode cX4_renew 29 = .ok (.aload_n 0, 1) := by decide +kernel
theorem dX4_renew_30 : decode cX4_renew 30 = .ok (.getfield 21, 3) := by decide +kernel
theorem dX4_renew_33 : decode cX4_renew 33 = .ok (.aload_n 0, 1) := by decide +kernel
theorem dX4_renew_34 : decode cX4_renew 34 = .ok (.getfield 30, 3) := by decide +kernel
theorem dX4_renew_37 : decode cX4_renew 37 = .ok (.iconst 2, 1) := by decide +kernel
theorem dX4_renew_38 : decode cX4_renew 38 = .ok (.invokevirtual 137, 3) := by decide +kernel
theorem dX4_renew_41 : decode cX4_renew 41 = .ok (.aload_n 0, 1) := by decide +kernel
theorem dX4_renew_42 : decode cX4_renew 42 = .ok (.getfield 58, 3) := by decide +kernel
theorem dX4_renew_45 : decode cX4_renew 45 = .ok (.invokevirtual 143, 3) := by decide +kernel
theorem dX4_renew_48 : decode cX4_renew 48 = .ok (.aload_n 0, 1) := by decide +kernel
theorem dX4_renew_49 : decode cX4_renew 49 = .ok (.getfield 12, 3) := by decide +kernel
theorem dX4_renew_52 : decode cX4_renew 52 = .ok (.invokevirtual 101, 3) := by decide +kernel
theorem dX4_renew_55 : decode cX4_renew 55 = .ok (.istore_n 2, 1) := by decide +kernel
theorem dX4_renew_56 : decode cX4_renew 56 = .ok (.aload_n 0, 1) := by decide +kernel
theorem dX4_renew_57 : decode cX4_renew 57 = .ok (.getfield 12, 3) := by decide +kernel
theorem dX4_renew_60 : decode cX4_renew 60 = .ok (.iload_n 1, 1) := by decide +kernel
theorem dX4_renew_61 : decode cX4_renew 61 = .ok (.invokevirtual 149, 3) := by decide +kernel
theorem dX4_renew_64 : decode cX4_renew 64 = .ok (.iconst 0, 1) := by decide +kernel
theorem dX4_renew_65 : decode cX4_renew 65 = .ok (.istore_n 3, 1) := by decide +kernel
theorem dX4_renew_66 : decode cX4_renew 66 = .ok (.iload_n 3, 1) := by decide +kernel
theorem dX4_renew_67 : decode cX4_renew 67 = .ok (.aload_n 0, 1) := by decide +kernel
theorem dX4_renew_68 : decode cX4_renew 68 = .ok (.getfield 12, 3) := by decide +kernel
theorem dX4_renew_71 : decode cX4_renew 71 = .ok (.invokevirtual 107, 3) := by decide +kernel
theorem dX4_renew_74 : decode cX4_renew 74 = .ok (.if_icmp .ge 39, 3) := by decide +kernel
theorem dX4_renew_77 : decode cX4_renew 77 = .ok (.aload_n 0, 1) := by decide +kernel
theorem dX4_renew_78 : decode cX4_renew 78 = .ok (.getfield 34, 3) := by decide +kernel
theorem dX4_renew_81 : decode cX4_renew 81 = .ok (.iload_n 3, 1) := by decide +kernel
theorem dX4_renew_82 : decode cX4_renew 82 = .ok (.invokevirtual 152, 3) := by decide +kernel
theorem dX4_renew_85 : decode cX4_renew 85 = .ok (.istore 4, 2) := by decide +kernel
theorem dX4_renew_87 : decode cX4_renew 87 = .ok (.aload_n 0, 1) := by decide +kernel
theorem dX4_renew_88 : decode cX4_renew 88 = .ok (.getfield 12, 3) := by decide +kernel
theorem dX4_renew_91 : decode cX4_renew 91 = .ok (.iload_n 3, 1) := by decide +kernel
theorem dX4_renew_92 : decode cX4_renew 92 = .ok (.iload 4, 2) := by decide +kernel
theorem dX4_renew_94 : decode cX4_renew 94 = .ok (.aload_n 0, 1) := by decide +kernel
theorem dX4_renew_95 : decode cX4_renew 95 = .ok (.getfield 12, 3) := by decide +kernel
theorem dX4_renew_98 : decode cX4_renew 98 = .ok (.iload_n 2, 1) := by decide +kernel
theorem dX4_renew_99 : decode cX4_renew 99 = .ok (.iload 4, 2) := by decide +kernel
theorem dX4_renew_101 : decode cX4_renew 101 = .ok (.invokevirtual 113, 3) := by decide +kernel
theorem dX4_renew_104 : decode cX4_renew 104 = .ok (.invokevirtual 120, 3) := by decide +kernel
theorem dX4_renew_107 : decode cX4_renew 107 = .ok (.iinc 3 1, 3) := by decide +kernel
theorem dX4_renew_110 : decode cX4_renew 110 = .ok (.goto (-44), 3) := by decide +kernel
theorem dX4_renew_113 : decode cX4_renew 113 = .ok (.aload_n 0, 1) := by decide +kernel
theorem dX4_renew_114 : decode cX4_renew 114 = .ok (.aload_n 0, 1) := by decide +kernel
theorem dX4_renew_115 : decode cX4_renew 115 = .ok (.getfield 34, 3) := by decide +kernel
theorem dX4_renew_118 : decode cX4_renew 118 = .ok (.invokevirtual 155, 3) := by decide +kernel
theorem dX4_renew_121 : decode cX4_renew 121 = .ok (.putfield 58, 3) := by decide +kernel
theorem dX4_renew_124 : decode cX4_renew 124 = .ok (.aload_n 0, 1) := by decide +kernel
theorem dX4_renew_125 : decode cX4_renew 125 = .ok (.getfield 21, 3) := by decide +kernel
theorem dX4_renew_128 : decode cX4_renew 128 = .ok (.aload_n 0, 1) := by decide +kernel
theorem dX4_renew_129 : decode cX4_renew 129 = .ok (.getfield 12, 3) := by decide +kernel
theorem dX4_renew_132 : decode cX4_renew 132 = .ok (.invokevirtual 107, 3) := by decide +kernel
theorem dX4_renew_135 : decode cX4_renew 135 = .ok (.invokevirtual 71, 3) := by decide +kernel
theorem dX4_renew_138 : decode cX4_renew 138 = .ok (.aload_n 0, 1) := by decide +kernel
theorem dX4_renew_139 : decode cX4_renew 139 = .ok (.dup, 1) := by decide +kernel
theorem dX4_renew_140 : decode cX4_renew 140 = .ok (.getfield 65, 3) := by decide +kernel
theorem dX4_renew_143 : decode cX4_renew 143 = .ok (.iconst 1, 1) := by decide +kernel
theorem dX4_renew_144 : decode cX4_renew 144 = .ok (.iadd, 1) := by decide +kernel
theorem dX4_renew_145 : decode cX4_renew 145 = .ok (.putfield 65, 3) := by decide +kernel
theorem dX4_renew_148 : decode cX4_renew 148 = .ok (.aload_n 0, 1) := by decide +kernel
theorem dX4_renew_149 : decode cX4_renew 149 = .ok (.getfield 12, 3) := by decide +kernel
theorem dX4_renew_152 : decode cX4_renew 152 = .ok (.iload_n 2, 1) := by decide +kernel
theorem dX4_renew_153 : decode cX4_renew 153 = .ok (.invokevirtual 157, 3) := by decide +kernel
theorem dX4_renew_156 : decode cX4_renew 156 = .ok (.ireturn, 1) := by decide +kernel
theorem dX4_putSetting_0 : decode cX4_putSetting 0 = .ok (.iload_n 1, 1) := by decide +kernel
theorem dX4_putSetting_1 : decode cX4_putSetting 1 = .ok (.iconst 0, 1) := by decide +kernel
theorem dX4_putSetting_2 : decode cX4_putSetting 2 = .ok (.iconst 2, 1) := by decide +kernel
theorem dX4_putSetting_3 : decode cX4_putSetting 3 = .ok (.invokestatic 74, 3) := by decide +kernel
theorem dX4_putSetting_6 : decode cX4_putSetting 6 = .ok (.ifCond .eq 15, 3) := by decide +kernel
theorem dX4_putSetting_9 : decode cX4_putSetting 9 = .ok (.iload_n 2, 1) := by decide +kernel
theorem dX4_putSetting_10 : decode cX4_putSetting 10 = .ok (.iconst 0, 1) := by decide +kernel
theorem dX4_putSetting_11 : decode cX4_putSetting 11 = .ok (.iload_n 1, 1) := by decide +kernel
theorem dX4_putSetting_12 : decode cX4_putSetting 12 = .ok (.invokestatic 160, 3) := by decide +kernel
theorem dX4_putSetting_15 : decode cX4_putSetting 15 = .ok (.invokestatic 74, 3) := by decide +kernel
theorem dX4_putSetting_18 : decode cX4_putSetting 18 = .ok (.ifCond .ne 6, 3) := by decide +kernel
theorem dX4_putSetting_21 : decode cX4_putSetting 21 = .ok (.ldc 78, 2) := by decide +kernel
theorem dX4_putSetting_23 : decode cX4_putSetting 23 = .ok (.ireturn, 1) := by decide +kernel
theorem dX4_putSetting_24 : decode cX4_putSetting 24 = .ok (.aload_n 0, 1) := by decide +kernel
theorem dX4_putSetting_25 : decode cX4_putSetting 25 = .ok (.getfield 30, 3) := by decide +kernel
theorem dX4_putSetting_28 : decode cX4_putSetting 28 = .ok (.iload_n 1, 1) := by decide +kernel
theorem dX4_putSetting_29 : decode cX4_putSetting 29 = .ok (.invokevirtual 137, 3) := by decide +kernel
theorem dX4_putSetting_32 : decode cX4_putSetting 32 = .ok (.istore_n 3, 1) := by decide +kernel
theorem dX4_putSetting_33 : decode cX4_putSetting 33 = .ok (.aload_n 0, 1) := by decide +kernel
theorem dX4_putSetting_34 : decode cX4_putSetting 34 = .ok (.getfield 30, 3) := by decide +kernel
theorem dX4_putSetting_37 : decode cX4_putSetting 37 = .ok (.iload_n 1, 1) := by decide +kernel
theorem dX4_putSetting_38 : decode cX4_putSetting 38 = .ok (.iload_n 2, 1) := by decide +kernel
theorem dX4_putSetting_39 : decode cX4_putSetting 39 = .ok (.invokevirtual 38, 3) := by decide +kernel
theorem dX4_putSetting_42 : decode cX4_putSetting 42 = .ok (.iload_n 3, 1) := by decide +kernel
theorem dX4_putSetting_43 : decode cX4_putSetting 43 = .ok (.ireturn, 1) := by decide +kernel
theorem dX4_greatestSetting_0 : decode cX4_greatestSetting 0 = .ok (.iload_n 0, 1) := by decide +kernel
theorem dX4_greatestSetting_1 : decode cX4_greatestSetting 1 = .ok (.lookupswitch 32 #[(0, 27), (1, 30)], 27) := by decide +kernel
theorem dX4_greatestSetting_28 : decode cX4_greatestSetting 28 = .ok (.bipush 12, 2) := by decide +kernel
theorem dX4_greatestSetting_30 : decode cX4_greatestSetting 30 = .ok (.ireturn, 1) := by decide +kernel
theorem dX4_greatestSetting_31 : decode cX4_greatestSetting 31 = .ok (.iconst 2, 1) := by decide +kernel
theorem dX4_greatestSetting_32 : decode cX4_greatestSetting 32 = .ok (.ireturn, 1) := by decide +kernel
theorem dX4_greatestSetting_33 : decode cX4_greatestSetting 33 = .ok (.bipush 99, 2) := by decide +kernel
theorem dX4_greatestSetting_35 : decode cX4_greatestSetting 35 = .ok (.ireturn, 1) := by decide +kernel
theorem dX4_hasParticle_0 : decode cX4_hasParticle 0 = .ok (.iload_n 1, 1) := by decide +kernel
theorem dX4_hasParticle_1 : decode cX4_hasParticle 1 = .ok (.iconst 0, 1) := by decide +kernel
theorem dX4_hasParticle_2 : decode cX4_hasParticle 2 = .ok (.aload_n 0, 1) := by decide +kernel
theorem dX4_hasParticle_3 : decode cX4_hasParticle 3 = .ok (.getfield 12, 3) := by decide +kernel
theorem dX4_hasParticle_6 : decode cX4_hasParticle 6 = .ok (.invokevirtual 107, 3) := by decide +kernel
theorem dX4_hasParticle_9 : decode cX4_hasParticle 9 = .ok (.iconst 1, 1) := by decide +kernel
theorem dX4_hasParticle_10 : decode cX4_hasParticle 10 = .ok (.isub, 1) := by decide +kernel
theorem dX4_hasParticle_11 : decode cX4_hasParticle 11 = .ok (.invokestatic 74, 3) := by decide +kernel
theorem dX4_hasParticle_14 : decode cX4_hasParticle 14 = .ok (.ireturn, 1) := by decide +kernel
theorem dX4_hasGeneration_0 : decode cX4_hasGeneration 0 = .ok (.iload_n 1, 1) := by decide +kernel
theorem dX4_hasGeneration_1 : decode cX4_hasGeneration 1 = .ok (.iconst 0, 1) := by decide +kernel
theorem dX4_hasGeneration_2 : decode cX4_hasGeneration 2 = .ok (.aload_n 0, 1) := by decide +kernel
theorem dX4_hasGeneration_3 : decode cX4_hasGeneration 3 = .ok (.getfield 12, 3) := by decide +kernel
theorem dX4_hasGeneration_6 : decode cX4_hasGeneration 6 = .ok (.invokevirtual 101, 3) := by decide +kernel
theorem dX4_hasGeneration_9 : decode cX4_hasGeneration 9 = .ok (.invokestatic 74, 3) := by decide +kernel
theorem dX4_hasGeneration_12 : decode cX4_hasGeneration 12 = .ok (.ireturn, 1) := by decide +kernel
theorem dX4_tellOfParticle_0 : decode cX4_tellOfParticle 0 = .ok (.aload_n 0, 1) := by decide +kernel
theorem dX4_tellOfParticle_1 : decode cX4_tellOfParticle 1 = .ok (.getfield 12, 3) := by decide +kernel
theorem dX4_tellOfParticle_4 : decode cX4_tellOfParticle 4 = .ok (.invokevirtual 101, 3) := by decide +kernel
theorem dX4_tellOfParticle_7 : decode cX4_tellOfParticle 7 = .ok (.istore_n 3, 1) := by decide +kernel
theorem dX4_tellOfParticle_8 : decode cX4_tellOfParticle 8 = .ok (.aload_n 0, 1) := by decide +kernel
theorem dX4_tellOfParticle_9 : decode cX4_tellOfParticle 9 = .ok (.getfield 12, 3) := by decide +kernel
theorem dX4_tellOfParticle_12 : decode cX4_tellOfParticle 12 = .ok (.iload_n 3, 1) := by decide +kernel
theorem dX4_tellOfParticle_13 : decode cX4_tellOfParticle 13 = .ok (.iload_n 1, 1) := by decide +kernel
theorem dX4_tellOfParticle_14 : decode cX4_tellOfParticle 14 = .ok (.invokevirtual 113, 3) := by decide +kernel
theorem dX4_tellOfParticle_17 : decode cX4_tellOfParticle 17 = .ok (.istore 4, 2) := by decide +kernel
theorem dX4_tellOfParticle_19 : decode cX4_tellOfParticle 19 = .ok (.aload_n 0, 1) := by decide +kernel
theorem dX4_tellOfParticle_20 : decode cX4_tellOfParticle 20 = .ok (.getfield 21, 3) := by decide +kernel
theorem dX4_tellOfParticle_23 : decode cX4_tellOfParticle 23 = .ok (.iload_n 1, 1) := by decide +kernel
theorem dX4_tellOfParticle_24 : decode cX4_tellOfParticle 24 = .ok (.invokevirtual 96, 3) := by decide +kernel
theorem dX4_tellOfParticle_27 : decode cX4_tellOfParticle 27 = .ok (.istore 5, 2) := by decide +kernel
theorem dX4_tellOfParticle_29 : decode cX4_tellOfParticle 29 = .ok (.iload_n 2, 1) := by decide +kernel
theorem dX4_tellOfParticle_30 : decode cX4_tellOfParticle 30 = .ok (.tableswitch 104 0 5 #[38, 41, 44, 63, 74, 89], 38) := by decide +kernel
theorem dX4_tellOfParticle_68 : decode cX4_tellOfParticle 68 = .ok (.iload 4, 2) := by decide +kernel
theorem dX4_tellOfParticle_70 : decode cX4_tellOfParticle 70 = .ok (.ireturn, 1) := by decide +kernel
theorem dX4_tellOfParticle_71 : decode cX4_tellOfParticle 71 = .ok (.iload 5, 2) := by decide +kernel
theorem dX4_tellOfParticle_73 : decode cX4_tellOfParticle 73 = .ok (.ireturn, 1) := by decide +kernel
theorem dX4_tellOfParticle_74 : decode cX4_tellOfParticle 74 = .ok (.iload_n 3, 1) := by decide +kernel
theorem dX4_tellOfParticle_75 : decode cX4_tellOfParticle 75 = .ok (.ifCond .ne 8, 3) := by decide +kernel
theorem dX4_tellOfParticle_78 : decode cX4_tellOfParticle 78 = .ok (.ldc 163, 2) := by decide +kernel
theorem dX4_tellOfParticle_80 : decode cX4_tellOfParticle 80 = .ok (.goto 12, 3) := by decide +kernel
theorem dX4_tellOfParticle_83 : decode cX4_tellOfParticle 83 = .ok (.aload_n 0, 1) := by decide +kernel
theorem dX4_tellOfParticle_84 : decode cX4_tellOfParticle 84 = .ok (.getfield 12, 3) := by decide +kernel
theorem dX4_tellOfParticle_87 : decode cX4_tellOfParticle 87 = .ok (.iload_n 3, 1) := by decide +kernel
theorem dX4_tellOfParticle_88 : decode cX4_tellOfParticle 88 = .ok (.iload_n 1, 1) := by decide +kernel
theorem dX4_tellOfParticle_89 : decode cX4_tellOfParticle 89 = .ok (.invokevirtual 164, 3) := by decide +kernel
theorem dX4_tellOfParticle_92 : decode cX4_tellOfParticle 92 = .ok (.ireturn, 1) := by decide +kernel
theorem dX4_tellOfParticle_93 : decode cX4_tellOfParticle 93 = .ok (.aload_n 0, 1) := by decide +kernel
theorem dX4_tellOfParticle_94 : decode cX4_tellOfParticle 94 = .ok (.getfield 12, 3) := by decide +kernel
theorem dX4_tellOfParticle_97 : decode cX4_tellOfParticle 97 = .ok (.iload_n 3, 1) := by decide +kernel
theorem dX4_tellOfParticle_98 : decode cX4_tellOfParticle 98 = .ok (.iload 4, 2) := by decide +kernel
theorem dX4_tellOfParticle_100 : decode cX4_tellOfParticle 100 = .ok (.invokevirtual 167, 3) := by decide +kernel
theorem dX4_tellOfParticle_103 : decode cX4_tellOfParticle 103 = .ok (.ireturn, 1) := by decide +kernel
theorem dX4_tellOfParticle_104 : decode cX4_tellOfParticle 104 = .ok (.iload 5, 2) := by decide +kernel
theorem dX4_tellOfParticle_106 : decode cX4_tellOfParticle 106 = .ok (.i2l, 1) := by decide +kernel
theorem dX4_tellOfParticle_107 : decode cX4_tellOfParticle 107 = .ok (.aload_n 0, 1) := by decide +kernel
theorem dX4_tellOfParticle_108 : decode cX4_tellOfParticle 108 = .ok (.getfield 21, 3) := by decide +kernel
theorem dX4_tellOfParticle_111 : decode cX4_tellOfParticle 111 = .ok (.invokevirtual 170, 3) := by decide +kernel
theorem dX4_tellOfParticle_114 : decode cX4_tellOfParticle 114 = .ok (.iconst 0, 1) := by decide +kernel
theorem dX4_tellOfParticle_115 : decode cX4_tellOfParticle 115 = .ok (.invokestatic 174, 3) := by decide +kernel
theorem dX4_tellOfParticle_118 : decode cX4_tellOfParticle 118 = .ok (.ireturn, 1) := by decide +kernel
theorem dX4_tellOfParticle_119 : decode cX4_tellOfParticle 119 = .ok (.iload 5, 2) := by decide +kernel
theorem dX4_tellOfParticle_121 : decode cX4_tellOfParticle 121 = .ok (.i2l, 1) := by decide +kernel
theorem dX4_tellOfParticle_122 : decode cX4_tellOfParticle 122 = .ok (.aload_n 0, 1) := by decide +kernel
theorem dX4_tellOfParticle_123 : decode cX4_tellOfParticle 123 = .ok (.getfield 21, 3) := by decide +kernel
theorem dX4_tellOfParticle_126 : decode cX4_tellOfParticle 126 = .ok (.invokevirtual 170, 3) := by decide +kernel
theorem dX4_tellOfParticle_129 : decode cX4_tellOfParticle 129 = .ok (.iconst 1, 1) := by decide +kernel
theorem dX4_tellOfParticle_130 : decode cX4_tellOfParticle 130 = .ok (.invokestatic 174, 3) := by decide +kernel
theorem dX4_tellOfParticle_133 : decode cX4_tellOfParticle 133 = .ok (.ireturn, 1) := by decide +kernel
theorem dX4_tellOfParticle_134 : decode cX4_tellOfParticle 134 = .ok (.aload_n 0, 1) := by decide +kernel
theorem dX4_tellOfParticle_135 : decode cX4_tellOfParticle 135 = .ok (.getfield 21, 3) := by decide +kernel
theorem dX4_tellOfParticle_138 : decode cX4_tellOfParticle 138 = .ok (.iload_n 1, 1) := by decide +kernel
theorem dX4_tellOfParticle_139 : decode cX4_tellOfParticle 139 = .ok (.invokevirtual 178, 3) := by decide +kernel
theorem dX4_tellOfParticle_142 : decode cX4_tellOfParticle 142 = .ok (.ireturn, 1) := by decide +kernel
theorem dX4_tellOfGeneration_0 : decode cX4_tellOfGeneration 0 = .ok (.aload_n 0, 1) := by decide +kernel
theorem dX4_tellOfGeneration_1 : decode cX4_tellOfGeneration 1 = .ok (.getfield 12, 3) := by decide +kernel
theorem dX4_tellOfGeneration_4 : decode cX4_tellOfGeneration 4 = .ok (.iload_n 1, 1) := by decide +kernel
theorem dX4_tellOfGeneration_5 : decode cX4_tellOfGeneration 5 = .ok (.invokevirtual 181, 3) := by decide +kernel
theorem dX4_tellOfGeneration_8 : decode cX4_tellOfGeneration 8 = .ok (.istore_n 3, 1) := by decide +kernel
theorem dX4_tellOfGeneration_9 : decode cX4_tellOfGeneration 9 = .ok (.iload_n 2, 1) := by decide +kernel
theorem dX4_tellOfGeneration_10 : decode cX4_tellOfGeneration 10 = .ok (.tableswitch 105 0 4 #[34, 36, 58, 77, 96], 34) := by decide +kernel
theorem dX4_tellOfGeneration_44 : decode cX4_tellOfGeneration 44 = .ok (.iload_n 3, 1) := by decide +kernel
theorem dX4_tellOfGeneration_45 : decode cX4_tellOfGeneration 45 = .ok (.ireturn, 1) := by decide +kernel
theorem dX4_tellOfGeneration_46 : decode cX4_tellOfGeneration 46 = .ok (.iload_n 3, 1) := by decide +kernel
theorem dX4_tellOfGeneration_47 : decode cX4_tellOfGeneration 47 = .ok (.iconst 1, 1) := by decide +kernel
theorem dX4_tellOfGeneration_48 : decode cX4_tellOfGeneration 48 = .ok (.if_icmp .ne 17, 3) := by decide +kernel
theorem dX4_tellOfGeneration_51 : decode cX4_tellOfGeneration 51 = .ok (.aload_n 0, 1) := by decide +kernel
theorem dX4_tellOfGeneration_52 : decode cX4_tellOfGeneration 52 = .ok (.getfield 12, 3) := by decide +kernel
theorem dX4_tellOfGeneration_55 : decode cX4_tellOfGeneration 55 = .ok (.iload_n 1, 1) := by decide +kernel
theorem dX4_tellOfGeneration_56 : decode cX4_tellOfGeneration 56 = .ok (.invokevirtual 184, 3) := by decide +kernel
theorem dX4_tellOfGeneration_59 : decode cX4_tellOfGeneration 59 = .ok (.bipush 100, 2) := by decide +kernel
theorem dX4_tellOfGeneration_61 : decode cX4_tellOfGeneration 61 = .ok (.iadd, 1) := by decide +kernel
theorem dX4_tellOfGeneration_62 : decode cX4_tellOfGeneration 62 = .ok (.goto 5, 3) := by decide +kernel
theorem dX4_tellOfGeneration_65 : decode cX4_tellOfGeneration 65 = .ok (.ldc 163, 2) := by decide +kernel
theorem dX4_tellOfGeneration_67 : decode cX4_tellOfGeneration 67 = .ok (.ireturn, 1) := by decide +kernel
theorem dX4_tellOfGeneration_68 : decode cX4_tellOfGeneration 68 = .ok (.iload_n 3, 1) := by decide +kernel
theorem dX4_tellOfGeneration_69 : decode cX4_tellOfGeneration 69 = .ok (.iconst 1, 1) := by decide +kernel
theorem dX4_tellOfGeneration_70 : decode cX4_tellOfGeneration 70 = .ok (.if_icmp .ne 14, 3) := by decide +kernel
theorem dX4_tellOfGeneration_73 : decode cX4_tellOfGeneration 73 = .ok (.aload_n 0, 1) := by decide +kernel
theorem dX4_tellOfGeneration_74 : decode cX4_tellOfGeneration 74 = .ok (.getfield 12, 3) := by decide +kernel
theorem dX4_tellOfGeneration_77 : decode cX4_tellOfGeneration 77 = .ok (.iload_n 1, 1) := by decide +kernel
theorem dX4_tellOfGeneration_78 : decode cX4_tellOfGeneration 78 = .ok (.invokevirtual 187, 3) := by decide +kernel
theorem dX4_tellOfGeneration_81 : decode cX4_tellOfGeneration 81 = .ok (.goto 5, 3) := by decide +kernel
theorem dX4_tellOfGeneration_84 : decode cX4_tellOfGeneration 84 = .ok (.ldc 163, 2) := by decide +kernel
theorem dX4_tellOfGeneration_86 : decode cX4_tellOfGeneration 86 = .ok (.ireturn, 1) := by decide +kernel
theorem dX4_tellOfGeneration_87 : decode cX4_tellOfGeneration 87 = .ok (.iload_n 3, 1) := by decide +kernel
theorem dX4_tellOfGeneration_88 : decode cX4_tellOfGeneration 88 = .ok (.iconst 2, 1) := by decide +kernel
theorem dX4_tellOfGeneration_89 : decode cX4_tellOfGeneration 89 = .ok (.if_icmp .ne 14, 3) := by decide +kernel
theorem dX4_tellOfGeneration_92 : decode cX4_tellOfGeneration 92 = .ok (.aload_n 0, 1) := by decide +kernel
theorem dX4_tellOfGeneration_93 : decode cX4_tellOfGeneration 93 = .ok (.getfield 12, 3) := by decide +kernel
theorem dX4_tellOfGeneration_96 : decode cX4_tellOfGeneration 96 = .ok (.iload_n 1, 1) := by decide +kernel
theorem dX4_tellOfGeneration_97 : decode cX4_tellOfGeneration 97 = .ok (.invokevirtual 190, 3) := by decide +kernel
theorem dX4_tellOfGeneration_100 : decode cX4_tellOfGeneration 100 = .ok (.goto 5, 3) := by decide +kernel
theorem dX4_tellOfGeneration_103 : decode cX4_tellOfGeneration 103 = .ok (.ldc 163, 2) := by decide +kernel
theorem dX4_tellOfGeneration_105 : decode cX4_tellOfGeneration 105 = .ok (.ireturn, 1) := by decide +kernel
theorem dX4_tellOfGeneration_106 : decode cX4_tellOfGeneration 106 = .ok (.aload_n 0, 1) := by decide +kernel
theorem dX4_tellOfGeneration_107 : decode cX4_tellOfGeneration 107 = .ok (.getfield 12, 3) := by decide +kernel
theorem dX4_tellOfGeneration_110 : decode cX4_tellOfGeneration 110 = .ok (.iload_n 1, 1) := by decide +kernel
theorem dX4_tellOfGeneration_111 : decode cX4_tellOfGeneration 111 = .ok (.invokevirtual 157, 3) := by decide +kernel
theorem dX4_tellOfGeneration_114 : decode cX4_tellOfGeneration 114 = .ok (.ireturn, 1) := by decide +kernel
theorem dX4_tellOfGeneration_115 : decode cX4_tellOfGeneration 115 = .ok (.aload_n 0, 1) := by decide +kernel
theorem dX4_tellOfGeneration_116 : decode cX4_tellOfGeneration 116 = .ok (.getfield 12, 3) := by decide +kernel
theorem dX4_tellOfGeneration_119 : decode cX4_tellOfGeneration 119 = .ok (.iload_n 1, 1) := by decide +kernel
theorem dX4_tellOfGeneration_120 : decode cX4_tellOfGeneration 120 = .ok (.invokevirtual 193, 3) := by decide +kernel
theorem dX4_tellOfGeneration_123 : decode cX4_tellOfGeneration 123 = .ok (.ireturn, 1) := by decide +kernel
theorem dX4_number_0 : decode cX4_number 0 = .ok (.iload_n 1, 1) := by decide +kernel
theorem dX4_number_1 : decode cX4_number 1 = .ok (.tableswitch 205 0 22 #[107, 115, 123, 132, 140, 145, 153, 168, 173, 205, 205, 205, 205, 205, 205, 205, 205, 205, 205, 205, 178, 187, 196], 107) := by decide +kernel
theorem dX4_number_108 : decode cX4_number 108 = .ok (.aload_n 0, 1) := by decide +kernel
theorem dX4_number_109 : decode cX4_number 109 = .ok (.getfield 12, 3) := by decide +kernel
theorem dX4_number_112 : decode cX4_number 112 = .ok (.invokevirtual 107, 3) := by decide +kernel
theorem dX4_number_115 : decode cX4_number 115 = .ok (.ireturn, 1) := by decide +kernel
theorem dX4_number_116 : decode cX4_number 116 = .ok (.aload_n 0, 1) := by decide +kernel
theorem dX4_number_117 : decode cX4_number 117 = .ok (.getfield 12, 3) := by decide +kernel
theorem dX4_number_120 : decode cX4_number 120 = .ok (.invokevirtual 79, 3) := by decide +kernel
theorem dX4_number_123 : decode cX4_number 123 = .ok (.ireturn, 1) := by decide +kernel
theorem dX4_number_124 : decode cX4_number 124 = .ok (.aload_n 0, 1) := by decide +kernel
theorem dX4_number_125 : decode cX4_number 125 = .ok (.getfield 21, 3) := by decide +kernel
theorem dX4_number_128 : decode cX4_number 128 = .ok (.invokevirtual 170, 3) := by decide +kernel
theorem dX4_number_131 : decode cX4_number 131 = .ok (.l2i, 1) := by decide +kernel
theorem dX4_number_132 : decode cX4_number 132 = .ok (.ireturn, 1) := by decide +kernel
theorem dX4_number_133 : decode cX4_number 133 = .ok (.aload_n 0, 1) := by decide +kernel
theorem dX4_number_134 : decode cX4_number 134 = .ok (.getfield 21, 3) := by decide +kernel
theorem dX4_number_137 : decode cX4_number 137 = .ok (.invokevirtual 134, 3) := by decide +kernel
theorem dX4_number_140 : decode cX4_number 140 = .ok (.ireturn, 1) := by decide +kernel
theorem dX4_number_141 : decode cX4_number 141 = .ok (.aload_n 0, 1) := by decide +kernel
theorem dX4_number_142 : decode cX4_number 142 = .ok (.getfield 58, 3) := by decide +kernel
theorem dX4_number_145 : decode cX4_number 145 = .ok (.ireturn, 1) := by decide +kernel
theorem dX4_number_146 : decode cX4_number 146 = .ok (.aload_n 0, 1) := by decide +kernel
theorem dX4_number_147 : decode cX4_number 147 = .ok (.getfield 21, 3) := by decide +kernel
theorem dX4_number_150 : decode cX4_number 150 = .ok (.invokevirtual 205, 3) := by decide +kernel
theorem dX4_number_153 : decode cX4_number 153 = .ok (.ireturn, 1) := by decide +kernel
theorem dX4_number_154 : decode cX4_number 154 = .ok (.aload_n 0, 1) := by decide +kernel
theorem dX4_number_155 : decode cX4_number 155 = .ok (.getfield 12, 3) := by decide +kernel
theorem dX4_number_158 : decode cX4_number 158 = .ok (.aload_n 0, 1) := by decide +kernel
theorem dX4_number_159 : decode cX4_number 159 = .ok (.getfield 12, 3) := by decide +kernel
theorem dX4_number_162 : decode cX4_number 162 = .ok (.invokevirtual 101, 3) := by decide +kernel
theorem dX4_number_165 : decode cX4_number 165 = .ok (.invokevirtual 193, 3) := by decide +kernel
theorem dX4_number_168 : decode cX4_number 168 = .ok (.ireturn, 1) := by decide +kernel
theorem dX4_number_169 : decode cX4_number 169 = .ok (.aload_n 0, 1) := by decide +kernel
theorem dX4_number_170 : decode cX4_number 170 = .ok (.getfield 62, 3) := by decide +kernel
theorem dX4_number_173 : decode cX4_number 173 = .ok (.ireturn, 1) := by decide +kernel
theorem dX4_number_174 : decode cX4_number 174 = .ok (.aload_n 0, 1) := by decide +kernel
theorem dX4_number_175 : decode cX4_number 175 = .ok (.getfield 65, 3) := by decide +kernel
theorem dX4_number_178 : decode cX4_number 178 = .ok (.ireturn, 1) := by decide +kernel
theorem dX4_number_179 : decode cX4_number 179 = .ok (.aload_n 0, 1) := by decide +kernel
theorem dX4_number_180 : decode cX4_number 180 = .ok (.getfield 30, 3) := by decide +kernel
theorem dX4_number_183 : decode cX4_number 183 = .ok (.iconst 0, 1) := by decide +kernel
theorem dX4_number_184 : decode cX4_number 184 = .ok (.invokevirtual 137, 3) := by decide +kernel
theorem dX4_number_187 : decode cX4_number 187 = .ok (.ireturn, 1) := by decide +kernel
theorem dX4_number_188 : decode cX4_number 188 = .ok (.aload_n 0, 1) := by decide +kernel
theorem dX4_number_189 : decode cX4_number 189 = .ok (.getfield 30, 3) := by decide +kernel
theorem dX4_number_192 : decode cX4_number 192 = .ok (.iconst 1, 1) := by decide +kernel
theorem dX4_number_193 : decode cX4_number 193 = .ok (.invokevirtual 137, 3) := by decide +kernel
theorem dX4_number_196 : decode cX4_number 196 = .ok (.ireturn, 1) := by decide +kernel
theorem dX4_number_197 : decode cX4_number 197 = .ok (.aload_n 0, 1) := by decide +kernel
theorem dX4_number_198 : decode cX4_number 198 = .ok (.getfield 30, 3) := by decide +kernel
theorem dX4_number_201 : decode cX4_number 201 = .ok (.iconst 2, 1) := by decide +kernel
theorem dX4_number_202 : decode cX4_number 202 = .ok (.invokevirtual 137, 3) := by decide +kernel
theorem dX4_number_205 : decode cX4_number 205 = .ok (.ireturn, 1) := by decide +kernel
theorem dX4_number_206 : decode cX4_number 206 = .ok (.ldc 78, 2) := by decide +kernel
theorem dX4_number_208 : decode cX4_number 208 = .ok (.ireturn, 1) := by decide +kernel
theorem dX5_init_0 : decode cX5_init 0 = .ok (.aload_n 0, 1) := by decide +kernel
theorem dX5_init_1 : decode cX5_init 1 = .ok (.invokespecial 3, 3) := by decide +kernel
theorem dX5_init_4 : decode cX5_init 4 = .ok (.aload_n 0, 1) := by decide +kernel
theorem dX5_init_5 : decode cX5_init 5 = .ok (.bipush 12, 2) := by decide +kernel
theorem dX5_init_7 : decode cX5_init 7 = .ok (.newarray .int, 2) := by decide +kernel
theorem dX5_init_9 : decode cX5_init 9 = .ok (.putfield 9, 3) := by decide +kernel
theorem dX5_init_12 : decode cX5_init 12 = .ok (.aload_n 0, 1) := by decide +kernel
theorem dX5_init_13 : decode cX5_init 13 = .ok (.iconst 0, 1) := by decide +kernel
theorem dX5_init_14 : decode cX5_init 14 = .ok (.putfield 15, 3) := by decide +kernel
theorem dX5_init_17 : decode cX5_init 17 = .ok (.return_, 1) := by decide +kernel
theorem dX5_copyWeights_0 : decode cX5_copyWeights 0 = .ok (.aload_n 0, 1) := by decide +kernel
theorem dX5_copyWeights_1 : decode cX5_copyWeights 1 = .ok (.aload_n 1, 1) := by decide +kernel
theorem dX5_copyWeights_2 : decode cX5_copyWeights 2 = .ok (.getfield 15, 3) := by decide +kernel
theorem dX5_copyWeights_5 : decode cX5_copyWeights 5 = .ok (.putfield 15, 3) := by decide +kernel
theorem dX5_copyWeights_8 : decode cX5_copyWeights 8 = .ok (.iconst 0, 1) := by decide +kernel
theorem dX5_copyWeights_9 : decode cX5_copyWeights 9 = .ok (.istore_n 2, 1) := by decide +kernel
theorem dX5_copyWeights_10 : decode cX5_copyWeights 10 = .ok (.iload_n 2, 1) := by decide +kernel
theorem dX5_copyWeights_11 : decode cX5_copyWeights 11 = .ok (.aload_n 0, 1) := by decide +kernel
theorem dX5_copyWeights_12 : decode cX5_copyWeights 12 = .ok (.getfield 9, 3) := by decide +kernel
theorem dX5_copyWeights_15 : decode cX5_copyWeights 15 = .ok (.arraylength, 1) := by decide +kernel
theorem dX5_copyWeights_16 : decode cX5_copyWeights 16 = .ok (.if_icmp .ge 30, 3) := by decide +kernel
theorem dX5_copyWeights_19 : decode cX5_copyWeights 19 = .ok (.iload_n 2, 1) := by decide +kernel
theorem dX5_copyWeights_20 : decode cX5_copyWeights 20 = .ok (.aload_n 1, 1) := by decide +kernel
theorem dX5_copyWeights_21 : decode cX5_copyWeights 21 = .ok (.getfield 9, 3) := by decide +kernel
theorem dX5_copyWeights_24 : decode cX5_copyWeights 24 = .ok (.arraylength, 1) := by decide +kernel
theorem dX5_copyWeights_25 : decode cX5_copyWeights 25 = .ok (.if_icmp .ge 21, 3) := by decide +kernel
theorem dX5_copyWeights_28 : decode cX5_copyWeights 28 = .ok (.aload_n 0, 1) := by decide +kernel
theorem dX5_copyWeights_29 : decode cX5_copyWeights 29 = .ok (.getfield 9, 3) := by decide +kernel
theorem dX5_copyWeights_32 : decode cX5_copyWeights 32 = .ok (.iload_n 2, 1) := by decide +kernel
theorem dX5_copyWeights_33 : decode cX5_copyWeights 33 = .ok (.aload_n 1, 1) := by decide +kernel
theorem dX5_copyWeights_34 : decode cX5_copyWeights 34 = .ok (.getfield 9, 3) := by decide +kernel
theorem dX5_copyWeights_37 : decode cX5_copyWeights 37 = .ok (.iload_n 2, 1) := by decide +kernel
theorem dX5_copyWeights_38 : decode cX5_copyWeights 38 = .ok (.iaload, 1) := by decide +kernel
theorem dX5_copyWeights_39 : decode cX5_copyWeights 39 = .ok (.iastore, 1) := by decide +kernel
theorem dX5_copyWeights_40 : decode cX5_copyWeights 40 = .ok (.iinc 2 1, 3) := by decide +kernel
theorem dX5_copyWeights_43 : decode cX5_copyWeights 43 = .ok (.goto (-33), 3) := by decide +kernel
theorem dX5_copyWeights_46 : decode cX5_copyWeights 46 = .ok (.return_, 1) := by decide +kernel
theorem dX5_makeEqual_0 : decode cX5_makeEqual 0 = .ok (.aload_n 0, 1) := by decide +kernel
theorem dX5_makeEqual_1 : decode cX5_makeEqual 1 = .ok (.iconst 0, 1) := by decide +kernel
theorem dX5_makeEqual_2 : decode cX5_makeEqual 2 = .ok (.iload_n 1, 1) := by decide +kernel
theorem dX5_makeEqual_3 : decode cX5_makeEqual 3 = .ok (.aload_n 0, 1) := by decide +kernel
theorem dX5_makeEqual_4 : decode cX5_makeEqual 4 = .ok (.getfield 9, 3) := by decide +kernel
theorem dX5_makeEqual_7 : decode cX5_makeEqual 7 = .ok (.arraylength, 1) := by decide +kernel
theorem dX5_makeEqual_8 : decode cX5_makeEqual 8 = .ok (.invokestatic 19, 3) := by decide +kernel
theorem dX5_makeEqual_11 : decode cX5_makeEqual 11 = .ok (.invokestatic 25, 3) := by decide +kernel
theorem dX5_makeEqual_14 : decode cX5_makeEqual 14 = .ok (.putfield 15, 3) := by decide +kernel
theorem dX5_makeEqual_17 : decode cX5_makeEqual 17 = .ok (.iconst 0, 1) := by decide +kernel
theorem dX5_makeEqual_18 : decode cX5_makeEqual 18 = .ok (.istore_n 2, 1) := by decide +kernel
theorem dX5_makeEqual_19 : decode cX5_makeEqual 19 = .ok (.iload_n 2, 1) := by decide +kernel
theorem dX5_makeEqual_20 : decode cX5_makeEqual 20 = .ok (.aload_n 0, 1) := by decide +kernel
theorem dX5_makeEqual_21 : decode cX5_makeEqual 21 = .ok (.getfield 15, 3) := by decide +kernel
theorem dX5_makeEqual_24 : decode cX5_makeEqual 24 = .ok (.if_icmp .ge 25, 3) := by decide +kernel
theorem dX5_makeEqual_27 : decode cX5_makeEqual 27 = .ok (.iload_n 2, 1) := by decide +kernel
theorem dX5_makeEqual_28 : decode cX5_makeEqual 28 = .ok (.aload_n 0, 1) := by decide +kernel
theorem dX5_makeEqual_29 : decode cX5_makeEqual 29 = .ok (.getfield 9, 3) := by decide +kernel
theorem dX5_makeEqual_32 : decode cX5_makeEqual 32 = .ok (.arraylength, 1) := by decide +kernel
theorem dX5_makeEqual_33 : decode cX5_makeEqual 33 = .ok (.if_icmp .ge 16, 3) := by decide +kernel
theorem dX5_makeEqual_36 : decode cX5_makeEqual 36 = .ok (.aload_n 0, 1) := by decide +kernel
theorem dX5_makeEqual_37 : decode cX5_makeEqual 37 = .ok (.getfield 9, 3) := by decide +kernel
theorem dX5_makeEqual_40 : decode cX5_makeEqual 40 = .ok (.iload_n 2, 1) := by decide +kernel
theorem dX5_makeEqual_41 : decode cX5_makeEqual 41 = .ok (.iconst 1, 1) := by decide +kernel
theorem dX5_makeEqual_42 : decode cX5_makeEqual 42 = .ok (.iastore, 1) := by decide +kernel
theorem dX5_makeEqual_43 : decode cX5_makeEqual 43 = .ok (.iinc 2 1, 3) := by decide +kernel
theorem dX5_makeEqual_46 : decode cX5_makeEqual 46 = .ok (.goto (-27), 3) := by decide +kernel
theorem dX5_makeEqual_49 : decode cX5_makeEqual 49 = .ok (.return_, 1) := by decide +kernel
theorem dX5_weightOf_0 : decode cX5_weightOf 0 = .ok (.iload_n 1, 1) := by decide +kernel
theorem dX5_weightOf_1 : decode cX5_weightOf 1 = .ok (.ifCond .lt 12, 3) := by decide +kernel
theorem dX5_weightOf_4 : decode cX5_weightOf 4 = .ok (.iload_n 1, 1) := by decide +kernel
theorem dX5_weightOf_5 : decode cX5_weightOf 5 = .ok (.aload_n 0, 1) := by decide +kernel
theorem dX5_weightOf_6 : decode cX5_weightOf 6 = .ok (.getfield 9, 3) := by decide +kernel
theorem dX5_weightOf_9 : decode cX5_weightOf 9 = .ok (.arraylength, 1) := by decide +kernel
theorem dX5_weightOf_10 : decode cX5_weightOf 10 = .ok (.if_icmp .lt 5, 3) := by decide +kernel
theorem dX5_weightOf_13 : decode cX5_weightOf 13 = .ok (.iconst 0, 1) := by decide +kernel
theorem dX5_weightOf_14 : decode cX5_weightOf 14 = .ok (.ireturn, 1) := by decide +kernel
theorem dX5_weightOf_15 : decode cX5_weightOf 15 = .ok (.aload_n 0, 1) := by decide +kernel
theorem dX5_weightOf_16 : decode cX5_weightOf 16 = .ok (.getfield 9, 3) := by decide +kernel
theorem dX5_weightOf_19 : decode cX5_weightOf 19 = .ok (.iload_n 1, 1) := by decide +kernel
theorem dX5_weightOf_20 : decode cX5_weightOf 20 = .ok (.iaload, 1) := by decide +kernel
theorem dX5_weightOf_21 : decode cX5_weightOf 21 = .ok (.ireturn, 1) := by decide +kernel
theorem dX5_putWeight_0 : decode cX5_putWeight 0 = .ok (.iload_n 1, 1) := by decide +kernel
theorem dX5_putWeight_1 : decode cX5_putWeight 1 = .ok (.ifCond .lt 19, 3) := by decide +kernel
theorem dX5_putWeight_4 : decode cX5_putWeight 4 = .ok (.iload_n 1, 1) := by decide +kernel
theorem dX5_putWeight_5 : decode cX5_putWeight 5 = .ok (.aload_n 0, 1) := by decide +kernel
theorem dX5_putWeight_6 : decode cX5_putWeight 6 = .ok (.getfield 9, 3) := by decide +kernel
theorem dX5_putWeight_9 : decode cX5_putWeight 9 = .ok (.arraylength, 1) := by decide +kernel
theorem dX5_putWeight_10 : decode cX5_putWeight 10 = .ok (.if_icmp .ge 10, 3) := by decide +kernel
theorem dX5_putWeight_13 : decode cX5_putWeight 13 = .ok (.aload_n 0, 1) := by decide +kernel
theorem dX5_putWeight_14 : decode cX5_putWeight 14 = .ok (.getfield 9, 3) := by decide +kernel
theorem dX5_putWeight_17 : decode cX5_putWeight 17 = .ok (.iload_n 1, 1) := by decide +kernel
theorem dX5_putWeight_18 : decode cX5_putWeight 18 = .ok (.iload_n 2, 1) := by decide +kernel
theorem dX5_putWeight_19 : decode cX5_putWeight 19 = .ok (.iastore, 1) := by decide +kernel
theorem dX5_putWeight_20 : decode cX5_putWeight 20 = .ok (.return_, 1) := by decide +kernel
theorem dX5_reduce_0 : decode cX5_reduce 0 = .ok (.lconst 0, 1) := by decide +kernel
theorem dX5_reduce_1 : decode cX5_reduce 1 = .ok (.lstore_n 1, 1) := by decide +kernel
theorem dX5_reduce_2 : decode cX5_reduce 2 = .ok (.iconst 0, 1) := by decide +kernel
theorem dX5_reduce_3 : decode cX5_reduce 3 = .ok (.istore_n 3, 1) := by decide +kernel
theorem dX5_reduce_4 : decode cX5_reduce 4 = .ok (.iload_n 3, 1) := by decide +kernel
theorem dX5_reduce_5 : decode cX5_reduce 5 = .ok (.aload_n 0, 1) := by decide +kernel
theorem dX5_reduce_6 : decode cX5_reduce 6 = .ok (.getfield 15, 3) := by decide +kernel
theorem dX5_reduce_9 : decode cX5_reduce 9 = .ok (.if_icmp .ge 30, 3) := by decide +kernel
theorem dX5_reduce_12 : decode cX5_reduce 12 = .ok (.iload_n 3, 1) := by decide +kernel
theorem dX5_reduce_13 : decode cX5_reduce 13 = .ok (.aload_n 0, 1) := by decide +kernel
theorem dX5_reduce_14 : decode cX5_reduce 14 = .ok (.getfield 9, 3) := by decide +kernel
theorem dX5_reduce_17 : decode cX5_reduce 17 = .ok (.arraylength, 1) := by decide +kernel
theorem dX5_reduce_18 : decode cX5_reduce 18 = .ok (.if_icmp .ge 21, 3) := by decide +kernel
theorem dX5_reduce_21 : decode cX5_reduce 21 = .ok (.lload_n 1, 1) := by decide +kernel
theorem dX5_reduce_22 : decode cX5_reduce 22 = .ok (.aload_n 0, 1) := by decide +kernel
theorem dX5_reduce_23 : decode cX5_reduce 23 = .ok (.getfield 9, 3) := by decide +kernel
theorem dX5_reduce_26 : decode cX5_reduce 26 = .ok (.iload_n 3, 1) := by decide +kernel
theorem dX5_reduce_27 : decode cX5_reduce 27 = .ok (.iaload, 1) := by decide +kernel
theorem dX5_reduce_28 : decode cX5_reduce 28 = .ok (.i2l, 1) := by decide +kernel
theorem dX5_reduce_29 : decode cX5_reduce 29 = .ok (.invokestatic 28, 3) := by decide +kernel
theorem dX5_reduce_32 : decode cX5_reduce 32 = .ok (.lstore_n 1, 1) := by decide +kernel
theorem dX5_reduce_33 : decode cX5_reduce 33 = .ok (.iinc 3 1, 3) := by decide +kernel
theorem dX5_reduce_36 : decode cX5_reduce 36 = .ok (.goto (-32), 3) := by decide +kernel
theorem dX5_reduce_39 : decode cX5_reduce 39 = .ok (.lload_n 1, 1) := by decide +kernel
theorem dX5_reduce_40 : decode cX5_reduce 40 = .ok (.lconst 0, 1) := by decide +kernel
theorem dX5_reduce_41 : decode cX5_reduce 41 = .ok (.lcmp, 1) := by decide +kernel
theorem dX5_reduce_42 : decode cX5_reduce 42 = .ok (.ifCond .gt 5, 3) := by decide +kernel
theorem dX5_reduce_45 : decode cX5_reduce 45 = .ok (.iconst 0, 1) := by decide +kernel
theorem dX5_reduce_46 : decode cX5_reduce 46 = .ok (.ireturn, 1) := by decide +kernel
theorem dX5_reduce_47 : decode cX5_reduce 47 = .ok (.iconst 0, 1) := by decide +kernel
theorem dX5_reduce_48 : decode cX5_reduce 48 = .ok (.istore_n 3, 1) := by decide +kernel
