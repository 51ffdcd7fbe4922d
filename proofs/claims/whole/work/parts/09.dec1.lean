theorem dX2_copyRow_32 : decode cX2_copyRow 32 = .ok (.iinc 2 1, 3) := by decide +kernel
theorem dX2_copyRow_35 : decode cX2_copyRow 35 = .ok (.goto (-33), 3) := by decide +kernel
theorem dX2_copyRow_38 : decode cX2_copyRow 38 = .ok (.return_, 1) := by decide +kernel
theorem dX3_init_0 : decode cX3_init 0 = .ok (.aload_n 0, 1) := by decide +kernel
theorem dX3_init_1 : decode cX3_init 1 = .ok (.invokespecial 3, 3) := by decide +kernel
theorem dX3_init_4 : decode cX3_init 4 = .ok (.aload_n 0, 1) := by decide +kernel
theorem dX3_init_5 : decode cX3_init 5 = .ok (.bipush 60, 2) := by decide +kernel
theorem dX3_init_7 : decode cX3_init 7 = .ok (.newarray .int, 2) := by decide +kernel
theorem dX3_init_9 : decode cX3_init 9 = .ok (.putfield 9, 3) := by decide +kernel
theorem dX3_init_12 : decode cX3_init 12 = .ok (.return_, 1) := by decide +kernel
theorem dX3_length_0 : decode cX3_length 0 = .ok (.aload_n 0, 1) := by decide +kernel
theorem dX3_length_1 : decode cX3_length 1 = .ok (.getfield 15, 3) := by decide +kernel
theorem dX3_length_4 : decode cX3_length 4 = .ok (.ireturn, 1) := by decide +kernel
theorem dX3_append_0 : decode cX3_append 0 = .ok (.aload_n 0, 1) := by decide +kernel
theorem dX3_append_1 : decode cX3_append 1 = .ok (.getfield 15, 3) := by decide +kernel
theorem dX3_append_4 : decode cX3_append 4 = .ok (.ifCond .lt 15, 3) := by decide +kernel
theorem dX3_append_7 : decode cX3_append 7 = .ok (.aload_n 0, 1) := by decide +kernel
theorem dX3_append_8 : decode cX3_append 8 = .ok (.getfield 15, 3) := by decide +kernel
theorem dX3_append_11 : decode cX3_append 11 = .ok (.aload_n 0, 1) := by decide +kernel
theorem dX3_append_12 : decode cX3_append 12 = .ok (.getfield 9, 3) := by decide +kernel
theorem dX3_append_15 : decode cX3_append 15 = .ok (.arraylength, 1) := by decide +kernel
theorem dX3_append_16 : decode cX3_append 16 = .ok (.if_icmp .lt 6, 3) := by decide +kernel
theorem dX3_append_19 : decode cX3_append 19 = .ok (.ldc 19, 2) := by decide +kernel
theorem dX3_append_21 : decode cX3_append 21 = .ok (.ireturn, 1) := by decide +kernel
theorem dX3_append_22 : decode cX3_append 22 = .ok (.aload_n 0, 1) := by decide +kernel
theorem dX3_append_23 : decode cX3_append 23 = .ok (.getfield 9, 3) := by decide +kernel
theorem dX3_append_26 : decode cX3_append 26 = .ok (.aload_n 0, 1) := by decide +kernel
theorem dX3_append_27 : decode cX3_append 27 = .ok (.getfield 15, 3) := by decide +kernel
theorem dX3_append_30 : decode cX3_append 30 = .ok (.iload_n 1, 1) := by decide +kernel
theorem dX3_append_31 : decode cX3_append 31 = .ok (.iastore, 1) := by decide +kernel
theorem dX3_append_32 : decode cX3_append 32 = .ok (.aload_n 0, 1) := by decide +kernel
theorem dX3_append_33 : decode cX3_append 33 = .ok (.dup, 1) := by decide +kernel
theorem dX3_append_34 : decode cX3_append 34 = .ok (.getfield 15, 3) := by decide +kernel
theorem dX3_append_37 : decode cX3_append 37 = .ok (.iconst 1, 1) := by decide +kernel
theorem dX3_append_38 : decode cX3_append 38 = .ok (.iadd, 1) := by decide +kernel
theorem dX3_append_39 : decode cX3_append 39 = .ok (.putfield 15, 3) := by decide +kernel
theorem dX3_append_42 : decode cX3_append 42 = .ok (.aload_n 0, 1) := by decide +kernel
theorem dX3_append_43 : decode cX3_append 43 = .ok (.getfield 15, 3) := by decide +kernel
theorem dX3_append_46 : decode cX3_append 46 = .ok (.ireturn, 1) := by decide +kernel
theorem dX3_empty_0 : decode cX3_empty 0 = .ok (.aload_n 0, 1) := by decide +kernel
theorem dX3_empty_1 : decode cX3_empty 1 = .ok (.getfield 15, 3) := by decide +kernel
theorem dX3_empty_4 : decode cX3_empty 4 = .ok (.istore_n 1, 1) := by decide +kernel
theorem dX3_empty_5 : decode cX3_empty 5 = .ok (.aload_n 0, 1) := by decide +kernel
theorem dX3_empty_6 : decode cX3_empty 6 = .ok (.iconst 0, 1) := by decide +kernel
theorem dX3_empty_7 : decode cX3_empty 7 = .ok (.putfield 15, 3) := by decide +kernel
theorem dX3_empty_10 : decode cX3_empty 10 = .ok (.iload_n 1, 1) := by decide +kernel
theorem dX3_empty_11 : decode cX3_empty 11 = .ok (.ireturn, 1) := by decide +kernel
theorem dX3_ordersDone_0 : decode cX3_ordersDone 0 = .ok (.aload_n 0, 1) := by decide +kernel
theorem dX3_ordersDone_1 : decode cX3_ordersDone 1 = .ok (.getfield 20, 3) := by decide +kernel
theorem dX3_ordersDone_4 : decode cX3_ordersDone 4 = .ok (.ireturn, 1) := by decide +kernel
theorem dX3_tellOfFault_0 : decode cX3_tellOfFault 0 = .ok (.iload_n 1, 1) := by decide +kernel
theorem dX3_tellOfFault_1 : decode cX3_tellOfFault 1 = .ok (.lookupswitch 37 #[(0, 27), (1, 32)], 27) := by decide +kernel
theorem dX3_tellOfFault_28 : decode cX3_tellOfFault 28 = .ok (.aload_n 0, 1) := by decide +kernel
theorem dX3_tellOfFault_29 : decode cX3_tellOfFault 29 = .ok (.getfield 23, 3) := by decide +kernel
theorem dX3_tellOfFault_32 : decode cX3_tellOfFault 32 = .ok (.ireturn, 1) := by decide +kernel
theorem dX3_tellOfFault_33 : decode cX3_tellOfFault 33 = .ok (.aload_n 0, 1) := by decide +kernel
theorem dX3_tellOfFault_34 : decode cX3_tellOfFault 34 = .ok (.getfield 26, 3) := by decide +kernel
theorem dX3_tellOfFault_37 : decode cX3_tellOfFault 37 = .ok (.ireturn, 1) := by decide +kernel
theorem dX3_tellOfFault_38 : decode cX3_tellOfFault 38 = .ok (.aload_n 0, 1) := by decide +kernel
theorem dX3_tellOfFault_39 : decode cX3_tellOfFault 39 = .ok (.getfield 29, 3) := by decide +kernel
theorem dX3_tellOfFault_42 : decode cX3_tellOfFault 42 = .ok (.ireturn, 1) := by decide +kernel
theorem dX3_perform_0 : decode cX3_perform 0 = .ok (.aload_n 0, 1) := by decide +kernel
theorem dX3_perform_1 : decode cX3_perform 1 = .ok (.iconst 0, 1) := by decide +kernel
theorem dX3_perform_2 : decode cX3_perform 2 = .ok (.putfield 32, 3) := by decide +kernel
theorem dX3_perform_5 : decode cX3_perform 5 = .ok (.aload_n 0, 1) := by decide +kernel
theorem dX3_perform_6 : decode cX3_perform 6 = .ok (.iconst 0, 1) := by decide +kernel
theorem dX3_perform_7 : decode cX3_perform 7 = .ok (.putfield 20, 3) := by decide +kernel
theorem dX3_perform_10 : decode cX3_perform 10 = .ok (.iconst 0, 1) := by decide +kernel
theorem dX3_perform_11 : decode cX3_perform 11 = .ok (.istore_n 2, 1) := by decide +kernel
theorem dX3_perform_12 : decode cX3_perform 12 = .ok (.iload_n 2, 1) := by decide +kernel
theorem dX3_perform_13 : decode cX3_perform 13 = .ok (.bipush 60, 2) := by decide +kernel
theorem dX3_perform_15 : decode cX3_perform 15 = .ok (.if_icmp .ge 134, 3) := by decide +kernel
theorem dX3_perform_18 : decode cX3_perform 18 = .ok (.aload_n 0, 1) := by decide +kernel
theorem dX3_perform_19 : decode cX3_perform 19 = .ok (.getfield 32, 3) := by decide +kernel
theorem dX3_perform_22 : decode cX3_perform 22 = .ok (.aload_n 0, 1) := by decide +kernel
theorem dX3_perform_23 : decode cX3_perform 23 = .ok (.getfield 15, 3) := by decide +kernel
theorem dX3_perform_26 : decode cX3_perform 26 = .ok (.if_icmp .ge 123, 3) := by decide +kernel
theorem dX3_perform_29 : decode cX3_perform 29 = .ok (.aload_n 0, 1) := by decide +kernel
theorem dX3_perform_30 : decode cX3_perform 30 = .ok (.aload_n 0, 1) := by decide +kernel
theorem dX3_perform_31 : decode cX3_perform 31 = .ok (.getfield 32, 3) := by decide +kernel
theorem dX3_perform_34 : decode cX3_perform 34 = .ok (.putfield 23, 3) := by decide +kernel
theorem dX3_perform_37 : decode cX3_perform 37 = .ok (.aload_n 0, 1) := by decide +kernel
theorem dX3_perform_38 : decode cX3_perform 38 = .ok (.invokevirtual 35, 3) := by decide +kernel
theorem dX3_perform_41 : decode cX3_perform 41 = .ok (.ifCond .ne 23, 3) := by decide +kernel
theorem dX3_perform_44 : decode cX3_perform 44 = .ok (.aload_n 0, 1) := by decide +kernel
theorem dX3_perform_45 : decode cX3_perform 45 = .ok (.iconst 1, 1) := by decide +kernel
theorem dX3_perform_46 : decode cX3_perform 46 = .ok (.putfield 26, 3) := by decide +kernel
theorem dX3_perform_49 : decode cX3_perform 49 = .ok (.aload_n 0, 1) := by decide +kernel
theorem dX3_perform_50 : decode cX3_perform 50 = .ok (.aload_n 0, 1) := by decide +kernel
theorem dX3_perform_51 : decode cX3_perform 51 = .ok (.getfield 32, 3) := by decide +kernel
theorem dX3_perform_54 : decode cX3_perform 54 = .ok (.aload_n 0, 1) := by decide +kernel
theorem dX3_perform_55 : decode cX3_perform 55 = .ok (.getfield 23, 3) := by decide +kernel
theorem dX3_perform_58 : decode cX3_perform 58 = .ok (.isub, 1) := by decide +kernel
theorem dX3_perform_59 : decode cX3_perform 59 = .ok (.putfield 29, 3) := by decide +kernel
theorem dX3_perform_62 : decode cX3_perform 62 = .ok (.iconst 0, 1) := by decide +kernel
theorem dX3_perform_63 : decode cX3_perform 63 = .ok (.ireturn, 1) := by decide +kernel
theorem dX3_perform_64 : decode cX3_perform 64 = .ok (.aload_n 0, 1) := by decide +kernel
theorem dX3_perform_65 : decode cX3_perform 65 = .ok (.getfield 39, 3) := by decide +kernel
theorem dX3_perform_68 : decode cX3_perform 68 = .ok (.bipush 109, 2) := by decide +kernel
theorem dX3_perform_70 : decode cX3_perform 70 = .ok (.if_icmp .ne 18, 3) := by decide +kernel
theorem dX3_perform_73 : decode cX3_perform 73 = .ok (.aload_n 1, 1) := by decide +kernel
theorem dX3_perform_74 : decode cX3_perform 74 = .ok (.aload_n 0, 1) := by decide +kernel
theorem dX3_perform_75 : decode cX3_perform 75 = .ok (.getfield 42, 3) := by decide +kernel
theorem dX3_perform_78 : decode cX3_perform 78 = .ok (.aload_n 0, 1) := by decide +kernel
theorem dX3_perform_79 : decode cX3_perform 79 = .ok (.getfield 45, 3) := by decide +kernel
theorem dX3_perform_82 : decode cX3_perform 82 = .ok (.invokevirtual 48, 3) := by decide +kernel
theorem dX3_perform_85 : decode cX3_perform 85 = .ok (.goto 31, 3) := by decide +kernel
theorem dX3_perform_88 : decode cX3_perform 88 = .ok (.aload_n 0, 1) := by decide +kernel
theorem dX3_perform_89 : decode cX3_perform 89 = .ok (.getfield 39, 3) := by decide +kernel
theorem dX3_perform_92 : decode cX3_perform 92 = .ok (.bipush 111, 2) := by decide +kernel
theorem dX3_perform_94 : decode cX3_perform 94 = .ok (.if_icmp .ne 18, 3) := by decide +kernel
theorem dX3_perform_97 : decode cX3_perform 97 = .ok (.aload_n 1, 1) := by decide +kernel
theorem dX3_perform_98 : decode cX3_perform 98 = .ok (.aload_n 0, 1) := by decide +kernel
theorem dX3_perform_99 : decode cX3_perform 99 = .ok (.getfield 42, 3) := by decide +kernel
theorem dX3_perform_102 : decode cX3_perform 102 = .ok (.aload_n 0, 1) := by decide +kernel
theorem dX3_perform_103 : decode cX3_perform 103 = .ok (.getfield 45, 3) := by decide +kernel
theorem dX3_perform_106 : decode cX3_perform 106 = .ok (.invokevirtual 54, 3) := by decide +kernel
theorem dX3_perform_109 : decode cX3_perform 109 = .ok (.goto 7, 3) := by decide +kernel
theorem dX3_perform_112 : decode cX3_perform 112 = .ok (.aload_n 1, 1) := by decide +kernel
theorem dX3_perform_113 : decode cX3_perform 113 = .ok (.invokevirtual 57, 3) := by decide +kernel
theorem dX3_perform_116 : decode cX3_perform 116 = .ok (.istore_n 3, 1) := by decide +kernel
theorem dX3_perform_117 : decode cX3_perform 117 = .ok (.iload_n 3, 1) := by decide +kernel
theorem dX3_perform_118 : decode cX3_perform 118 = .ok (.ifCond .ge 15, 3) := by decide +kernel
theorem dX3_perform_121 : decode cX3_perform 121 = .ok (.aload_n 0, 1) := by decide +kernel
theorem dX3_perform_122 : decode cX3_perform 122 = .ok (.iconst 2, 1) := by decide +kernel
theorem dX3_perform_123 : decode cX3_perform 123 = .ok (.putfield 26, 3) := by decide +kernel
theorem dX3_perform_126 : decode cX3_perform 126 = .ok (.aload_n 0, 1) := by decide +kernel
theorem dX3_perform_127 : decode cX3_perform 127 = .ok (.iload_n 3, 1) := by decide +kernel
theorem dX3_perform_128 : decode cX3_perform 128 = .ok (.putfield 29, 3) := by decide +kernel
theorem dX3_perform_131 : decode cX3_perform 131 = .ok (.iconst 0, 1) := by decide +kernel
theorem dX3_perform_132 : decode cX3_perform 132 = .ok (.ireturn, 1) := by decide +kernel
theorem dX3_perform_133 : decode cX3_perform 133 = .ok (.aload_n 0, 1) := by decide +kernel
theorem dX3_perform_134 : decode cX3_perform 134 = .ok (.dup, 1) := by decide +kernel
theorem dX3_perform_135 : decode cX3_perform 135 = .ok (.getfield 20, 3) := by decide +kernel
theorem dX3_perform_138 : decode cX3_perform 138 = .ok (.iconst 1, 1) := by decide +kernel
theorem dX3_perform_139 : decode cX3_perform 139 = .ok (.iadd, 1) := by decide +kernel
theorem dX3_perform_140 : decode cX3_perform 140 = .ok (.putfield 20, 3) := by decide +kernel
theorem dX3_perform_143 : decode cX3_perform 143 = .ok (.iinc 2 1, 3) := by decide +kernel
theorem dX3_perform_146 : decode cX3_perform 146 = .ok (.goto (-134), 3) := by decide +kernel
theorem dX3_perform_149 : decode cX3_perform 149 = .ok (.iconst 1, 1) := by decide +kernel
theorem dX3_perform_150 : decode cX3_perform 150 = .ok (.ireturn, 1) := by decide +kernel
theorem dX3_readOrder_0 : decode cX3_readOrder 0 = .ok (.aload_n 0, 1) := by decide +kernel
theorem dX3_readOrder_1 : decode cX3_readOrder 1 = .ok (.aload_n 0, 1) := by decide +kernel
theorem dX3_readOrder_2 : decode cX3_readOrder 2 = .ok (.invokevirtual 61, 3) := by decide +kernel
theorem dX3_readOrder_5 : decode cX3_readOrder 5 = .ok (.putfield 39, 3) := by decide +kernel
theorem dX3_readOrder_8 : decode cX3_readOrder 8 = .ok (.aload_n 0, 1) := by decide +kernel
theorem dX3_readOrder_9 : decode cX3_readOrder 9 = .ok (.getfield 39, 3) := by decide +kernel
theorem dX3_readOrder_12 : decode cX3_readOrder 12 = .ok (.bipush 109, 2) := by decide +kernel
theorem dX3_readOrder_14 : decode cX3_readOrder 14 = .ok (.if_icmp .eq 23, 3) := by decide +kernel
theorem dX3_readOrder_17 : decode cX3_readOrder 17 = .ok (.aload_n 0, 1) := by decide +kernel
theorem dX3_readOrder_18 : decode cX3_readOrder 18 = .ok (.getfield 39, 3) := by decide +kernel
theorem dX3_readOrder_21 : decode cX3_readOrder 21 = .ok (.bipush 111, 2) := by decide +kernel
theorem dX3_readOrder_23 : decode cX3_readOrder 23 = .ok (.if_icmp .eq 14, 3) := by decide +kernel
theorem dX3_readOrder_26 : decode cX3_readOrder 26 = .ok (.aload_n 0, 1) := by decide +kernel
theorem dX3_readOrder_27 : decode cX3_readOrder 27 = .ok (.getfield 39, 3) := by decide +kernel
theorem dX3_readOrder_30 : decode cX3_readOrder 30 = .ok (.bipush 114, 2) := by decide +kernel
theorem dX3_readOrder_32 : decode cX3_readOrder 32 = .ok (.if_icmp .eq 5, 3) := by decide +kernel
theorem dX3_readOrder_35 : decode cX3_readOrder 35 = .ok (.iconst 0, 1) := by decide +kernel
theorem dX3_readOrder_36 : decode cX3_readOrder 36 = .ok (.ireturn, 1) := by decide +kernel
theorem dX3_readOrder_37 : decode cX3_readOrder 37 = .ok (.aload_n 0, 1) := by decide +kernel
theorem dX3_readOrder_38 : decode cX3_readOrder 38 = .ok (.dup, 1) := by decide +kernel
theorem dX3_readOrder_39 : decode cX3_readOrder 39 = .ok (.getfield 32, 3) := by decide +kernel
theorem dX3_readOrder_42 : decode cX3_readOrder 42 = .ok (.iconst 1, 1) := by decide +kernel
theorem dX3_readOrder_43 : decode cX3_readOrder 43 = .ok (.iadd, 1) := by decide +kernel
theorem dX3_readOrder_44 : decode cX3_readOrder 44 = .ok (.putfield 32, 3) := by decide +kernel
theorem dX3_readOrder_47 : decode cX3_readOrder 47 = .ok (.aload_n 0, 1) := by decide +kernel
theorem dX3_readOrder_48 : decode cX3_readOrder 48 = .ok (.getfield 39, 3) := by decide +kernel
theorem dX3_readOrder_51 : decode cX3_readOrder 51 = .ok (.bipush 114, 2) := by decide +kernel
theorem dX3_readOrder_53 : decode cX3_readOrder 53 = .ok (.if_icmp .eq 10, 3) := by decide +kernel
theorem dX3_readOrder_56 : decode cX3_readOrder 56 = .ok (.aload_n 0, 1) := by decide +kernel
theorem dX3_readOrder_57 : decode cX3_readOrder 57 = .ok (.invokevirtual 64, 3) := by decide +kernel
theorem dX3_readOrder_60 : decode cX3_readOrder 60 = .ok (.ifCond .eq 16, 3) := by decide +kernel
theorem dX3_readOrder_63 : decode cX3_readOrder 63 = .ok (.aload_n 0, 1) := by decide +kernel
theorem dX3_readOrder_64 : decode cX3_readOrder 64 = .ok (.bipush 59, 2) := by decide +kernel
theorem dX3_readOrder_66 : decode cX3_readOrder 66 = .ok (.invokevirtual 67, 3) := by decide +kernel
theorem dX3_readOrder_69 : decode cX3_readOrder 69 = .ok (.ifCond .eq 7, 3) := by decide +kernel
theorem dX3_readOrder_72 : decode cX3_readOrder 72 = .ok (.iconst 1, 1) := by decide +kernel
theorem dX3_readOrder_73 : decode cX3_readOrder 73 = .ok (.goto 4, 3) := by decide +kernel
theorem dX3_readOrder_76 : decode cX3_readOrder 76 = .ok (.iconst 0, 1) := by decide +kernel
theorem dX3_readOrder_77 : decode cX3_readOrder 77 = .ok (.ireturn, 1) := by decide +kernel
theorem dX3_readNumbers_0 : decode cX3_readNumbers 0 = .ok (.aload_n 0, 1) := by decide +kernel
theorem dX3_readNumbers_1 : decode cX3_readNumbers 1 = .ok (.getfield 39, 3) := by decide +kernel
theorem dX3_readNumbers_4 : decode cX3_readNumbers 4 = .ok (.bipush 109, 2) := by decide +kernel
theorem dX3_readNumbers_6 : decode cX3_readNumbers 6 = .ok (.if_icmp .ne 16, 3) := by decide +kernel
theorem dX3_readNumbers_9 : decode cX3_readNumbers 9 = .ok (.aload_n 0, 1) := by decide +kernel
theorem dX3_readNumbers_10 : decode cX3_readNumbers 10 = .ok (.bipush 45, 2) := by decide +kernel
theorem dX3_readNumbers_12 : decode cX3_readNumbers 12 = .ok (.invokevirtual 67, 3) := by decide +kernel
theorem dX3_readNumbers_15 : decode cX3_readNumbers 15 = .ok (.ifCond .eq 7, 3) := by decide +kernel
theorem dX3_readNumbers_18 : decode cX3_readNumbers 18 = .ok (.iconst 1, 1) := by decide +kernel
theorem dX3_readNumbers_19 : decode cX3_readNumbers 19 = .ok (.goto 4, 3) := by decide +kernel
theorem dX3_readNumbers_22 : decode cX3_readNumbers 22 = .ok (.iconst 0, 1) := by decide +kernel
theorem dX3_readNumbers_23 : decode cX3_readNumbers 23 = .ok (.istore_n 1, 1) := by decide +kernel
theorem dX3_readNumbers_24 : decode cX3_readNumbers 24 = .ok (.aload_n 0, 1) := by decide +kernel
theorem dX3_readNumbers_25 : decode cX3_readNumbers 25 = .ok (.invokevirtual 71, 3) := by decide +kernel
theorem dX3_readNumbers_28 : decode cX3_readNumbers 28 = .ok (.ifCond .ne 5, 3) := by decide +kernel
theorem dX3_readNumbers_31 : decode cX3_readNumbers 31 = .ok (.iconst 0, 1) := by decide +kernel
theorem dX3_readNumbers_32 : decode cX3_readNumbers 32 = .ok (.ireturn, 1) := by decide +kernel
theorem dX3_readNumbers_33 : decode cX3_readNumbers 33 = .ok (.aload_n 0, 1) := by decide +kernel
theorem dX3_readNumbers_34 : decode cX3_readNumbers 34 = .ok (.invokevirtual 74, 3) := by decide +kernel
theorem dX3_readNumbers_37 : decode cX3_readNumbers 37 = .ok (.istore_n 2, 1) := by decide +kernel
theorem dX3_readNumbers_38 : decode cX3_readNumbers 38 = .ok (.aload_n 0, 1) := by decide +kernel
theorem dX3_readNumbers_39 : decode cX3_readNumbers 39 = .ok (.iload_n 1, 1) := by decide +kernel
theorem dX3_readNumbers_40 : decode cX3_readNumbers 40 = .ok (.ifCond .eq 8, 3) := by decide +kernel
theorem dX3_readNumbers_43 : decode cX3_readNumbers 43 = .ok (.iload_n 2, 1) := by decide +kernel
theorem dX3_readNumbers_44 : decode cX3_readNumbers 44 = .ok (.ineg, 1) := by decide +kernel
theorem dX3_readNumbers_45 : decode cX3_readNumbers 45 = .ok (.goto 4, 3) := by decide +kernel
theorem dX3_readNumbers_48 : decode cX3_readNumbers 48 = .ok (.iload_n 2, 1) := by decide +kernel
theorem dX3_readNumbers_49 : decode cX3_readNumbers 49 = .ok (.putfield 42, 3) := by decide +kernel
theorem dX3_readNumbers_52 : decode cX3_readNumbers 52 = .ok (.aload_n 0, 1) := by decide +kernel
theorem dX3_readNumbers_53 : decode cX3_readNumbers 53 = .ok (.bipush 44, 2) := by decide +kernel
theorem dX3_readNumbers_55 : decode cX3_readNumbers 55 = .ok (.invokevirtual 67, 3) := by decide +kernel
theorem dX3_readNumbers_58 : decode cX3_readNumbers 58 = .ok (.ifCond .eq 10, 3) := by decide +kernel
theorem dX3_readNumbers_61 : decode cX3_readNumbers 61 = .ok (.aload_n 0, 1) := by decide +kernel
theorem dX3_readNumbers_62 : decode cX3_readNumbers 62 = .ok (.invokevirtual 71, 3) := by decide +kernel
theorem dX3_readNumbers_65 : decode cX3_readNumbers 65 = .ok (.ifCond .ne 5, 3) := by decide +kernel
theorem dX3_readNumbers_68 : decode cX3_readNumbers 68 = .ok (.iconst 0, 1) := by decide +kernel
theorem dX3_readNumbers_69 : decode cX3_readNumbers 69 = .ok (.ireturn, 1) := by decide +kernel
theorem dX3_readNumbers_70 : decode cX3_readNumbers 70 = .ok (.aload_n 0, 1) := by decide +kernel
theorem dX3_readNumbers_71 : decode cX3_readNumbers 71 = .ok (.aload_n 0, 1) := by decide +kernel
theorem dX3_readNumbers_72 : decode cX3_readNumbers 72 = .ok (.invokevirtual 74, 3) := by decide +kernel
theorem dX3_readNumbers_75 : decode cX3_readNumbers 75 = .ok (.putfield 45, 3) := by decide +kernel
theorem dX3_readNumbers_78 : decode cX3_readNumbers 78 = .ok (.iconst 1, 1) := by decide +kernel
theorem dX3_readNumbers_79 : decode cX3_readNumbers 79 = .ok (.ireturn, 1) := by decide +kernel
theorem dX3_readNumber_0 : decode cX3_readNumber 0 = .ok (.iconst 0, 1) := by decide +kernel
theorem dX3_readNumber_1 : decode cX3_readNumber 1 = .ok (.istore_n 1, 1) := by decide +kernel
theorem dX3_readNumber_2 : decode cX3_readNumber 2 = .ok (.iconst 0, 1) := by decide +kernel
theorem dX3_readNumber_3 : decode cX3_readNumber 3 = .ok (.istore_n 2, 1) := by decide +kernel
theorem dX3_readNumber_4 : decode cX3_readNumber 4 = .ok (.iload_n 2, 1) := by decide +kernel
theorem dX3_readNumber_5 : decode cX3_readNumber 5 = .ok (.iconst 2, 1) := by decide +kernel
theorem dX3_readNumber_6 : decode cX3_readNumber 6 = .ok (.if_icmp .ge 39, 3) := by decide +kernel
theorem dX3_readNumber_9 : decode cX3_readNumber 9 = .ok (.aload_n 0, 1) := by decide +kernel
theorem dX3_readNumber_10 : decode cX3_readNumber 10 = .ok (.invokevirtual 71, 3) := by decide +kernel
theorem dX3_readNumber_13 : decode cX3_readNumber 13 = .ok (.ifCond .eq 32, 3) := by decide +kernel
theorem dX3_readNumber_16 : decode cX3_readNumber 16 = .ok (.iload_n 1, 1) := by decide +kernel
theorem dX3_readNumber_17 : decode cX3_readNumber 17 = .ok (.bipush 10, 2) := by decide +kernel
theorem dX3_readNumber_19 : decode cX3_readNumber 19 = .ok (.imul, 1) := by decide +kernel
theorem dX3_readNumber_20 : decode cX3_readNumber 20 = .ok (.aload_n 0, 1) := by decide +kernel
theorem dX3_readNumber_21 : decode cX3_readNumber 21 = .ok (.invokevirtual 61, 3) := by decide +kernel
theorem dX3_readNumber_24 : decode cX3_readNumber 24 = .ok (.iadd, 1) := by decide +kernel
theorem dX3_readNumber_25 : decode cX3_readNumber 25 = .ok (.bipush 48, 2) := by decide +kernel
theorem dX3_readNumber_27 : decode cX3_readNumber 27 = .ok (.isub, 1) := by decide +kernel
theorem dX3_readNumber_28 : decode cX3_readNumber 28 = .ok (.istore_n 1, 1) := by decide +kernel
theorem dX3_readNumber_29 : decode cX3_readNumber 29 = .ok (.aload_n 0, 1) := by decide +kernel
theorem dX3_readNumber_30 : decode cX3_readNumber 30 = .ok (.dup, 1) := by decide +kernel
theorem dX3_readNumber_31 : decode cX3_readNumber 31 = .ok (.getfield 32, 3) := by decide +kernel
theorem dX3_readNumber_34 : decode cX3_readNumber 34 = .ok (.iconst 1, 1) := by decide +kernel
theorem dX3_readNumber_35 : decode cX3_readNumber 35 = .ok (.iadd, 1) := by decide +kernel
theorem dX3_readNumber_36 : decode cX3_readNumber 36 = .ok (.putfield 32, 3) := by decide +kernel
theorem dX3_readNumber_39 : decode cX3_readNumber 39 = .ok (.iinc 2 1, 3) := by decide +kernel
theorem dX3_readNumber_42 : decode cX3_readNumber 42 = .ok (.goto (-38), 3) := by decide +kernel
theorem dX3_readNumber_45 : decode cX3_readNumber 45 = .ok (.iload_n 1, 1) := by decide +kernel
theorem dX3_readNumber_46 : decode cX3_readNumber 46 = .ok (.ireturn, 1) := by decide +kernel
theorem dX3_isDigitHere_0 : decode cX3_isDigitHere 0 = .ok (.aload_n 0, 1) := by decide +kernel
theorem dX3_isDigitHere_1 : decode cX3_isDigitHere 1 = .ok (.invokevirtual 61, 3) := by decide +kernel
theorem dX3_isDigitHere_4 : decode cX3_isDigitHere 4 = .ok (.bipush 48, 2) := by decide +kernel
theorem dX3_isDigitHere_6 : decode cX3_isDigitHere 6 = .ok (.bipush 57, 2) := by decide +kernel
theorem dX3_isDigitHere_8 : decode cX3_isDigitHere 8 = .ok (.invokestatic 77, 3) := by decide +kernel
theorem dX3_isDigitHere_11 : decode cX3_isDigitHere 11 = .ok (.ireturn, 1) := by decide +kernel
theorem dX3_pass_0 : decode cX3_pass 0 = .ok (.aload_n 0, 1) := by decide +kernel
theorem dX3_pass_1 : decode cX3_pass 1 = .ok (.invokevirtual 61, 3) := by decide +kernel
theorem dX3_pass_4 : decode cX3_pass 4 = .ok (.iload_n 1, 1) := by decide +kernel
theorem dX3_pass_5 : decode cX3_pass 5 = .ok (.if_icmp .eq 5, 3) := by decide +kernel
theorem dX3_pass_8 : decode cX3_pass 8 = .ok (.iconst 0, 1) := by decide +kernel
theorem dX3_pass_9 : decode cX3_pass 9 = .ok (.ireturn, 1) := by decide +kernel
theorem dX3_pass_10 : decode cX3_pass 10 = .ok (.aload_n 0, 1) := by decide +kernel
theorem dX3_pass_11 : decode cX3_pass 11 = .ok (.dup, 1) := by decide +kernel
theorem dX3_pass_12 : decode cX3_pass 12 = .ok (.getfield 32, 3) := by decide +kernel
theorem dX3_pass_15 : decode cX3_pass 15 = .ok (.iconst 1, 1) := by decide +kernel
theorem dX3_pass_16 : decode cX3_pass 16 = .ok (.iadd, 1) := by decide +kernel
theorem dX3_pass_17 : decode cX3_pass 17 = .ok (.putfield 32, 3) := by decide +kernel
theorem dX3_pass_20 : decode cX3_pass 20 = .ok (.iconst 1, 1) := by decide +kernel
theorem dX3_pass_21 : decode cX3_pass 21 = .ok (.ireturn, 1) := by decide +kernel
theorem dX3_here_0 : decode cX3_here 0 = .ok (.aload_n 0, 1) := by decide +kernel
theorem dX3_here_1 : decode cX3_here 1 = .ok (.getfield 32, 3) := by decide +kernel
theorem dX3_here_4 : decode cX3_here 4 = .ok (.ifCond .lt 26, 3) := by decide +kernel
theorem dX3_here_7 : decode cX3_here 7 = .ok (.aload_n 0, 1) := by decide +kernel
theorem dX3_here_8 : decode cX3_here 8 = .ok (.getfield 32, 3) := by decide +kernel
theorem dX3_here_11 : decode cX3_here 11 = .ok (.aload_n 0, 1) := by decide +kernel
theorem dX3_here_12 : decode cX3_here 12 = .ok (.getfield 15, 3) := by decide +kernel
theorem dX3_here_15 : decode cX3_here 15 = .ok (.if_icmp .ge 15, 3) := by decide +kernel
theorem dX3_here_18 : decode cX3_here 18 = .ok (.aload_n 0, 1) := by decide +kernel
theorem dX3_here_19 : decode cX3_here 19 = .ok (.getfield 32, 3) := by decide +kernel
theorem dX3_here_22 : decode cX3_here 22 = .ok (.aload_n 0, 1) := by decide +kernel
theorem dX3_here_23 : decode cX3_here 23 = .ok (.getfield 9, 3) := by decide +kernel
theorem dX3_here_26 : decode cX3_here 26 = .ok (.arraylength, 1) := by decide +kernel
theorem dX3_here_27 : decode cX3_here 27 = .ok (.if_icmp .lt 5, 3) := by decide +kernel
theorem dX3_here_30 : decode cX3_here 30 = .ok (.iconst 0, 1) := by decide +kernel
theorem dX3_here_31 : decode cX3_here 31 = .ok (.ireturn, 1) := by decide +kernel
theorem dX3_here_32 : decode cX3_here 32 = .ok (.aload_n 0, 1) := by decide +kernel
theorem dX3_here_33 : decode cX3_here 33 = .ok (.getfield 9, 3) := by decide +kernel
theorem dX3_here_36 : decode cX3_here 36 = .ok (.aload_n 0, 1) := by decide +kernel
theorem dX3_here_37 : decode cX3_here 37 = .ok (.getfield 32, 3) := by decide +kernel
theorem dX3_here_40 : decode cX3_here 40 = .ok (.iaload, 1) := by decide +kernel
theorem dX3_here_41 : decode cX3_here 41 = .ok (.ireturn, 1) := by decide +kernel
theorem dX4_init_0 : decode cX4_init 0 = .ok (.aload_n 0, 1) := by decide +kernel
theorem dX4_init_1 : decode cX4_init 1 = .ok (.invokespecial 3, 3) := by decide +kernel
theorem dX4_init_4 : decode cX4_init 4 = .ok (.aload_n 0, 1) := by decide +kernel
theorem dX4_init_5 : decode cX4_init 5 = .ok (.new 9, 3) := by decide +kernel
theorem dX4_init_8 : decode cX4_init 8 = .ok (.dup, 1) := by decide +kernel
theorem dX4_init_9 : decode cX4_init 9 = .ok (.invokespecial 11, 3) := by decide +kernel
theorem dX4_init_12 : decode cX4_init 12 = .ok (.putfield 12, 3) := by decide +kernel
theorem dX4_init_15 : decode cX4_init 15 = .ok (.aload_n 0, 1) := by decide +kernel
theorem dX4_init_16 : decode cX4_init 16 = .ok (.new 18, 3) := by decide +kernel
theorem dX4_init_19 : decode cX4_init 19 = .ok (.dup, 1) := by decide +kernel
theorem dX4_init_20 : decode cX4_init 20 = .ok (.invokespecial 20, 3) := by decide +kernel
theorem dX4_init_23 : decode cX4_init 23 = .ok (.putfield 21, 3) := by decide +kernel
theorem dX4_init_26 : decode cX4_init 26 = .ok (.aload_n 0, 1) := by decide +kernel
theorem dX4_init_27 : decode cX4_init 27 = .ok (.new 25, 3) := by decide +kernel
theorem dX4_init_30 : decode cX4_init 30 = .ok (.dup, 1) := by decide +kernel
theorem dX4_init_31 : decode cX4_init 31 = .ok (.iconst 3, 1) := by decide +kernel
theorem dX4_init_32 : decode cX4_init 32 = .ok (.invokespecial 27, 3) := by decide +kernel
theorem dX4_init_35 : decode cX4_init 35 = .ok (.putfield 30, 3) := by decide +kernel
theorem dX4_init_38 : decode cX4_init 38 = .ok (.aload_n 0, 1) := by decide +kernel
theorem dX4_init_39 : decode cX4_init 39 = .ok (.aload_n 1, 1) := by decide +kernel
theorem dX4_init_40 : decode cX4_init 40 = .ok (.putfield 34, 3) := by decide +kernel
theorem dX4_init_43 : decode cX4_init 43 = .ok (.aload_n 0, 1) := by decide +kernel
theorem dX4_init_44 : decode cX4_init 44 = .ok (.getfield 30, 3) := by decide +kernel
theorem dX4_init_47 : decode cX4_init 47 = .ok (.iconst 0, 1) := by decide +kernel
theorem dX4_init_48 : decode cX4_init 48 = .ok (.iconst 3, 1) := by decide +kernel
theorem dX4_init_49 : decode cX4_init 49 = .ok (.invokevirtual 38, 3) := by decide +kernel
theorem dX4_init_52 : decode cX4_init 52 = .ok (.aload_n 0, 1) := by decide +kernel
theorem dX4_init_53 : decode cX4_init 53 = .ok (.getfield 30, 3) := by decide +kernel
theorem dX4_init_56 : decode cX4_init 56 = .ok (.iconst 1, 1) := by decide +kernel
theorem dX4_init_57 : decode cX4_init 57 = .ok (.iconst 0, 1) := by decide +kernel
theorem dX4_init_58 : decode cX4_init 58 = .ok (.invokevirtual 38, 3) := by decide +kernel
theorem dX4_init_61 : decode cX4_init 61 = .ok (.aload_n 0, 1) := by decide +kernel
theorem dX4_init_62 : decode cX4_init 62 = .ok (.getfield 30, 3) := by decide +kernel
theorem dX4_init_65 : decode cX4_init 65 = .ok (.iconst 2, 1) := by decide +kernel
theorem dX4_init_66 : decode cX4_init 66 = .ok (.bipush 50, 2) := by decide +kernel
theorem dX4_init_68 : decode cX4_init 68 = .ok (.invokevirtual 38, 3) := by decide +kernel
theorem dX4_init_71 : decode cX4_init 71 = .ok (.aload_n 0, 1) := by decide +kernel
theorem dX4_init_72 : decode cX4_init 72 = .ok (.iconst 4, 1) := by decide +kernel
theorem dX4_init_73 : decode cX4_init 73 = .ok (.iconst 0, 1) := by decide +kernel
theorem dX4_init_74 : decode cX4_init 74 = .ok (.bipush 10, 2) := by decide +kernel
theorem dX4_init_76 : decode cX4_init 76 = .ok (.invokevirtual 42, 3) := by decide +kernel
theorem dX4_init_79 : decode cX4_init 79 = .ok (.return_, 1) := by decide +kernel
theorem dX4_copyState_0 : decode cX4_copyState 0 = .ok (.aload_n 0, 1) := by decide +kernel
theorem dX4_copyState_1 : decode cX4_copyState 1 = .ok (.getfield 12, 3) := by decide +kernel
theorem dX4_copyState_4 : decode cX4_copyState 4 = .ok (.aload_n 1, 1) := by decide +kernel
theorem dX4_copyState_5 : decode cX4_copyState 5 = .ok (.getfield 12, 3) := by decide +kernel
theorem dX4_copyState_8 : decode cX4_copyState 8 = .ok (.invokevirtual 46, 3) := by decide +kernel
theorem dX4_copyState_11 : decode cX4_copyState 11 = .ok (.aload_n 0, 1) := by decide +kernel
theorem dX4_copyState_12 : decode cX4_copyState 12 = .ok (.getfield 21, 3) := by decide +kernel
theorem dX4_copyState_15 : decode cX4_copyState 15 = .ok (.aload_n 1, 1) := by decide +kernel
theorem dX4_copyState_16 : decode cX4_copyState 16 = .ok (.getfield 21, 3) := by decide +kernel
theorem dX4_copyState_19 : decode cX4_copyState 19 = .ok (.invokevirtual 50, 3) := by decide +kernel
theorem dX4_copyState_22 : decode cX4_copyState 22 = .ok (.aload_n 0, 1) := by decide +kernel
theorem dX4_copyState_23 : decode cX4_copyState 23 = .ok (.getfield 30, 3) := by decide +kernel
theorem dX4_copyState_26 : decode cX4_copyState 26 = .ok (.aload_n 1, 1) := by decide +kernel
theorem dX4_copyState_27 : decode cX4_copyState 27 = .ok (.getfield 30, 3) := by decide +kernel
theorem dX4_copyState_30 : decode cX4_copyState 30 = .ok (.invokevirtual 54, 3) := by decide +kernel
theorem dX4_copyState_33 : decode cX4_copyState 33 = .ok (.aload_n 0, 1) := by decide +kernel
theorem dX4_copyState_34 : decode cX4_copyState 34 = .ok (.aload_n 1, 1) := by decide +kernel
theorem dX4_copyState_35 : decode cX4_copyState 35 = .ok (.getfield 58, 3) := by decide +kernel
theorem dX4_copyState_38 : decode cX4_copyState 38 = .ok (.putfield 58, 3) := by decide +kernel
theorem dX4_copyState_41 : decode cX4_copyState 41 = .ok (.aload_n 0, 1) := by decide +kernel
theorem dX4_copyState_42 : decode cX4_copyState 42 = .ok (.aload_n 1, 1) := by decide +kernel
theorem dX4_copyState_43 : decode cX4_copyState 43 = .ok (.getfield 62, 3) := by decide +kernel
theorem dX4_copyState_46 : decode cX4_copyState 46 = .ok (.putfield 62, 3) := by decide +kernel
theorem dX4_copyState_49 : decode cX4_copyState 49 = .ok (.aload_n 0, 1) := by decide +kernel
theorem dX4_copyState_50 : decode cX4_copyState 50 = .ok (.aload_n 1, 1) := by decide +kernel
theorem dX4_copyState_51 : decode cX4_copyState 51 = .ok (.getfield 65, 3) := by decide +kernel
theorem dX4_copyState_54 : decode cX4_copyState 54 = .ok (.putfield 65, 3) := by decide +kernel
theorem dX4_copyState_57 : decode cX4_copyState 57 = .ok (.return_, 1) := by decide +kernel
theorem dX4_startAnew_0 : decode cX4_startAnew 0 = .ok (.aload_n 0, 1) := by decide +kernel
theorem dX4_startAnew_1 : decode cX4_startAnew 1 = .ok (.getfield 12, 3) := by decide +kernel
theorem dX4_startAnew_4 : decode cX4_startAnew 4 = .ok (.iload_n 1, 1) := by decide +kernel
theorem dX4_startAnew_5 : decode cX4_startAnew 5 = .ok (.iload_n 2, 1) := by decide +kernel
theorem dX4_startAnew_6 : decode cX4_startAnew 6 = .ok (.iload_n 3, 1) := by decide +kernel
theorem dX4_startAnew_7 : decode cX4_startAnew 7 = .ok (.invokevirtual 68, 3) := by decide +kernel
theorem dX4_startAnew_10 : decode cX4_startAnew 10 = .ok (.aload_n 0, 1) := by decide +kernel
theorem dX4_startAnew_11 : decode cX4_startAnew 11 = .ok (.getfield 21, 3) := by decide +kernel
theorem dX4_startAnew_14 : decode cX4_startAnew 14 = .ok (.iload_n 1, 1) := by decide +kernel
theorem dX4_startAnew_15 : decode cX4_startAnew 15 = .ok (.invokevirtual 71, 3) := by decide +kernel
theorem dX4_startAnew_18 : decode cX4_startAnew 18 = .ok (.aload_n 0, 1) := by decide +kernel
theorem dX4_startAnew_19 : decode cX4_startAnew 19 = .ok (.iconst 1, 1) := by decide +kernel
theorem dX4_startAnew_20 : decode cX4_startAnew 20 = .ok (.putfield 58, 3) := by decide +kernel
theorem dX4_startAnew_23 : decode cX4_startAnew 23 = .ok (.aload_n 0, 1) := by decide +kernel
theorem dX4_startAnew_24 : decode cX4_startAnew 24 = .ok (.iconst 0, 1) := by decide +kernel
theorem dX4_startAnew_25 : decode cX4_startAnew 25 = .ok (.putfield 62, 3) := by decide +kernel
theorem dX4_startAnew_28 : decode cX4_startAnew 28 = .ok (.aload_n 0, 1) := by decide +kernel
theorem dX4_startAnew_29 : decode cX4_startAnew 29 = .ok (.iconst 0, 1) := by decide +kernel
theorem dX4_startAnew_30 : decode cX4_startAnew 30 = .ok (.putfield 65, 3) := by decide +kernel
theorem dX4_startAnew_33 : decode cX4_startAnew 33 = .ok (.return_, 1) := by decide +kernel
theorem dX4_beginAnew_0 : decode cX4_beginAnew 0 = .ok (.iload_n 1, 1) := by decide +kernel
theorem dX4_beginAnew_1 : decode cX4_beginAnew 1 = .ok (.iconst 1, 1) := by decide +kernel
theorem dX4_beginAnew_2 : decode cX4_beginAnew 2 = .ok (.bipush 12, 2) := by decide +kernel
theorem dX4_beginAnew_4 : decode cX4_beginAnew 4 = .ok (.invokestatic 74, 3) := by decide +kernel
theorem dX4_beginAnew_7 : decode cX4_beginAnew 7 = .ok (.ifCond .eq 23, 3) := by decide +kernel
theorem dX4_beginAnew_10 : decode cX4_beginAnew 10 = .ok (.iload_n 2, 1) := by decide +kernel
theorem dX4_beginAnew_11 : decode cX4_beginAnew 11 = .ok (.iconst 0, 1) := by decide +kernel
theorem dX4_beginAnew_12 : decode cX4_beginAnew 12 = .ok (.bipush 99, 2) := by decide +kernel
theorem dX4_beginAnew_14 : decode cX4_beginAnew 14 = .ok (.invokestatic 74, 3) := by decide +kernel
theorem dX4_beginAnew_17 : decode cX4_beginAnew 17 = .ok (.ifCond .eq 13, 3) := by decide +kernel
theorem dX4_beginAnew_20 : decode cX4_beginAnew 20 = .ok (.iload_n 3, 1) := by decide +kernel
theorem dX4_beginAnew_21 : decode cX4_beginAnew 21 = .ok (.iconst 0, 1) := by decide +kernel
theorem dX4_beginAnew_22 : decode cX4_beginAnew 22 = .ok (.bipush 99, 2) := by decide +kernel
theorem dX4_beginAnew_24 : decode cX4_beginAnew 24 = .ok (.invokestatic 74, 3) := by decide +kernel
theorem dX4_beginAnew_27 : decode cX4_beginAnew 27 = .ok (.ifCond .ne 6, 3) := by decide +kernel
theorem dX4_beginAnew_30 : decode cX4_beginAnew 30 = .ok (.ldc 78, 2) := by decide +kernel
theorem dX4_beginAnew_32 : decode cX4_beginAnew 32 = .ok (.ireturn, 1) := by decide +kernel
theorem dX4_beginAnew_33 : decode cX4_beginAnew 33 = .ok (.aload_n 0, 1) := by decide +kernel
theorem dX4_beginAnew_34 : decode cX4_beginAnew 34 = .ok (.getfield 12, 3) := by decide +kernel
theorem dX4_beginAnew_37 : decode cX4_beginAnew 37 = .ok (.invokevirtual 79, 3) := by decide +kernel
theorem dX4_beginAnew_40 : decode cX4_beginAnew 40 = .ok (.istore 4, 2) := by decide +kernel
theorem dX4_beginAnew_42 : decode cX4_beginAnew 42 = .ok (.aload_n 0, 1) := by decide +kernel
theorem dX4_beginAnew_43 : decode cX4_beginAnew 43 = .ok (.iload_n 1, 1) := by decide +kernel
theorem dX4_beginAnew_44 : decode cX4_beginAnew 44 = .ok (.iload_n 2, 1) := by decide +kernel
theorem dX4_beginAnew_45 : decode cX4_beginAnew 45 = .ok (.iload_n 3, 1) := by decide +kernel
theorem dX4_beginAnew_46 : decode cX4_beginAnew 46 = .ok (.invokevirtual 42, 3) := by decide +kernel
theorem dX4_beginAnew_49 : decode cX4_beginAnew 49 = .ok (.iload 4, 2) := by decide +kernel
theorem dX4_beginAnew_51 : decode cX4_beginAnew 51 = .ok (.ireturn, 1) := by decide +kernel
theorem dX4_changeWeight_0 : decode cX4_changeWeight 0 = .ok (.aload_n 0, 1) := by decide +kernel
theorem dX4_changeWeight_1 : decode cX4_changeWeight 1 = .ok (.iload_n 1, 1) := by decide +kernel
theorem dX4_changeWeight_2 : decode cX4_changeWeight 2 = .ok (.invokevirtual 83, 3) := by decide +kernel
theorem dX4_changeWeight_5 : decode cX4_changeWeight 5 = .ok (.ifCond .eq 13, 3) := by decide +kernel
theorem dX4_changeWeight_8 : decode cX4_changeWeight 8 = .ok (.iload_n 2, 1) := by decide +kernel
theorem dX4_changeWeight_9 : decode cX4_changeWeight 9 = .ok (.iconst 0, 1) := by decide +kernel
theorem dX4_changeWeight_10 : decode cX4_changeWeight 10 = .ok (.ldc 87, 2) := by decide +kernel
theorem dX4_changeWeight_12 : decode cX4_changeWeight 12 = .ok (.invokestatic 74, 3) := by decide +kernel
theorem dX4_changeWeight_15 : decode cX4_changeWeight 15 = .ok (.ifCond .ne 6, 3) := by decide +kernel
theorem dX4_changeWeight_18 : decode cX4_changeWeight 18 = .ok (.ldc 78, 2) := by decide +kernel
theorem dX4_changeWeight_20 : decode cX4_changeWeight 20 = .ok (.ireturn, 1) := by decide +kernel
theorem dX4_changeWeight_21 : decode cX4_changeWeight 21 = .ok (.aload_n 0, 1) := by decide +kernel
theorem dX4_changeWeight_22 : decode cX4_changeWeight 22 = .ok (.getfield 21, 3) := by decide +kernel
theorem dX4_changeWeight_25 : decode cX4_changeWeight 25 = .ok (.iload_n 1, 1) := by decide +kernel
theorem dX4_changeWeight_26 : decode cX4_changeWeight 26 = .ok (.iload_n 2, 1) := by decide +kernel
theorem dX4_changeWeight_27 : decode cX4_changeWeight 27 = .ok (.invokevirtual 88, 3) := by decide +kernel
theorem dX4_changeWeight_30 : decode cX4_changeWeight 30 = .ok (.aload_n 0, 1) := by decide +kernel
theorem dX4_changeWeight_31 : decode cX4_changeWeight 31 = .ok (.getfield 21, 3) := by decide +kernel
theorem dX4_changeWeight_34 : decode cX4_changeWeight 34 = .ok (.invokevirtual 91, 3) := by decide +kernel
theorem dX4_changeWeight_37 : decode cX4_changeWeight 37 = .ok (.ifCond .ne 6, 3) := by decide +kernel
theorem dX4_changeWeight_40 : decode cX4_changeWeight 40 = .ok (.ldc 95, 2) := by decide +kernel
theorem dX4_changeWeight_42 : decode cX4_changeWeight 42 = .ok (.ireturn, 1) := by decide +kernel
theorem dX4_changeWeight_43 : decode cX4_changeWeight 43 = .ok (.aload_n 0, 1) := by decide +kernel
theorem dX4_changeWeight_44 : decode cX4_changeWeight 44 = .ok (.getfield 21, 3) := by decide +kernel
theorem dX4_changeWeight_47 : decode cX4_changeWeight 47 = .ok (.iload_n 1, 1) := by decide +kernel
theorem dX4_changeWeight_48 : decode cX4_changeWeight 48 = .ok (.invokevirtual 96, 3) := by decide +kernel
theorem dX4_changeWeight_51 : decode cX4_changeWeight 51 = .ok (.ireturn, 1) := by decide +kernel
theorem dX4_shift_0 : decode cX4_shift 0 = .ok (.iload_n 1, 1) := by decide +kernel
theorem dX4_shift_1 : decode cX4_shift 1 = .ok (.bipush (-99), 2) := by decide +kernel
theorem dX4_shift_3 : decode cX4_shift 3 = .ok (.bipush 99, 2) := by decide +kernel
theorem dX4_shift_5 : decode cX4_shift 5 = .ok (.invokestatic 74, 3) := by decide +kernel
theorem dX4_shift_8 : decode cX4_shift 8 = .ok (.ifCond .eq 13, 3) := by decide +kernel
theorem dX4_shift_11 : decode cX4_shift 11 = .ok (.iload_n 2, 1) := by decide +kernel
theorem dX4_shift_12 : decode cX4_shift 12 = .ok (.iconst 0, 1) := by decide +kernel
theorem dX4_shift_13 : decode cX4_shift 13 = .ok (.bipush 99, 2) := by decide +kernel
theorem dX4_shift_15 : decode cX4_shift 15 = .ok (.invokestatic 74, 3) := by decide +kernel
theorem dX4_shift_18 : decode cX4_shift 18 = .ok (.ifCond .ne 6, 3) := by decide +kernel
theorem dX4_shift_21 : decode cX4_shift 21 = .ok (.ldc 78, 2) := by decide +kernel
theorem dX4_shift_23 : decode cX4_shift 23 = .ok (.ireturn, 1) := by decide +kernel
theorem dX4_shift_24 : decode cX4_shift 24 = .ok (.aload_n 0, 1) := by decide +kernel
theorem dX4_shift_25 : decode cX4_shift 25 = .ok (.getfield 12, 3) := by decide +kernel
theorem dX4_shift_28 : decode cX4_shift 28 = .ok (.invokevirtual 79, 3) := by decide +kernel
theorem dX4_shift_31 : decode cX4_shift 31 = .ok (.bipush 20, 2) := by decide +kernel
theorem dX4_shift_33 : decode cX4_shift 33 = .ok (.if_icmp .lt 6, 3) := by decide +kernel
theorem dX4_shift_36 : decode cX4_shift 36 = .ok (.ldc 100, 2) := by decide +kernel
theorem dX4_shift_38 : decode cX4_shift 38 = .ok (.ireturn, 1) := by decide +kernel
theorem dX4_shift_39 : decode cX4_shift 39 = .ok (.aload_n 0, 1) := by decide +kernel
theorem dX4_shift_40 : decode cX4_shift 40 = .ok (.getfield 12, 3) := by decide +kernel
theorem dX4_shift_43 : decode cX4_shift 43 = .ok (.invokevirtual 101, 3) := by decide +kernel
theorem dX4_shift_46 : decode cX4_shift 46 = .ok (.istore_n 3, 1) := by decide +kernel
theorem dX4_shift_47 : decode cX4_shift 47 = .ok (.aload_n 0, 1) := by decide +kernel
theorem dX4_shift_48 : decode cX4_shift 48 = .ok (.getfield 12, 3) := by decide +kernel
theorem dX4_shift_51 : decode cX4_shift 51 = .ok (.iload_n 1, 1) := by decide +kernel
theorem dX4_shift_52 : decode cX4_shift 52 = .ok (.iload_n 2, 1) := by decide +kernel
theorem dX4_shift_53 : decode cX4_shift 53 = .ok (.invokevirtual 104, 3) := by decide +kernel
theorem dX4_shift_56 : decode cX4_shift 56 = .ok (.iconst 0, 1) := by decide +kernel
theorem dX4_shift_57 : decode cX4_shift 57 = .ok (.istore 4, 2) := by decide +kernel
theorem dX4_shift_59 : decode cX4_shift 59 = .ok (.iload 4, 2) := by decide +kernel
theorem dX4_shift_61 : decode cX4_shift 61 = .ok (.aload_n 0, 1) := by decide +kernel
theorem dX4_shift_62 : decode cX4_shift 62 = .ok (.getfield 12, 3) := by decide +kernel
theorem dX4_shift_65 : decode cX4_shift 65 = .ok (.invokevirtual 107, 3) := by decide +kernel
theorem dX4_shift_68 : decode cX4_shift 68 = .ok (.if_icmp .ge 63, 3) := by decide +kernel
theorem dX4_shift_71 : decode cX4_shift 71 = .ok (.aload_n 0, 1) := by decide +kernel
theorem dX4_shift_72 : decode cX4_shift 72 = .ok (.aload_n 0, 1) := by decide +kernel
theorem dX4_shift_73 : decode cX4_shift 73 = .ok (.getfield 58, 3) := by decide +kernel
theorem dX4_shift_76 : decode cX4_shift 76 = .ok (.invokestatic 110, 3) := by decide +kernel
theorem dX4_shift_79 : decode cX4_shift 79 = .ok (.putfield 58, 3) := by decide +kernel
theorem dX4_shift_82 : decode cX4_shift 82 = .ok (.iload_n 1, 1) := by decide +kernel
theorem dX4_shift_83 : decode cX4_shift 83 = .ok (.aload_n 0, 1) := by decide +kernel
theorem dX4_shift_84 : decode cX4_shift 84 = .ok (.getfield 58, 3) := by decide +kernel
theorem dX4_shift_87 : decode cX4_shift 87 = .ok (.iconst 2, 1) := by decide +kernel
theorem dX4_shift_88 : decode cX4_shift 88 = .ok (.iload_n 2, 1) := by decide +kernel
theorem dX4_shift_89 : decode cX4_shift 89 = .ok (.imul, 1) := by decide +kernel
theorem dX4_shift_90 : decode cX4_shift 90 = .ok (.iconst 1, 1) := by decide +kernel
theorem dX4_shift_91 : decode cX4_shift 91 = .ok (.iadd, 1) := by decide +kernel
theorem dX4_shift_92 : decode cX4_shift 92 = .ok (.irem, 1) := by decide +kernel
theorem dX4_shift_93 : decode cX4_shift 93 = .ok (.iadd, 1) := by decide +kernel
theorem dX4_shift_94 : decode cX4_shift 94 = .ok (.iload_n 2, 1) := by decide +kernel
theorem dX4_shift_95 : decode cX4_shift 95 = .ok (.isub, 1) := by decide +kernel
theorem dX4_shift_96 : decode cX4_shift 96 = .ok (.istore 5, 2) := by decide +kernel
theorem dX4_shift_98 : decode cX4_shift 98 = .ok (.aload_n 0, 1) := by decide +kernel
theorem dX4_shift_99 : decode cX4_shift 99 = .ok (.getfield 12, 3) := by decide +kernel
theorem dX4_shift_102 : decode cX4_shift 102 = .ok (.iload 4, 2) := by decide +kernel
theorem dX4_shift_104 : decode cX4_shift 104 = .ok (.iload 4, 2) := by decide +kernel
theorem dX4_shift_106 : decode cX4_shift 106 = .ok (.aload_n 0, 1) := by decide +kernel
theorem dX4_shift_107 : decode cX4_shift 107 = .ok (.getfield 12, 3) := by decide +kernel
theorem dX4_shift_110 : decode cX4_shift 110 = .ok (.iload_n 3, 1) := by decide +kernel
theorem dX4_shift_111 : decode cX4_shift 111 = .ok (.iload 4, 2) := by decide +kernel
theorem dX4_shift_113 : decode cX4_shift 113 = .ok (.invokevirtual 113, 3) := by decide +kernel
theorem dX4_shift_116 : decode cX4_shift 116 = .ok (.iload 5, 2) := by decide +kernel
theorem dX4_shift_118 : decode cX4_shift 118 = .ok (.iadd, 1) := by decide +kernel
theorem dX4_shift_119 : decode cX4_shift 119 = .ok (.invokestatic 117, 3) := by decide +kernel
theorem dX4_shift_122 : decode cX4_shift 122 = .ok (.invokevirtual 120, 3) := by decide +kernel
theorem dX4_shift_125 : decode cX4_shift 125 = .ok (.iinc 4 1, 3) := by decide +kernel
theorem dX4_shift_128 : decode cX4_shift 128 = .ok (.goto (-69), 3) := by decide +kernel
theorem dX4_shift_131 : decode cX4_shift 131 = .ok (.aload_n 0, 1) := by decide +kernel
theorem dX4_shift_132 : decode cX4_shift 132 = .ok (.getfield 12, 3) := by decide +kernel
theorem dX4_shift_135 : decode cX4_shift 135 = .ok (.invokevirtual 101, 3) := by decide +kernel
theorem dX4_shift_138 : decode cX4_shift 138 = .ok (.ireturn, 1) := by decide +kernel
theorem dX4_look_0 : decode cX4_look 0 = .ok (.iload_n 1, 1) := by decide +kernel
theorem dX4_look_1 : decode cX4_look 1 = .ok (.iconst 0, 1) := by decide +kernel
theorem dX4_look_2 : decode cX4_look 2 = .ok (.bipush 99, 2) := by decide +kernel
theorem dX4_look_4 : decode cX4_look 4 = .ok (.invokestatic 74, 3) := by decide +kernel
theorem dX4_look_7 : decode cX4_look 7 = .ok (.ifCond .eq 13, 3) := by decide +kernel
theorem dX4_look_10 : decode cX4_look 10 = .ok (.iload_n 2, 1) := by decide +kernel
theorem dX4_look_11 : decode cX4_look 11 = .ok (.iconst 1, 1) := by decide +kernel
theorem dX4_look_12 : decode cX4_look 12 = .ok (.bipush 99, 2) := by decide +kernel
theorem dX4_look_14 : decode cX4_look 14 = .ok (.invokestatic 74, 3) := by decide +kernel
theorem dX4_look_17 : decode cX4_look 17 = .ok (.ifCond .ne 6, 3) := by decide +kernel
theorem dX4_look_20 : decode cX4_look 20 = .ok (.ldc 78, 2) := by decide +kernel
theorem dX4_look_22 : decode cX4_look 22 = .ok (.ireturn, 1) := by decide +kernel
theorem dX4_look_23 : decode cX4_look 23 = .ok (.iconst 0, 1) := by decide +kernel
theorem dX4_look_24 : decode cX4_look 24 = .ok (.istore_n 3, 1) := by decide +kernel
theorem dX4_look_25 : decode cX4_look 25 = .ok (.iload_n 3, 1) := by decide +kernel
theorem dX4_look_26 : decode cX4_look 26 = .ok (.aload_n 0, 1) := by decide +kernel
theorem dX4_look_27 : decode cX4_look 27 = .ok (.getfield 12, 3) := by decide +kernel
theorem dX4_look_30 : decode cX4_look 30 = .ok (.invokevirtual 107, 3) := by decide +kernel
theorem dX4_look_33 : decode cX4_look 33 = .ok (.if_icmp .ge 56, 3) := by decide +kernel
theorem dX4_look_36 : decode cX4_look 36 = .ok (.aload_n 0, 1) := by decide +kernel
theorem dX4_look_37 : decode cX4_look 37 = .ok (.getfield 12, 3) := by decide +kernel
theorem dX4_look_40 : decode cX4_look 40 = .ok (.aload_n 0, 1) := by decide +kernel
theorem dX4_look_41 : decode cX4_look 41 = .ok (.getfield 12, 3) := by decide +kernel
theorem dX4_look_44 : decode cX4_look 44 = .ok (.invokevirtual 101, 3) := by decide +kernel
theorem dX4_look_47 : decode cX4_look 47 = .ok (.iload_n 3, 1) := by decide +kernel
theorem dX4_look_48 : decode cX4_look 48 = .ok (.invokevirtual 113, 3) := by decide +kernel
theorem dX4_look_51 : decode cX4_look 51 = .ok (.iload_n 1, 1) := by decide +kernel
theorem dX4_look_52 : decode cX4_look 52 = .ok (.isub, 1) := by decide +kernel
theorem dX4_look_53 : decode cX4_look 53 = .ok (.invokestatic 123, 3) := by decide +kernel
theorem dX4_look_56 : decode cX4_look 56 = .ok (.istore 4, 2) := by decide +kernel
theorem dX4_look_58 : decode cX4_look 58 = .ok (.aload_n 0, 1) := by decide +kernel
theorem dX4_look_59 : decode cX4_look 59 = .ok (.getfield 21, 3) := by decide +kernel
theorem dX4_look_62 : decode cX4_look 62 = .ok (.iload_n 3, 1) := by decide +kernel
theorem dX4_look_63 : decode cX4_look 63 = .ok (.aload_n 0, 1) := by decide +kernel
theorem dX4_look_64 : decode cX4_look 64 = .ok (.getfield 21, 3) := by decide +kernel
theorem dX4_look_67 : decode cX4_look 67 = .ok (.iload_n 3, 1) := by decide +kernel
theorem dX4_look_68 : decode cX4_look 68 = .ok (.invokevirtual 96, 3) := by decide +kernel
theorem dX4_look_71 : decode cX4_look 71 = .ok (.iconst 0, 1) := by decide +kernel
theorem dX4_look_72 : decode cX4_look 72 = .ok (.iload_n 2, 1) := by decide +kernel
theorem dX4_look_73 : decode cX4_look 73 = .ok (.iload 4, 2) := by decide +kernel
theorem dX4_look_75 : decode cX4_look 75 = .ok (.isub, 1) := by decide +kernel
theorem dX4_look_76 : decode cX4_look 76 = .ok (.invokestatic 128, 3) := by decide +kernel
theorem dX4_look_79 : decode cX4_look 79 = .ok (.imul, 1) := by decide +kernel
theorem dX4_look_80 : decode cX4_look 80 = .ok (.invokevirtual 88, 3) := by decide +kernel
theorem dX4_look_83 : decode cX4_look 83 = .ok (.iinc 3 1, 3) := by decide +kernel
theorem dX4_look_86 : decode cX4_look 86 = .ok (.goto (-61), 3) := by decide +kernel
theorem dX4_look_89 : decode cX4_look 89 = .ok (.aload_n 0, 1) := by decide +kernel
theorem dX4_look_90 : decode cX4_look 90 = .ok (.getfield 21, 3) := by decide +kernel
theorem dX4_look_93 : decode cX4_look 93 = .ok (.invokevirtual 91, 3) := by decide +kernel
theorem dX4_look_96 : decode cX4_look 96 = .ok (.ifCond .ne 6, 3) := by decide +kernel
theorem dX4_look_99 : decode cX4_look 99 = .ok (.ldc 95, 2) := by decide +kernel
theorem dX4_look_101 : decode cX4_look 101 = .ok (.ireturn, 1) := by decide +kernel
theorem dX4_look_102 : decode cX4_look 102 = .ok (.aload_n 0, 1) := by decide +kernel
theorem dX4_look_103 : decode cX4_look 103 = .ok (.getfield 21, 3) := by decide +kernel
theorem dX4_look_106 : decode cX4_look 106 = .ok (.invokevirtual 131, 3) := by decide +kernel
theorem dX4_look_109 : decode cX4_look 109 = .ok (.ldc 87, 2) := by decide +kernel
theorem dX4_look_111 : decode cX4_look 111 = .ok (.if_icmp .le 6, 3) := by decide +kernel
theorem dX4_look_114 : decode cX4_look 114 = .ok (.ldc 100, 2) := by decide +kernel
theorem dX4_look_116 : decode cX4_look 116 = .ok (.ireturn, 1) := by decide +kernel
theorem dX4_look_117 : decode cX4_look 117 = .ok (.aload_n 0, 1) := by decide +kernel
theorem dX4_look_118 : decode cX4_look 118 = .ok (.dup, 1) := by decide +kernel
theorem dX4_look_119 : decode cX4_look 119 = .ok (.getfield 62, 3) := by decide +kernel
theorem dX4_look_122 : decode cX4_look 122 = .ok (.iconst 1, 1) := by decide +kernel
theorem dX4_look_123 : decode cX4_look 123 = .ok (.iadd, 1) := by decide +kernel
theorem dX4_look_124 : decode cX4_look 124 = .ok (.putfield 62, 3) := by decide +kernel
theorem dX4_look_127 : decode cX4_look 127 = .ok (.aload_n 0, 1) := by decide +kernel
theorem dX4_look_128 : decode cX4_look 128 = .ok (.getfield 21, 3) := by decide +kernel
theorem dX4_look_131 : decode cX4_look 131 = .ok (.invokevirtual 134, 3) := by decide +kernel
theorem dX4_look_134 : decode cX4_look 134 = .ok (.istore_n 3, 1) := by decide +kernel
theorem dX4_look_135 : decode cX4_look 135 = .ok (.iload_n 3, 1) := by decide +kernel
theorem dX4_look_136 : decode cX4_look 136 = .ok (.aload_n 0, 1) := by decide +kernel
theorem dX4_look_137 : decode cX4_look 137 = .ok (.getfield 30, 3) := by decide +kernel
theorem dX4_look_140 : decode cX4_look 140 = .ok (.iconst 0, 1) := by decide +kernel
theorem dX4_look_141 : decode cX4_look 141 = .ok (.invokevirtual 137, 3) := by decide +kernel
theorem dX4_look_144 : decode cX4_look 144 = .ok (.if_icmp .ge 15, 3) := by decide +kernel
theorem dX4_look_147 : decode cX4_look 147 = .ok (.aload_n 0, 1) := by decide +kernel
theorem dX4_look_148 : decode cX4_look 148 = .ok (.invokevirtual 140, 3) := by decide +kernel
theorem dX4_look_151 : decode cX4_look 151 = .ok (.ldc 100, 2) := by decide +kernel
theorem dX4_look_153 : decode cX4_look 153 = .ok (.if_icmp .ne 6, 3) := by decide +kernel
theorem dX4_look_156 : decode cX4_look 156 = .ok (.ldc 100, 2) := by decide +kernel
theorem dX4_look_158 : decode cX4_look 158 = .ok (.ireturn, 1) := by decide +kernel
theorem dX4_look_159 : decode cX4_look 159 = .ok (.iload_n 3, 1) := by decide +kernel
theorem dX4_look_160 : decode cX4_look 160 = .ok (.ireturn, 1) := by decide +kernel
theorem dX4_renew_0 : decode cX4_renew 0 = .ok (.aload_n 0, 1) := by decide +kernel
theorem dX4_renew_1 : decode cX4_renew 1 = .ok (.getfield 12, 3) := by decide +kernel
theorem dX4_renew_4 : decode cX4_renew 4 = .ok (.invokevirtual 79, 3) := by decide +kernel
theorem dX4_renew_7 : decode cX4_renew 7 = .ok (.bipush 20, 2) := by decide +kernel
theorem dX4_renew_9 : decode cX4_renew 9 = .ok (.if_icmp .lt 6, 3) := by decide +kernel
theorem dX4_renew_12 : decode cX4_renew 12 = .ok (.ldc 100, 2) := by decide +kernel
theorem dX4_renew_14 : decode cX4_renew 14 = .ok (.ireturn, 1) := by decide +kernel
theorem dX4_renew_15 : decode cX4_renew 15 = .ok (.aload_n 0, 1) := by decide +kernel
theorem dX4_renew_16 : decode cX4_renew 16 = .ok (.getfield 30, 3) := by decide +kernel
theorem dX4_renew_19 : decode cX4_renew 19 = .ok (.iconst 1, 1) := by decide +kernel
theorem dX4_renew_20 : decode cX4_renew 20 = .ok (.invokevirtual 137, 3) := by decide +kernel
theorem dX4_renew_23 : decode cX4_renew 23 = .ok (.istore_n 1, 1) := by decide +kernel
theorem dX4_renew_24 : decode cX4_renew 24 = .ok (.aload_n 0, 1) := by decide +kernel
theorem dX4_renew_25 : decode cX4_renew 25 = .ok (.getfield 34, 3) := by decide +kernel
theorem dX4_renew_28 : decode cX4_renew 28 = .ok (.iload_n 1, 1) := by decide +kernel
theorem dX4_renew_29 : decode cX4_renew 29 = .ok (.aload_n 0, 1) := by decide +kernel
theorem dX4_renew_30 : decode cX4_renew 30 = .ok (.getfield 21, 3) := by decide +kernel
theorem dX4_renew_33 : decode cX4_renew 33 = .ok (.aload_n 0, 1) := by decide +kernel
theorem dX4_renew_34 : decode cX4_renew 34 = .ok (.getfield 30, 3) := by decide +kernel
theorem dX4_renew_37 : decode cX4_renew 37 = .ok (.iconst 2, 1) := by decide +kernel
theorem dX4_renew_38 : decode cX4_renew 38 = .ok (.invokevirtual 137, 3) := by decide +kernel
theorem dX4_renew_41 : decode cX4_renew 41 = .ok (.aload_n 0, 1) := by decide +kernel
theorem dX4_renew_42 : decode cX4_renew 42 = .ok (.getfield 58, 3) := by decide +kernel
theorem dX4_renew_45 : decode cX4_renew 45 = .ok (.invokevirtual 143, 3) := by decide +kernel
theorem dX4_renew_48 : decode cX4_renew 48 = .ok (.aload_n 0, 1) := by decide +kernel
theorem dX4_renew_49 : decode cX4_renew 49 = .ok (.getfield 12, 3) := by decide +kernel
theorem dX4_renew_52 : decode cX4_renew 52 = .ok (.invokevirtual 101, 3) := by decide +kernel
theorem dX4_renew_55 : decode cX4_renew 55 = .ok (.istore_n 2, 1) := by decide +kernel
theorem dX4_renew_56 : decode cX4_renew 56 = .ok (.aload_n 0, 1) := by decide +kernel
theorem dX4_renew_57 : decode cX4_renew 57 = .ok (.getfield 12, 3) := by decide +kernel
theorem dX4_renew_60 : decode cX4_renew 60 = .ok (.iload_n 1, 1) := by decide +kernel
theorem dX4_renew_61 : decode cX4_renew 61 = .ok (.invokevirtual 149, 3) := by decide +kernel
theorem dX4_renew_64 : decode cX4_renew 64 = .ok (.iconst 0, 1) := by decide +kernel
theorem dX4_renew_65 : decode cX4_renew 65 = .ok (.istore_n 3, 1) := by decide +kernel
theorem dX4_renew_66 : decode cX4_renew 66 = .ok (.iload_n 3, 1) := by decide +kernel
theorem dX4_renew_67 : decode cX4_renew 67 = .ok (.aload_n 0, 1) := by decide +kernel
theorem dX4_renew_68 : decode cX4_renew 68 = .ok (.getfield 12, 3) := by decide +kernel
theorem dX4_renew_71 : decode cX4_renew 71 = .ok (.invokevirtual 107, 3) := by decide +kernel
theorem dX4_renew_74 : decode cX4_renew 74 = .ok (.if_icmp .ge 39, 3) := by decide +kernel
theorem dX4_renew_77 : decode cX4_renew 77 = .ok (.aload_n 0, 1) := by decide +kernel
theorem dX4_renew_78 : decode cX4_renew 78 = .ok (.getfield 34, 3) := by decide +kernel
theorem dX4_renew_81 : decode cX4_renew 81 = .ok (.iload_n 3, 1) := by decide +kernel
theorem dX4_renew_82 : decode cX4_renew 82 = .ok (.invokevirtual 152, 3) := by decide +kernel
theorem dX4_renew_85 : decode cX4_renew 85 = .ok (.istore 4, 2) := by decide +kernel
theorem dX4_renew_87 : decode cX4_renew 87 = .ok (.aload_n 0, 1) := by decide +kernel
theorem dX4_renew_88 : decode cX4_renew 88 = .ok (.getfield 12, 3) := by decide +kernel
theorem dX4_renew_91 : decode cX4_renew 91 = .ok (.iload_n 3, 1) := by decide +kernel
theorem dX4_renew_92 : decode cX4_renew 92 = .ok (.iload 4, 2) := by decide +kernel
theorem dX4_renew_94 : decode cX4_renew 94 = .ok (.aload_n 0, 1) := by decide +kernel
theorem dX4_renew_95 : decode cX4_renew 95 = .ok (.getfield 12, 3) := by decide +kernel
theorem dX4_renew_98 : decode cX4_renew 98 = .ok (.iload_n 2, 1) := by decide +kernel
theorem dX4_renew_99 : decode cX4_renew 99 = .ok (.iload 4, 2) := by decide +kernel
theorem dX4_renew_101 : decode cX4_renew 101 = .ok (.invokevirtual 113, 3) := by decide +kernel
theorem dX4_renew_104 : decode cX4_renew 104 = .ok (.invokevirtual 120, 3) := by decide +kernel
theorem dX4_renew_107 : decode cX4_renew 107 = .ok (.iinc 3 1, 3) := by decide +kernel
theorem dX4_renew_110 : decode cX4_renew 110 = .ok (.goto (-44), 3) := by decide +kernel
theorem dX4_renew_113 : decode cX4_renew 113 = .ok (.aload_n 0, 1) := by decide +kernel
theorem dX4_renew_114 : decode cX4_renew 114 = .ok (.aload_n 0, 1) := by decide +kernel
theorem dX4_renew_115 : decode cX4_renew 115 = .ok (.getfield 34, 3) := by decide +kernel
theorem dX4_renew_118 : decode cX4_renew 118 = .ok (.invokevirtual 155, 3) := by decide +kernel
theorem dX4_renew_121 : decode cX4_renew 121 = .ok (.putfield 58, 3) := by decide +kernel
theorem dX4_renew_124 : decode cX4_renew 124 = .ok (.aload_n 0, 1) := by decide +kernel
theorem dX4_renew_125 : decode cX4_renew 125 = .ok (.getfield 21, 3) := by decide +kernel
theorem dX4_renew_128 : decode cX4_renew 128 = .ok (.aload_n 0, 1) := by decide +kernel
theorem dX4_renew_129 : decode cX4_renew 129 = .ok (.getfield 12, 3) := by decide +kernel
theorem dX4_renew_132 : decode cX4_renew 132 = .ok (.invokevirtual 107, 3) := by decide +kernel
theorem dX4_renew_135 : decode cX4_renew 135 = .ok (.invokevirtual 71, 3) := by decide +kernel
theorem dX4_renew_138 : decode cX4_renew 138 = .ok (.aload_n 0, 1) := by decide +kernel
theorem dX4_renew_139 : decode cX4_renew 139 = .ok (.dup, 1) := by decide +kernel
theorem dX4_renew_140 : decode cX4_renew 140 = .ok (.getfield 65, 3) := by decide +kernel
theorem dX4_renew_143 : decode cX4_renew 143 = .ok (.iconst 1, 1) := by decide +kernel
theorem dX4_renew_144 : decode cX4_renew 144 = .ok (.iadd, 1) := by decide +kernel
theorem dX4_renew_145 : decode cX4_renew 145 = .ok (.putfield 65, 3) := by decide +kernel
theorem dX4_renew_148 : decode cX4_renew 148 = .ok (.aload_n 0, 1) := by decide +kernel
theorem dX4_renew_149 : decode cX4_renew 149 = .ok (.getfield 12, 3) := by decide +kernel
theorem dX4_renew_152 : decode cX4_renew 152 = .ok (.iload_n 2, 1) := by decide +kernel
theorem dX4_renew_153 : decode cX4_renew 153 = .ok (.invokevirtual 157, 3) := by decide +kernel
theorem dX4_renew_156 : decode cX4_renew 156 = .ok (.ireturn, 1) := by decide +kernel
theorem dX4_putSetting_0 : decode cX4_putSetting 0 = .ok (.iload_n 1, 1) := by decide +kernel
theorem dX4_putSetting_1 : decode cX4_putSetting 1 = .ok (.iconst 0, 1) := by decide +kernel
theorem dX4_putSetting_2 : decode cX4_putSetting 2 = .ok (.iconst 2, 1) := by decide +kernel
theorem dX4_putSetting_3 : decode cX4_putSetting 3 = .ok (.invokestatic 74, 3) := by decide +kernel
theorem dX4_putSetting_6 : decode cX4_putSetting 6 = .ok (.ifCond .eq 15, 3) := by decide +kernel
theorem dX4_putSetting_9 : decode cX4_putSetting 9 = .ok (.iload_n 2, 1) := by decide +kernel
theorem dX4_putSetting_10 : decode cX4_putSetting 10 = .ok (.iconst 0, 1) := by decide +kernel
theorem dX4_putSetting_11 : decode cX4_putSetting 11 = .ok (.iload_n 1, 1) := by decide +kernel
theorem dX4_putSetting_12 : decode cX4_putSetting 12 = .ok (.invokestatic 160, 3) := by decide +kernel
theorem dX4_putSetting_15 : decode cX4_putSetting 15 = .ok (.invokestatic 74, 3) := by decide +kernel
theorem dX4_putSetting_18 : decode cX4_putSetting 18 = .ok (.ifCond .ne 6, 3) := by decide +kernel
theorem dX4_putSetting_21 : decode cX4_putSetting 21 = .ok (.ldc 78, 2) := by decide +kernel
theorem dX4_putSetting_23 : decode cX4_putSetting 23 = .ok (.ireturn, 1) := by decide +kernel
theorem dX4_putSetting_24 : decode cX4_putSetting 24 = .ok (.aload_n 0, 1) := by decide +kernel
theorem dX4_putSetting_25 : decode cX4_putSetting 25 = .ok (.getfield 30, 3) := by decide +kernel
theorem dX4_putSetting_28 : decode cX4_putSetting 28 = .ok (.iload_n 1, 1) := by decide +kernel
theorem dX4_putSetting_29 : decode cX4_putSetting 29 = .ok (.invokevirtual 137, 3) := by decide +kernel
theorem dX4_putSetting_32 : decode cX4_putSetting 32 = .ok (.istore_n 3, 1) := by decide +kernel
theorem dX4_putSetting_33 : decode cX4_putSetting 33 = .ok (.aload_n 0, 1) := by decide +kernel
theorem dX4_putSetting_34 : decode cX4_putSetting 34 = .ok (.getfield 30, 3) := by decide +kernel
theorem dX4_putSetting_37 : decode cX4_putSetting 37 = .ok (.iload_n 1, 1) := by decide +kernel
theorem dX4_putSetting_38 : decode cX4_putSetting 38 = .ok (.iload_n 2, 1) := by decide +kernel
theorem dX4_putSetting_39 : decode cX4_putSetting 39 = .ok (.invokevirtual 38, 3) := by decide +kernel
theorem dX4_putSetting_42 : decode cX4_putSetting 42 = .ok (.iload_n 3, 1) := by decide +kernel
theorem dX4_putSetting_43 : decode cX4_putSetting 43 = .ok (.ireturn, 1) := by decide +kernel
theorem dX4_greatestSetting_0 : decode cX4_greatestSetting 0 = .ok (.iload_n 0, 1) := by decide +kernel
theorem dX4_greatestSetting_1 : decode cX4_greatestSetting 1 = .ok (.lookupswitch 32 #[(0, 27), (1, 30)], 27) := by decide +kernel
theorem dX4_greatestSetting_28 : decode cX4_greatestSetting 28 = .ok (.bipush 12, 2) := by decide +kernel
