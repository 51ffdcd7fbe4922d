theorem dX6_init_66 : decode cX6_init 66 = .ok (.invokespecial 12, 3) := by decide +kernel
theorem dX6_init_69 : decode cX6_init 69 = .ok (.putfield 30, 3) := by decide +kernel
theorem dX6_init_72 : decode cX6_init 72 = .ok (.aload_n 0, 1) := by decide +kernel
theorem dX6_init_73 : decode cX6_init 73 = .ok (.new 10, 3) := by decide +kernel
theorem dX6_init_76 : decode cX6_init 76 = .ok (.dup, 1) := by decide +kernel
theorem dX6_init_77 : decode cX6_init 77 = .ok (.aload_n 1, 1) := by decide +kernel
theorem dX6_init_78 : decode cX6_init 78 = .ok (.invokespecial 12, 3) := by decide +kernel
theorem dX6_init_81 : decode cX6_init 81 = .ok (.putfield 33, 3) := by decide +kernel
theorem dX6_init_84 : decode cX6_init 84 = .ok (.aload_n 0, 1) := by decide +kernel
theorem dX6_init_85 : decode cX6_init 85 = .ok (.iconst 0, 1) := by decide +kernel
theorem dX6_init_86 : decode cX6_init 86 = .ok (.putfield 36, 3) := by decide +kernel
theorem dX6_init_89 : decode cX6_init 89 = .ok (.aload_n 0, 1) := by decide +kernel
theorem dX6_init_90 : decode cX6_init 90 = .ok (.new 40, 3) := by decide +kernel
theorem dX6_init_93 : decode cX6_init 93 = .ok (.dup, 1) := by decide +kernel
theorem dX6_init_94 : decode cX6_init 94 = .ok (.invokespecial 42, 3) := by decide +kernel
theorem dX6_init_97 : decode cX6_init 97 = .ok (.putfield 43, 3) := by decide +kernel
theorem dX6_init_100 : decode cX6_init 100 = .ok (.return_, 1) := by decide +kernel
theorem dX6_begin_0 : decode cX6_begin 0 = .ok (.aload_n 0, 1) := by decide +kernel
theorem dX6_begin_1 : decode cX6_begin 1 = .ok (.getfield 21, 3) := by decide +kernel
theorem dX6_begin_4 : decode cX6_begin 4 = .ok (.aload_n 0, 1) := by decide +kernel
theorem dX6_begin_5 : decode cX6_begin 5 = .ok (.getfield 15, 3) := by decide +kernel
theorem dX6_begin_8 : decode cX6_begin 8 = .ok (.invokevirtual 47, 3) := by decide +kernel
theorem dX6_begin_11 : decode cX6_begin 11 = .ok (.aload_n 0, 1) := by decide +kernel
theorem dX6_begin_12 : decode cX6_begin 12 = .ok (.aload_n 0, 1) := by decide +kernel
theorem dX6_begin_13 : decode cX6_begin 13 = .ok (.getfield 21, 3) := by decide +kernel
theorem dX6_begin_16 : decode cX6_begin 16 = .ok (.iload_n 1, 1) := by decide +kernel
theorem dX6_begin_17 : decode cX6_begin 17 = .ok (.iload_n 2, 1) := by decide +kernel
theorem dX6_begin_18 : decode cX6_begin 18 = .ok (.iload_n 3, 1) := by decide +kernel
theorem dX6_begin_19 : decode cX6_begin 19 = .ok (.invokevirtual 51, 3) := by decide +kernel
theorem dX6_begin_22 : decode cX6_begin 22 = .ok (.invokevirtual 55, 3) := by decide +kernel
theorem dX6_begin_25 : decode cX6_begin 25 = .ok (.ireturn, 1) := by decide +kernel
theorem dX6_weigh_0 : decode cX6_weigh 0 = .ok (.aload_n 0, 1) := by decide +kernel
theorem dX6_weigh_1 : decode cX6_weigh 1 = .ok (.getfield 21, 3) := by decide +kernel
theorem dX6_weigh_4 : decode cX6_weigh 4 = .ok (.aload_n 0, 1) := by decide +kernel
theorem dX6_weigh_5 : decode cX6_weigh 5 = .ok (.getfield 15, 3) := by decide +kernel
theorem dX6_weigh_8 : decode cX6_weigh 8 = .ok (.invokevirtual 47, 3) := by decide +kernel
theorem dX6_weigh_11 : decode cX6_weigh 11 = .ok (.aload_n 0, 1) := by decide +kernel
theorem dX6_weigh_12 : decode cX6_weigh 12 = .ok (.aload_n 0, 1) := by decide +kernel
theorem dX6_weigh_13 : decode cX6_weigh 13 = .ok (.getfield 21, 3) := by decide +kernel
theorem dX6_weigh_16 : decode cX6_weigh 16 = .ok (.iload_n 1, 1) := by decide +kernel
theorem dX6_weigh_17 : decode cX6_weigh 17 = .ok (.iload_n 2, 1) := by decide +kernel
theorem dX6_weigh_18 : decode cX6_weigh 18 = .ok (.invokevirtual 59, 3) := by decide +kernel
theorem dX6_weigh_21 : decode cX6_weigh 21 = .ok (.invokevirtual 55, 3) := by decide +kernel
theorem dX6_weigh_24 : decode cX6_weigh 24 = .ok (.ireturn, 1) := by decide +kernel
theorem dX6_move_0 : decode cX6_move 0 = .ok (.aload_n 0, 1) := by decide +kernel
theorem dX6_move_1 : decode cX6_move 1 = .ok (.getfield 21, 3) := by decide +kernel
theorem dX6_move_4 : decode cX6_move 4 = .ok (.aload_n 0, 1) := by decide +kernel
theorem dX6_move_5 : decode cX6_move 5 = .ok (.getfield 15, 3) := by decide +kernel
theorem dX6_move_8 : decode cX6_move 8 = .ok (.invokevirtual 47, 3) := by decide +kernel
theorem dX6_move_11 : decode cX6_move 11 = .ok (.aload_n 0, 1) := by decide +kernel
theorem dX6_move_12 : decode cX6_move 12 = .ok (.aload_n 0, 1) := by decide +kernel
theorem dX6_move_13 : decode cX6_move 13 = .ok (.getfield 21, 3) := by decide +kernel
theorem dX6_move_16 : decode cX6_move 16 = .ok (.iload_n 1, 1) := by decide +kernel
theorem dX6_move_17 : decode cX6_move 17 = .ok (.iload_n 2, 1) := by decide +kernel
theorem dX6_move_18 : decode cX6_move 18 = .ok (.invokevirtual 63, 3) := by decide +kernel
theorem dX6_move_21 : decode cX6_move 21 = .ok (.invokevirtual 55, 3) := by decide +kernel
theorem dX6_move_24 : decode cX6_move 24 = .ok (.ireturn, 1) := by decide +kernel
theorem dX6_observe_0 : decode cX6_observe 0 = .ok (.aload_n 0, 1) := by decide +kernel
theorem dX6_observe_1 : decode cX6_observe 1 = .ok (.getfield 21, 3) := by decide +kernel
theorem dX6_observe_4 : decode cX6_observe 4 = .ok (.aload_n 0, 1) := by decide +kernel
theorem dX6_observe_5 : decode cX6_observe 5 = .ok (.getfield 15, 3) := by decide +kernel
theorem dX6_observe_8 : decode cX6_observe 8 = .ok (.invokevirtual 47, 3) := by decide +kernel
theorem dX6_observe_11 : decode cX6_observe 11 = .ok (.aload_n 0, 1) := by decide +kernel
theorem dX6_observe_12 : decode cX6_observe 12 = .ok (.aload_n 0, 1) := by decide +kernel
theorem dX6_observe_13 : decode cX6_observe 13 = .ok (.getfield 21, 3) := by decide +kernel
theorem dX6_observe_16 : decode cX6_observe 16 = .ok (.iload_n 1, 1) := by decide +kernel
theorem dX6_observe_17 : decode cX6_observe 17 = .ok (.iload_n 2, 1) := by decide +kernel
theorem dX6_observe_18 : decode cX6_observe 18 = .ok (.invokevirtual 66, 3) := by decide +kernel
theorem dX6_observe_21 : decode cX6_observe 21 = .ok (.invokevirtual 55, 3) := by decide +kernel
theorem dX6_observe_24 : decode cX6_observe 24 = .ok (.ireturn, 1) := by decide +kernel
theorem dX6_resample_0 : decode cX6_resample 0 = .ok (.aload_n 0, 1) := by decide +kernel
theorem dX6_resample_1 : decode cX6_resample 1 = .ok (.getfield 21, 3) := by decide +kernel
theorem dX6_resample_4 : decode cX6_resample 4 = .ok (.aload_n 0, 1) := by decide +kernel
theorem dX6_resample_5 : decode cX6_resample 5 = .ok (.getfield 15, 3) := by decide +kernel
theorem dX6_resample_8 : decode cX6_resample 8 = .ok (.invokevirtual 47, 3) := by decide +kernel
theorem dX6_resample_11 : decode cX6_resample 11 = .ok (.aload_n 0, 1) := by decide +kernel
theorem dX6_resample_12 : decode cX6_resample 12 = .ok (.aload_n 0, 1) := by decide +kernel
theorem dX6_resample_13 : decode cX6_resample 13 = .ok (.getfield 21, 3) := by decide +kernel
theorem dX6_resample_16 : decode cX6_resample 16 = .ok (.invokevirtual 69, 3) := by decide +kernel
theorem dX6_resample_19 : decode cX6_resample 19 = .ok (.invokevirtual 55, 3) := by decide +kernel
theorem dX6_resample_22 : decode cX6_resample 22 = .ok (.ireturn, 1) := by decide +kernel
theorem dX6_set_0 : decode cX6_set 0 = .ok (.aload_n 0, 1) := by decide +kernel
theorem dX6_set_1 : decode cX6_set 1 = .ok (.getfield 21, 3) := by decide +kernel
theorem dX6_set_4 : decode cX6_set 4 = .ok (.aload_n 0, 1) := by decide +kernel
theorem dX6_set_5 : decode cX6_set 5 = .ok (.getfield 15, 3) := by decide +kernel
theorem dX6_set_8 : decode cX6_set 8 = .ok (.invokevirtual 47, 3) := by decide +kernel
theorem dX6_set_11 : decode cX6_set 11 = .ok (.aload_n 0, 1) := by decide +kernel
theorem dX6_set_12 : decode cX6_set 12 = .ok (.aload_n 0, 1) := by decide +kernel
theorem dX6_set_13 : decode cX6_set 13 = .ok (.getfield 21, 3) := by decide +kernel
theorem dX6_set_16 : decode cX6_set 16 = .ok (.iload_n 1, 1) := by decide +kernel
theorem dX6_set_17 : decode cX6_set 17 = .ok (.iload_n 2, 1) := by decide +kernel
theorem dX6_set_18 : decode cX6_set 18 = .ok (.invokevirtual 73, 3) := by decide +kernel
theorem dX6_set_21 : decode cX6_set 21 = .ok (.invokevirtual 55, 3) := by decide +kernel
theorem dX6_set_24 : decode cX6_set 24 = .ok (.ireturn, 1) := by decide +kernel
theorem dX6_particleOf_0 : decode cX6_particleOf 0 = .ok (.aload_n 0, 1) := by decide +kernel
theorem dX6_particleOf_1 : decode cX6_particleOf 1 = .ok (.getfield 15, 3) := by decide +kernel
theorem dX6_particleOf_4 : decode cX6_particleOf 4 = .ok (.iload_n 1, 1) := by decide +kernel
theorem dX6_particleOf_5 : decode cX6_particleOf 5 = .ok (.invokevirtual 76, 3) := by decide +kernel
theorem dX6_particleOf_8 : decode cX6_particleOf 8 = .ok (.ifCond .eq 13, 3) := by decide +kernel
theorem dX6_particleOf_11 : decode cX6_particleOf 11 = .ok (.iload_n 2, 1) := by decide +kernel
theorem dX6_particleOf_12 : decode cX6_particleOf 12 = .ok (.iconst 0, 1) := by decide +kernel
theorem dX6_particleOf_13 : decode cX6_particleOf 13 = .ok (.bipush 6, 2) := by decide +kernel
theorem dX6_particleOf_15 : decode cX6_particleOf 15 = .ok (.invokestatic 80, 3) := by decide +kernel
theorem dX6_particleOf_18 : decode cX6_particleOf 18 = .ok (.ifCond .ne 6, 3) := by decide +kernel
theorem dX6_particleOf_21 : decode cX6_particleOf 21 = .ok (.ldc 84, 2) := by decide +kernel
theorem dX6_particleOf_23 : decode cX6_particleOf 23 = .ok (.ireturn, 1) := by decide +kernel
theorem dX6_particleOf_24 : decode cX6_particleOf 24 = .ok (.aload_n 0, 1) := by decide +kernel
theorem dX6_particleOf_25 : decode cX6_particleOf 25 = .ok (.getfield 15, 3) := by decide +kernel
theorem dX6_particleOf_28 : decode cX6_particleOf 28 = .ok (.iload_n 1, 1) := by decide +kernel
theorem dX6_particleOf_29 : decode cX6_particleOf 29 = .ok (.iload_n 2, 1) := by decide +kernel
theorem dX6_particleOf_30 : decode cX6_particleOf 30 = .ok (.invokevirtual 85, 3) := by decide +kernel
theorem dX6_particleOf_33 : decode cX6_particleOf 33 = .ok (.ireturn, 1) := by decide +kernel
theorem dX6_generationOf_0 : decode cX6_generationOf 0 = .ok (.aload_n 0, 1) := by decide +kernel
theorem dX6_generationOf_1 : decode cX6_generationOf 1 = .ok (.getfield 15, 3) := by decide +kernel
theorem dX6_generationOf_4 : decode cX6_generationOf 4 = .ok (.iload_n 1, 1) := by decide +kernel
theorem dX6_generationOf_5 : decode cX6_generationOf 5 = .ok (.invokevirtual 88, 3) := by decide +kernel
theorem dX6_generationOf_8 : decode cX6_generationOf 8 = .ok (.ifCond .eq 12, 3) := by decide +kernel
theorem dX6_generationOf_11 : decode cX6_generationOf 11 = .ok (.iload_n 2, 1) := by decide +kernel
theorem dX6_generationOf_12 : decode cX6_generationOf 12 = .ok (.iconst 0, 1) := by decide +kernel
theorem dX6_generationOf_13 : decode cX6_generationOf 13 = .ok (.iconst 5, 1) := by decide +kernel
theorem dX6_generationOf_14 : decode cX6_generationOf 14 = .ok (.invokestatic 80, 3) := by decide +kernel
theorem dX6_generationOf_17 : decode cX6_generationOf 17 = .ok (.ifCond .ne 6, 3) := by decide +kernel
theorem dX6_generationOf_20 : decode cX6_generationOf 20 = .ok (.ldc 84, 2) := by decide +kernel
theorem dX6_generationOf_22 : decode cX6_generationOf 22 = .ok (.ireturn, 1) := by decide +kernel
theorem dX6_generationOf_23 : decode cX6_generationOf 23 = .ok (.aload_n 0, 1) := by decide +kernel
theorem dX6_generationOf_24 : decode cX6_generationOf 24 = .ok (.getfield 15, 3) := by decide +kernel
theorem dX6_generationOf_27 : decode cX6_generationOf 27 = .ok (.iload_n 1, 1) := by decide +kernel
theorem dX6_generationOf_28 : decode cX6_generationOf 28 = .ok (.iload_n 2, 1) := by decide +kernel
theorem dX6_generationOf_29 : decode cX6_generationOf 29 = .ok (.invokevirtual 91, 3) := by decide +kernel
theorem dX6_generationOf_32 : decode cX6_generationOf 32 = .ok (.ireturn, 1) := by decide +kernel
theorem dX6_ancestor_0 : decode cX6_ancestor 0 = .ok (.aload_n 0, 1) := by decide +kernel
theorem dX6_ancestor_1 : decode cX6_ancestor 1 = .ok (.getfield 15, 3) := by decide +kernel
theorem dX6_ancestor_4 : decode cX6_ancestor 4 = .ok (.iload_n 1, 1) := by decide +kernel
theorem dX6_ancestor_5 : decode cX6_ancestor 5 = .ok (.invokevirtual 76, 3) := by decide +kernel
theorem dX6_ancestor_8 : decode cX6_ancestor 8 = .ok (.ifCond .eq 23, 3) := by decide +kernel
theorem dX6_ancestor_11 : decode cX6_ancestor 11 = .ok (.aload_n 0, 1) := by decide +kernel
theorem dX6_ancestor_12 : decode cX6_ancestor 12 = .ok (.getfield 15, 3) := by decide +kernel
theorem dX6_ancestor_15 : decode cX6_ancestor 15 = .ok (.iload_n 2, 1) := by decide +kernel
theorem dX6_ancestor_16 : decode cX6_ancestor 16 = .ok (.invokevirtual 88, 3) := by decide +kernel
theorem dX6_ancestor_19 : decode cX6_ancestor 19 = .ok (.ifCond .eq 12, 3) := by decide +kernel
theorem dX6_ancestor_22 : decode cX6_ancestor 22 = .ok (.iload_n 3, 1) := by decide +kernel
theorem dX6_ancestor_23 : decode cX6_ancestor 23 = .ok (.iconst 0, 1) := by decide +kernel
theorem dX6_ancestor_24 : decode cX6_ancestor 24 = .ok (.iconst 1, 1) := by decide +kernel
theorem dX6_ancestor_25 : decode cX6_ancestor 25 = .ok (.invokestatic 80, 3) := by decide +kernel
theorem dX6_ancestor_28 : decode cX6_ancestor 28 = .ok (.ifCond .ne 6, 3) := by decide +kernel
theorem dX6_ancestor_31 : decode cX6_ancestor 31 = .ok (.ldc 84, 2) := by decide +kernel
theorem dX6_ancestor_33 : decode cX6_ancestor 33 = .ok (.ireturn, 1) := by decide +kernel
theorem dX6_ancestor_34 : decode cX6_ancestor 34 = .ok (.aload_n 0, 1) := by decide +kernel
theorem dX6_ancestor_35 : decode cX6_ancestor 35 = .ok (.getfield 15, 3) := by decide +kernel
theorem dX6_ancestor_38 : decode cX6_ancestor 38 = .ok (.iload_n 1, 1) := by decide +kernel
theorem dX6_ancestor_39 : decode cX6_ancestor 39 = .ok (.iload_n 2, 1) := by decide +kernel
theorem dX6_ancestor_40 : decode cX6_ancestor 40 = .ok (.iload_n 3, 1) := by decide +kernel
theorem dX6_ancestor_41 : decode cX6_ancestor 41 = .ok (.invokevirtual 94, 3) := by decide +kernel
theorem dX6_ancestor_44 : decode cX6_ancestor 44 = .ok (.ireturn, 1) := by decide +kernel
theorem dX6_common_0 : decode cX6_common 0 = .ok (.aload_n 0, 1) := by decide +kernel
theorem dX6_common_1 : decode cX6_common 1 = .ok (.getfield 15, 3) := by decide +kernel
theorem dX6_common_4 : decode cX6_common 4 = .ok (.iload_n 1, 1) := by decide +kernel
theorem dX6_common_5 : decode cX6_common 5 = .ok (.invokevirtual 76, 3) := by decide +kernel
theorem dX6_common_8 : decode cX6_common 8 = .ok (.ifCond .eq 14, 3) := by decide +kernel
theorem dX6_common_11 : decode cX6_common 11 = .ok (.aload_n 0, 1) := by decide +kernel
theorem dX6_common_12 : decode cX6_common 12 = .ok (.getfield 15, 3) := by decide +kernel
theorem dX6_common_15 : decode cX6_common 15 = .ok (.iload_n 2, 1) := by decide +kernel
theorem dX6_common_16 : decode cX6_common 16 = .ok (.invokevirtual 76, 3) := by decide +kernel
theorem dX6_common_19 : decode cX6_common 19 = .ok (.ifCond .ne 6, 3) := by decide +kernel
theorem dX6_common_22 : decode cX6_common 22 = .ok (.ldc 84, 2) := by decide +kernel
theorem dX6_common_24 : decode cX6_common 24 = .ok (.ireturn, 1) := by decide +kernel
theorem dX6_common_25 : decode cX6_common 25 = .ok (.aload_n 0, 1) := by decide +kernel
theorem dX6_common_26 : decode cX6_common 26 = .ok (.getfield 15, 3) := by decide +kernel
theorem dX6_common_29 : decode cX6_common 29 = .ok (.iload_n 1, 1) := by decide +kernel
theorem dX6_common_30 : decode cX6_common 30 = .ok (.iload_n 2, 1) := by decide +kernel
theorem dX6_common_31 : decode cX6_common 31 = .ok (.invokevirtual 97, 3) := by decide +kernel
theorem dX6_common_34 : decode cX6_common 34 = .ok (.ireturn, 1) := by decide +kernel
theorem dX6_root_0 : decode cX6_root 0 = .ok (.aload_n 0, 1) := by decide +kernel
theorem dX6_root_1 : decode cX6_root 1 = .ok (.getfield 15, 3) := by decide +kernel
theorem dX6_root_4 : decode cX6_root 4 = .ok (.invokevirtual 100, 3) := by decide +kernel
theorem dX6_root_7 : decode cX6_root 7 = .ok (.ireturn, 1) := by decide +kernel
theorem dX6_mean_0 : decode cX6_mean 0 = .ok (.aload_n 0, 1) := by decide +kernel
theorem dX6_mean_1 : decode cX6_mean 1 = .ok (.getfield 15, 3) := by decide +kernel
theorem dX6_mean_4 : decode cX6_mean 4 = .ok (.iload_n 1, 1) := by decide +kernel
theorem dX6_mean_5 : decode cX6_mean 5 = .ok (.invokevirtual 88, 3) := by decide +kernel
theorem dX6_mean_8 : decode cX6_mean 8 = .ok (.ifCond .eq 12, 3) := by decide +kernel
theorem dX6_mean_11 : decode cX6_mean 11 = .ok (.iload_n 2, 1) := by decide +kernel
theorem dX6_mean_12 : decode cX6_mean 12 = .ok (.iconst 0, 1) := by decide +kernel
theorem dX6_mean_13 : decode cX6_mean 13 = .ok (.iconst 1, 1) := by decide +kernel
theorem dX6_mean_14 : decode cX6_mean 14 = .ok (.invokestatic 80, 3) := by decide +kernel
theorem dX6_mean_17 : decode cX6_mean 17 = .ok (.ifCond .ne 6, 3) := by decide +kernel
theorem dX6_mean_20 : decode cX6_mean 20 = .ok (.ldc 84, 2) := by decide +kernel
theorem dX6_mean_22 : decode cX6_mean 22 = .ok (.ireturn, 1) := by decide +kernel
theorem dX6_mean_23 : decode cX6_mean 23 = .ok (.aload_n 0, 1) := by decide +kernel
theorem dX6_mean_24 : decode cX6_mean 24 = .ok (.getfield 15, 3) := by decide +kernel
theorem dX6_mean_27 : decode cX6_mean 27 = .ok (.iload_n 1, 1) := by decide +kernel
theorem dX6_mean_28 : decode cX6_mean 28 = .ok (.iload_n 2, 1) := by decide +kernel
theorem dX6_mean_29 : decode cX6_mean 29 = .ok (.invokevirtual 103, 3) := by decide +kernel
theorem dX6_mean_32 : decode cX6_mean 32 = .ok (.ireturn, 1) := by decide +kernel
theorem dX6_share_0 : decode cX6_share 0 = .ok (.aload_n 0, 1) := by decide +kernel
theorem dX6_share_1 : decode cX6_share 1 = .ok (.getfield 15, 3) := by decide +kernel
theorem dX6_share_4 : decode cX6_share 4 = .ok (.iload_n 1, 1) := by decide +kernel
theorem dX6_share_5 : decode cX6_share 5 = .ok (.invokevirtual 88, 3) := by decide +kernel
theorem dX6_share_8 : decode cX6_share 8 = .ok (.ifCond .eq 33, 3) := by decide +kernel
theorem dX6_share_11 : decode cX6_share 11 = .ok (.iload_n 2, 1) := by decide +kernel
theorem dX6_share_12 : decode cX6_share 12 = .ok (.iconst 0, 1) := by decide +kernel
theorem dX6_share_13 : decode cX6_share 13 = .ok (.bipush 99, 2) := by decide +kernel
theorem dX6_share_15 : decode cX6_share 15 = .ok (.invokestatic 80, 3) := by decide +kernel
theorem dX6_share_18 : decode cX6_share 18 = .ok (.ifCond .eq 23, 3) := by decide +kernel
theorem dX6_share_21 : decode cX6_share 21 = .ok (.iload_n 3, 1) := by decide +kernel
theorem dX6_share_22 : decode cX6_share 22 = .ok (.iconst 0, 1) := by decide +kernel
theorem dX6_share_23 : decode cX6_share 23 = .ok (.bipush 99, 2) := by decide +kernel
theorem dX6_share_25 : decode cX6_share 25 = .ok (.invokestatic 80, 3) := by decide +kernel
theorem dX6_share_28 : decode cX6_share 28 = .ok (.ifCond .eq 13, 3) := by decide +kernel
theorem dX6_share_31 : decode cX6_share 31 = .ok (.iload 4, 2) := by decide +kernel
theorem dX6_share_33 : decode cX6_share 33 = .ok (.iconst 0, 1) := by decide +kernel
theorem dX6_share_34 : decode cX6_share 34 = .ok (.iconst 1, 1) := by decide +kernel
theorem dX6_share_35 : decode cX6_share 35 = .ok (.invokestatic 80, 3) := by decide +kernel
theorem dX6_share_38 : decode cX6_share 38 = .ok (.ifCond .ne 6, 3) := by decide +kernel
theorem dX6_share_41 : decode cX6_share 41 = .ok (.ldc 84, 2) := by decide +kernel
theorem dX6_share_43 : decode cX6_share 43 = .ok (.ireturn, 1) := by decide +kernel
theorem dX6_share_44 : decode cX6_share 44 = .ok (.aload_n 0, 1) := by decide +kernel
theorem dX6_share_45 : decode cX6_share 45 = .ok (.getfield 15, 3) := by decide +kernel
theorem dX6_share_48 : decode cX6_share 48 = .ok (.iload_n 1, 1) := by decide +kernel
theorem dX6_share_49 : decode cX6_share 49 = .ok (.iload_n 2, 1) := by decide +kernel
theorem dX6_share_50 : decode cX6_share 50 = .ok (.iload_n 3, 1) := by decide +kernel
theorem dX6_share_51 : decode cX6_share 51 = .ok (.iload 4, 2) := by decide +kernel
theorem dX6_share_53 : decode cX6_share 53 = .ok (.invokevirtual 106, 3) := by decide +kernel
theorem dX6_share_56 : decode cX6_share 56 = .ok (.ireturn, 1) := by decide +kernel
theorem dX6_would_0 : decode cX6_would 0 = .ok (.iload_n 1, 1) := by decide +kernel
theorem dX6_would_1 : decode cX6_would 1 = .ok (.iconst 0, 1) := by decide +kernel
theorem dX6_would_2 : decode cX6_would 2 = .ok (.iconst 2, 1) := by decide +kernel
theorem dX6_would_3 : decode cX6_would 3 = .ok (.invokestatic 80, 3) := by decide +kernel
theorem dX6_would_6 : decode cX6_would 6 = .ok (.ifCond .eq 14, 3) := by decide +kernel
theorem dX6_would_9 : decode cX6_would 9 = .ok (.aload_n 0, 1) := by decide +kernel
theorem dX6_would_10 : decode cX6_would 10 = .ok (.getfield 15, 3) := by decide +kernel
theorem dX6_would_13 : decode cX6_would 13 = .ok (.iload_n 2, 1) := by decide +kernel
theorem dX6_would_14 : decode cX6_would 14 = .ok (.invokevirtual 76, 3) := by decide +kernel
theorem dX6_would_17 : decode cX6_would 17 = .ok (.ifCond .ne 6, 3) := by decide +kernel
theorem dX6_would_20 : decode cX6_would 20 = .ok (.ldc 84, 2) := by decide +kernel
theorem dX6_would_22 : decode cX6_would 22 = .ok (.ireturn, 1) := by decide +kernel
theorem dX6_would_23 : decode cX6_would 23 = .ok (.aload_n 0, 1) := by decide +kernel
theorem dX6_would_24 : decode cX6_would 24 = .ok (.getfield 15, 3) := by decide +kernel
theorem dX6_would_27 : decode cX6_would 27 = .ok (.iload_n 1, 1) := by decide +kernel
theorem dX6_would_28 : decode cX6_would 28 = .ok (.iload_n 2, 1) := by decide +kernel
theorem dX6_would_29 : decode cX6_would 29 = .ok (.invokevirtual 110, 3) := by decide +kernel
theorem dX6_would_32 : decode cX6_would 32 = .ok (.ireturn, 1) := by decide +kernel
theorem dX6_count_0 : decode cX6_count 0 = .ok (.iload_n 1, 1) := by decide +kernel
theorem dX6_count_1 : decode cX6_count 1 = .ok (.bipush 9, 2) := by decide +kernel
theorem dX6_count_3 : decode cX6_count 3 = .ok (.if_icmp .ne 8, 3) := by decide +kernel
theorem dX6_count_6 : decode cX6_count 6 = .ok (.aload_n 0, 1) := by decide +kernel
theorem dX6_count_7 : decode cX6_count 7 = .ok (.getfield 36, 3) := by decide +kernel
theorem dX6_count_10 : decode cX6_count 10 = .ok (.ireturn, 1) := by decide +kernel
theorem dX6_count_11 : decode cX6_count 11 = .ok (.iload_n 1, 1) := by decide +kernel
theorem dX6_count_12 : decode cX6_count 12 = .ok (.bipush 10, 2) := by decide +kernel
theorem dX6_count_14 : decode cX6_count 14 = .ok (.if_icmp .ne 11, 3) := by decide +kernel
theorem dX6_count_17 : decode cX6_count 17 = .ok (.aload_n 0, 1) := by decide +kernel
theorem dX6_count_18 : decode cX6_count 18 = .ok (.getfield 43, 3) := by decide +kernel
theorem dX6_count_21 : decode cX6_count 21 = .ok (.invokevirtual 113, 3) := by decide +kernel
theorem dX6_count_24 : decode cX6_count 24 = .ok (.ireturn, 1) := by decide +kernel
theorem dX6_count_25 : decode cX6_count 25 = .ok (.aload_n 0, 1) := by decide +kernel
theorem dX6_count_26 : decode cX6_count 26 = .ok (.getfield 15, 3) := by decide +kernel
theorem dX6_count_29 : decode cX6_count 29 = .ok (.iload_n 1, 1) := by decide +kernel
theorem dX6_count_30 : decode cX6_count 30 = .ok (.invokevirtual 116, 3) := by decide +kernel
theorem dX6_count_33 : decode cX6_count 33 = .ok (.ireturn, 1) := by decide +kernel
theorem dX6_undo_0 : decode cX6_undo 0 = .ok (.aload_n 0, 1) := by decide +kernel
theorem dX6_undo_1 : decode cX6_undo 1 = .ok (.getfield 36, 3) := by decide +kernel
theorem dX6_undo_4 : decode cX6_undo 4 = .ok (.ifCond .gt 6, 3) := by decide +kernel
theorem dX6_undo_7 : decode cX6_undo 7 = .ok (.ldc 119, 2) := by decide +kernel
theorem dX6_undo_9 : decode cX6_undo 9 = .ok (.ireturn, 1) := by decide +kernel
theorem dX6_undo_10 : decode cX6_undo 10 = .ok (.aload_n 0, 1) := by decide +kernel
theorem dX6_undo_11 : decode cX6_undo 11 = .ok (.getfield 15, 3) := by decide +kernel
theorem dX6_undo_14 : decode cX6_undo 14 = .ok (.astore_n 1, 1) := by decide +kernel
theorem dX6_undo_15 : decode cX6_undo 15 = .ok (.aload_n 0, 1) := by decide +kernel
theorem dX6_undo_16 : decode cX6_undo 16 = .ok (.aload_n 0, 1) := by decide +kernel
theorem dX6_undo_17 : decode cX6_undo 17 = .ok (.getfield 24, 3) := by decide +kernel
theorem dX6_undo_20 : decode cX6_undo 20 = .ok (.putfield 15, 3) := by decide +kernel
theorem dX6_undo_23 : decode cX6_undo 23 = .ok (.aload_n 0, 1) := by decide +kernel
theorem dX6_undo_24 : decode cX6_undo 24 = .ok (.aload_n 0, 1) := by decide +kernel
theorem dX6_undo_25 : decode cX6_undo 25 = .ok (.getfield 27, 3) := by decide +kernel
theorem dX6_undo_28 : decode cX6_undo 28 = .ok (.putfield 24, 3) := by decide +kernel
theorem dX6_undo_31 : decode cX6_undo 31 = .ok (.aload_n 0, 1) := by decide +kernel
theorem dX6_undo_32 : decode cX6_undo 32 = .ok (.aload_n 0, 1) := by decide +kernel
theorem dX6_undo_33 : decode cX6_undo 33 = .ok (.getfield 30, 3) := by decide +kernel
theorem dX6_undo_36 : decode cX6_undo 36 = .ok (.putfield 27, 3) := by decide +kernel
theorem dX6_undo_39 : decode cX6_undo 39 = .ok (.aload_n 0, 1) := by decide +kernel
theorem dX6_undo_40 : decode cX6_undo 40 = .ok (.aload_n 0, 1) := by decide +kernel
theorem dX6_undo_41 : decode cX6_undo 41 = .ok (.getfield 33, 3) := by decide +kernel
theorem dX6_undo_44 : decode cX6_undo 44 = .ok (.putfield 30, 3) := by decide +kernel
theorem dX6_undo_47 : decode cX6_undo 47 = .ok (.aload_n 0, 1) := by decide +kernel
theorem dX6_undo_48 : decode cX6_undo 48 = .ok (.aload_n 1, 1) := by decide +kernel
theorem dX6_undo_49 : decode cX6_undo 49 = .ok (.putfield 33, 3) := by decide +kernel
theorem dX6_undo_52 : decode cX6_undo 52 = .ok (.aload_n 0, 1) := by decide +kernel
theorem dX6_undo_53 : decode cX6_undo 53 = .ok (.dup, 1) := by decide +kernel
theorem dX6_undo_54 : decode cX6_undo 54 = .ok (.getfield 36, 3) := by decide +kernel
theorem dX6_undo_57 : decode cX6_undo 57 = .ok (.iconst 1, 1) := by decide +kernel
theorem dX6_undo_58 : decode cX6_undo 58 = .ok (.isub, 1) := by decide +kernel
theorem dX6_undo_59 : decode cX6_undo 59 = .ok (.putfield 36, 3) := by decide +kernel
theorem dX6_undo_62 : decode cX6_undo 62 = .ok (.aload_n 0, 1) := by decide +kernel
theorem dX6_undo_63 : decode cX6_undo 63 = .ok (.getfield 36, 3) := by decide +kernel
theorem dX6_undo_66 : decode cX6_undo 66 = .ok (.ireturn, 1) := by decide +kernel
theorem dX6_type_0 : decode cX6_type 0 = .ok (.iload_n 1, 1) := by decide +kernel
theorem dX6_type_1 : decode cX6_type 1 = .ok (.bipush 32, 2) := by decide +kernel
theorem dX6_type_3 : decode cX6_type 3 = .ok (.bipush 126, 2) := by decide +kernel
theorem dX6_type_5 : decode cX6_type 5 = .ok (.invokestatic 80, 3) := by decide +kernel
theorem dX6_type_8 : decode cX6_type 8 = .ok (.ifCond .ne 6, 3) := by decide +kernel
theorem dX6_type_11 : decode cX6_type 11 = .ok (.ldc 84, 2) := by decide +kernel
theorem dX6_type_13 : decode cX6_type 13 = .ok (.ireturn, 1) := by decide +kernel
theorem dX6_type_14 : decode cX6_type 14 = .ok (.aload_n 0, 1) := by decide +kernel
theorem dX6_type_15 : decode cX6_type 15 = .ok (.getfield 43, 3) := by decide +kernel
theorem dX6_type_18 : decode cX6_type 18 = .ok (.iload_n 1, 1) := by decide +kernel
theorem dX6_type_19 : decode cX6_type 19 = .ok (.invokevirtual 120, 3) := by decide +kernel
theorem dX6_type_22 : decode cX6_type 22 = .ok (.ireturn, 1) := by decide +kernel
theorem dX6_clearText_0 : decode cX6_clearText 0 = .ok (.aload_n 0, 1) := by decide +kernel
theorem dX6_clearText_1 : decode cX6_clearText 1 = .ok (.getfield 43, 3) := by decide +kernel
theorem dX6_clearText_4 : decode cX6_clearText 4 = .ok (.invokevirtual 123, 3) := by decide +kernel
theorem dX6_clearText_7 : decode cX6_clearText 7 = .ok (.ireturn, 1) := by decide +kernel
theorem dX6_fault_0 : decode cX6_fault 0 = .ok (.iload_n 1, 1) := by decide +kernel
theorem dX6_fault_1 : decode cX6_fault 1 = .ok (.iconst 0, 1) := by decide +kernel
theorem dX6_fault_2 : decode cX6_fault 2 = .ok (.iconst 2, 1) := by decide +kernel
theorem dX6_fault_3 : decode cX6_fault 3 = .ok (.invokestatic 80, 3) := by decide +kernel
theorem dX6_fault_6 : decode cX6_fault 6 = .ok (.ifCond .ne 6, 3) := by decide +kernel
theorem dX6_fault_9 : decode cX6_fault 9 = .ok (.ldc 84, 2) := by decide +kernel
theorem dX6_fault_11 : decode cX6_fault 11 = .ok (.ireturn, 1) := by decide +kernel
theorem dX6_fault_12 : decode cX6_fault 12 = .ok (.aload_n 0, 1) := by decide +kernel
theorem dX6_fault_13 : decode cX6_fault 13 = .ok (.getfield 21, 3) := by decide +kernel
theorem dX6_fault_16 : decode cX6_fault 16 = .ok (.aload_n 0, 1) := by decide +kernel
theorem dX6_fault_17 : decode cX6_fault 17 = .ok (.getfield 15, 3) := by decide +kernel
theorem dX6_fault_20 : decode cX6_fault 20 = .ok (.invokevirtual 47, 3) := by decide +kernel
theorem dX6_fault_23 : decode cX6_fault 23 = .ok (.aload_n 0, 1) := by decide +kernel
theorem dX6_fault_24 : decode cX6_fault 24 = .ok (.getfield 43, 3) := by decide +kernel
theorem dX6_fault_27 : decode cX6_fault 27 = .ok (.aload_n 0, 1) := by decide +kernel
theorem dX6_fault_28 : decode cX6_fault 28 = .ok (.getfield 21, 3) := by decide +kernel
theorem dX6_fault_31 : decode cX6_fault 31 = .ok (.invokevirtual 126, 3) := by decide +kernel
theorem dX6_fault_34 : decode cX6_fault 34 = .ok (.ifCond .eq 6, 3) := by decide +kernel
theorem dX6_fault_37 : decode cX6_fault 37 = .ok (.ldc 130, 2) := by decide +kernel
theorem dX6_fault_39 : decode cX6_fault 39 = .ok (.ireturn, 1) := by decide +kernel
theorem dX6_fault_40 : decode cX6_fault 40 = .ok (.aload_n 0, 1) := by decide +kernel
theorem dX6_fault_41 : decode cX6_fault 41 = .ok (.getfield 43, 3) := by decide +kernel
theorem dX6_fault_44 : decode cX6_fault 44 = .ok (.iload_n 1, 1) := by decide +kernel
theorem dX6_fault_45 : decode cX6_fault 45 = .ok (.invokevirtual 131, 3) := by decide +kernel
theorem dX6_fault_48 : decode cX6_fault 48 = .ok (.ireturn, 1) := by decide +kernel
theorem dX6_play_0 : decode cX6_play 0 = .ok (.aload_n 0, 1) := by decide +kernel
theorem dX6_play_1 : decode cX6_play 1 = .ok (.getfield 21, 3) := by decide +kernel
theorem dX6_play_4 : decode cX6_play 4 = .ok (.aload_n 0, 1) := by decide +kernel
theorem dX6_play_5 : decode cX6_play 5 = .ok (.getfield 15, 3) := by decide +kernel
theorem dX6_play_8 : decode cX6_play 8 = .ok (.invokevirtual 47, 3) := by decide +kernel
theorem dX6_play_11 : decode cX6_play 11 = .ok (.aload_n 0, 1) := by decide +kernel
theorem dX6_play_12 : decode cX6_play 12 = .ok (.getfield 43, 3) := by decide +kernel
theorem dX6_play_15 : decode cX6_play 15 = .ok (.aload_n 0, 1) := by decide +kernel
theorem dX6_play_16 : decode cX6_play 16 = .ok (.getfield 21, 3) := by decide +kernel
theorem dX6_play_19 : decode cX6_play 19 = .ok (.invokevirtual 126, 3) := by decide +kernel
theorem dX6_play_22 : decode cX6_play 22 = .ok (.ifCond .ne 6, 3) := by decide +kernel
theorem dX6_play_25 : decode cX6_play 25 = .ok (.ldc 119, 2) := by decide +kernel
theorem dX6_play_27 : decode cX6_play 27 = .ok (.ireturn, 1) := by decide +kernel
theorem dX6_play_28 : decode cX6_play 28 = .ok (.aload_n 0, 1) := by decide +kernel
theorem dX6_play_29 : decode cX6_play 29 = .ok (.aload_n 0, 1) := by decide +kernel
theorem dX6_play_30 : decode cX6_play 30 = .ok (.getfield 43, 3) := by decide +kernel
theorem dX6_play_33 : decode cX6_play 33 = .ok (.invokevirtual 134, 3) := by decide +kernel
theorem dX6_play_36 : decode cX6_play 36 = .ok (.invokevirtual 55, 3) := by decide +kernel
theorem dX6_play_39 : decode cX6_play 39 = .ok (.ireturn, 1) := by decide +kernel
theorem dX6_keepDraftUnlessError_0 : decode cX6_keepDraftUnlessError 0 = .ok (.iload_n 1, 1) := by decide +kernel
theorem dX6_keepDraftUnlessError_1 : decode cX6_keepDraftUnlessError 1 = .ok (.ifCond .ge 5, 3) := by decide +kernel
theorem dX6_keepDraftUnlessError_4 : decode cX6_keepDraftUnlessError 4 = .ok (.iload_n 1, 1) := by decide +kernel
theorem dX6_keepDraftUnlessError_5 : decode cX6_keepDraftUnlessError 5 = .ok (.ireturn, 1) := by decide +kernel
theorem dX6_keepDraftUnlessError_6 : decode cX6_keepDraftUnlessError 6 = .ok (.aload_n 0, 1) := by decide +kernel
theorem dX6_keepDraftUnlessError_7 : decode cX6_keepDraftUnlessError 7 = .ok (.getfield 33, 3) := by decide +kernel
theorem dX6_keepDraftUnlessError_10 : decode cX6_keepDraftUnlessError 10 = .ok (.astore_n 2, 1) := by decide +kernel
theorem dX6_keepDraftUnlessError_11 : decode cX6_keepDraftUnlessError 11 = .ok (.aload_n 0, 1) := by decide +kernel
theorem dX6_keepDraftUnlessError_12 : decode cX6_keepDraftUnlessError 12 = .ok (.aload_n 0, 1) := by decide +kernel
theorem dX6_keepDraftUnlessError_13 : decode cX6_keepDraftUnlessError 13 = .ok (.getfield 30, 3) := by decide +kernel
theorem dX6_keepDraftUnlessError_16 : decode cX6_keepDraftUnlessError 16 = .ok (.putfield 33, 3) := by decide +kernel
theorem dX6_keepDraftUnlessError_19 : decode cX6_keepDraftUnlessError 19 = .ok (.aload_n 0, 1) := by decide +kernel
theorem dX6_keepDraftUnlessError_20 : decode cX6_keepDraftUnlessError 20 = .ok (.aload_n 0, 1) := by decide +kernel
theorem dX6_keepDraftUnlessError_21 : decode cX6_keepDraftUnlessError 21 = .ok (.getfield 27, 3) := by decide +kernel
theorem dX6_keepDraftUnlessError_24 : decode cX6_keepDraftUnlessError 24 = .ok (.putfield 30, 3) := by decide +kernel
theorem dX6_keepDraftUnlessError_27 : decode cX6_keepDraftUnlessError 27 = .ok (.aload_n 0, 1) := by decide +kernel
theorem dX6_keepDraftUnlessError_28 : decode cX6_keepDraftUnlessError 28 = .ok (.aload_n 0, 1) := by decide +kernel
theorem dX6_keepDraftUnlessError_29 : decode cX6_keepDraftUnlessError 29 = .ok (.getfield 24, 3) := by decide +kernel
theorem dX6_keepDraftUnlessError_32 : decode cX6_keepDraftUnlessError 32 = .ok (.putfield 27, 3) := by decide +kernel
theorem dX6_keepDraftUnlessError_35 : decode cX6_keepDraftUnlessError 35 = .ok (.aload_n 0, 1) := by decide +kernel
theorem dX6_keepDraftUnlessError_36 : decode cX6_keepDraftUnlessError 36 = .ok (.aload_n 0, 1) := by decide +kernel
theorem dX6_keepDraftUnlessError_37 : decode cX6_keepDraftUnlessError 37 = .ok (.getfield 15, 3) := by decide +kernel
theorem dX6_keepDraftUnlessError_40 : decode cX6_keepDraftUnlessError 40 = .ok (.putfield 24, 3) := by decide +kernel
theorem dX6_keepDraftUnlessError_43 : decode cX6_keepDraftUnlessError 43 = .ok (.aload_n 0, 1) := by decide +kernel
theorem dX6_keepDraftUnlessError_44 : decode cX6_keepDraftUnlessError 44 = .ok (.aload_n 0, 1) := by decide +kernel
theorem dX6_keepDraftUnlessError_45 : decode cX6_keepDraftUnlessError 45 = .ok (.getfield 21, 3) := by decide +kernel
theorem dX6_keepDraftUnlessError_48 : decode cX6_keepDraftUnlessError 48 = .ok (.putfield 15, 3) := by decide +kernel
theorem dX6_keepDraftUnlessError_51 : decode cX6_keepDraftUnlessError 51 = .ok (.aload_n 0, 1) := by decide +kernel
theorem dX6_keepDraftUnlessError_52 : decode cX6_keepDraftUnlessError 52 = .ok (.aload_n 2, 1) := by decide +kernel
theorem dX6_keepDraftUnlessError_53 : decode cX6_keepDraftUnlessError 53 = .ok (.putfield 21, 3) := by decide +kernel
theorem dX6_keepDraftUnlessError_56 : decode cX6_keepDraftUnlessError 56 = .ok (.aload_n 0, 1) := by decide +kernel
theorem dX6_keepDraftUnlessError_57 : decode cX6_keepDraftUnlessError 57 = .ok (.aload_n 0, 1) := by decide +kernel
theorem dX6_keepDraftUnlessError_58 : decode cX6_keepDraftUnlessError 58 = .ok (.getfield 36, 3) := by decide +kernel
theorem dX6_keepDraftUnlessError_61 : decode cX6_keepDraftUnlessError 61 = .ok (.iconst 1, 1) := by decide +kernel
theorem dX6_keepDraftUnlessError_62 : decode cX6_keepDraftUnlessError 62 = .ok (.iadd, 1) := by decide +kernel
theorem dX6_keepDraftUnlessError_63 : decode cX6_keepDraftUnlessError 63 = .ok (.iconst 4, 1) := by decide +kernel
theorem dX6_keepDraftUnlessError_64 : decode cX6_keepDraftUnlessError 64 = .ok (.invokestatic 137, 3) := by decide +kernel
theorem dX6_keepDraftUnlessError_67 : decode cX6_keepDraftUnlessError 67 = .ok (.putfield 36, 3) := by decide +kernel
theorem dX6_keepDraftUnlessError_70 : decode cX6_keepDraftUnlessError 70 = .ok (.iload_n 1, 1) := by decide +kernel
theorem dX6_keepDraftUnlessError_71 : decode cX6_keepDraftUnlessError 71 = .ok (.ireturn, 1) := by decide +kernel
theorem dX6_isWithin_0 : decode cX6_isWithin 0 = .ok (.iload_n 0, 1) := by decide +kernel
theorem dX6_isWithin_1 : decode cX6_isWithin 1 = .ok (.iload_n 1, 1) := by decide +kernel
theorem dX6_isWithin_2 : decode cX6_isWithin 2 = .ok (.if_icmp .lt 12, 3) := by decide +kernel
theorem dX6_isWithin_5 : decode cX6_isWithin 5 = .ok (.iload_n 0, 1) := by decide +kernel
theorem dX6_isWithin_6 : decode cX6_isWithin 6 = .ok (.iload_n 2, 1) := by decide +kernel
theorem dX6_isWithin_7 : decode cX6_isWithin 7 = .ok (.if_icmp .gt 7, 3) := by decide +kernel
theorem dX6_isWithin_10 : decode cX6_isWithin 10 = .ok (.iconst 1, 1) := by decide +kernel
theorem dX6_isWithin_11 : decode cX6_isWithin 11 = .ok (.goto 4, 3) := by decide +kernel
theorem dX6_isWithin_14 : decode cX6_isWithin 14 = .ok (.iconst 0, 1) := by decide +kernel
theorem dX6_isWithin_15 : decode cX6_isWithin 15 = .ok (.ireturn, 1) := by decide +kernel
theorem dX6_nearestPlace_0 : decode cX6_nearestPlace 0 = .ok (.iconst 0, 1) := by decide +kernel
theorem dX6_nearestPlace_1 : decode cX6_nearestPlace 1 = .ok (.bipush 99, 2) := by decide +kernel
theorem dX6_nearestPlace_3 : decode cX6_nearestPlace 3 = .ok (.iload_n 0, 1) := by decide +kernel
theorem dX6_nearestPlace_4 : decode cX6_nearestPlace 4 = .ok (.invokestatic 137, 3) := by decide +kernel
theorem dX6_nearestPlace_7 : decode cX6_nearestPlace 7 = .ok (.invokestatic 142, 3) := by decide +kernel
theorem dX6_nearestPlace_10 : decode cX6_nearestPlace 10 = .ok (.ireturn, 1) := by decide +kernel
theorem dX6_noiseBehind_0 : decode cX6_noiseBehind 0 = .ok (.iload_n 0, 1) := by decide +kernel
theorem dX6_noiseBehind_1 : decode cX6_noiseBehind 1 = .ok (.bipush 75, 2) := by decide +kernel
theorem dX6_noiseBehind_3 : decode cX6_noiseBehind 3 = .ok (.imul, 1) := by decide +kernel
theorem dX6_noiseBehind_4 : decode cX6_noiseBehind 4 = .ok (.bipush 74, 2) := by decide +kernel
theorem dX6_noiseBehind_6 : decode cX6_noiseBehind 6 = .ok (.iadd, 1) := by decide +kernel
theorem dX6_noiseBehind_7 : decode cX6_noiseBehind 7 = .ok (.ldc 145, 2) := by decide +kernel
theorem dX6_noiseBehind_9 : decode cX6_noiseBehind 9 = .ok (.irem, 1) := by decide +kernel
theorem dX6_noiseBehind_10 : decode cX6_noiseBehind 10 = .ok (.ireturn, 1) := by decide +kernel
theorem dX6_commonDivisor_0 : decode cX6_commonDivisor 0 = .ok (.lload_n 0, 1) := by decide +kernel
theorem dX6_commonDivisor_1 : decode cX6_commonDivisor 1 = .ok (.lstore 4, 2) := by decide +kernel
theorem dX6_commonDivisor_3 : decode cX6_commonDivisor 3 = .ok (.lload_n 2, 1) := by decide +kernel
theorem dX6_commonDivisor_4 : decode cX6_commonDivisor 4 = .ok (.lstore 6, 2) := by decide +kernel
theorem dX6_commonDivisor_6 : decode cX6_commonDivisor 6 = .ok (.iconst 0, 1) := by decide +kernel
theorem dX6_commonDivisor_7 : decode cX6_commonDivisor 7 = .ok (.istore 8, 2) := by decide +kernel
theorem dX6_commonDivisor_9 : decode cX6_commonDivisor 9 = .ok (.iload 8, 2) := by decide +kernel
theorem dX6_commonDivisor_11 : decode cX6_commonDivisor 11 = .ok (.sipush 200, 3) := by decide +kernel
theorem dX6_commonDivisor_14 : decode cX6_commonDivisor 14 = .ok (.if_icmp .ge 31, 3) := by decide +kernel
theorem dX6_commonDivisor_17 : decode cX6_commonDivisor 17 = .ok (.lload 6, 2) := by decide +kernel
theorem dX6_commonDivisor_19 : decode cX6_commonDivisor 19 = .ok (.lconst 0, 1) := by decide +kernel
theorem dX6_commonDivisor_20 : decode cX6_commonDivisor 20 = .ok (.lcmp, 1) := by decide +kernel
theorem dX6_commonDivisor_21 : decode cX6_commonDivisor 21 = .ok (.ifCond .le 24, 3) := by decide +kernel
theorem dX6_commonDivisor_24 : decode cX6_commonDivisor 24 = .ok (.lload 4, 2) := by decide +kernel
theorem dX6_commonDivisor_26 : decode cX6_commonDivisor 26 = .ok (.lload 6, 2) := by decide +kernel
theorem dX6_commonDivisor_28 : decode cX6_commonDivisor 28 = .ok (.lrem, 1) := by decide +kernel
theorem dX6_commonDivisor_29 : decode cX6_commonDivisor 29 = .ok (.lstore 9, 2) := by decide +kernel
theorem dX6_commonDivisor_31 : decode cX6_commonDivisor 31 = .ok (.lload 6, 2) := by decide +kernel
theorem dX6_commonDivisor_33 : decode cX6_commonDivisor 33 = .ok (.lstore 4, 2) := by decide +kernel
theorem dX6_commonDivisor_35 : decode cX6_commonDivisor 35 = .ok (.lload 9, 2) := by decide +kernel
theorem dX6_commonDivisor_37 : decode cX6_commonDivisor 37 = .ok (.lstore 6, 2) := by decide +kernel
theorem dX6_commonDivisor_39 : decode cX6_commonDivisor 39 = .ok (.iinc 8 1, 3) := by decide +kernel
theorem dX6_commonDivisor_42 : decode cX6_commonDivisor 42 = .ok (.goto (-33), 3) := by decide +kernel
theorem dX6_commonDivisor_45 : decode cX6_commonDivisor 45 = .ok (.lload 4, 2) := by decide +kernel
theorem dX6_commonDivisor_47 : decode cX6_commonDivisor 47 = .ok (.lreturn, 1) := by decide +kernel
theorem dX6_partInLowestTerms_0 : decode cX6_partInLowestTerms 0 = .ok (.lload_n 0, 1) := by decide +kernel
theorem dX6_partInLowestTerms_1 : decode cX6_partInLowestTerms 1 = .ok (.lload_n 2, 1) := by decide +kernel
theorem dX6_partInLowestTerms_2 : decode cX6_partInLowestTerms 2 = .ok (.invokestatic 146, 3) := by decide +kernel
theorem dX6_partInLowestTerms_5 : decode cX6_partInLowestTerms 5 = .ok (.lstore 5, 2) := by decide +kernel
theorem dX6_partInLowestTerms_7 : decode cX6_partInLowestTerms 7 = .ok (.lload 5, 2) := by decide +kernel
theorem dX6_partInLowestTerms_9 : decode cX6_partInLowestTerms 9 = .ok (.lconst 0, 1) := by decide +kernel
theorem dX6_partInLowestTerms_10 : decode cX6_partInLowestTerms 10 = .ok (.lcmp, 1) := by decide +kernel
theorem dX6_partInLowestTerms_11 : decode cX6_partInLowestTerms 11 = .ok (.ifCond .gt 5, 3) := by decide +kernel
theorem dX6_partInLowestTerms_14 : decode cX6_partInLowestTerms 14 = .ok (.iconst 0, 1) := by decide +kernel
theorem dX6_partInLowestTerms_15 : decode cX6_partInLowestTerms 15 = .ok (.ireturn, 1) := by decide +kernel
theorem dX6_partInLowestTerms_16 : decode cX6_partInLowestTerms 16 = .ok (.iload 4, 2) := by decide +kernel
theorem dX6_partInLowestTerms_18 : decode cX6_partInLowestTerms 18 = .ok (.ifCond .ne 7, 3) := by decide +kernel
theorem dX6_partInLowestTerms_21 : decode cX6_partInLowestTerms 21 = .ok (.lload_n 0, 1) := by decide +kernel
theorem dX6_partInLowestTerms_22 : decode cX6_partInLowestTerms 22 = .ok (.goto 4, 3) := by decide +kernel
theorem dX6_partInLowestTerms_25 : decode cX6_partInLowestTerms 25 = .ok (.lload_n 2, 1) := by decide +kernel
theorem dX6_partInLowestTerms_26 : decode cX6_partInLowestTerms 26 = .ok (.lload 5, 2) := by decide +kernel
theorem dX6_partInLowestTerms_28 : decode cX6_partInLowestTerms 28 = .ok (.ldiv, 1) := by decide +kernel
theorem dX6_partInLowestTerms_29 : decode cX6_partInLowestTerms 29 = .ok (.l2i, 1) := by decide +kernel
theorem dX6_partInLowestTerms_30 : decode cX6_partInLowestTerms 30 = .ok (.ireturn, 1) := by decide +kernel
theorem dX7_init_0 : decode cX7_init 0 = .ok (.aload_n 0, 1) := by decide +kernel
theorem dX7_init_1 : decode cX7_init 1 = .ok (.invokespecial 1, 3) := by decide +kernel
theorem dX7_init_4 : decode cX7_init 4 = .ok (.aload_n 0, 1) := by decide +kernel
theorem dX7_init_5 : decode cX7_init 5 = .ok (.sipush 580, 3) := by decide +kernel
theorem dX7_init_8 : decode cX7_init 8 = .ok (.newarray .int, 2) := by decide +kernel
theorem dX7_init_10 : decode cX7_init 10 = .ok (.putfield 7, 3) := by decide +kernel
theorem dX7_init_13 : decode cX7_init 13 = .ok (.aload_n 0, 1) := by decide +kernel
theorem dX7_init_14 : decode cX7_init 14 = .ok (.sipush 2320, 3) := by decide +kernel
theorem dX7_init_17 : decode cX7_init 17 = .ok (.newarray .int, 2) := by decide +kernel
theorem dX7_init_19 : decode cX7_init 19 = .ok (.putfield 13, 3) := by decide +kernel
theorem dX7_init_22 : decode cX7_init 22 = .ok (.aload_n 0, 1) := by decide +kernel
theorem dX7_init_23 : decode cX7_init 23 = .ok (.sipush 580, 3) := by decide +kernel
theorem dX7_init_26 : decode cX7_init 26 = .ok (.newarray .int, 2) := by decide +kernel
theorem dX7_init_28 : decode cX7_init 28 = .ok (.putfield 16, 3) := by decide +kernel
theorem dX7_init_31 : decode cX7_init 31 = .ok (.aload_n 0, 1) := by decide +kernel
theorem dX7_init_32 : decode cX7_init 32 = .ok (.bipush 60, 2) := by decide +kernel
theorem dX7_init_34 : decode cX7_init 34 = .ok (.newarray .int, 2) := by decide +kernel
theorem dX7_init_36 : decode cX7_init 36 = .ok (.putfield 19, 3) := by decide +kernel
theorem dX7_init_39 : decode cX7_init 39 = .ok (.aload_n 0, 1) := by decide +kernel
theorem dX7_init_40 : decode cX7_init 40 = .ok (.bipush 12, 2) := by decide +kernel
theorem dX7_init_42 : decode cX7_init 42 = .ok (.newarray .int, 2) := by decide +kernel
theorem dX7_init_44 : decode cX7_init 44 = .ok (.putfield 22, 3) := by decide +kernel
theorem dX7_init_47 : decode cX7_init 47 = .ok (.aload_n 0, 1) := by decide +kernel
theorem dX7_init_48 : decode cX7_init 48 = .ok (.bipush 12, 2) := by decide +kernel
theorem dX7_init_50 : decode cX7_init 50 = .ok (.newarray .int, 2) := by decide +kernel
theorem dX7_init_52 : decode cX7_init 52 = .ok (.putfield 25, 3) := by decide +kernel
theorem dX7_init_55 : decode cX7_init 55 = .ok (.aload_n 0, 1) := by decide +kernel
theorem dX7_init_56 : decode cX7_init 56 = .ok (.bipush 12, 2) := by decide +kernel
theorem dX7_init_58 : decode cX7_init 58 = .ok (.newarray .long, 2) := by decide +kernel
theorem dX7_init_60 : decode cX7_init 60 = .ok (.putfield 28, 3) := by decide +kernel
theorem dX7_init_63 : decode cX7_init 63 = .ok (.aload_n 0, 1) := by decide +kernel
theorem dX7_init_64 : decode cX7_init 64 = .ok (.bipush 12, 2) := by decide +kernel
theorem dX7_init_66 : decode cX7_init 66 = .ok (.newarray .int, 2) := by decide +kernel
theorem dX7_init_68 : decode cX7_init 68 = .ok (.putfield 32, 3) := by decide +kernel
theorem dX7_init_71 : decode cX7_init 71 = .ok (.aload_n 0, 1) := by decide +kernel
theorem dX7_init_72 : decode cX7_init 72 = .ok (.iconst 2, 1) := by decide +kernel
theorem dX7_init_73 : decode cX7_init 73 = .ok (.newarray .int, 2) := by decide +kernel
theorem dX7_init_75 : decode cX7_init 75 = .ok (.putfield 35, 3) := by decide +kernel
theorem dX7_init_78 : decode cX7_init 78 = .ok (.aload_n 0, 1) := by decide +kernel
theorem dX7_init_79 : decode cX7_init 79 = .ok (.getfield 7, 3) := by decide +kernel
theorem dX7_init_82 : decode cX7_init 82 = .ok (.iconst 5, 1) := by decide +kernel
theorem dX7_init_83 : decode cX7_init 83 = .ok (.iconst 3, 1) := by decide +kernel
theorem dX7_init_84 : decode cX7_init 84 = .ok (.iastore, 1) := by decide +kernel
theorem dX7_init_85 : decode cX7_init 85 = .ok (.aload_n 0, 1) := by decide +kernel
theorem dX7_init_86 : decode cX7_init 86 = .ok (.getfield 7, 3) := by decide +kernel
theorem dX7_init_89 : decode cX7_init 89 = .ok (.bipush 7, 2) := by decide +kernel
theorem dX7_init_91 : decode cX7_init 91 = .ok (.bipush 50, 2) := by decide +kernel
theorem dX7_init_93 : decode cX7_init 93 = .ok (.iastore, 1) := by decide +kernel
theorem dX7_init_94 : decode cX7_init 94 = .ok (.aload_n 0, 1) := by decide +kernel
theorem dX7_init_95 : decode cX7_init 95 = .ok (.iconst 4, 1) := by decide +kernel
theorem dX7_init_96 : decode cX7_init 96 = .ok (.iconst 0, 1) := by decide +kernel
theorem dX7_init_97 : decode cX7_init 97 = .ok (.bipush 10, 2) := by decide +kernel
theorem dX7_init_99 : decode cX7_init 99 = .ok (.invokevirtual 38, 3) := by decide +kernel
theorem dX7_init_102 : decode cX7_init 102 = .ok (.return_, 1) := by decide +kernel
theorem dX7_in_0 : decode cX7_in 0 = .ok (.iload_n 0, 1) := by decide +kernel
theorem dX7_in_1 : decode cX7_in 1 = .ok (.iload_n 1, 1) := by decide +kernel
theorem dX7_in_2 : decode cX7_in 2 = .ok (.if_icmp .lt 12, 3) := by decide +kernel
theorem dX7_in_5 : decode cX7_in 5 = .ok (.iload_n 0, 1) := by decide +kernel
theorem dX7_in_6 : decode cX7_in 6 = .ok (.iload_n 2, 1) := by decide +kernel
theorem dX7_in_7 : decode cX7_in 7 = .ok (.if_icmp .gt 7, 3) := by decide +kernel
theorem dX7_in_10 : decode cX7_in 10 = .ok (.iconst 1, 1) := by decide +kernel
theorem dX7_in_11 : decode cX7_in 11 = .ok (.goto 4, 3) := by decide +kernel
theorem dX7_in_14 : decode cX7_in 14 = .ok (.iconst 0, 1) := by decide +kernel
theorem dX7_in_15 : decode cX7_in 15 = .ok (.ireturn, 1) := by decide +kernel
theorem dX7_copies_0 : decode cX7_copies 0 = .ok (.iconst 0, 1) := by decide +kernel
theorem dX7_copies_1 : decode cX7_copies 1 = .ok (.istore_n 2, 1) := by decide +kernel
theorem dX7_copies_2 : decode cX7_copies 2 = .ok (.iload_n 2, 1) := by decide +kernel
theorem dX7_copies_3 : decode cX7_copies 3 = .ok (.sipush 580, 3) := by decide +kernel
theorem dX7_copies_6 : decode cX7_copies 6 = .ok (.if_icmp .ge 15, 3) := by decide +kernel
theorem dX7_copies_9 : decode cX7_copies 9 = .ok (.aload_n 1, 1) := by decide +kernel
theorem dX7_copies_10 : decode cX7_copies 10 = .ok (.iload_n 2, 1) := by decide +kernel
theorem dX7_copies_11 : decode cX7_copies 11 = .ok (.aload_n 0, 1) := by decide +kernel
theorem dX7_copies_12 : decode cX7_copies 12 = .ok (.iload_n 2, 1) := by decide +kernel
theorem dX7_copies_13 : decode cX7_copies 13 = .ok (.iaload, 1) := by decide +kernel
theorem dX7_copies_14 : decode cX7_copies 14 = .ok (.iastore, 1) := by decide +kernel
theorem dX7_copies_15 : decode cX7_copies 15 = .ok (.iinc 2 1, 3) := by decide +kernel
theorem dX7_copies_18 : decode cX7_copies 18 = .ok (.goto (-16), 3) := by decide +kernel
theorem dX7_copies_21 : decode cX7_copies 21 = .ok (.return_, 1) := by decide +kernel
theorem dX7_changes_0 : decode cX7_changes 0 = .ok (.aload_n 0, 1) := by decide +kernel
theorem dX7_changes_1 : decode cX7_changes 1 = .ok (.getfield 42, 3) := by decide +kernel
theorem dX7_changes_4 : decode cX7_changes 4 = .ok (.ifCond .eq 4, 3) := by decide +kernel
theorem dX7_changes_7 : decode cX7_changes 7 = .ok (.return_, 1) := by decide +kernel
theorem dX7_changes_8 : decode cX7_changes 8 = .ok (.aload_n 0, 1) := by decide +kernel
theorem dX7_changes_9 : decode cX7_changes 9 = .ok (.getfield 46, 3) := by decide +kernel
theorem dX7_changes_12 : decode cX7_changes 12 = .ok (.iconst 4, 1) := by decide +kernel
theorem dX7_changes_13 : decode cX7_changes 13 = .ok (.if_icmp .ne 44, 3) := by decide +kernel
theorem dX7_changes_16 : decode cX7_changes 16 = .ok (.iconst 0, 1) := by decide +kernel
theorem dX7_changes_17 : decode cX7_changes 17 = .ok (.istore_n 1, 1) := by decide +kernel
theorem dX7_changes_18 : decode cX7_changes 18 = .ok (.iload_n 1, 1) := by decide +kernel
theorem dX7_changes_19 : decode cX7_changes 19 = .ok (.sipush 1740, 3) := by decide +kernel
theorem dX7_changes_22 : decode cX7_changes 22 = .ok (.if_icmp .ge 25, 3) := by decide +kernel
theorem dX7_changes_25 : decode cX7_changes 25 = .ok (.aload_n 0, 1) := by decide +kernel
theorem dX7_changes_26 : decode cX7_changes 26 = .ok (.getfield 13, 3) := by decide +kernel
theorem dX7_changes_29 : decode cX7_changes 29 = .ok (.iload_n 1, 1) := by decide +kernel
theorem dX7_changes_30 : decode cX7_changes 30 = .ok (.aload_n 0, 1) := by decide +kernel
theorem dX7_changes_31 : decode cX7_changes 31 = .ok (.getfield 13, 3) := by decide +kernel
theorem dX7_changes_34 : decode cX7_changes 34 = .ok (.iload_n 1, 1) := by decide +kernel
theorem dX7_changes_35 : decode cX7_changes 35 = .ok (.sipush 580, 3) := by decide +kernel
theorem dX7_changes_38 : decode cX7_changes 38 = .ok (.iadd, 1) := by decide +kernel
theorem dX7_changes_39 : decode cX7_changes 39 = .ok (.iaload, 1) := by decide +kernel
theorem dX7_changes_40 : decode cX7_changes 40 = .ok (.iastore, 1) := by decide +kernel
theorem dX7_changes_41 : decode cX7_changes 41 = .ok (.iinc 1 1, 3) := by decide +kernel
theorem dX7_changes_44 : decode cX7_changes 44 = .ok (.goto (-26), 3) := by decide +kernel
theorem dX7_changes_47 : decode cX7_changes 47 = .ok (.aload_n 0, 1) := by decide +kernel
theorem dX7_changes_48 : decode cX7_changes 48 = .ok (.dup, 1) := by decide +kernel
theorem dX7_changes_49 : decode cX7_changes 49 = .ok (.getfield 46, 3) := by decide +kernel
theorem dX7_changes_52 : decode cX7_changes 52 = .ok (.iconst 1, 1) := by decide +kernel
theorem dX7_changes_53 : decode cX7_changes 53 = .ok (.isub, 1) := by decide +kernel
theorem dX7_changes_54 : decode cX7_changes 54 = .ok (.putfield 46, 3) := by decide +kernel
theorem dX7_changes_57 : decode cX7_changes 57 = .ok (.iconst 0, 1) := by decide +kernel
theorem dX7_changes_58 : decode cX7_changes 58 = .ok (.istore_n 1, 1) := by decide +kernel
theorem dX7_changes_59 : decode cX7_changes 59 = .ok (.iload_n 1, 1) := by decide +kernel
theorem dX7_changes_60 : decode cX7_changes 60 = .ok (.sipush 580, 3) := by decide +kernel
theorem dX7_changes_63 : decode cX7_changes 63 = .ok (.if_icmp .ge 30, 3) := by decide +kernel
theorem dX7_changes_66 : decode cX7_changes 66 = .ok (.aload_n 0, 1) := by decide +kernel
theorem dX7_changes_67 : decode cX7_changes 67 = .ok (.getfield 13, 3) := by decide +kernel
theorem dX7_changes_70 : decode cX7_changes 70 = .ok (.sipush 580, 3) := by decide +kernel
theorem dX7_changes_73 : decode cX7_changes 73 = .ok (.aload_n 0, 1) := by decide +kernel
theorem dX7_changes_74 : decode cX7_changes 74 = .ok (.getfield 46, 3) := by decide +kernel
theorem dX7_changes_77 : decode cX7_changes 77 = .ok (.imul, 1) := by decide +kernel
theorem dX7_changes_78 : decode cX7_changes 78 = .ok (.iload_n 1, 1) := by decide +kernel
theorem dX7_changes_79 : decode cX7_changes 79 = .ok (.iadd, 1) := by decide +kernel
theorem dX7_changes_80 : decode cX7_changes 80 = .ok (.aload_n 0, 1) := by decide +kernel
theorem dX7_changes_81 : decode cX7_changes 81 = .ok (.getfield 7, 3) := by decide +kernel
theorem dX7_changes_84 : decode cX7_changes 84 = .ok (.iload_n 1, 1) := by decide +kernel
theorem dX7_changes_85 : decode cX7_changes 85 = .ok (.iaload, 1) := by decide +kernel
theorem dX7_changes_86 : decode cX7_changes 86 = .ok (.iastore, 1) := by decide +kernel
theorem dX7_changes_87 : decode cX7_changes 87 = .ok (.iinc 1 1, 3) := by decide +kernel
theorem dX7_changes_90 : decode cX7_changes 90 = .ok (.goto (-31), 3) := by decide +kernel
theorem dX7_changes_93 : decode cX7_changes 93 = .ok (.aload_n 0, 1) := by decide +kernel
theorem dX7_changes_94 : decode cX7_changes 94 = .ok (.dup, 1) := by decide +kernel
theorem dX7_changes_95 : decode cX7_changes 95 = .ok (.getfield 46, 3) := by decide +kernel
theorem dX7_changes_98 : decode cX7_changes 98 = .ok (.iconst 1, 1) := by decide +kernel
theorem dX7_changes_99 : decode cX7_changes 99 = .ok (.iadd, 1) := by decide +kernel
theorem dX7_changes_100 : decode cX7_changes 100 = .ok (.putfield 46, 3) := by decide +kernel
theorem dX7_changes_103 : decode cX7_changes 103 = .ok (.return_, 1) := by decide +kernel
theorem dX7_lays_0 : decode cX7_lays 0 = .ok (.aload_n 0, 1) := by decide +kernel
theorem dX7_lays_1 : decode cX7_lays 1 = .ok (.getfield 7, 3) := by decide +kernel
theorem dX7_lays_4 : decode cX7_lays 4 = .ok (.iconst 0, 1) := by decide +kernel
theorem dX7_lays_5 : decode cX7_lays 5 = .ok (.iload_n 1, 1) := by decide +kernel
theorem dX7_lays_6 : decode cX7_lays 6 = .ok (.iastore, 1) := by decide +kernel
theorem dX7_lays_7 : decode cX7_lays 7 = .ok (.aload_n 0, 1) := by decide +kernel
theorem dX7_lays_8 : decode cX7_lays 8 = .ok (.getfield 7, 3) := by decide +kernel
theorem dX7_lays_11 : decode cX7_lays 11 = .ok (.iconst 1, 1) := by decide +kernel
theorem dX7_lays_12 : decode cX7_lays 12 = .ok (.iconst 1, 1) := by decide +kernel
theorem dX7_lays_13 : decode cX7_lays 13 = .ok (.iastore, 1) := by decide +kernel
theorem dX7_lays_14 : decode cX7_lays 14 = .ok (.aload_n 0, 1) := by decide +kernel
theorem dX7_lays_15 : decode cX7_lays 15 = .ok (.getfield 7, 3) := by decide +kernel
theorem dX7_lays_18 : decode cX7_lays 18 = .ok (.iconst 2, 1) := by decide +kernel
theorem dX7_lays_19 : decode cX7_lays 19 = .ok (.iconst 1, 1) := by decide +kernel
theorem dX7_lays_20 : decode cX7_lays 20 = .ok (.iastore, 1) := by decide +kernel
theorem dX7_lays_21 : decode cX7_lays 21 = .ok (.aload_n 0, 1) := by decide +kernel
theorem dX7_lays_22 : decode cX7_lays 22 = .ok (.getfield 7, 3) := by decide +kernel
theorem dX7_lays_25 : decode cX7_lays 25 = .ok (.iconst 3, 1) := by decide +kernel
theorem dX7_lays_26 : decode cX7_lays 26 = .ok (.iconst 0, 1) := by decide +kernel
theorem dX7_lays_27 : decode cX7_lays 27 = .ok (.iastore, 1) := by decide +kernel
theorem dX7_lays_28 : decode cX7_lays 28 = .ok (.aload_n 0, 1) := by decide +kernel
theorem dX7_lays_29 : decode cX7_lays 29 = .ok (.getfield 7, 3) := by decide +kernel
theorem dX7_lays_32 : decode cX7_lays 32 = .ok (.iconst 4, 1) := by decide +kernel
theorem dX7_lays_33 : decode cX7_lays 33 = .ok (.iconst 0, 1) := by decide +kernel
theorem dX7_lays_34 : decode cX7_lays 34 = .ok (.iastore, 1) := by decide +kernel
theorem dX7_lays_35 : decode cX7_lays 35 = .ok (.iconst 0, 1) := by decide +kernel
theorem dX7_lays_36 : decode cX7_lays 36 = .ok (.istore 4, 2) := by decide +kernel
theorem dX7_lays_38 : decode cX7_lays 38 = .ok (.iload 4, 2) := by decide +kernel
theorem dX7_lays_40 : decode cX7_lays 40 = .ok (.iconst 4, 1) := by decide +kernel
theorem dX7_lays_41 : decode cX7_lays 41 = .ok (.if_icmp .ge 20, 3) := by decide +kernel
theorem dX7_lays_44 : decode cX7_lays 44 = .ok (.aload_n 0, 1) := by decide +kernel
theorem dX7_lays_45 : decode cX7_lays 45 = .ok (.getfield 7, 3) := by decide +kernel
theorem dX7_lays_48 : decode cX7_lays 48 = .ok (.bipush 20, 2) := by decide +kernel
theorem dX7_lays_50 : decode cX7_lays 50 = .ok (.iload 4, 2) := by decide +kernel
theorem dX7_lays_52 : decode cX7_lays 52 = .ok (.iadd, 1) := by decide +kernel
theorem dX7_lays_53 : decode cX7_lays 53 = .ok (.iconst 0, 1) := by decide +kernel
theorem dX7_lays_54 : decode cX7_lays 54 = .ok (.iastore, 1) := by decide +kernel
theorem dX7_lays_55 : decode cX7_lays 55 = .ok (.iinc 4 1, 3) := by decide +kernel
theorem dX7_lays_58 : decode cX7_lays 58 = .ok (.goto (-20), 3) := by decide +kernel
theorem dX7_lays_61 : decode cX7_lays 61 = .ok (.iconst 0, 1) := by decide +kernel
theorem dX7_lays_62 : decode cX7_lays 62 = .ok (.istore 4, 2) := by decide +kernel
theorem dX7_lays_64 : decode cX7_lays 64 = .ok (.iload 4, 2) := by decide +kernel
theorem dX7_lays_66 : decode cX7_lays 66 = .ok (.bipush 12, 2) := by decide +kernel
theorem dX7_lays_68 : decode cX7_lays 68 = .ok (.if_icmp .ge 75, 3) := by decide +kernel
theorem dX7_lays_71 : decode cX7_lays 71 = .ok (.iload_n 2, 1) := by decide +kernel
theorem dX7_lays_72 : decode cX7_lays 72 = .ok (.iload 4, 2) := by decide +kernel
theorem dX7_lays_74 : decode cX7_lays 74 = .ok (.iload_n 3, 1) := by decide +kernel
theorem dX7_lays_75 : decode cX7_lays 75 = .ok (.imul, 1) := by decide +kernel
theorem dX7_lays_76 : decode cX7_lays 76 = .ok (.iadd, 1) := by decide +kernel
theorem dX7_lays_77 : decode cX7_lays 77 = .ok (.istore 5, 2) := by decide +kernel
theorem dX7_lays_79 : decode cX7_lays 79 = .ok (.aload_n 0, 1) := by decide +kernel
theorem dX7_lays_80 : decode cX7_lays 80 = .ok (.getfield 7, 3) := by decide +kernel
theorem dX7_lays_83 : decode cX7_lays 83 = .ok (.bipush 8, 2) := by decide +kernel
theorem dX7_lays_85 : decode cX7_lays 85 = .ok (.iload 4, 2) := by decide +kernel
theorem dX7_lays_87 : decode cX7_lays 87 = .ok (.iadd, 1) := by decide +kernel
theorem dX7_lays_88 : decode cX7_lays 88 = .ok (.iload 4, 2) := by decide +kernel
theorem dX7_lays_90 : decode cX7_lays 90 = .ok (.iload_n 1, 1) := by decide +kernel
theorem dX7_lays_91 : decode cX7_lays 91 = .ok (.if_icmp .ge 7, 3) := by decide +kernel
theorem dX7_lays_94 : decode cX7_lays 94 = .ok (.iconst 1, 1) := by decide +kernel
theorem dX7_lays_95 : decode cX7_lays 95 = .ok (.goto 4, 3) := by decide +kernel
theorem dX7_lays_98 : decode cX7_lays 98 = .ok (.iconst 0, 1) := by decide +kernel
theorem dX7_lays_99 : decode cX7_lays 99 = .ok (.iastore, 1) := by decide +kernel
theorem dX7_lays_100 : decode cX7_lays 100 = .ok (.aload_n 0, 1) := by decide +kernel
theorem dX7_lays_101 : decode cX7_lays 101 = .ok (.getfield 7, 3) := by decide +kernel
theorem dX7_lays_104 : decode cX7_lays 104 = .ok (.bipush 100, 2) := by decide +kernel
theorem dX7_lays_106 : decode cX7_lays 106 = .ok (.iload 4, 2) := by decide +kernel
theorem dX7_lays_108 : decode cX7_lays 108 = .ok (.iadd, 1) := by decide +kernel
theorem dX7_lays_109 : decode cX7_lays 109 = .ok (.ldc 50, 2) := by decide +kernel
theorem dX7_lays_111 : decode cX7_lays 111 = .ok (.iastore, 1) := by decide +kernel
theorem dX7_lays_112 : decode cX7_lays 112 = .ok (.aload_n 0, 1) := by decide +kernel
theorem dX7_lays_113 : decode cX7_lays 113 = .ok (.getfield 7, 3) := by decide +kernel
theorem dX7_lays_116 : decode cX7_lays 116 = .ok (.sipush 340, 3) := by decide +kernel
theorem dX7_lays_119 : decode cX7_lays 119 = .ok (.iload 4, 2) := by decide +kernel
theorem dX7_lays_121 : decode cX7_lays 121 = .ok (.iadd, 1) := by decide +kernel
theorem dX7_lays_122 : decode cX7_lays 122 = .ok (.iload 5, 2) := by decide +kernel
theorem dX7_lays_124 : decode cX7_lays 124 = .ok (.bipush 99, 2) := by decide +kernel
theorem dX7_lays_126 : decode cX7_lays 126 = .ok (.if_icmp .le 8, 3) := by decide +kernel
theorem dX7_lays_129 : decode cX7_lays 129 = .ok (.bipush 99, 2) := by decide +kernel
theorem dX7_lays_131 : decode cX7_lays 131 = .ok (.goto 5, 3) := by decide +kernel
theorem dX7_lays_134 : decode cX7_lays 134 = .ok (.iload 5, 2) := by decide +kernel
theorem dX7_lays_136 : decode cX7_lays 136 = .ok (.iastore, 1) := by decide +kernel
theorem dX7_lays_137 : decode cX7_lays 137 = .ok (.iinc 4 1, 3) := by decide +kernel
theorem dX7_lays_140 : decode cX7_lays 140 = .ok (.goto (-76), 3) := by decide +kernel
theorem dX7_lays_143 : decode cX7_lays 143 = .ok (.return_, 1) := by decide +kernel
theorem dX7_isParticle_0 : decode cX7_isParticle 0 = .ok (.iload_n 1, 1) := by decide +kernel
theorem dX7_isParticle_1 : decode cX7_isParticle 1 = .ok (.ifCond .lt 17, 3) := by decide +kernel
theorem dX7_isParticle_4 : decode cX7_isParticle 4 = .ok (.iload_n 1, 1) := by decide +kernel
theorem dX7_isParticle_5 : decode cX7_isParticle 5 = .ok (.aload_n 0, 1) := by decide +kernel
theorem dX7_isParticle_6 : decode cX7_isParticle 6 = .ok (.getfield 7, 3) := by decide +kernel
theorem dX7_isParticle_9 : decode cX7_isParticle 9 = .ok (.iconst 0, 1) := by decide +kernel
theorem dX7_isParticle_10 : decode cX7_isParticle 10 = .ok (.iaload, 1) := by decide +kernel
theorem dX7_isParticle_11 : decode cX7_isParticle 11 = .ok (.if_icmp .ge 7, 3) := by decide +kernel
theorem dX7_isParticle_14 : decode cX7_isParticle 14 = .ok (.iconst 1, 1) := by decide +kernel
theorem dX7_isParticle_15 : decode cX7_isParticle 15 = .ok (.goto 4, 3) := by decide +kernel
theorem dX7_isParticle_18 : decode cX7_isParticle 18 = .ok (.iconst 0, 1) := by decide +kernel
theorem dX7_isParticle_19 : decode cX7_isParticle 19 = .ok (.ireturn, 1) := by decide +kernel
theorem dX7_isGeneration_0 : decode cX7_isGeneration 0 = .ok (.iload_n 1, 1) := by decide +kernel
theorem dX7_isGeneration_1 : decode cX7_isGeneration 1 = .ok (.ifCond .lt 17, 3) := by decide +kernel
theorem dX7_isGeneration_4 : decode cX7_isGeneration 4 = .ok (.iload_n 1, 1) := by decide +kernel
theorem dX7_isGeneration_5 : decode cX7_isGeneration 5 = .ok (.aload_n 0, 1) := by decide +kernel
