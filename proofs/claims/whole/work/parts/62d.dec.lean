theorem dX7_count_119 : decode cX7_count 119 = .ok (.ireturn, 1) := by decide +kernel
theorem dX7_count_120 : decode cX7_count 120 = .ok (.iconst (-1), 1) := by decide +kernel
theorem dX7_count_121 : decode cX7_count 121 = .ok (.ireturn, 1) := by decide +kernel
theorem dX7_moment_0 : decode cX7_moment 0 = .ok (.aload_n 0, 1) := by decide +kernel
theorem dX7_moment_1 : decode cX7_moment 1 = .ok (.getfield 10, 3) := by decide +kernel
theorem dX7_moment_4 : decode cX7_moment 4 = .ok (.invokevirtual 144, 3) := by decide +kernel
theorem dX7_moment_7 : decode cX7_moment 7 = .ok (.ifCond .eq 6, 3) := by decide +kernel
theorem dX7_moment_10 : decode cX7_moment 10 = .ok (.bipush (-2), 2) := by decide +kernel
theorem dX7_moment_12 : decode cX7_moment 12 = .ok (.ireturn, 1) := by decide +kernel
theorem dX7_moment_13 : decode cX7_moment 13 = .ok (.aload_n 0, 1) := by decide +kernel
theorem dX7_moment_14 : decode cX7_moment 14 = .ok (.getfield 10, 3) := by decide +kernel
theorem dX7_moment_17 : decode cX7_moment 17 = .ok (.getfield 96, 3) := by decide +kernel
theorem dX7_moment_20 : decode cX7_moment 20 = .ok (.sipush 400, 3) := by decide +kernel
theorem dX7_moment_23 : decode cX7_moment 23 = .ok (.if_icmp .lt 6, 3) := by decide +kernel
theorem dX7_moment_26 : decode cX7_moment 26 = .ok (.bipush (-3), 2) := by decide +kernel
theorem dX7_moment_28 : decode cX7_moment 28 = .ok (.ireturn, 1) := by decide +kernel
theorem dX7_moment_29 : decode cX7_moment 29 = .ok (.aload_n 0, 1) := by decide +kernel
theorem dX7_moment_30 : decode cX7_moment 30 = .ok (.getfield 19, 3) := by decide +kernel
theorem dX7_moment_33 : decode cX7_moment 33 = .ok (.aload_n 0, 1) := by decide +kernel
theorem dX7_moment_34 : decode cX7_moment 34 = .ok (.getfield 10, 3) := by decide +kernel
theorem dX7_moment_37 : decode cX7_moment 37 = .ok (.invokevirtual 147, 3) := by decide +kernel
theorem dX7_moment_40 : decode cX7_moment 40 = .ok (.aload_n 0, 1) := by decide +kernel
theorem dX7_moment_41 : decode cX7_moment 41 = .ok (.getfield 10, 3) := by decide +kernel
theorem dX7_moment_44 : decode cX7_moment 44 = .ok (.dup, 1) := by decide +kernel
theorem dX7_moment_45 : decode cX7_moment 45 = .ok (.getfield 96, 3) := by decide +kernel
theorem dX7_moment_48 : decode cX7_moment 48 = .ok (.iconst 1, 1) := by decide +kernel
theorem dX7_moment_49 : decode cX7_moment 49 = .ok (.iadd, 1) := by decide +kernel
theorem dX7_moment_50 : decode cX7_moment 50 = .ok (.putfield 96, 3) := by decide +kernel
theorem dX7_moment_53 : decode cX7_moment 53 = .ok (.aload_n 0, 1) := by decide +kernel
theorem dX7_moment_54 : decode cX7_moment 54 = .ok (.getfield 10, 3) := by decide +kernel
theorem dX7_moment_57 : decode cX7_moment 57 = .ok (.invokevirtual 54, 3) := by decide +kernel
theorem dX7_moment_60 : decode cX7_moment 60 = .ok (.ifCond .eq 13, 3) := by decide +kernel
theorem dX7_moment_63 : decode cX7_moment 63 = .ok (.aload_n 0, 1) := by decide +kernel
theorem dX7_moment_64 : decode cX7_moment 64 = .ok (.getfield 10, 3) := by decide +kernel
theorem dX7_moment_67 : decode cX7_moment 67 = .ok (.invokevirtual 150, 3) := by decide +kernel
theorem dX7_moment_70 : decode cX7_moment 70 = .ok (.goto 7, 3) := by decide +kernel
theorem dX7_moment_73 : decode cX7_moment 73 = .ok (.aload_n 0, 1) := by decide +kernel
theorem dX7_moment_74 : decode cX7_moment 74 = .ok (.invokevirtual 153, 3) := by decide +kernel
theorem dX7_moment_77 : decode cX7_moment 77 = .ok (.ireturn, 1) := by decide +kernel
theorem dX7_runOn_0 : decode cX7_runOn 0 = .ok (.aload_n 0, 1) := by decide +kernel
theorem dX7_runOn_1 : decode cX7_runOn 1 = .ok (.getfield 10, 3) := by decide +kernel
theorem dX7_runOn_4 : decode cX7_runOn 4 = .ok (.aload_n 0, 1) := by decide +kernel
theorem dX7_runOn_5 : decode cX7_runOn 5 = .ok (.getfield 10, 3) := by decide +kernel
theorem dX7_runOn_8 : decode cX7_runOn 8 = .ok (.getfield 96, 3) := by decide +kernel
theorem dX7_runOn_11 : decode cX7_runOn 11 = .ok (.invokevirtual 156, 3) := by decide +kernel
theorem dX7_runOn_14 : decode cX7_runOn 14 = .ok (.ifCond .eq 17, 3) := by decide +kernel
theorem dX7_runOn_17 : decode cX7_runOn 17 = .ok (.aload_n 0, 1) := by decide +kernel
theorem dX7_runOn_18 : decode cX7_runOn 18 = .ok (.getfield 10, 3) := by decide +kernel
theorem dX7_runOn_21 : decode cX7_runOn 21 = .ok (.aload_n 0, 1) := by decide +kernel
theorem dX7_runOn_22 : decode cX7_runOn 22 = .ok (.getfield 10, 3) := by decide +kernel
theorem dX7_runOn_25 : decode cX7_runOn 25 = .ok (.getfield 96, 3) := by decide +kernel
theorem dX7_runOn_28 : decode cX7_runOn 28 = .ok (.invokevirtual 159, 3) := by decide +kernel
theorem dX7_runOn_31 : decode cX7_runOn 31 = .ok (.bipush (-4), 2) := by decide +kernel
theorem dX7_runOn_33 : decode cX7_runOn 33 = .ok (.ireturn, 1) := by decide +kernel
theorem dX7_turn_0 : decode cX7_turn 0 = .ok (.aload_n 0, 1) := by decide +kernel
theorem dX7_turn_1 : decode cX7_turn 1 = .ok (.invokevirtual 163, 3) := by decide +kernel
theorem dX7_turn_4 : decode cX7_turn 4 = .ok (.ifCond .ne 6, 3) := by decide +kernel
theorem dX7_turn_7 : decode cX7_turn 7 = .ok (.bipush (-2), 2) := by decide +kernel
theorem dX7_turn_9 : decode cX7_turn 9 = .ok (.ireturn, 1) := by decide +kernel
theorem dX7_turn_10 : decode cX7_turn 10 = .ok (.aload_n 0, 1) := by decide +kernel
theorem dX7_turn_11 : decode cX7_turn 11 = .ok (.getfield 10, 3) := by decide +kernel
theorem dX7_turn_14 : decode cX7_turn 14 = .ok (.aload_n 0, 1) := by decide +kernel
theorem dX7_turn_15 : decode cX7_turn 15 = .ok (.getfield 10, 3) := by decide +kernel
theorem dX7_turn_18 : decode cX7_turn 18 = .ok (.getfield 96, 3) := by decide +kernel
theorem dX7_turn_21 : decode cX7_turn 21 = .ok (.invokevirtual 159, 3) := by decide +kernel
theorem dX7_turn_24 : decode cX7_turn 24 = .ok (.aload_n 0, 1) := by decide +kernel
theorem dX7_turn_25 : decode cX7_turn 25 = .ok (.getfield 10, 3) := by decide +kernel
theorem dX7_turn_28 : decode cX7_turn 28 = .ok (.getfield 134, 3) := by decide +kernel
theorem dX7_turn_31 : decode cX7_turn 31 = .ok (.ireturn, 1) := by decide +kernel
theorem dX7_undo_0 : decode cX7_undo 0 = .ok (.aload_n 0, 1) := by decide +kernel
theorem dX7_undo_1 : decode cX7_undo 1 = .ok (.getfield 19, 3) := by decide +kernel
theorem dX7_undo_4 : decode cX7_undo 4 = .ok (.aload_n 0, 1) := by decide +kernel
theorem dX7_undo_5 : decode cX7_undo 5 = .ok (.getfield 10, 3) := by decide +kernel
theorem dX7_undo_8 : decode cX7_undo 8 = .ok (.invokevirtual 166, 3) := by decide +kernel
theorem dX7_undo_11 : decode cX7_undo 11 = .ok (.ifCond .eq 13, 3) := by decide +kernel
theorem dX7_undo_14 : decode cX7_undo 14 = .ok (.aload_n 0, 1) := by decide +kernel
theorem dX7_undo_15 : decode cX7_undo 15 = .ok (.getfield 19, 3) := by decide +kernel
theorem dX7_undo_18 : decode cX7_undo 18 = .ok (.getfield 137, 3) := by decide +kernel
theorem dX7_undo_21 : decode cX7_undo 21 = .ok (.goto 5, 3) := by decide +kernel
theorem dX7_undo_24 : decode cX7_undo 24 = .ok (.bipush (-4), 2) := by decide +kernel
theorem dX7_undo_26 : decode cX7_undo 26 = .ok (.ireturn, 1) := by decide +kernel
theorem dX7_seed_0 : decode cX7_seed 0 = .ok (.iload_n 1, 1) := by decide +kernel
theorem dX7_seed_1 : decode cX7_seed 1 = .ok (.ifCond .ge 5, 3) := by decide +kernel
theorem dX7_seed_4 : decode cX7_seed 4 = .ok (.iconst (-1), 1) := by decide +kernel
theorem dX7_seed_5 : decode cX7_seed 5 = .ok (.ireturn, 1) := by decide +kernel
theorem dX7_seed_6 : decode cX7_seed 6 = .ok (.aload_n 0, 1) := by decide +kernel
theorem dX7_seed_7 : decode cX7_seed 7 = .ok (.getfield 10, 3) := by decide +kernel
theorem dX7_seed_10 : decode cX7_seed 10 = .ok (.getfield 170, 3) := by decide +kernel
theorem dX7_seed_13 : decode cX7_seed 13 = .ok (.istore_n 2, 1) := by decide +kernel
theorem dX7_seed_14 : decode cX7_seed 14 = .ok (.aload_n 0, 1) := by decide +kernel
theorem dX7_seed_15 : decode cX7_seed 15 = .ok (.getfield 10, 3) := by decide +kernel
theorem dX7_seed_18 : decode cX7_seed 18 = .ok (.iload_n 1, 1) := by decide +kernel
theorem dX7_seed_19 : decode cX7_seed 19 = .ok (.putfield 170, 3) := by decide +kernel
theorem dX7_seed_22 : decode cX7_seed 22 = .ok (.iload_n 2, 1) := by decide +kernel
theorem dX7_seed_23 : decode cX7_seed 23 = .ok (.ireturn, 1) := by decide +kernel
theorem dX7_chance_0 : decode cX7_chance 0 = .ok (.iload_n 1, 1) := by decide +kernel
theorem dX7_chance_1 : decode cX7_chance 1 = .ok (.iconst 0, 1) := by decide +kernel
theorem dX7_chance_2 : decode cX7_chance 2 = .ok (.sipush 400, 3) := by decide +kernel
theorem dX7_chance_5 : decode cX7_chance 5 = .ok (.invokestatic 50, 3) := by decide +kernel
theorem dX7_chance_8 : decode cX7_chance 8 = .ok (.ifCond .ne 5, 3) := by decide +kernel
theorem dX7_chance_11 : decode cX7_chance 11 = .ok (.iconst (-1), 1) := by decide +kernel
theorem dX7_chance_12 : decode cX7_chance 12 = .ok (.ireturn, 1) := by decide +kernel
theorem dX7_chance_13 : decode cX7_chance 13 = .ok (.aload_n 0, 1) := by decide +kernel
theorem dX7_chance_14 : decode cX7_chance 14 = .ok (.getfield 10, 3) := by decide +kernel
theorem dX7_chance_17 : decode cX7_chance 17 = .ok (.invokevirtual 144, 3) := by decide +kernel
theorem dX7_chance_20 : decode cX7_chance 20 = .ok (.ifCond .eq 6, 3) := by decide +kernel
theorem dX7_chance_23 : decode cX7_chance 23 = .ok (.bipush (-2), 2) := by decide +kernel
theorem dX7_chance_25 : decode cX7_chance 25 = .ok (.ireturn, 1) := by decide +kernel
theorem dX7_chance_26 : decode cX7_chance 26 = .ok (.aload_n 0, 1) := by decide +kernel
theorem dX7_chance_27 : decode cX7_chance 27 = .ok (.getfield 39, 3) := by decide +kernel
theorem dX7_chance_30 : decode cX7_chance 30 = .ok (.aload_n 0, 1) := by decide +kernel
theorem dX7_chance_31 : decode cX7_chance 31 = .ok (.getfield 10, 3) := by decide +kernel
theorem dX7_chance_34 : decode cX7_chance 34 = .ok (.invokevirtual 173, 3) := by decide +kernel
theorem dX7_chance_37 : decode cX7_chance 37 = .ok (.aload_n 0, 1) := by decide +kernel
theorem dX7_chance_38 : decode cX7_chance 38 = .ok (.getfield 39, 3) := by decide +kernel
theorem dX7_chance_41 : decode cX7_chance 41 = .ok (.iload_n 1, 1) := by decide +kernel
theorem dX7_chance_42 : decode cX7_chance 42 = .ok (.invokevirtual 176, 3) := by decide +kernel
theorem dX7_chance_45 : decode cX7_chance 45 = .ok (.ireturn, 1) := by decide +kernel
theorem dX7_best_0 : decode cX7_best 0 = .ok (.iload_n 1, 1) := by decide +kernel
theorem dX7_best_1 : decode cX7_best 1 = .ok (.iconst 0, 1) := by decide +kernel
theorem dX7_best_2 : decode cX7_best 2 = .ok (.iconst 1, 1) := by decide +kernel
theorem dX7_best_3 : decode cX7_best 3 = .ok (.invokestatic 50, 3) := by decide +kernel
theorem dX7_best_6 : decode cX7_best 6 = .ok (.ifCond .ne 5, 3) := by decide +kernel
theorem dX7_best_9 : decode cX7_best 9 = .ok (.iconst (-1), 1) := by decide +kernel
theorem dX7_best_10 : decode cX7_best 10 = .ok (.ireturn, 1) := by decide +kernel
theorem dX7_best_11 : decode cX7_best 11 = .ok (.aload_n 0, 1) := by decide +kernel
theorem dX7_best_12 : decode cX7_best 12 = .ok (.invokevirtual 163, 3) := by decide +kernel
theorem dX7_best_15 : decode cX7_best 15 = .ok (.ifCond .ne 6, 3) := by decide +kernel
theorem dX7_best_18 : decode cX7_best 18 = .ok (.bipush (-2), 2) := by decide +kernel
theorem dX7_best_20 : decode cX7_best 20 = .ok (.ireturn, 1) := by decide +kernel
theorem dX7_best_21 : decode cX7_best 21 = .ok (.aload_n 0, 1) := by decide +kernel
theorem dX7_best_22 : decode cX7_best 22 = .ok (.getfield 39, 3) := by decide +kernel
theorem dX7_best_25 : decode cX7_best 25 = .ok (.aload_n 0, 1) := by decide +kernel
theorem dX7_best_26 : decode cX7_best 26 = .ok (.getfield 10, 3) := by decide +kernel
theorem dX7_best_29 : decode cX7_best 29 = .ok (.invokevirtual 173, 3) := by decide +kernel
theorem dX7_best_32 : decode cX7_best 32 = .ok (.aload_n 0, 1) := by decide +kernel
theorem dX7_best_33 : decode cX7_best 33 = .ok (.getfield 39, 3) := by decide +kernel
theorem dX7_best_36 : decode cX7_best 36 = .ok (.bipush 61, 2) := by decide +kernel
theorem dX7_best_38 : decode cX7_best 38 = .ok (.invokevirtual 179, 3) := by decide +kernel
theorem dX7_best_41 : decode cX7_best 41 = .ok (.istore_n 2, 1) := by decide +kernel
theorem dX7_best_42 : decode cX7_best 42 = .ok (.iload_n 1, 1) := by decide +kernel
theorem dX7_best_43 : decode cX7_best 43 = .ok (.ifCond .ne 14, 3) := by decide +kernel
theorem dX7_best_46 : decode cX7_best 46 = .ok (.aload_n 0, 1) := by decide +kernel
theorem dX7_best_47 : decode cX7_best 47 = .ok (.getfield 39, 3) := by decide +kernel
theorem dX7_best_50 : decode cX7_best 50 = .ok (.iload_n 2, 1) := by decide +kernel
theorem dX7_best_51 : decode cX7_best 51 = .ok (.invokevirtual 182, 3) := by decide +kernel
theorem dX7_best_54 : decode cX7_best 54 = .ok (.goto 4, 3) := by decide +kernel
theorem dX7_best_57 : decode cX7_best 57 = .ok (.iload_n 2, 1) := by decide +kernel
theorem dX7_best_58 : decode cX7_best 58 = .ok (.ireturn, 1) := by decide +kernel
theorem dX7_late_0 : decode cX7_late 0 = .ok (.iload_n 1, 1) := by decide +kernel
theorem dX7_late_1 : decode cX7_late 1 = .ok (.iconst 0, 1) := by decide +kernel
theorem dX7_late_2 : decode cX7_late 2 = .ok (.ldc 185, 2) := by decide +kernel
theorem dX7_late_4 : decode cX7_late 4 = .ok (.invokestatic 50, 3) := by decide +kernel
theorem dX7_late_7 : decode cX7_late 7 = .ok (.ifCond .ne 5, 3) := by decide +kernel
theorem dX7_late_10 : decode cX7_late 10 = .ok (.iconst (-1), 1) := by decide +kernel
theorem dX7_late_11 : decode cX7_late 11 = .ok (.ireturn, 1) := by decide +kernel
theorem dX7_late_12 : decode cX7_late 12 = .ok (.aload_n 0, 1) := by decide +kernel
theorem dX7_late_13 : decode cX7_late 13 = .ok (.invokevirtual 163, 3) := by decide +kernel
theorem dX7_late_16 : decode cX7_late 16 = .ok (.ifCond .ne 6, 3) := by decide +kernel
theorem dX7_late_19 : decode cX7_late 19 = .ok (.bipush (-2), 2) := by decide +kernel
theorem dX7_late_21 : decode cX7_late 21 = .ok (.ireturn, 1) := by decide +kernel
theorem dX7_late_22 : decode cX7_late 22 = .ok (.aload_n 0, 1) := by decide +kernel
theorem dX7_late_23 : decode cX7_late 23 = .ok (.getfield 39, 3) := by decide +kernel
theorem dX7_late_26 : decode cX7_late 26 = .ok (.aload_n 0, 1) := by decide +kernel
theorem dX7_late_27 : decode cX7_late 27 = .ok (.getfield 10, 3) := by decide +kernel
theorem dX7_late_30 : decode cX7_late 30 = .ok (.invokevirtual 173, 3) := by decide +kernel
theorem dX7_late_33 : decode cX7_late 33 = .ok (.aload_n 0, 1) := by decide +kernel
theorem dX7_late_34 : decode cX7_late 34 = .ok (.getfield 39, 3) := by decide +kernel
theorem dX7_late_37 : decode cX7_late 37 = .ok (.bipush 61, 2) := by decide +kernel
theorem dX7_late_39 : decode cX7_late 39 = .ok (.invokevirtual 179, 3) := by decide +kernel
theorem dX7_late_42 : decode cX7_late 42 = .ok (.pop, 1) := by decide +kernel
theorem dX7_late_43 : decode cX7_late 43 = .ok (.aload_n 0, 1) := by decide +kernel
theorem dX7_late_44 : decode cX7_late 44 = .ok (.getfield 39, 3) := by decide +kernel
theorem dX7_late_47 : decode cX7_late 47 = .ok (.iload_n 1, 1) := by decide +kernel
theorem dX7_late_48 : decode cX7_late 48 = .ok (.invokevirtual 186, 3) := by decide +kernel
theorem dX7_late_51 : decode cX7_late 51 = .ok (.ireturn, 1) := by decide +kernel
theorem dX7_together_0 : decode cX7_together 0 = .ok (.iload_n 1, 1) := by decide +kernel
theorem dX7_together_1 : decode cX7_together 1 = .ok (.iconst 0, 1) := by decide +kernel
theorem dX7_together_2 : decode cX7_together 2 = .ok (.sipush 400, 3) := by decide +kernel
theorem dX7_together_5 : decode cX7_together 5 = .ok (.invokestatic 50, 3) := by decide +kernel
theorem dX7_together_8 : decode cX7_together 8 = .ok (.ifCond .eq 12, 3) := by decide +kernel
theorem dX7_together_11 : decode cX7_together 11 = .ok (.iload_n 2, 1) := by decide +kernel
theorem dX7_together_12 : decode cX7_together 12 = .ok (.iconst 0, 1) := by decide +kernel
theorem dX7_together_13 : decode cX7_together 13 = .ok (.iconst 2, 1) := by decide +kernel
theorem dX7_together_14 : decode cX7_together 14 = .ok (.invokestatic 50, 3) := by decide +kernel
theorem dX7_together_17 : decode cX7_together 17 = .ok (.ifCond .ne 5, 3) := by decide +kernel
theorem dX7_together_20 : decode cX7_together 20 = .ok (.iconst (-1), 1) := by decide +kernel
theorem dX7_together_21 : decode cX7_together 21 = .ok (.ireturn, 1) := by decide +kernel
theorem dX7_together_22 : decode cX7_together 22 = .ok (.aload_n 0, 1) := by decide +kernel
theorem dX7_together_23 : decode cX7_together 23 = .ok (.invokevirtual 163, 3) := by decide +kernel
theorem dX7_together_26 : decode cX7_together 26 = .ok (.ifCond .ne 6, 3) := by decide +kernel
theorem dX7_together_29 : decode cX7_together 29 = .ok (.bipush (-2), 2) := by decide +kernel
theorem dX7_together_31 : decode cX7_together 31 = .ok (.ireturn, 1) := by decide +kernel
theorem dX7_together_32 : decode cX7_together 32 = .ok (.aload_n 0, 1) := by decide +kernel
theorem dX7_together_33 : decode cX7_together 33 = .ok (.getfield 39, 3) := by decide +kernel
theorem dX7_together_36 : decode cX7_together 36 = .ok (.aload_n 0, 1) := by decide +kernel
theorem dX7_together_37 : decode cX7_together 37 = .ok (.getfield 10, 3) := by decide +kernel
theorem dX7_together_40 : decode cX7_together 40 = .ok (.invokevirtual 173, 3) := by decide +kernel
theorem dX7_together_43 : decode cX7_together 43 = .ok (.aload_n 0, 1) := by decide +kernel
theorem dX7_together_44 : decode cX7_together 44 = .ok (.getfield 39, 3) := by decide +kernel
theorem dX7_together_47 : decode cX7_together 47 = .ok (.invokevirtual 189, 3) := by decide +kernel
theorem dX7_together_50 : decode cX7_together 50 = .ok (.istore_n 3, 1) := by decide +kernel
theorem dX7_together_51 : decode cX7_together 51 = .ok (.iload_n 2, 1) := by decide +kernel
theorem dX7_together_52 : decode cX7_together 52 = .ok (.iconst 2, 1) := by decide +kernel
theorem dX7_together_53 : decode cX7_together 53 = .ok (.if_icmp .ge 5, 3) := by decide +kernel
theorem dX7_together_56 : decode cX7_together 56 = .ok (.iload_n 3, 1) := by decide +kernel
theorem dX7_together_57 : decode cX7_together 57 = .ok (.ireturn, 1) := by decide +kernel
theorem dX7_together_58 : decode cX7_together 58 = .ok (.iload_n 3, 1) := by decide +kernel
theorem dX7_together_59 : decode cX7_together 59 = .ok (.aload_n 0, 1) := by decide +kernel
theorem dX7_together_60 : decode cX7_together 60 = .ok (.getfield 39, 3) := by decide +kernel
theorem dX7_together_63 : decode cX7_together 63 = .ok (.bipush 61, 2) := by decide +kernel
theorem dX7_together_65 : decode cX7_together 65 = .ok (.invokevirtual 179, 3) := by decide +kernel
theorem dX7_together_68 : decode cX7_together 68 = .ok (.if_icmp .ge 7, 3) := by decide +kernel
theorem dX7_together_71 : decode cX7_together 71 = .ok (.iconst 1, 1) := by decide +kernel
theorem dX7_together_72 : decode cX7_together 72 = .ok (.goto 4, 3) := by decide +kernel
theorem dX7_together_75 : decode cX7_together 75 = .ok (.iconst 0, 1) := by decide +kernel
theorem dX7_together_76 : decode cX7_together 76 = .ok (.ireturn, 1) := by decide +kernel
theorem dX7_ditched_0 : decode cX7_ditched 0 = .ok (.aload_n 0, 1) := by decide +kernel
theorem dX7_ditched_1 : decode cX7_ditched 1 = .ok (.invokevirtual 163, 3) := by decide +kernel
theorem dX7_ditched_4 : decode cX7_ditched 4 = .ok (.ifCond .ne 6, 3) := by decide +kernel
theorem dX7_ditched_7 : decode cX7_ditched 7 = .ok (.bipush (-2), 2) := by decide +kernel
theorem dX7_ditched_9 : decode cX7_ditched 9 = .ok (.ireturn, 1) := by decide +kernel
theorem dX7_ditched_10 : decode cX7_ditched 10 = .ok (.aload_n 0, 1) := by decide +kernel
theorem dX7_ditched_11 : decode cX7_ditched 11 = .ok (.getfield 39, 3) := by decide +kernel
theorem dX7_ditched_14 : decode cX7_ditched 14 = .ok (.aload_n 0, 1) := by decide +kernel
theorem dX7_ditched_15 : decode cX7_ditched 15 = .ok (.getfield 10, 3) := by decide +kernel
theorem dX7_ditched_18 : decode cX7_ditched 18 = .ok (.invokevirtual 173, 3) := by decide +kernel
theorem dX7_ditched_21 : decode cX7_ditched 21 = .ok (.aload_n 0, 1) := by decide +kernel
theorem dX7_ditched_22 : decode cX7_ditched 22 = .ok (.getfield 39, 3) := by decide +kernel
theorem dX7_ditched_25 : decode cX7_ditched 25 = .ok (.bipush 61, 2) := by decide +kernel
theorem dX7_ditched_27 : decode cX7_ditched 27 = .ok (.invokevirtual 179, 3) := by decide +kernel
theorem dX7_ditched_30 : decode cX7_ditched 30 = .ok (.istore_n 1, 1) := by decide +kernel
theorem dX7_ditched_31 : decode cX7_ditched 31 = .ok (.bipush (-4), 2) := by decide +kernel
theorem dX7_ditched_33 : decode cX7_ditched 33 = .ok (.istore_n 2, 1) := by decide +kernel
theorem dX7_ditched_34 : decode cX7_ditched 34 = .ok (.iconst 1, 1) := by decide +kernel
theorem dX7_ditched_35 : decode cX7_ditched 35 = .ok (.istore_n 3, 1) := by decide +kernel
theorem dX7_ditched_36 : decode cX7_ditched 36 = .ok (.iload_n 3, 1) := by decide +kernel
theorem dX7_ditched_37 : decode cX7_ditched 37 = .ok (.aload_n 0, 1) := by decide +kernel
theorem dX7_ditched_38 : decode cX7_ditched 38 = .ok (.getfield 10, 3) := by decide +kernel
theorem dX7_ditched_41 : decode cX7_ditched 41 = .ok (.getfield 131, 3) := by decide +kernel
theorem dX7_ditched_44 : decode cX7_ditched 44 = .ok (.if_icmp .ge 61, 3) := by decide +kernel
theorem dX7_ditched_47 : decode cX7_ditched 47 = .ok (.aload_n 0, 1) := by decide +kernel
theorem dX7_ditched_48 : decode cX7_ditched 48 = .ok (.getfield 10, 3) := by decide +kernel
theorem dX7_ditched_51 : decode cX7_ditched 51 = .ok (.getfield 105, 3) := by decide +kernel
theorem dX7_ditched_54 : decode cX7_ditched 54 = .ok (.iload_n 3, 1) := by decide +kernel
theorem dX7_ditched_55 : decode cX7_ditched 55 = .ok (.iaload, 1) := by decide +kernel
theorem dX7_ditched_56 : decode cX7_ditched 56 = .ok (.ifCond .ne 43, 3) := by decide +kernel
theorem dX7_ditched_59 : decode cX7_ditched 59 = .ok (.aload_n 0, 1) := by decide +kernel
theorem dX7_ditched_60 : decode cX7_ditched 60 = .ok (.getfield 39, 3) := by decide +kernel
theorem dX7_ditched_63 : decode cX7_ditched 63 = .ok (.iload_n 3, 1) := by decide +kernel
theorem dX7_ditched_64 : decode cX7_ditched 64 = .ok (.iconst 2, 1) := by decide +kernel
theorem dX7_ditched_65 : decode cX7_ditched 65 = .ok (.invokevirtual 192, 3) := by decide +kernel
theorem dX7_ditched_68 : decode cX7_ditched 68 = .ok (.aload_n 0, 1) := by decide +kernel
theorem dX7_ditched_69 : decode cX7_ditched 69 = .ok (.getfield 39, 3) := by decide +kernel
theorem dX7_ditched_72 : decode cX7_ditched 72 = .ok (.bipush 61, 2) := by decide +kernel
theorem dX7_ditched_74 : decode cX7_ditched 74 = .ok (.invokevirtual 179, 3) := by decide +kernel
theorem dX7_ditched_77 : decode cX7_ditched 77 = .ok (.istore 4, 2) := by decide +kernel
theorem dX7_ditched_79 : decode cX7_ditched 79 = .ok (.aload_n 0, 1) := by decide +kernel
theorem dX7_ditched_80 : decode cX7_ditched 80 = .ok (.getfield 39, 3) := by decide +kernel
theorem dX7_ditched_83 : decode cX7_ditched 83 = .ok (.iload_n 3, 1) := by decide +kernel
theorem dX7_ditched_84 : decode cX7_ditched 84 = .ok (.iconst 0, 1) := by decide +kernel
theorem dX7_ditched_85 : decode cX7_ditched 85 = .ok (.invokevirtual 192, 3) := by decide +kernel
theorem dX7_ditched_88 : decode cX7_ditched 88 = .ok (.iload 4, 2) := by decide +kernel
theorem dX7_ditched_90 : decode cX7_ditched 90 = .ok (.iload_n 1, 1) := by decide +kernel
theorem dX7_ditched_91 : decode cX7_ditched 91 = .ok (.if_icmp .le 8, 3) := by decide +kernel
theorem dX7_ditched_94 : decode cX7_ditched 94 = .ok (.iload 4, 2) := by decide +kernel
theorem dX7_ditched_96 : decode cX7_ditched 96 = .ok (.istore_n 1, 1) := by decide +kernel
theorem dX7_ditched_97 : decode cX7_ditched 97 = .ok (.iload_n 3, 1) := by decide +kernel
theorem dX7_ditched_98 : decode cX7_ditched 98 = .ok (.istore_n 2, 1) := by decide +kernel
theorem dX7_ditched_99 : decode cX7_ditched 99 = .ok (.iinc 3 1, 3) := by decide +kernel
theorem dX7_ditched_102 : decode cX7_ditched 102 = .ok (.goto (-66), 3) := by decide +kernel
theorem dX7_ditched_105 : decode cX7_ditched 105 = .ok (.iload_n 2, 1) := by decide +kernel
theorem dX7_ditched_106 : decode cX7_ditched 106 = .ok (.ireturn, 1) := by decide +kernel
theorem dX7_ahead_0 : decode cX7_ahead 0 = .ok (.iload_n 1, 1) := by decide +kernel
theorem dX7_ahead_1 : decode cX7_ahead 1 = .ok (.iconst 0, 1) := by decide +kernel
theorem dX7_ahead_2 : decode cX7_ahead 2 = .ok (.iconst 1, 1) := by decide +kernel
theorem dX7_ahead_3 : decode cX7_ahead 3 = .ok (.invokestatic 50, 3) := by decide +kernel
theorem dX7_ahead_6 : decode cX7_ahead 6 = .ok (.ifCond .ne 5, 3) := by decide +kernel
theorem dX7_ahead_9 : decode cX7_ahead 9 = .ok (.iconst (-1), 1) := by decide +kernel
theorem dX7_ahead_10 : decode cX7_ahead 10 = .ok (.ireturn, 1) := by decide +kernel
theorem dX7_ahead_11 : decode cX7_ahead 11 = .ok (.aload_n 0, 1) := by decide +kernel
theorem dX7_ahead_12 : decode cX7_ahead 12 = .ok (.invokevirtual 163, 3) := by decide +kernel
theorem dX7_ahead_15 : decode cX7_ahead 15 = .ok (.ifCond .ne 6, 3) := by decide +kernel
theorem dX7_ahead_18 : decode cX7_ahead 18 = .ok (.bipush (-2), 2) := by decide +kernel
theorem dX7_ahead_20 : decode cX7_ahead 20 = .ok (.ireturn, 1) := by decide +kernel
theorem dX7_ahead_21 : decode cX7_ahead 21 = .ok (.aload_n 0, 1) := by decide +kernel
theorem dX7_ahead_22 : decode cX7_ahead 22 = .ok (.getfield 39, 3) := by decide +kernel
theorem dX7_ahead_25 : decode cX7_ahead 25 = .ok (.aload_n 0, 1) := by decide +kernel
theorem dX7_ahead_26 : decode cX7_ahead 26 = .ok (.getfield 10, 3) := by decide +kernel
theorem dX7_ahead_29 : decode cX7_ahead 29 = .ok (.invokevirtual 173, 3) := by decide +kernel
theorem dX7_ahead_32 : decode cX7_ahead 32 = .ok (.iconst (-1), 1) := by decide +kernel
theorem dX7_ahead_33 : decode cX7_ahead 33 = .ok (.istore_n 2, 1) := by decide +kernel
theorem dX7_ahead_34 : decode cX7_ahead 34 = .ok (.bipush (-4), 2) := by decide +kernel
theorem dX7_ahead_36 : decode cX7_ahead 36 = .ok (.istore_n 3, 1) := by decide +kernel
theorem dX7_ahead_37 : decode cX7_ahead 37 = .ok (.iconst 1, 1) := by decide +kernel
theorem dX7_ahead_38 : decode cX7_ahead 38 = .ok (.istore 4, 2) := by decide +kernel
theorem dX7_ahead_40 : decode cX7_ahead 40 = .ok (.iload 4, 2) := by decide +kernel
theorem dX7_ahead_42 : decode cX7_ahead 42 = .ok (.aload_n 0, 1) := by decide +kernel
theorem dX7_ahead_43 : decode cX7_ahead 43 = .ok (.getfield 10, 3) := by decide +kernel
theorem dX7_ahead_46 : decode cX7_ahead 46 = .ok (.getfield 58, 3) := by decide +kernel
theorem dX7_ahead_49 : decode cX7_ahead 49 = .ok (.if_icmp .ge 84, 3) := by decide +kernel
theorem dX7_ahead_52 : decode cX7_ahead 52 = .ok (.aload_n 0, 1) := by decide +kernel
theorem dX7_ahead_53 : decode cX7_ahead 53 = .ok (.getfield 10, 3) := by decide +kernel
theorem dX7_ahead_56 : decode cX7_ahead 56 = .ok (.iload 4, 2) := by decide +kernel
theorem dX7_ahead_58 : decode cX7_ahead 58 = .ok (.invokevirtual 196, 3) := by decide +kernel
theorem dX7_ahead_61 : decode cX7_ahead 61 = .ok (.ifCond .eq 66, 3) := by decide +kernel
theorem dX7_ahead_64 : decode cX7_ahead 64 = .ok (.aload_n 0, 1) := by decide +kernel
theorem dX7_ahead_65 : decode cX7_ahead 65 = .ok (.getfield 39, 3) := by decide +kernel
theorem dX7_ahead_68 : decode cX7_ahead 68 = .ok (.iload 4, 2) := by decide +kernel
theorem dX7_ahead_70 : decode cX7_ahead 70 = .ok (.aload_n 0, 1) := by decide +kernel
theorem dX7_ahead_71 : decode cX7_ahead 71 = .ok (.getfield 10, 3) := by decide +kernel
theorem dX7_ahead_74 : decode cX7_ahead 74 = .ok (.getfield 83, 3) := by decide +kernel
theorem dX7_ahead_77 : decode cX7_ahead 77 = .ok (.iload 4, 2) := by decide +kernel
theorem dX7_ahead_79 : decode cX7_ahead 79 = .ok (.iaload, 1) := by decide +kernel
theorem dX7_ahead_80 : decode cX7_ahead 80 = .ok (.iconst 1, 1) := by decide +kernel
theorem dX7_ahead_81 : decode cX7_ahead 81 = .ok (.iadd, 1) := by decide +kernel
theorem dX7_ahead_82 : decode cX7_ahead 82 = .ok (.invokevirtual 199, 3) := by decide +kernel
theorem dX7_ahead_85 : decode cX7_ahead 85 = .ok (.aload_n 0, 1) := by decide +kernel
theorem dX7_ahead_86 : decode cX7_ahead 86 = .ok (.getfield 39, 3) := by decide +kernel
theorem dX7_ahead_89 : decode cX7_ahead 89 = .ok (.bipush 61, 2) := by decide +kernel
theorem dX7_ahead_91 : decode cX7_ahead 91 = .ok (.invokevirtual 179, 3) := by decide +kernel
theorem dX7_ahead_94 : decode cX7_ahead 94 = .ok (.istore 5, 2) := by decide +kernel
theorem dX7_ahead_96 : decode cX7_ahead 96 = .ok (.aload_n 0, 1) := by decide +kernel
theorem dX7_ahead_97 : decode cX7_ahead 97 = .ok (.getfield 39, 3) := by decide +kernel
theorem dX7_ahead_100 : decode cX7_ahead 100 = .ok (.iload 4, 2) := by decide +kernel
theorem dX7_ahead_102 : decode cX7_ahead 102 = .ok (.aload_n 0, 1) := by decide +kernel
theorem dX7_ahead_103 : decode cX7_ahead 103 = .ok (.getfield 10, 3) := by decide +kernel
theorem dX7_ahead_106 : decode cX7_ahead 106 = .ok (.getfield 83, 3) := by decide +kernel
theorem dX7_ahead_109 : decode cX7_ahead 109 = .ok (.iload 4, 2) := by decide +kernel
theorem dX7_ahead_111 : decode cX7_ahead 111 = .ok (.iaload, 1) := by decide +kernel
theorem dX7_ahead_112 : decode cX7_ahead 112 = .ok (.invokevirtual 199, 3) := by decide +kernel
theorem dX7_ahead_115 : decode cX7_ahead 115 = .ok (.iload 5, 2) := by decide +kernel
theorem dX7_ahead_117 : decode cX7_ahead 117 = .ok (.iload_n 2, 1) := by decide +kernel
theorem dX7_ahead_118 : decode cX7_ahead 118 = .ok (.if_icmp .le 9, 3) := by decide +kernel
theorem dX7_ahead_121 : decode cX7_ahead 121 = .ok (.iload 5, 2) := by decide +kernel
theorem dX7_ahead_123 : decode cX7_ahead 123 = .ok (.istore_n 2, 1) := by decide +kernel
theorem dX7_ahead_124 : decode cX7_ahead 124 = .ok (.iload 4, 2) := by decide +kernel
theorem dX7_ahead_126 : decode cX7_ahead 126 = .ok (.istore_n 3, 1) := by decide +kernel
theorem dX7_ahead_127 : decode cX7_ahead 127 = .ok (.iinc 4 1, 3) := by decide +kernel
theorem dX7_ahead_130 : decode cX7_ahead 130 = .ok (.goto (-90), 3) := by decide +kernel
theorem dX7_ahead_133 : decode cX7_ahead 133 = .ok (.iload_n 1, 1) := by decide +kernel
theorem dX7_ahead_134 : decode cX7_ahead 134 = .ok (.ifCond .ne 7, 3) := by decide +kernel
theorem dX7_ahead_137 : decode cX7_ahead 137 = .ok (.iload_n 3, 1) := by decide +kernel
theorem dX7_ahead_138 : decode cX7_ahead 138 = .ok (.goto 4, 3) := by decide +kernel
theorem dX7_ahead_141 : decode cX7_ahead 141 = .ok (.iload_n 2, 1) := by decide +kernel
theorem dX7_ahead_142 : decode cX7_ahead 142 = .ok (.ireturn, 1) := by decide +kernel
theorem dX7_fields_0 : decode cX7_fields 0 = .ok (.iload_n 1, 1) := by decide +kernel
theorem dX7_fields_1 : decode cX7_fields 1 = .ok (.iconst 0, 1) := by decide +kernel
theorem dX7_fields_2 : decode cX7_fields 2 = .ok (.sipush 400, 3) := by decide +kernel
theorem dX7_fields_5 : decode cX7_fields 5 = .ok (.invokestatic 50, 3) := by decide +kernel
theorem dX7_fields_8 : decode cX7_fields 8 = .ok (.ifCond .eq 13, 3) := by decide +kernel
theorem dX7_fields_11 : decode cX7_fields 11 = .ok (.iload_n 2, 1) := by decide +kernel
theorem dX7_fields_12 : decode cX7_fields 12 = .ok (.iconst 1, 1) := by decide +kernel
theorem dX7_fields_13 : decode cX7_fields 13 = .ok (.bipush 90, 2) := by decide +kernel
theorem dX7_fields_15 : decode cX7_fields 15 = .ok (.invokestatic 50, 3) := by decide +kernel
theorem dX7_fields_18 : decode cX7_fields 18 = .ok (.ifCond .ne 5, 3) := by decide +kernel
theorem dX7_fields_21 : decode cX7_fields 21 = .ok (.iconst (-1), 1) := by decide +kernel
theorem dX7_fields_22 : decode cX7_fields 22 = .ok (.ireturn, 1) := by decide +kernel
theorem dX7_fields_23 : decode cX7_fields 23 = .ok (.aload_n 0, 1) := by decide +kernel
theorem dX7_fields_24 : decode cX7_fields 24 = .ok (.getfield 10, 3) := by decide +kernel
theorem dX7_fields_27 : decode cX7_fields 27 = .ok (.invokevirtual 144, 3) := by decide +kernel
theorem dX7_fields_30 : decode cX7_fields 30 = .ok (.ifCond .eq 6, 3) := by decide +kernel
theorem dX7_fields_33 : decode cX7_fields 33 = .ok (.bipush (-2), 2) := by decide +kernel
theorem dX7_fields_35 : decode cX7_fields 35 = .ok (.ireturn, 1) := by decide +kernel
theorem dX7_fields_36 : decode cX7_fields 36 = .ok (.aload_n 0, 1) := by decide +kernel
theorem dX7_fields_37 : decode cX7_fields 37 = .ok (.getfield 39, 3) := by decide +kernel
theorem dX7_fields_40 : decode cX7_fields 40 = .ok (.aload_n 0, 1) := by decide +kernel
theorem dX7_fields_41 : decode cX7_fields 41 = .ok (.getfield 10, 3) := by decide +kernel
theorem dX7_fields_44 : decode cX7_fields 44 = .ok (.invokevirtual 173, 3) := by decide +kernel
theorem dX7_fields_47 : decode cX7_fields 47 = .ok (.aload_n 0, 1) := by decide +kernel
theorem dX7_fields_48 : decode cX7_fields 48 = .ok (.getfield 39, 3) := by decide +kernel
theorem dX7_fields_51 : decode cX7_fields 51 = .ok (.aload_n 0, 1) := by decide +kernel
theorem dX7_fields_52 : decode cX7_fields 52 = .ok (.getfield 10, 3) := by decide +kernel
theorem dX7_fields_55 : decode cX7_fields 55 = .ok (.iload_n 1, 1) := by decide +kernel
theorem dX7_fields_56 : decode cX7_fields 56 = .ok (.iload_n 2, 1) := by decide +kernel
theorem dX7_fields_57 : decode cX7_fields 57 = .ok (.invokevirtual 202, 3) := by decide +kernel
theorem dX7_fields_60 : decode cX7_fields 60 = .ok (.ireturn, 1) := by decide +kernel
theorem dX7_image_0 : decode cX7_image 0 = .ok (.aload_n 0, 1) := by decide +kernel
theorem dX7_image_1 : decode cX7_image 1 = .ok (.getfield 23, 3) := by decide +kernel
theorem dX7_image_4 : decode cX7_image 4 = .ok (.aload_n 0, 1) := by decide +kernel
theorem dX7_image_5 : decode cX7_image 5 = .ok (.getfield 10, 3) := by decide +kernel
theorem dX7_image_8 : decode cX7_image 8 = .ok (.invokevirtual 206, 3) := by decide +kernel
theorem dX7_image_11 : decode cX7_image 11 = .ok (.aload_n 0, 1) := by decide +kernel
theorem dX7_image_12 : decode cX7_image 12 = .ok (.getfield 26, 3) := by decide +kernel
theorem dX7_image_15 : decode cX7_image 15 = .ok (.aload_n 0, 1) := by decide +kernel
theorem dX7_image_16 : decode cX7_image 16 = .ok (.getfield 19, 3) := by decide +kernel
theorem dX7_image_19 : decode cX7_image 19 = .ok (.invokevirtual 209, 3) := by decide +kernel
theorem dX7_image_22 : decode cX7_image 22 = .ok (.aload_n 0, 1) := by decide +kernel
theorem dX7_image_23 : decode cX7_image 23 = .ok (.iconst 1, 1) := by decide +kernel
theorem dX7_image_24 : decode cX7_image 24 = .ok (.putfield 212, 3) := by decide +kernel
theorem dX7_image_27 : decode cX7_image 27 = .ok (.iconst 1, 1) := by decide +kernel
theorem dX7_image_28 : decode cX7_image 28 = .ok (.ireturn, 1) := by decide +kernel
theorem dX7_restore_0 : decode cX7_restore 0 = .ok (.aload_n 0, 1) := by decide +kernel
theorem dX7_restore_1 : decode cX7_restore 1 = .ok (.getfield 212, 3) := by decide +kernel
theorem dX7_restore_4 : decode cX7_restore 4 = .ok (.ifCond .ne 6, 3) := by decide +kernel
theorem dX7_restore_7 : decode cX7_restore 7 = .ok (.bipush (-4), 2) := by decide +kernel
theorem dX7_restore_9 : decode cX7_restore 9 = .ok (.ireturn, 1) := by decide +kernel
theorem dX7_restore_10 : decode cX7_restore 10 = .ok (.aload_n 0, 1) := by decide +kernel
theorem dX7_restore_11 : decode cX7_restore 11 = .ok (.getfield 10, 3) := by decide +kernel
theorem dX7_restore_14 : decode cX7_restore 14 = .ok (.aload_n 0, 1) := by decide +kernel
theorem dX7_restore_15 : decode cX7_restore 15 = .ok (.getfield 23, 3) := by decide +kernel
theorem dX7_restore_18 : decode cX7_restore 18 = .ok (.invokevirtual 206, 3) := by decide +kernel
theorem dX7_restore_21 : decode cX7_restore 21 = .ok (.aload_n 0, 1) := by decide +kernel
theorem dX7_restore_22 : decode cX7_restore 22 = .ok (.getfield 19, 3) := by decide +kernel
theorem dX7_restore_25 : decode cX7_restore 25 = .ok (.aload_n 0, 1) := by decide +kernel
theorem dX7_restore_26 : decode cX7_restore 26 = .ok (.getfield 26, 3) := by decide +kernel
theorem dX7_restore_29 : decode cX7_restore 29 = .ok (.invokevirtual 209, 3) := by decide +kernel
theorem dX7_restore_32 : decode cX7_restore 32 = .ok (.iconst 1, 1) := by decide +kernel
theorem dX7_restore_33 : decode cX7_restore 33 = .ok (.ireturn, 1) := by decide +kernel
theorem dX7_strides_0 : decode cX7_strides 0 = .ok (.aload_n 0, 1) := by decide +kernel
theorem dX7_strides_1 : decode cX7_strides 1 = .ok (.getfield 10, 3) := by decide +kernel
theorem dX7_strides_4 : decode cX7_strides 4 = .ok (.iload_n 1, 1) := by decide +kernel
theorem dX7_strides_5 : decode cX7_strides 5 = .ok (.invokevirtual 69, 3) := by decide +kernel
theorem dX7_strides_8 : decode cX7_strides 8 = .ok (.ifCond .eq 28, 3) := by decide +kernel
theorem dX7_strides_11 : decode cX7_strides 11 = .ok (.iload_n 2, 1) := by decide +kernel
theorem dX7_strides_12 : decode cX7_strides 12 = .ok (.invokestatic 216, 3) := by decide +kernel
theorem dX7_strides_15 : decode cX7_strides 15 = .ok (.ifCond .eq 21, 3) := by decide +kernel
theorem dX7_strides_18 : decode cX7_strides 18 = .ok (.iload_n 3, 1) := by decide +kernel
theorem dX7_strides_19 : decode cX7_strides 19 = .ok (.invokestatic 219, 3) := by decide +kernel
theorem dX7_strides_22 : decode cX7_strides 22 = .ok (.ifCond .eq 14, 3) := by decide +kernel
theorem dX7_strides_25 : decode cX7_strides 25 = .ok (.iload 5, 2) := by decide +kernel
theorem dX7_strides_27 : decode cX7_strides 27 = .ok (.iconst 1, 1) := by decide +kernel
theorem dX7_strides_28 : decode cX7_strides 28 = .ok (.bipush 8, 2) := by decide +kernel
theorem dX7_strides_30 : decode cX7_strides 30 = .ok (.invokestatic 50, 3) := by decide +kernel
theorem dX7_strides_33 : decode cX7_strides 33 = .ok (.ifCond .ne 5, 3) := by decide +kernel
theorem dX7_strides_36 : decode cX7_strides 36 = .ok (.iconst (-1), 1) := by decide +kernel
theorem dX7_strides_37 : decode cX7_strides 37 = .ok (.ireturn, 1) := by decide +kernel
theorem dX7_strides_38 : decode cX7_strides 38 = .ok (.aload_n 0, 1) := by decide +kernel
theorem dX7_strides_39 : decode cX7_strides 39 = .ok (.getfield 45, 3) := by decide +kernel
theorem dX7_strides_42 : decode cX7_strides 42 = .ok (.iload_n 2, 1) := by decide +kernel
theorem dX7_strides_43 : decode cX7_strides 43 = .ok (.aaload, 1) := by decide +kernel
theorem dX7_strides_44 : decode cX7_strides 44 = .ok (.astore 6, 2) := by decide +kernel
theorem dX7_strides_46 : decode cX7_strides 46 = .ok (.aload 6, 2) := by decide +kernel
theorem dX7_strides_48 : decode cX7_strides 48 = .ok (.iload_n 3, 1) := by decide +kernel
theorem dX7_strides_49 : decode cX7_strides 49 = .ok (.iload 4, 2) := by decide +kernel
theorem dX7_strides_51 : decode cX7_strides 51 = .ok (.iconst 2, 1) := by decide +kernel
theorem dX7_strides_52 : decode cX7_strides 52 = .ok (.iload 5, 2) := by decide +kernel
theorem dX7_strides_54 : decode cX7_strides 54 = .ok (.imul, 1) := by decide +kernel
theorem dX7_strides_55 : decode cX7_strides 55 = .ok (.invokevirtual 222, 3) := by decide +kernel
theorem dX7_strides_58 : decode cX7_strides 58 = .ok (.istore 7, 2) := by decide +kernel
theorem dX7_strides_60 : decode cX7_strides 60 = .ok (.iload 7, 2) := by decide +kernel
theorem dX7_strides_62 : decode cX7_strides 62 = .ok (.ifCond .ge 6, 3) := by decide +kernel
theorem dX7_strides_65 : decode cX7_strides 65 = .ok (.iload 7, 2) := by decide +kernel
theorem dX7_strides_67 : decode cX7_strides 67 = .ok (.ireturn, 1) := by decide +kernel
theorem dX7_strides_68 : decode cX7_strides 68 = .ok (.aload_n 0, 1) := by decide +kernel
theorem dX7_strides_69 : decode cX7_strides 69 = .ok (.aload 6, 2) := by decide +kernel
theorem dX7_strides_71 : decode cX7_strides 71 = .ok (.iload 4, 2) := by decide +kernel
theorem dX7_strides_73 : decode cX7_strides 73 = .ok (.iload 5, 2) := by decide +kernel
theorem dX7_strides_75 : decode cX7_strides 75 = .ok (.invokevirtual 225, 3) := by decide +kernel
theorem dX7_strides_78 : decode cX7_strides 78 = .ok (.ifCond .ne 6, 3) := by decide +kernel
theorem dX7_strides_81 : decode cX7_strides 81 = .ok (.bipush (-2), 2) := by decide +kernel
theorem dX7_strides_83 : decode cX7_strides 83 = .ok (.ireturn, 1) := by decide +kernel
theorem dX7_strides_84 : decode cX7_strides 84 = .ok (.iconst 0, 1) := by decide +kernel
theorem dX7_strides_85 : decode cX7_strides 85 = .ok (.istore 8, 2) := by decide +kernel
theorem dX7_strides_87 : decode cX7_strides 87 = .ok (.iconst 0, 1) := by decide +kernel
theorem dX7_strides_88 : decode cX7_strides 88 = .ok (.istore 9, 2) := by decide +kernel
theorem dX7_strides_90 : decode cX7_strides 90 = .ok (.iload 9, 2) := by decide +kernel
theorem dX7_strides_92 : decode cX7_strides 92 = .ok (.bipush 6, 2) := by decide +kernel
theorem dX7_strides_94 : decode cX7_strides 94 = .ok (.if_icmp .ge 34, 3) := by decide +kernel
theorem dX7_strides_97 : decode cX7_strides 97 = .ok (.aload_n 0, 1) := by decide +kernel
theorem dX7_strides_98 : decode cX7_strides 98 = .ok (.iload_n 1, 1) := by decide +kernel
theorem dX7_strides_99 : decode cX7_strides 99 = .ok (.iload 9, 2) := by decide +kernel
theorem dX7_strides_101 : decode cX7_strides 101 = .ok (.aload 6, 2) := by decide +kernel
theorem dX7_strides_103 : decode cX7_strides 103 = .ok (.iload 4, 2) := by decide +kernel
theorem dX7_strides_105 : decode cX7_strides 105 = .ok (.iload 5, 2) := by decide +kernel
theorem dX7_strides_107 : decode cX7_strides 107 = .ok (.invokevirtual 229, 3) := by decide +kernel
theorem dX7_strides_110 : decode cX7_strides 110 = .ok (.ifCond .eq 12, 3) := by decide +kernel
theorem dX7_strides_113 : decode cX7_strides 113 = .ok (.iload 8, 2) := by decide +kernel
theorem dX7_strides_115 : decode cX7_strides 115 = .ok (.iconst 1, 1) := by decide +kernel
theorem dX7_strides_116 : decode cX7_strides 116 = .ok (.iload 9, 2) := by decide +kernel
theorem dX7_strides_118 : decode cX7_strides 118 = .ok (.ishl, 1) := by decide +kernel
theorem dX7_strides_119 : decode cX7_strides 119 = .ok (.ior, 1) := by decide +kernel
theorem dX7_strides_120 : decode cX7_strides 120 = .ok (.istore 8, 2) := by decide +kernel
theorem dX7_strides_122 : decode cX7_strides 122 = .ok (.iinc 9 1, 3) := by decide +kernel
theorem dX7_strides_125 : decode cX7_strides 125 = .ok (.goto (-35), 3) := by decide +kernel
theorem dX7_strides_128 : decode cX7_strides 128 = .ok (.iload 8, 2) := by decide +kernel
theorem dX7_strides_130 : decode cX7_strides 130 = .ok (.ireturn, 1) := by decide +kernel
theorem dX7_areSightings_0 : decode cX7_areSightings 0 = .ok (.iconst 0, 1) := by decide +kernel
theorem dX7_areSightings_1 : decode cX7_areSightings 1 = .ok (.istore 4, 2) := by decide +kernel
theorem dX7_areSightings_3 : decode cX7_areSightings 3 = .ok (.iload 4, 2) := by decide +kernel
theorem dX7_areSightings_5 : decode cX7_areSightings 5 = .ok (.iload_n 3, 1) := by decide +kernel
theorem dX7_areSightings_6 : decode cX7_areSightings 6 = .ok (.if_icmp .ge 74, 3) := by decide +kernel
theorem dX7_areSightings_9 : decode cX7_areSightings 9 = .ok (.aload_n 1, 1) := by decide +kernel
theorem dX7_areSightings_10 : decode cX7_areSightings 10 = .ok (.iload_n 2, 1) := by decide +kernel
theorem dX7_areSightings_11 : decode cX7_areSightings 11 = .ok (.iconst 2, 1) := by decide +kernel
theorem dX7_areSightings_12 : decode cX7_areSightings 12 = .ok (.iload 4, 2) := by decide +kernel
theorem dX7_areSightings_14 : decode cX7_areSightings 14 = .ok (.imul, 1) := by decide +kernel
theorem dX7_areSightings_15 : decode cX7_areSightings 15 = .ok (.iadd, 1) := by decide +kernel
theorem dX7_areSightings_16 : decode cX7_areSightings 16 = .ok (.invokevirtual 233, 3) := by decide +kernel
theorem dX7_areSightings_19 : decode cX7_areSightings 19 = .ok (.lstore 5, 2) := by decide +kernel
theorem dX7_areSightings_21 : decode cX7_areSightings 21 = .ok (.aload_n 1, 1) := by decide +kernel
theorem dX7_areSightings_22 : decode cX7_areSightings 22 = .ok (.iload_n 2, 1) := by decide +kernel
theorem dX7_areSightings_23 : decode cX7_areSightings 23 = .ok (.iconst 2, 1) := by decide +kernel
theorem dX7_areSightings_24 : decode cX7_areSightings 24 = .ok (.iload 4, 2) := by decide +kernel
theorem dX7_areSightings_26 : decode cX7_areSightings 26 = .ok (.imul, 1) := by decide +kernel
theorem dX7_areSightings_27 : decode cX7_areSightings 27 = .ok (.iadd, 1) := by decide +kernel
theorem dX7_areSightings_28 : decode cX7_areSightings 28 = .ok (.iconst 1, 1) := by decide +kernel
theorem dX7_areSightings_29 : decode cX7_areSightings 29 = .ok (.iadd, 1) := by decide +kernel
theorem dX7_areSightings_30 : decode cX7_areSightings 30 = .ok (.invokevirtual 233, 3) := by decide +kernel
theorem dX7_areSightings_33 : decode cX7_areSightings 33 = .ok (.lstore 7, 2) := by decide +kernel
theorem dX7_areSightings_35 : decode cX7_areSightings 35 = .ok (.lload 5, 2) := by decide +kernel
theorem dX7_areSightings_37 : decode cX7_areSightings 37 = .ok (.lconst 0, 1) := by decide +kernel
theorem dX7_areSightings_38 : decode cX7_areSightings 38 = .ok (.lcmp, 1) := by decide +kernel
theorem dX7_areSightings_39 : decode cX7_areSightings 39 = .ok (.ifCond .lt 33, 3) := by decide +kernel
theorem dX7_areSightings_42 : decode cX7_areSightings 42 = .ok (.lload 5, 2) := by decide +kernel
theorem dX7_areSightings_44 : decode cX7_areSightings 44 = .ok (.ldc2_w 237, 3) := by decide +kernel
theorem dX7_areSightings_47 : decode cX7_areSightings 47 = .ok (.lcmp, 1) := by decide +kernel
theorem dX7_areSightings_48 : decode cX7_areSightings 48 = .ok (.ifCond .gt 24, 3) := by decide +kernel
theorem dX7_areSightings_51 : decode cX7_areSightings 51 = .ok (.lload 7, 2) := by decide +kernel
theorem dX7_areSightings_53 : decode cX7_areSightings 53 = .ok (.lconst 0, 1) := by decide +kernel
theorem dX7_areSightings_54 : decode cX7_areSightings 54 = .ok (.lcmp, 1) := by decide +kernel
theorem dX7_areSightings_55 : decode cX7_areSightings 55 = .ok (.ifCond .lt 17, 3) := by decide +kernel
theorem dX7_areSightings_58 : decode cX7_areSightings 58 = .ok (.lload 7, 2) := by decide +kernel
theorem dX7_areSightings_60 : decode cX7_areSightings 60 = .ok (.aload_n 0, 1) := by decide +kernel
theorem dX7_areSightings_61 : decode cX7_areSightings 61 = .ok (.getfield 10, 3) := by decide +kernel
theorem dX7_areSightings_64 : decode cX7_areSightings 64 = .ok (.getfield 131, 3) := by decide +kernel
theorem dX7_areSightings_67 : decode cX7_areSightings 67 = .ok (.i2l, 1) := by decide +kernel
theorem dX7_areSightings_68 : decode cX7_areSightings 68 = .ok (.lcmp, 1) := by decide +kernel
theorem dX7_areSightings_69 : decode cX7_areSightings 69 = .ok (.ifCond .lt 5, 3) := by decide +kernel
theorem dX7_areSightings_72 : decode cX7_areSightings 72 = .ok (.iconst 0, 1) := by decide +kernel
theorem dX7_areSightings_73 : decode cX7_areSightings 73 = .ok (.ireturn, 1) := by decide +kernel
theorem dX7_areSightings_74 : decode cX7_areSightings 74 = .ok (.iinc 4 1, 3) := by decide +kernel
theorem dX7_areSightings_77 : decode cX7_areSightings 77 = .ok (.goto (-74), 3) := by decide +kernel
theorem dX7_areSightings_80 : decode cX7_areSightings 80 = .ok (.iconst 1, 1) := by decide +kernel
theorem dX7_areSightings_81 : decode cX7_areSightings 81 = .ok (.ireturn, 1) := by decide +kernel
theorem dX7_strodeSo_0 : decode cX7_strodeSo 0 = .ok (.iconst 0, 1) := by decide +kernel
theorem dX7_strodeSo_1 : decode cX7_strodeSo 1 = .ok (.istore 6, 2) := by decide +kernel
theorem dX7_strodeSo_3 : decode cX7_strodeSo 3 = .ok (.iload 6, 2) := by decide +kernel
theorem dX7_strodeSo_5 : decode cX7_strodeSo 5 = .ok (.iload 5, 2) := by decide +kernel
theorem dX7_strodeSo_7 : decode cX7_strodeSo 7 = .ok (.if_icmp .ge 61, 3) := by decide +kernel
theorem dX7_strodeSo_10 : decode cX7_strodeSo 10 = .ok (.aload_n 3, 1) := by decide +kernel
theorem dX7_strodeSo_11 : decode cX7_strodeSo 11 = .ok (.iload 4, 2) := by decide +kernel
theorem dX7_strodeSo_13 : decode cX7_strodeSo 13 = .ok (.iconst 2, 1) := by decide +kernel
theorem dX7_strodeSo_14 : decode cX7_strodeSo 14 = .ok (.iload 6, 2) := by decide +kernel
theorem dX7_strodeSo_16 : decode cX7_strodeSo 16 = .ok (.imul, 1) := by decide +kernel
theorem dX7_strodeSo_17 : decode cX7_strodeSo 17 = .ok (.iadd, 1) := by decide +kernel
theorem dX7_strodeSo_18 : decode cX7_strodeSo 18 = .ok (.invokevirtual 233, 3) := by decide +kernel
theorem dX7_strodeSo_21 : decode cX7_strodeSo 21 = .ok (.l2i, 1) := by decide +kernel
theorem dX7_strodeSo_22 : decode cX7_strodeSo 22 = .ok (.istore 7, 2) := by decide +kernel
theorem dX7_strodeSo_24 : decode cX7_strodeSo 24 = .ok (.aload_n 0, 1) := by decide +kernel
theorem dX7_strodeSo_25 : decode cX7_strodeSo 25 = .ok (.getfield 10, 3) := by decide +kernel
theorem dX7_strodeSo_28 : decode cX7_strodeSo 28 = .ok (.aload_n 0, 1) := by decide +kernel
theorem dX7_strodeSo_29 : decode cX7_strodeSo 29 = .ok (.getfield 10, 3) := by decide +kernel
theorem dX7_strodeSo_32 : decode cX7_strodeSo 32 = .ok (.iload_n 1, 1) := by decide +kernel
theorem dX7_strodeSo_33 : decode cX7_strodeSo 33 = .ok (.iload_n 2, 1) := by decide +kernel
theorem dX7_strodeSo_34 : decode cX7_strodeSo 34 = .ok (.iload 7, 2) := by decide +kernel
theorem dX7_strodeSo_36 : decode cX7_strodeSo 36 = .ok (.invokevirtual 111, 3) := by decide +kernel
theorem dX7_strodeSo_39 : decode cX7_strodeSo 39 = .ok (.invokevirtual 239, 3) := by decide +kernel
theorem dX7_strodeSo_42 : decode cX7_strodeSo 42 = .ok (.i2l, 1) := by decide +kernel
theorem dX7_strodeSo_43 : decode cX7_strodeSo 43 = .ok (.aload_n 3, 1) := by decide +kernel
theorem dX7_strodeSo_44 : decode cX7_strodeSo 44 = .ok (.iload 4, 2) := by decide +kernel
theorem dX7_strodeSo_46 : decode cX7_strodeSo 46 = .ok (.iconst 2, 1) := by decide +kernel
theorem dX7_strodeSo_47 : decode cX7_strodeSo 47 = .ok (.iload 6, 2) := by decide +kernel
theorem dX7_strodeSo_49 : decode cX7_strodeSo 49 = .ok (.imul, 1) := by decide +kernel
theorem dX7_strodeSo_50 : decode cX7_strodeSo 50 = .ok (.iadd, 1) := by decide +kernel
theorem dX7_strodeSo_51 : decode cX7_strodeSo 51 = .ok (.iconst 1, 1) := by decide +kernel
theorem dX7_strodeSo_52 : decode cX7_strodeSo 52 = .ok (.iadd, 1) := by decide +kernel
theorem dX7_strodeSo_53 : decode cX7_strodeSo 53 = .ok (.invokevirtual 233, 3) := by decide +kernel
theorem dX7_strodeSo_56 : decode cX7_strodeSo 56 = .ok (.lcmp, 1) := by decide +kernel
theorem dX7_strodeSo_57 : decode cX7_strodeSo 57 = .ok (.ifCond .eq 5, 3) := by decide +kernel
theorem dX7_strodeSo_60 : decode cX7_strodeSo 60 = .ok (.iconst 0, 1) := by decide +kernel
theorem dX7_strodeSo_61 : decode cX7_strodeSo 61 = .ok (.ireturn, 1) := by decide +kernel
theorem dX7_strodeSo_62 : decode cX7_strodeSo 62 = .ok (.iinc 6 1, 3) := by decide +kernel
theorem dX7_strodeSo_65 : decode cX7_strodeSo 65 = .ok (.goto (-62), 3) := by decide +kernel
theorem dX7_strodeSo_68 : decode cX7_strodeSo 68 = .ok (.iconst 1, 1) := by decide +kernel
theorem dX7_strodeSo_69 : decode cX7_strodeSo 69 = .ok (.ireturn, 1) := by decide +kernel
theorem dX7_far_0 : decode cX7_far 0 = .ok (.iload_n 1, 1) := by decide +kernel
theorem dX7_far_1 : decode cX7_far 1 = .ok (.invokestatic 216, 3) := by decide +kernel
theorem dX7_far_4 : decode cX7_far 4 = .ok (.ifCond .eq 20, 3) := by decide +kernel
theorem dX7_far_7 : decode cX7_far 7 = .ok (.iload_n 2, 1) := by decide +kernel
theorem dX7_far_8 : decode cX7_far 8 = .ok (.invokestatic 219, 3) := by decide +kernel
theorem dX7_far_11 : decode cX7_far 11 = .ok (.ifCond .eq 13, 3) := by decide +kernel
theorem dX7_far_14 : decode cX7_far 14 = .ok (.iload 4, 2) := by decide +kernel
theorem dX7_far_16 : decode cX7_far 16 = .ok (.iconst 0, 1) := by decide +kernel
theorem dX7_far_17 : decode cX7_far 17 = .ok (.iconst 1, 1) := by decide +kernel
theorem dX7_far_18 : decode cX7_far 18 = .ok (.invokestatic 50, 3) := by decide +kernel
theorem dX7_far_21 : decode cX7_far 21 = .ok (.ifCond .ne 5, 3) := by decide +kernel
theorem dX7_far_24 : decode cX7_far 24 = .ok (.iconst (-1), 1) := by decide +kernel
theorem dX7_far_25 : decode cX7_far 25 = .ok (.ireturn, 1) := by decide +kernel
theorem dX7_far_26 : decode cX7_far 26 = .ok (.aload_n 0, 1) := by decide +kernel
theorem dX7_far_27 : decode cX7_far 27 = .ok (.getfield 45, 3) := by decide +kernel
theorem dX7_far_30 : decode cX7_far 30 = .ok (.iload_n 1, 1) := by decide +kernel
theorem dX7_far_31 : decode cX7_far 31 = .ok (.aaload, 1) := by decide +kernel
theorem dX7_far_32 : decode cX7_far 32 = .ok (.astore 5, 2) := by decide +kernel
theorem dX7_far_34 : decode cX7_far 34 = .ok (.aload 5, 2) := by decide +kernel
theorem dX7_far_36 : decode cX7_far 36 = .ok (.iload_n 2, 1) := by decide +kernel
theorem dX7_far_37 : decode cX7_far 37 = .ok (.iload_n 3, 1) := by decide +kernel
theorem dX7_far_38 : decode cX7_far 38 = .ok (.aload_n 0, 1) := by decide +kernel
theorem dX7_far_39 : decode cX7_far 39 = .ok (.getfield 10, 3) := by decide +kernel
theorem dX7_far_42 : decode cX7_far 42 = .ok (.invokevirtual 242, 3) := by decide +kernel
theorem dX7_far_45 : decode cX7_far 45 = .ok (.invokevirtual 222, 3) := by decide +kernel
theorem dX7_far_48 : decode cX7_far 48 = .ok (.istore 6, 2) := by decide +kernel
theorem dX7_far_50 : decode cX7_far 50 = .ok (.iload 6, 2) := by decide +kernel
theorem dX7_far_52 : decode cX7_far 52 = .ok (.ifCond .ge 6, 3) := by decide +kernel
theorem dX7_far_55 : decode cX7_far 55 = .ok (.iload 6, 2) := by decide +kernel
theorem dX7_far_57 : decode cX7_far 57 = .ok (.ireturn, 1) := by decide +kernel
theorem dX7_far_58 : decode cX7_far 58 = .ok (.aload_n 0, 1) := by decide +kernel
theorem dX7_far_59 : decode cX7_far 59 = .ok (.invokevirtual 245, 3) := by decide +kernel
theorem dX7_far_62 : decode cX7_far 62 = .ok (.istore 7, 2) := by decide +kernel
theorem dX7_far_64 : decode cX7_far 64 = .ok (.iload 4, 2) := by decide +kernel
theorem dX7_far_66 : decode cX7_far 66 = .ok (.ifCond .ne 15, 3) := by decide +kernel
theorem dX7_far_69 : decode cX7_far 69 = .ok (.aload_n 0, 1) := by decide +kernel
theorem dX7_far_70 : decode cX7_far 70 = .ok (.aload 5, 2) := by decide +kernel
theorem dX7_far_72 : decode cX7_far 72 = .ok (.iload_n 3, 1) := by decide +kernel
theorem dX7_far_73 : decode cX7_far 73 = .ok (.iload 7, 2) := by decide +kernel
theorem dX7_far_75 : decode cX7_far 75 = .ok (.invokevirtual 248, 3) := by decide +kernel
theorem dX7_far_78 : decode cX7_far 78 = .ok (.goto 12, 3) := by decide +kernel
theorem dX7_far_81 : decode cX7_far 81 = .ok (.aload_n 0, 1) := by decide +kernel
theorem dX7_far_82 : decode cX7_far 82 = .ok (.aload 5, 2) := by decide +kernel
theorem dX7_far_84 : decode cX7_far 84 = .ok (.iload_n 3, 1) := by decide +kernel
theorem dX7_far_85 : decode cX7_far 85 = .ok (.iload 7, 2) := by decide +kernel
theorem dX7_far_87 : decode cX7_far 87 = .ok (.invokevirtual 252, 3) := by decide +kernel
theorem dX7_far_90 : decode cX7_far 90 = .ok (.ireturn, 1) := by decide +kernel
theorem dX7_turnsThatFit_0 : decode cX7_turnsThatFit 0 = .ok (.iconst 0, 1) := by decide +kernel
theorem dX7_turnsThatFit_1 : decode cX7_turnsThatFit 1 = .ok (.istore 4, 2) := by decide +kernel
theorem dX7_turnsThatFit_3 : decode cX7_turnsThatFit 3 = .ok (.iconst 0, 1) := by decide +kernel
theorem dX7_turnsThatFit_4 : decode cX7_turnsThatFit 4 = .ok (.istore 5, 2) := by decide +kernel
theorem dX7_turnsThatFit_6 : decode cX7_turnsThatFit 6 = .ok (.iload 5, 2) := by decide +kernel
theorem dX7_turnsThatFit_8 : decode cX7_turnsThatFit 8 = .ok (.iload_n 3, 1) := by decide +kernel
theorem dX7_turnsThatFit_9 : decode cX7_turnsThatFit 9 = .ok (.if_icmp .gt 23, 3) := by decide +kernel
theorem dX7_turnsThatFit_12 : decode cX7_turnsThatFit 12 = .ok (.aload_n 0, 1) := by decide +kernel
theorem dX7_turnsThatFit_13 : decode cX7_turnsThatFit 13 = .ok (.iload 5, 2) := by decide +kernel
theorem dX7_turnsThatFit_15 : decode cX7_turnsThatFit 15 = .ok (.aload_n 1, 1) := by decide +kernel
theorem dX7_turnsThatFit_16 : decode cX7_turnsThatFit 16 = .ok (.iload_n 2, 1) := by decide +kernel
theorem dX7_turnsThatFit_17 : decode cX7_turnsThatFit 17 = .ok (.invokevirtual 255, 3) := by decide +kernel
theorem dX7_turnsThatFit_20 : decode cX7_turnsThatFit 20 = .ok (.ifCond .eq 6, 3) := by decide +kernel
theorem dX7_turnsThatFit_23 : decode cX7_turnsThatFit 23 = .ok (.iinc 4 1, 3) := by decide +kernel
theorem dX7_turnsThatFit_26 : decode cX7_turnsThatFit 26 = .ok (.iinc 5 1, 3) := by decide +kernel
theorem dX7_turnsThatFit_29 : decode cX7_turnsThatFit 29 = .ok (.goto (-23), 3) := by decide +kernel
theorem dX7_turnsThatFit_32 : decode cX7_turnsThatFit 32 = .ok (.iload 4, 2) := by decide +kernel
theorem dX7_turnsThatFit_34 : decode cX7_turnsThatFit 34 = .ok (.ireturn, 1) := by decide +kernel
theorem dX7_firstTurnThatFits_0 : decode cX7_firstTurnThatFits 0 = .ok (.iconst 0, 1) := by decide +kernel
theorem dX7_firstTurnThatFits_1 : decode cX7_firstTurnThatFits 1 = .ok (.istore 4, 2) := by decide +kernel
theorem dX7_firstTurnThatFits_3 : decode cX7_firstTurnThatFits 3 = .ok (.iload 4, 2) := by decide +kernel
theorem dX7_firstTurnThatFits_5 : decode cX7_firstTurnThatFits 5 = .ok (.iload_n 3, 1) := by decide +kernel
theorem dX7_firstTurnThatFits_6 : decode cX7_firstTurnThatFits 6 = .ok (.if_icmp .gt 23, 3) := by decide +kernel
theorem dX7_firstTurnThatFits_9 : decode cX7_firstTurnThatFits 9 = .ok (.aload_n 0, 1) := by decide +kernel
theorem dX7_firstTurnThatFits_10 : decode cX7_firstTurnThatFits 10 = .ok (.iload 4, 2) := by decide +kernel
theorem dX7_firstTurnThatFits_12 : decode cX7_firstTurnThatFits 12 = .ok (.aload_n 1, 1) := by decide +kernel
theorem dX7_firstTurnThatFits_13 : decode cX7_firstTurnThatFits 13 = .ok (.iload_n 2, 1) := by decide +kernel
theorem dX7_firstTurnThatFits_14 : decode cX7_firstTurnThatFits 14 = .ok (.invokevirtual 255, 3) := by decide +kernel
theorem dX7_firstTurnThatFits_17 : decode cX7_firstTurnThatFits 17 = .ok (.ifCond .eq 6, 3) := by decide +kernel
theorem dX7_firstTurnThatFits_20 : decode cX7_firstTurnThatFits 20 = .ok (.iload 4, 2) := by decide +kernel
theorem dX7_firstTurnThatFits_22 : decode cX7_firstTurnThatFits 22 = .ok (.ireturn, 1) := by decide +kernel
theorem dX7_firstTurnThatFits_23 : decode cX7_firstTurnThatFits 23 = .ok (.iinc 4 1, 3) := by decide +kernel
theorem dX7_firstTurnThatFits_26 : decode cX7_firstTurnThatFits 26 = .ok (.goto (-23), 3) := by decide +kernel
theorem dX7_firstTurnThatFits_29 : decode cX7_firstTurnThatFits 29 = .ok (.bipush (-4), 2) := by decide +kernel
theorem dX7_firstTurnThatFits_31 : decode cX7_firstTurnThatFits 31 = .ok (.ireturn, 1) := by decide +kernel
theorem dX7_lastFarTurn_0 : decode cX7_lastFarTurn 0 = .ok (.aload_n 0, 1) := by decide +kernel
theorem dX7_lastFarTurn_1 : decode cX7_lastFarTurn 1 = .ok (.getfield 10, 3) := by decide +kernel
theorem dX7_lastFarTurn_4 : decode cX7_lastFarTurn 4 = .ok (.getfield 58, 3) := by decide +kernel
theorem dX7_lastFarTurn_7 : decode cX7_lastFarTurn 7 = .ok (.ifCond .ne 7, 3) := by decide +kernel
theorem dX7_lastFarTurn_10 : decode cX7_lastFarTurn 10 = .ok (.iconst (-1), 1) := by decide +kernel
theorem dX7_lastFarTurn_11 : decode cX7_lastFarTurn 11 = .ok (.goto 13, 3) := by decide +kernel
theorem dX7_lastFarTurn_14 : decode cX7_lastFarTurn 14 = .ok (.aload_n 0, 1) := by decide +kernel
theorem dX7_lastFarTurn_15 : decode cX7_lastFarTurn 15 = .ok (.getfield 10, 3) := by decide +kernel
theorem dX7_lastFarTurn_18 : decode cX7_lastFarTurn 18 = .ok (.iconst 0, 1) := by decide +kernel
theorem dX7_lastFarTurn_19 : decode cX7_lastFarTurn 19 = .ok (.bipush 60, 2) := by decide +kernel
theorem dX7_lastFarTurn_21 : decode cX7_lastFarTurn 21 = .ok (.invokevirtual 259, 3) := by decide +kernel
theorem dX7_lastFarTurn_24 : decode cX7_lastFarTurn 24 = .ok (.ireturn, 1) := by decide +kernel
theorem dX7_comeAsTold_0 : decode cX7_comeAsTold 0 = .ok (.aload_n 0, 1) := by decide +kernel
theorem dX7_comeAsTold_1 : decode cX7_comeAsTold 1 = .ok (.getfield 10, 3) := by decide +kernel
theorem dX7_comeAsTold_4 : decode cX7_comeAsTold 4 = .ok (.iconst 0, 1) := by decide +kernel
theorem dX7_comeAsTold_5 : decode cX7_comeAsTold 5 = .ok (.iload_n 1, 1) := by decide +kernel
theorem dX7_comeAsTold_6 : decode cX7_comeAsTold 6 = .ok (.invokevirtual 263, 3) := by decide +kernel
theorem dX7_comeAsTold_9 : decode cX7_comeAsTold 9 = .ok (.istore 4, 2) := by decide +kernel
theorem dX7_comeAsTold_11 : decode cX7_comeAsTold 11 = .ok (.iload_n 3, 1) := by decide +kernel
theorem dX7_comeAsTold_12 : decode cX7_comeAsTold 12 = .ok (.istore 5, 2) := by decide +kernel
theorem dX7_comeAsTold_14 : decode cX7_comeAsTold 14 = .ok (.iconst 1, 1) := by decide +kernel
theorem dX7_comeAsTold_15 : decode cX7_comeAsTold 15 = .ok (.istore 6, 2) := by decide +kernel
theorem dX7_comeAsTold_17 : decode cX7_comeAsTold 17 = .ok (.iload 6, 2) := by decide +kernel
theorem dX7_comeAsTold_19 : decode cX7_comeAsTold 19 = .ok (.aload_n 0, 1) := by decide +kernel
theorem dX7_comeAsTold_20 : decode cX7_comeAsTold 20 = .ok (.getfield 10, 3) := by decide +kernel
theorem dX7_comeAsTold_23 : decode cX7_comeAsTold 23 = .ok (.getfield 58, 3) := by decide +kernel
theorem dX7_comeAsTold_26 : decode cX7_comeAsTold 26 = .ok (.if_icmp .ge 48, 3) := by decide +kernel
theorem dX7_comeAsTold_29 : decode cX7_comeAsTold 29 = .ok (.aload_n 0, 1) := by decide +kernel
theorem dX7_comeAsTold_30 : decode cX7_comeAsTold 30 = .ok (.getfield 10, 3) := by decide +kernel
theorem dX7_comeAsTold_33 : decode cX7_comeAsTold 33 = .ok (.iload 6, 2) := by decide +kernel
theorem dX7_comeAsTold_35 : decode cX7_comeAsTold 35 = .ok (.invokevirtual 196, 3) := by decide +kernel
theorem dX7_comeAsTold_38 : decode cX7_comeAsTold 38 = .ok (.ifCond .eq 30, 3) := by decide +kernel
theorem dX7_comeAsTold_41 : decode cX7_comeAsTold 41 = .ok (.aload_n 2, 1) := by decide +kernel
theorem dX7_comeAsTold_42 : decode cX7_comeAsTold 42 = .ok (.iload 5, 2) := by decide +kernel
theorem dX7_comeAsTold_44 : decode cX7_comeAsTold 44 = .ok (.invokevirtual 233, 3) := by decide +kernel
theorem dX7_comeAsTold_47 : decode cX7_comeAsTold 47 = .ok (.aload_n 0, 1) := by decide +kernel
theorem dX7_comeAsTold_48 : decode cX7_comeAsTold 48 = .ok (.getfield 10, 3) := by decide +kernel
theorem dX7_comeAsTold_51 : decode cX7_comeAsTold 51 = .ok (.iload 6, 2) := by decide +kernel
theorem dX7_comeAsTold_53 : decode cX7_comeAsTold 53 = .ok (.iload 4, 2) := by decide +kernel
theorem dX7_comeAsTold_55 : decode cX7_comeAsTold 55 = .ok (.invokevirtual 266, 3) := by decide +kernel
theorem dX7_comeAsTold_58 : decode cX7_comeAsTold 58 = .ok (.i2l, 1) := by decide +kernel
theorem dX7_comeAsTold_59 : decode cX7_comeAsTold 59 = .ok (.lcmp, 1) := by decide +kernel
theorem dX7_comeAsTold_60 : decode cX7_comeAsTold 60 = .ok (.ifCond .eq 5, 3) := by decide +kernel
theorem dX7_comeAsTold_63 : decode cX7_comeAsTold 63 = .ok (.iconst 0, 1) := by decide +kernel
theorem dX7_comeAsTold_64 : decode cX7_comeAsTold 64 = .ok (.ireturn, 1) := by decide +kernel
theorem dX7_comeAsTold_65 : decode cX7_comeAsTold 65 = .ok (.iinc 5 1, 3) := by decide +kernel
theorem dX7_comeAsTold_68 : decode cX7_comeAsTold 68 = .ok (.iinc 6 1, 3) := by decide +kernel
theorem dX7_comeAsTold_71 : decode cX7_comeAsTold 71 = .ok (.goto (-54), 3) := by decide +kernel
theorem dX7_comeAsTold_74 : decode cX7_comeAsTold 74 = .ok (.iconst 1, 1) := by decide +kernel
theorem dX7_comeAsTold_75 : decode cX7_comeAsTold 75 = .ok (.ireturn, 1) := by decide +kernel
theorem dX7_film_0 : decode cX7_film 0 = .ok (.iload_n 1, 1) := by decide +kernel
theorem dX7_film_1 : decode cX7_film 1 = .ok (.iconst 1, 1) := by decide +kernel
theorem dX7_film_2 : decode cX7_film 2 = .ok (.bipush 24, 2) := by decide +kernel
theorem dX7_film_4 : decode cX7_film 4 = .ok (.invokestatic 50, 3) := by decide +kernel
theorem dX7_film_7 : decode cX7_film 7 = .ok (.ifCond .eq 17, 3) := by decide +kernel
theorem dX7_film_10 : decode cX7_film 10 = .ok (.iload_n 2, 1) := by decide +kernel
theorem dX7_film_11 : decode cX7_film 11 = .ok (.invokestatic 216, 3) := by decide +kernel
theorem dX7_film_14 : decode cX7_film 14 = .ok (.ifCond .eq 10, 3) := by decide +kernel
theorem dX7_film_17 : decode cX7_film 17 = .ok (.iload_n 3, 1) := by decide +kernel
theorem dX7_film_18 : decode cX7_film 18 = .ok (.invokestatic 219, 3) := by decide +kernel
theorem dX7_film_21 : decode cX7_film 21 = .ok (.ifCond .ne 5, 3) := by decide +kernel
theorem dX7_film_24 : decode cX7_film 24 = .ok (.iconst (-1), 1) := by decide +kernel
theorem dX7_film_25 : decode cX7_film 25 = .ok (.ireturn, 1) := by decide +kernel
theorem dX7_film_26 : decode cX7_film 26 = .ok (.aload_n 0, 1) := by decide +kernel
theorem dX7_film_27 : decode cX7_film 27 = .ok (.invokevirtual 163, 3) := by decide +kernel
theorem dX7_film_30 : decode cX7_film 30 = .ok (.ifCond .ne 6, 3) := by decide +kernel
theorem dX7_film_33 : decode cX7_film 33 = .ok (.bipush (-2), 2) := by decide +kernel
theorem dX7_film_35 : decode cX7_film 35 = .ok (.ireturn, 1) := by decide +kernel
theorem dX7_film_36 : decode cX7_film 36 = .ok (.aload_n 0, 1) := by decide +kernel
theorem dX7_film_37 : decode cX7_film 37 = .ok (.getfield 45, 3) := by decide +kernel
theorem dX7_film_40 : decode cX7_film 40 = .ok (.iload_n 2, 1) := by decide +kernel
theorem dX7_film_41 : decode cX7_film 41 = .ok (.aaload, 1) := by decide +kernel
theorem dX7_film_42 : decode cX7_film 42 = .ok (.astore 5, 2) := by decide +kernel
theorem dX7_film_44 : decode cX7_film 44 = .ok (.aload 5, 2) := by decide +kernel
theorem dX7_film_46 : decode cX7_film 46 = .ok (.iload_n 3, 1) := by decide +kernel
theorem dX7_film_47 : decode cX7_film 47 = .ok (.iload 4, 2) := by decide +kernel
theorem dX7_film_49 : decode cX7_film 49 = .ok (.iload_n 1, 1) := by decide +kernel
theorem dX7_film_50 : decode cX7_film 50 = .ok (.invokevirtual 222, 3) := by decide +kernel
theorem dX7_film_53 : decode cX7_film 53 = .ok (.istore 6, 2) := by decide +kernel
theorem dX7_film_55 : decode cX7_film 55 = .ok (.iload 6, 2) := by decide +kernel
theorem dX7_film_57 : decode cX7_film 57 = .ok (.ifCond .ge 6, 3) := by decide +kernel
theorem dX7_film_60 : decode cX7_film 60 = .ok (.iload 6, 2) := by decide +kernel
theorem dX7_film_62 : decode cX7_film 62 = .ok (.ireturn, 1) := by decide +kernel
theorem dX7_film_63 : decode cX7_film 63 = .ok (.aload_n 0, 1) := by decide +kernel
theorem dX7_film_64 : decode cX7_film 64 = .ok (.getfield 39, 3) := by decide +kernel
theorem dX7_film_67 : decode cX7_film 67 = .ok (.aload_n 0, 1) := by decide +kernel
theorem dX7_film_68 : decode cX7_film 68 = .ok (.getfield 10, 3) := by decide +kernel
theorem dX7_film_71 : decode cX7_film 71 = .ok (.invokevirtual 173, 3) := by decide +kernel
theorem dX7_film_74 : decode cX7_film 74 = .ok (.aload_n 0, 1) := by decide +kernel
theorem dX7_film_75 : decode cX7_film 75 = .ok (.getfield 39, 3) := by decide +kernel
theorem dX7_film_78 : decode cX7_film 78 = .ok (.iload_n 1, 1) := by decide +kernel
theorem dX7_film_79 : decode cX7_film 79 = .ok (.invokevirtual 179, 3) := by decide +kernel
theorem dX7_film_82 : decode cX7_film 82 = .ok (.pop, 1) := by decide +kernel
theorem dX7_film_83 : decode cX7_film 83 = .ok (.iconst 0, 1) := by decide +kernel
theorem dX7_film_84 : decode cX7_film 84 = .ok (.istore 7, 2) := by decide +kernel
theorem dX7_film_86 : decode cX7_film 86 = .ok (.iload 7, 2) := by decide +kernel
theorem dX7_film_88 : decode cX7_film 88 = .ok (.iload_n 1, 1) := by decide +kernel
theorem dX7_film_89 : decode cX7_film 89 = .ok (.if_icmp .ge 29, 3) := by decide +kernel
theorem dX7_film_92 : decode cX7_film 92 = .ok (.aload 5, 2) := by decide +kernel
theorem dX7_film_94 : decode cX7_film 94 = .ok (.iload 4, 2) := by decide +kernel
theorem dX7_film_96 : decode cX7_film 96 = .ok (.iload 7, 2) := by decide +kernel
theorem dX7_film_98 : decode cX7_film 98 = .ok (.iadd, 1) := by decide +kernel
theorem dX7_film_99 : decode cX7_film 99 = .ok (.aload_n 0, 1) := by decide +kernel
theorem dX7_film_100 : decode cX7_film 100 = .ok (.getfield 39, 3) := by decide +kernel
theorem dX7_film_103 : decode cX7_film 103 = .ok (.iload 7, 2) := by decide +kernel
theorem dX7_film_105 : decode cX7_film 105 = .ok (.invokevirtual 269, 3) := by decide +kernel
theorem dX7_film_108 : decode cX7_film 108 = .ok (.i2l, 1) := by decide +kernel
theorem dX7_film_109 : decode cX7_film 109 = .ok (.invokevirtual 272, 3) := by decide +kernel
theorem dX7_film_112 : decode cX7_film 112 = .ok (.iinc 7 1, 3) := by decide +kernel
theorem dX7_film_115 : decode cX7_film 115 = .ok (.goto (-29), 3) := by decide +kernel
theorem dX7_film_118 : decode cX7_film 118 = .ok (.iload_n 1, 1) := by decide +kernel
theorem dX7_film_119 : decode cX7_film 119 = .ok (.ireturn, 1) := by decide +kernel
theorem dX7_sheet_0 : decode cX7_sheet 0 = .ok (.iload_n 1, 1) := by decide +kernel
theorem dX7_sheet_1 : decode cX7_sheet 1 = .ok (.invokestatic 216, 3) := by decide +kernel
theorem dX7_sheet_4 : decode cX7_sheet 4 = .ok (.ifCond .eq 16, 3) := by decide +kernel
theorem dX7_sheet_7 : decode cX7_sheet 7 = .ok (.iload_n 2, 1) := by decide +kernel
theorem dX7_sheet_8 : decode cX7_sheet 8 = .ok (.invokestatic 219, 3) := by decide +kernel
theorem dX7_sheet_11 : decode cX7_sheet 11 = .ok (.ifCond .eq 9, 3) := by decide +kernel
theorem dX7_sheet_14 : decode cX7_sheet 14 = .ok (.iload_n 3, 1) := by decide +kernel
theorem dX7_sheet_15 : decode cX7_sheet 15 = .ok (.bipush 24, 2) := by decide +kernel
theorem dX7_sheet_17 : decode cX7_sheet 17 = .ok (.if_icmp .le 5, 3) := by decide +kernel
theorem dX7_sheet_20 : decode cX7_sheet 20 = .ok (.iconst (-1), 1) := by decide +kernel
theorem dX7_sheet_21 : decode cX7_sheet 21 = .ok (.ireturn, 1) := by decide +kernel
theorem dX7_sheet_22 : decode cX7_sheet 22 = .ok (.iload_n 3, 1) := by decide +kernel
theorem dX7_sheet_23 : decode cX7_sheet 23 = .ok (.ifCond .ge 6, 3) := by decide +kernel
theorem dX7_sheet_26 : decode cX7_sheet 26 = .ok (.bipush (-14), 2) := by decide +kernel
theorem dX7_sheet_28 : decode cX7_sheet 28 = .ok (.ireturn, 1) := by decide +kernel
theorem dX7_sheet_29 : decode cX7_sheet 29 = .ok (.aload_n 0, 1) := by decide +kernel
theorem dX7_sheet_30 : decode cX7_sheet 30 = .ok (.getfield 45, 3) := by decide +kernel
theorem dX7_sheet_33 : decode cX7_sheet 33 = .ok (.iload_n 1, 1) := by decide +kernel
theorem dX7_sheet_34 : decode cX7_sheet 34 = .ok (.aaload, 1) := by decide +kernel
theorem dX7_sheet_35 : decode cX7_sheet 35 = .ok (.iload_n 2, 1) := by decide +kernel
theorem dX7_sheet_36 : decode cX7_sheet 36 = .ok (.iload_n 3, 1) := by decide +kernel
theorem dX7_sheet_37 : decode cX7_sheet 37 = .ok (.invokevirtual 276, 3) := by decide +kernel
theorem dX7_sheet_40 : decode cX7_sheet 40 = .ok (.iload_n 3, 1) := by decide +kernel
theorem dX7_sheet_41 : decode cX7_sheet 41 = .ok (.ireturn, 1) := by decide +kernel
theorem dX7_drop_0 : decode cX7_drop 0 = .ok (.iload_n 1, 1) := by decide +kernel
theorem dX7_drop_1 : decode cX7_drop 1 = .ok (.invokestatic 216, 3) := by decide +kernel
theorem dX7_drop_4 : decode cX7_drop 4 = .ok (.ifCond .ne 5, 3) := by decide +kernel
theorem dX7_drop_7 : decode cX7_drop 7 = .ok (.iconst (-1), 1) := by decide +kernel
theorem dX7_drop_8 : decode cX7_drop 8 = .ok (.ireturn, 1) := by decide +kernel
theorem dX7_drop_9 : decode cX7_drop 9 = .ok (.aload_n 0, 1) := by decide +kernel
theorem dX7_drop_10 : decode cX7_drop 10 = .ok (.getfield 45, 3) := by decide +kernel
theorem dX7_drop_13 : decode cX7_drop 13 = .ok (.iload_n 1, 1) := by decide +kernel
theorem dX7_drop_14 : decode cX7_drop 14 = .ok (.aaload, 1) := by decide +kernel
theorem dX7_drop_15 : decode cX7_drop 15 = .ok (.astore_n 2, 1) := by decide +kernel
theorem dX7_drop_16 : decode cX7_drop 16 = .ok (.aload_n 2, 1) := by decide +kernel
theorem dX7_drop_17 : decode cX7_drop 17 = .ok (.invokevirtual 279, 3) := by decide +kernel
theorem dX7_drop_20 : decode cX7_drop 20 = .ok (.ifCond .ne 6, 3) := by decide +kernel
theorem dX7_drop_23 : decode cX7_drop 23 = .ok (.bipush (-11), 2) := by decide +kernel
theorem dX7_drop_25 : decode cX7_drop 25 = .ok (.ireturn, 1) := by decide +kernel
theorem dX7_drop_26 : decode cX7_drop 26 = .ok (.aload_n 2, 1) := by decide +kernel
theorem dX7_drop_27 : decode cX7_drop 27 = .ok (.invokevirtual 282, 3) := by decide +kernel
theorem dX7_drop_30 : decode cX7_drop 30 = .ok (.aload_n 2, 1) := by decide +kernel
theorem dX7_drop_31 : decode cX7_drop 31 = .ok (.getfield 285, 3) := by decide +kernel
theorem dX7_drop_34 : decode cX7_drop 34 = .ok (.ireturn, 1) := by decide +kernel
theorem dX7_item_0 : decode cX7_item 0 = .ok (.iload_n 1, 1) := by decide +kernel
theorem dX7_item_1 : decode cX7_item 1 = .ok (.invokestatic 216, 3) := by decide +kernel
theorem dX7_item_4 : decode cX7_item 4 = .ok (.ifCond .eq 10, 3) := by decide +kernel
theorem dX7_item_7 : decode cX7_item 7 = .ok (.iload_n 2, 1) := by decide +kernel
theorem dX7_item_8 : decode cX7_item 8 = .ok (.invokestatic 219, 3) := by decide +kernel
theorem dX7_item_11 : decode cX7_item 11 = .ok (.ifCond .ne 5, 3) := by decide +kernel
theorem dX7_item_14 : decode cX7_item 14 = .ok (.iconst (-1), 1) := by decide +kernel
theorem dX7_item_15 : decode cX7_item 15 = .ok (.ireturn, 1) := by decide +kernel
theorem dX7_item_16 : decode cX7_item 16 = .ok (.aload_n 0, 1) := by decide +kernel
theorem dX7_item_17 : decode cX7_item 17 = .ok (.getfield 45, 3) := by decide +kernel
theorem dX7_item_20 : decode cX7_item 20 = .ok (.iload_n 1, 1) := by decide +kernel
theorem dX7_item_21 : decode cX7_item 21 = .ok (.aaload, 1) := by decide +kernel
theorem dX7_item_22 : decode cX7_item 22 = .ok (.astore 6, 2) := by decide +kernel
theorem dX7_item_24 : decode cX7_item 24 = .ok (.aload 6, 2) := by decide +kernel
theorem dX7_item_26 : decode cX7_item 26 = .ok (.iload_n 2, 1) := by decide +kernel
theorem dX7_item_27 : decode cX7_item 27 = .ok (.iload_n 3, 1) := by decide +kernel
theorem dX7_item_28 : decode cX7_item 28 = .ok (.iconst 1, 1) := by decide +kernel
theorem dX7_item_29 : decode cX7_item 29 = .ok (.invokevirtual 222, 3) := by decide +kernel
theorem dX7_item_32 : decode cX7_item 32 = .ok (.istore 7, 2) := by decide +kernel
theorem dX7_item_34 : decode cX7_item 34 = .ok (.iload 7, 2) := by decide +kernel
theorem dX7_item_36 : decode cX7_item 36 = .ok (.ifCond .ge 6, 3) := by decide +kernel
theorem dX7_item_39 : decode cX7_item 39 = .ok (.iload 7, 2) := by decide +kernel
theorem dX7_item_41 : decode cX7_item 41 = .ok (.ireturn, 1) := by decide +kernel
theorem dX7_item_42 : decode cX7_item 42 = .ok (.aload 6, 2) := by decide +kernel
theorem dX7_item_44 : decode cX7_item 44 = .ok (.iload_n 3, 1) := by decide +kernel
theorem dX7_item_45 : decode cX7_item 45 = .ok (.lload 4, 2) := by decide +kernel
theorem dX7_item_47 : decode cX7_item 47 = .ok (.invokevirtual 272, 3) := by decide +kernel
theorem dX7_item_50 : decode cX7_item 50 = .ok (.iconst 1, 1) := by decide +kernel
theorem dX7_item_51 : decode cX7_item 51 = .ok (.ireturn, 1) := by decide +kernel
theorem dX7_copy_0 : decode cX7_copy 0 = .ok (.iload_n 1, 1) := by decide +kernel
theorem dX7_copy_1 : decode cX7_copy 1 = .ok (.invokestatic 216, 3) := by decide +kernel
theorem dX7_copy_4 : decode cX7_copy 4 = .ok (.ifCond .eq 10, 3) := by decide +kernel
theorem dX7_copy_7 : decode cX7_copy 7 = .ok (.iload_n 3, 1) := by decide +kernel
theorem dX7_copy_8 : decode cX7_copy 8 = .ok (.invokestatic 216, 3) := by decide +kernel
theorem dX7_copy_11 : decode cX7_copy 11 = .ok (.ifCond .ne 5, 3) := by decide +kernel
theorem dX7_copy_14 : decode cX7_copy 14 = .ok (.iconst (-1), 1) := by decide +kernel
theorem dX7_copy_15 : decode cX7_copy 15 = .ok (.ireturn, 1) := by decide +kernel
theorem dX7_copy_16 : decode cX7_copy 16 = .ok (.aload_n 0, 1) := by decide +kernel
theorem dX7_copy_17 : decode cX7_copy 17 = .ok (.getfield 45, 3) := by decide +kernel
theorem dX7_copy_20 : decode cX7_copy 20 = .ok (.iload_n 1, 1) := by decide +kernel
theorem dX7_copy_21 : decode cX7_copy 21 = .ok (.aaload, 1) := by decide +kernel
theorem dX7_copy_22 : decode cX7_copy 22 = .ok (.astore 6, 2) := by decide +kernel
theorem dX7_copy_24 : decode cX7_copy 24 = .ok (.aload_n 0, 1) := by decide +kernel
theorem dX7_copy_25 : decode cX7_copy 25 = .ok (.getfield 45, 3) := by decide +kernel
theorem dX7_copy_28 : decode cX7_copy 28 = .ok (.iload_n 3, 1) := by decide +kernel
theorem dX7_copy_29 : decode cX7_copy 29 = .ok (.aaload, 1) := by decide +kernel
theorem dX7_copy_30 : decode cX7_copy 30 = .ok (.astore 7, 2) := by decide +kernel
theorem dX7_copy_32 : decode cX7_copy 32 = .ok (.aload 6, 2) := by decide +kernel
theorem dX7_copy_34 : decode cX7_copy 34 = .ok (.invokevirtual 279, 3) := by decide +kernel
theorem dX7_copy_37 : decode cX7_copy 37 = .ok (.ifCond .eq 11, 3) := by decide +kernel
theorem dX7_copy_40 : decode cX7_copy 40 = .ok (.aload 7, 2) := by decide +kernel
theorem dX7_copy_42 : decode cX7_copy 42 = .ok (.invokevirtual 279, 3) := by decide +kernel
theorem dX7_copy_45 : decode cX7_copy 45 = .ok (.ifCond .ne 6, 3) := by decide +kernel
theorem dX7_copy_48 : decode cX7_copy 48 = .ok (.bipush (-11), 2) := by decide +kernel
theorem dX7_copy_50 : decode cX7_copy 50 = .ok (.ireturn, 1) := by decide +kernel
theorem dX7_copy_51 : decode cX7_copy 51 = .ok (.aload 6, 2) := by decide +kernel
theorem dX7_copy_53 : decode cX7_copy 53 = .ok (.getfield 288, 3) := by decide +kernel
theorem dX7_copy_56 : decode cX7_copy 56 = .ok (.aload 7, 2) := by decide +kernel
theorem dX7_copy_58 : decode cX7_copy 58 = .ok (.getfield 288, 3) := by decide +kernel
theorem dX7_copy_61 : decode cX7_copy 61 = .ok (.if_icmp .eq 6, 3) := by decide +kernel
theorem dX7_copy_64 : decode cX7_copy 64 = .ok (.bipush (-12), 2) := by decide +kernel
theorem dX7_copy_66 : decode cX7_copy 66 = .ok (.ireturn, 1) := by decide +kernel
theorem dX7_copy_67 : decode cX7_copy 67 = .ok (.aload 6, 2) := by decide +kernel
theorem dX7_copy_69 : decode cX7_copy 69 = .ok (.iload_n 2, 1) := by decide +kernel
theorem dX7_copy_70 : decode cX7_copy 70 = .ok (.iload 5, 2) := by decide +kernel
theorem dX7_copy_72 : decode cX7_copy 72 = .ok (.invokevirtual 291, 3) := by decide +kernel
theorem dX7_copy_75 : decode cX7_copy 75 = .ok (.ifCond .eq 15, 3) := by decide +kernel
theorem dX7_copy_78 : decode cX7_copy 78 = .ok (.aload 7, 2) := by decide +kernel
theorem dX7_copy_80 : decode cX7_copy 80 = .ok (.iload 4, 2) := by decide +kernel
theorem dX7_copy_82 : decode cX7_copy 82 = .ok (.iload 5, 2) := by decide +kernel
theorem dX7_copy_84 : decode cX7_copy 84 = .ok (.invokevirtual 291, 3) := by decide +kernel
theorem dX7_copy_87 : decode cX7_copy 87 = .ok (.ifCond .ne 6, 3) := by decide +kernel
theorem dX7_copy_90 : decode cX7_copy 90 = .ok (.bipush (-13), 2) := by decide +kernel
theorem dX7_copy_92 : decode cX7_copy 92 = .ok (.ireturn, 1) := by decide +kernel
theorem dX7_copy_93 : decode cX7_copy 93 = .ok (.aload 6, 2) := by decide +kernel
theorem dX7_copy_95 : decode cX7_copy 95 = .ok (.getfield 295, 3) := by decide +kernel
theorem dX7_copy_98 : decode cX7_copy 98 = .ok (.iload_n 2, 1) := by decide +kernel
theorem dX7_copy_99 : decode cX7_copy 99 = .ok (.aload 7, 2) := by decide +kernel
theorem dX7_copy_101 : decode cX7_copy 101 = .ok (.getfield 295, 3) := by decide +kernel
theorem dX7_copy_104 : decode cX7_copy 104 = .ok (.iload 4, 2) := by decide +kernel
theorem dX7_copy_106 : decode cX7_copy 106 = .ok (.iload 5, 2) := by decide +kernel
theorem dX7_copy_108 : decode cX7_copy 108 = .ok (.invokestatic 299, 3) := by decide +kernel
theorem dX7_copy_111 : decode cX7_copy 111 = .ok (.iload 5, 2) := by decide +kernel
theorem dX7_copy_113 : decode cX7_copy 113 = .ok (.ireturn, 1) := by decide +kernel
theorem dX7_within_0 : decode cX7_within 0 = .ok (.iload_n 0, 1) := by decide +kernel
theorem dX7_within_1 : decode cX7_within 1 = .ok (.iload_n 1, 1) := by decide +kernel
theorem dX7_within_2 : decode cX7_within 2 = .ok (.if_icmp .lt 12, 3) := by decide +kernel
theorem dX7_within_5 : decode cX7_within 5 = .ok (.iload_n 0, 1) := by decide +kernel
theorem dX7_within_6 : decode cX7_within 6 = .ok (.iload_n 2, 1) := by decide +kernel
theorem dX7_within_7 : decode cX7_within 7 = .ok (.if_icmp .gt 7, 3) := by decide +kernel
theorem dX7_within_10 : decode cX7_within 10 = .ok (.iconst 1, 1) := by decide +kernel
theorem dX7_within_11 : decode cX7_within 11 = .ok (.goto 4, 3) := by decide +kernel
theorem dX7_within_14 : decode cX7_within 14 = .ok (.iconst 0, 1) := by decide +kernel
theorem dX7_within_15 : decode cX7_within 15 = .ok (.ireturn, 1) := by decide +kernel
theorem dX7_isSheet_0 : decode cX7_isSheet 0 = .ok (.iload_n 0, 1) := by decide +kernel
theorem dX7_isSheet_1 : decode cX7_isSheet 1 = .ok (.iconst 0, 1) := by decide +kernel
theorem dX7_isSheet_2 : decode cX7_isSheet 2 = .ok (.iconst 3, 1) := by decide +kernel
theorem dX7_isSheet_3 : decode cX7_isSheet 3 = .ok (.invokestatic 50, 3) := by decide +kernel
theorem dX7_isSheet_6 : decode cX7_isSheet 6 = .ok (.ireturn, 1) := by decide +kernel
theorem dX7_isLane_0 : decode cX7_isLane 0 = .ok (.iload_n 0, 1) := by decide +kernel
theorem dX7_isLane_1 : decode cX7_isLane 1 = .ok (.iconst 0, 1) := by decide +kernel
theorem dX7_isLane_2 : decode cX7_isLane 2 = .ok (.iconst 3, 1) := by decide +kernel
theorem dX7_isLane_3 : decode cX7_isLane 3 = .ok (.invokestatic 50, 3) := by decide +kernel
theorem dX7_isLane_6 : decode cX7_isLane 6 = .ok (.ireturn, 1) := by decide +kernel
theorem dX7_mayTurn_0 : decode cX7_mayTurn 0 = .ok (.aload_n 0, 1) := by decide +kernel
theorem dX7_mayTurn_1 : decode cX7_mayTurn 1 = .ok (.getfield 10, 3) := by decide +kernel
theorem dX7_mayTurn_4 : decode cX7_mayTurn 4 = .ok (.invokevirtual 144, 3) := by decide +kernel
theorem dX7_mayTurn_7 : decode cX7_mayTurn 7 = .ok (.ifCond .ne 17, 3) := by decide +kernel
theorem dX7_mayTurn_10 : decode cX7_mayTurn 10 = .ok (.aload_n 0, 1) := by decide +kernel
theorem dX7_mayTurn_11 : decode cX7_mayTurn 11 = .ok (.getfield 10, 3) := by decide +kernel
theorem dX7_mayTurn_14 : decode cX7_mayTurn 14 = .ok (.invokevirtual 54, 3) := by decide +kernel
theorem dX7_mayTurn_17 : decode cX7_mayTurn 17 = .ok (.ifCond .ne 7, 3) := by decide +kernel
theorem dX7_mayTurn_20 : decode cX7_mayTurn 20 = .ok (.iconst 1, 1) := by decide +kernel
theorem dX7_mayTurn_21 : decode cX7_mayTurn 21 = .ok (.goto 4, 3) := by decide +kernel
theorem dX7_mayTurn_24 : decode cX7_mayTurn 24 = .ok (.iconst 0, 1) := by decide +kernel
theorem dX7_mayTurn_25 : decode cX7_mayTurn 25 = .ok (.ireturn, 1) := by decide +kernel
