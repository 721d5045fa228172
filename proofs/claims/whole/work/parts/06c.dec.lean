theorem dX8_looks_126 : decode cX8_looks 126 = .ok (.iload_n 3, 1) := by decide +kernel
theorem dX8_looks_127 : decode cX8_looks 127 = .ok (.aload_n 0, 1) := by decide +kernel
theorem dX8_looks_128 : decode cX8_looks 128 = .ok (.getfield 232, 3) := by decide +kernel
theorem dX8_looks_131 : decode cX8_looks 131 = .ok (.if_icmp .le 7, 3) := by decide +kernel
theorem dX8_looks_134 : decode cX8_looks 134 = .ok (.iload_n 3, 1) := by decide +kernel
theorem dX8_looks_135 : decode cX8_looks 135 = .ok (.goto 7, 3) := by decide +kernel
theorem dX8_looks_138 : decode cX8_looks 138 = .ok (.aload_n 0, 1) := by decide +kernel
theorem dX8_looks_139 : decode cX8_looks 139 = .ok (.getfield 232, 3) := by decide +kernel
theorem dX8_looks_142 : decode cX8_looks 142 = .ok (.putfield 232, 3) := by decide +kernel
theorem dX8_looks_145 : decode cX8_looks 145 = .ok (.iinc 2 1, 3) := by decide +kernel
theorem dX8_looks_148 : decode cX8_looks 148 = .ok (.goto (-135), 3) := by decide +kernel
theorem dX8_looks_151 : decode cX8_looks 151 = .ok (.return_, 1) := by decide +kernel
theorem dX8_isCaughtThen_0 : decode cX8_isCaughtThen 0 = .ok (.aload_n 0, 1) := by decide +kernel
theorem dX8_isCaughtThen_1 : decode cX8_isCaughtThen 1 = .ok (.invokevirtual 229, 3) := by decide +kernel
theorem dX8_isCaughtThen_4 : decode cX8_isCaughtThen 4 = .ok (.aload_n 0, 1) := by decide +kernel
theorem dX8_isCaughtThen_5 : decode cX8_isCaughtThen 5 = .ok (.iload_n 1, 1) := by decide +kernel
theorem dX8_isCaughtThen_6 : decode cX8_isCaughtThen 6 = .ok (.invokevirtual 195, 3) := by decide +kernel
theorem dX8_isCaughtThen_9 : decode cX8_isCaughtThen 9 = .ok (.ireturn, 1) := by decide +kernel
theorem dX8_isOff_0 : decode cX8_isOff 0 = .ok (.aload_n 0, 1) := by decide +kernel
theorem dX8_isOff_1 : decode cX8_isOff 1 = .ok (.invokevirtual 174, 3) := by decide +kernel
theorem dX8_isOff_4 : decode cX8_isOff 4 = .ok (.ifCond .ne 10, 3) := by decide +kernel
theorem dX8_isOff_7 : decode cX8_isOff 7 = .ok (.aload_n 0, 1) := by decide +kernel
theorem dX8_isOff_8 : decode cX8_isOff 8 = .ok (.invokevirtual 80, 3) := by decide +kernel
theorem dX8_isOff_11 : decode cX8_isOff 11 = .ok (.ifCond .eq 7, 3) := by decide +kernel
theorem dX8_isOff_14 : decode cX8_isOff 14 = .ok (.iconst 1, 1) := by decide +kernel
theorem dX8_isOff_15 : decode cX8_isOff 15 = .ok (.goto 4, 3) := by decide +kernel
theorem dX8_isOff_18 : decode cX8_isOff 18 = .ok (.iconst 0, 1) := by decide +kernel
theorem dX8_isOff_19 : decode cX8_isOff 19 = .ok (.ireturn, 1) := by decide +kernel
theorem dX8_best_0 : decode cX8_best 0 = .ok (.iload_n 1, 1) := by decide +kernel
theorem dX8_best_1 : decode cX8_best 1 = .ok (.i2l, 1) := by decide +kernel
theorem dX8_best_2 : decode cX8_best 2 = .ok (.lconst 0, 1) := by decide +kernel
theorem dX8_best_3 : decode cX8_best 3 = .ok (.lconst 1, 1) := by decide +kernel
theorem dX8_best_4 : decode cX8_best 4 = .ok (.invokestatic 69, 3) := by decide +kernel
theorem dX8_best_7 : decode cX8_best 7 = .ok (.ifCond .ne 5, 3) := by decide +kernel
theorem dX8_best_10 : decode cX8_best 10 = .ok (.iconst (-1), 1) := by decide +kernel
theorem dX8_best_11 : decode cX8_best 11 = .ok (.ireturn, 1) := by decide +kernel
theorem dX8_best_12 : decode cX8_best 12 = .ok (.aload_n 0, 1) := by decide +kernel
theorem dX8_best_13 : decode cX8_best 13 = .ok (.invokevirtual 241, 3) := by decide +kernel
theorem dX8_best_16 : decode cX8_best 16 = .ok (.ifCond .eq 6, 3) := by decide +kernel
theorem dX8_best_19 : decode cX8_best 19 = .ok (.bipush (-2), 2) := by decide +kernel
theorem dX8_best_21 : decode cX8_best 21 = .ok (.ireturn, 1) := by decide +kernel
theorem dX8_best_22 : decode cX8_best 22 = .ok (.aload_n 0, 1) := by decide +kernel
theorem dX8_best_23 : decode cX8_best 23 = .ok (.invokevirtual 244, 3) := by decide +kernel
theorem dX8_best_26 : decode cX8_best 26 = .ok (.iload_n 1, 1) := by decide +kernel
theorem dX8_best_27 : decode cX8_best 27 = .ok (.ifCond .ne 10, 3) := by decide +kernel
theorem dX8_best_30 : decode cX8_best 30 = .ok (.aload_n 0, 1) := by decide +kernel
theorem dX8_best_31 : decode cX8_best 31 = .ok (.getfield 238, 3) := by decide +kernel
theorem dX8_best_34 : decode cX8_best 34 = .ok (.goto 7, 3) := by decide +kernel
theorem dX8_best_37 : decode cX8_best 37 = .ok (.aload_n 0, 1) := by decide +kernel
theorem dX8_best_38 : decode cX8_best 38 = .ok (.getfield 232, 3) := by decide +kernel
theorem dX8_best_41 : decode cX8_best 41 = .ok (.ireturn, 1) := by decide +kernel
theorem dX8_late_0 : decode cX8_late 0 = .ok (.iload_n 1, 1) := by decide +kernel
theorem dX8_late_1 : decode cX8_late 1 = .ok (.i2l, 1) := by decide +kernel
theorem dX8_late_2 : decode cX8_late 2 = .ok (.lconst 0, 1) := by decide +kernel
theorem dX8_late_3 : decode cX8_late 3 = .ok (.ldc2_w 247, 3) := by decide +kernel
theorem dX8_late_6 : decode cX8_late 6 = .ok (.invokestatic 69, 3) := by decide +kernel
theorem dX8_late_9 : decode cX8_late 9 = .ok (.ifCond .ne 5, 3) := by decide +kernel
theorem dX8_late_12 : decode cX8_late 12 = .ok (.iconst (-1), 1) := by decide +kernel
theorem dX8_late_13 : decode cX8_late 13 = .ok (.ireturn, 1) := by decide +kernel
theorem dX8_late_14 : decode cX8_late 14 = .ok (.aload_n 0, 1) := by decide +kernel
theorem dX8_late_15 : decode cX8_late 15 = .ok (.invokevirtual 241, 3) := by decide +kernel
theorem dX8_late_18 : decode cX8_late 18 = .ok (.ifCond .eq 6, 3) := by decide +kernel
theorem dX8_late_21 : decode cX8_late 21 = .ok (.bipush (-2), 2) := by decide +kernel
theorem dX8_late_23 : decode cX8_late 23 = .ok (.ireturn, 1) := by decide +kernel
theorem dX8_late_24 : decode cX8_late 24 = .ok (.aload_n 0, 1) := by decide +kernel
theorem dX8_late_25 : decode cX8_late 25 = .ok (.invokevirtual 244, 3) := by decide +kernel
theorem dX8_late_28 : decode cX8_late 28 = .ok (.bipush (-4), 2) := by decide +kernel
theorem dX8_late_30 : decode cX8_late 30 = .ok (.istore_n 2, 1) := by decide +kernel
theorem dX8_late_31 : decode cX8_late 31 = .ok (.iconst 0, 1) := by decide +kernel
theorem dX8_late_32 : decode cX8_late 32 = .ok (.istore_n 3, 1) := by decide +kernel
theorem dX8_late_33 : decode cX8_late 33 = .ok (.iload_n 3, 1) := by decide +kernel
theorem dX8_late_34 : decode cX8_late 34 = .ok (.bipush 61, 2) := by decide +kernel
theorem dX8_late_36 : decode cX8_late 36 = .ok (.if_icmp .ge 32, 3) := by decide +kernel
theorem dX8_late_39 : decode cX8_late 39 = .ok (.aload_n 0, 1) := by decide +kernel
theorem dX8_late_40 : decode cX8_late 40 = .ok (.getfield 43, 3) := by decide +kernel
theorem dX8_late_43 : decode cX8_late 43 = .ok (.iload_n 3, 1) := by decide +kernel
theorem dX8_late_44 : decode cX8_late 44 = .ok (.iaload, 1) := by decide +kernel
theorem dX8_late_45 : decode cX8_late 45 = .ok (.iload_n 1, 1) := by decide +kernel
theorem dX8_late_46 : decode cX8_late 46 = .ok (.if_icmp .lt 14, 3) := by decide +kernel
theorem dX8_late_49 : decode cX8_late 49 = .ok (.aload_n 0, 1) := by decide +kernel
theorem dX8_late_50 : decode cX8_late 50 = .ok (.getfield 16, 3) := by decide +kernel
theorem dX8_late_53 : decode cX8_late 53 = .ok (.iconst 0, 1) := by decide +kernel
theorem dX8_late_54 : decode cX8_late 54 = .ok (.iaload, 1) := by decide +kernel
theorem dX8_late_55 : decode cX8_late 55 = .ok (.iload_n 3, 1) := by decide +kernel
theorem dX8_late_56 : decode cX8_late 56 = .ok (.iadd, 1) := by decide +kernel
theorem dX8_late_57 : decode cX8_late 57 = .ok (.goto 4, 3) := by decide +kernel
theorem dX8_late_60 : decode cX8_late 60 = .ok (.iload_n 2, 1) := by decide +kernel
theorem dX8_late_61 : decode cX8_late 61 = .ok (.istore_n 2, 1) := by decide +kernel
theorem dX8_late_62 : decode cX8_late 62 = .ok (.iinc 3 1, 3) := by decide +kernel
theorem dX8_late_65 : decode cX8_late 65 = .ok (.goto (-32), 3) := by decide +kernel
theorem dX8_late_68 : decode cX8_late 68 = .ok (.iload_n 2, 1) := by decide +kernel
theorem dX8_late_69 : decode cX8_late 69 = .ok (.ireturn, 1) := by decide +kernel
theorem dX8_together_0 : decode cX8_together 0 = .ok (.iload_n 1, 1) := by decide +kernel
theorem dX8_together_1 : decode cX8_together 1 = .ok (.i2l, 1) := by decide +kernel
theorem dX8_together_2 : decode cX8_together 2 = .ok (.lconst 0, 1) := by decide +kernel
theorem dX8_together_3 : decode cX8_together 3 = .ok (.ldc2_w 134, 3) := by decide +kernel
theorem dX8_together_6 : decode cX8_together 6 = .ok (.invokestatic 69, 3) := by decide +kernel
theorem dX8_together_9 : decode cX8_together 9 = .ok (.ifCond .eq 15, 3) := by decide +kernel
theorem dX8_together_12 : decode cX8_together 12 = .ok (.iload_n 2, 1) := by decide +kernel
theorem dX8_together_13 : decode cX8_together 13 = .ok (.i2l, 1) := by decide +kernel
theorem dX8_together_14 : decode cX8_together 14 = .ok (.lconst 0, 1) := by decide +kernel
theorem dX8_together_15 : decode cX8_together 15 = .ok (.ldc2_w 249, 3) := by decide +kernel
theorem dX8_together_18 : decode cX8_together 18 = .ok (.invokestatic 69, 3) := by decide +kernel
theorem dX8_together_21 : decode cX8_together 21 = .ok (.ifCond .ne 5, 3) := by decide +kernel
theorem dX8_together_24 : decode cX8_together 24 = .ok (.iconst (-1), 1) := by decide +kernel
theorem dX8_together_25 : decode cX8_together 25 = .ok (.ireturn, 1) := by decide +kernel
theorem dX8_together_26 : decode cX8_together 26 = .ok (.aload_n 0, 1) := by decide +kernel
theorem dX8_together_27 : decode cX8_together 27 = .ok (.invokevirtual 241, 3) := by decide +kernel
theorem dX8_together_30 : decode cX8_together 30 = .ok (.ifCond .eq 6, 3) := by decide +kernel
theorem dX8_together_33 : decode cX8_together 33 = .ok (.bipush (-2), 2) := by decide +kernel
theorem dX8_together_35 : decode cX8_together 35 = .ok (.ireturn, 1) := by decide +kernel
theorem dX8_together_36 : decode cX8_together 36 = .ok (.aload_n 0, 1) := by decide +kernel
theorem dX8_together_37 : decode cX8_together 37 = .ok (.invokevirtual 244, 3) := by decide +kernel
theorem dX8_together_40 : decode cX8_together 40 = .ok (.aload_n 0, 1) := by decide +kernel
theorem dX8_together_41 : decode cX8_together 41 = .ok (.getfield 232, 3) := by decide +kernel
theorem dX8_together_44 : decode cX8_together 44 = .ok (.istore_n 3, 1) := by decide +kernel
theorem dX8_together_45 : decode cX8_together 45 = .ok (.aload_n 0, 1) := by decide +kernel
theorem dX8_together_46 : decode cX8_together 46 = .ok (.iconst 1, 1) := by decide +kernel
theorem dX8_together_47 : decode cX8_together 47 = .ok (.putfield 99, 3) := by decide +kernel
theorem dX8_together_50 : decode cX8_together 50 = .ok (.iload_n 2, 1) := by decide +kernel
theorem dX8_together_51 : decode cX8_together 51 = .ok (.ifCond .ne 11, 3) := by decide +kernel
theorem dX8_together_54 : decode cX8_together 54 = .ok (.aload_n 0, 1) := by decide +kernel
theorem dX8_together_55 : decode cX8_together 55 = .ok (.iload_n 1, 1) := by decide +kernel
theorem dX8_together_56 : decode cX8_together 56 = .ok (.invokevirtual 220, 3) := by decide +kernel
theorem dX8_together_59 : decode cX8_together 59 = .ok (.goto 4, 3) := by decide +kernel
theorem dX8_together_62 : decode cX8_together 62 = .ok (.iconst 0, 1) := by decide +kernel
theorem dX8_together_63 : decode cX8_together 63 = .ok (.istore 4, 2) := by decide +kernel
theorem dX8_together_65 : decode cX8_together 65 = .ok (.iload_n 2, 1) := by decide +kernel
theorem dX8_together_66 : decode cX8_together 66 = .ok (.ifCond .le 34, 3) := by decide +kernel
theorem dX8_together_69 : decode cX8_together 69 = .ok (.aload_n 0, 1) := by decide +kernel
theorem dX8_together_70 : decode cX8_together 70 = .ok (.invokevirtual 244, 3) := by decide +kernel
theorem dX8_together_73 : decode cX8_together 73 = .ok (.iload_n 2, 1) := by decide +kernel
theorem dX8_together_74 : decode cX8_together 74 = .ok (.iconst 1, 1) := by decide +kernel
theorem dX8_together_75 : decode cX8_together 75 = .ok (.if_icmp .ne 10, 3) := by decide +kernel
theorem dX8_together_78 : decode cX8_together 78 = .ok (.aload_n 0, 1) := by decide +kernel
theorem dX8_together_79 : decode cX8_together 79 = .ok (.getfield 232, 3) := by decide +kernel
theorem dX8_together_82 : decode cX8_together 82 = .ok (.goto 16, 3) := by decide +kernel
theorem dX8_together_85 : decode cX8_together 85 = .ok (.aload_n 0, 1) := by decide +kernel
theorem dX8_together_86 : decode cX8_together 86 = .ok (.getfield 232, 3) := by decide +kernel
theorem dX8_together_89 : decode cX8_together 89 = .ok (.iload_n 3, 1) := by decide +kernel
theorem dX8_together_90 : decode cX8_together 90 = .ok (.if_icmp .ge 7, 3) := by decide +kernel
theorem dX8_together_93 : decode cX8_together 93 = .ok (.iconst 1, 1) := by decide +kernel
theorem dX8_together_94 : decode cX8_together 94 = .ok (.goto 4, 3) := by decide +kernel
theorem dX8_together_97 : decode cX8_together 97 = .ok (.iconst 0, 1) := by decide +kernel
theorem dX8_together_98 : decode cX8_together 98 = .ok (.istore 4, 2) := by decide +kernel
theorem dX8_together_100 : decode cX8_together 100 = .ok (.aload_n 0, 1) := by decide +kernel
theorem dX8_together_101 : decode cX8_together 101 = .ok (.iconst 0, 1) := by decide +kernel
theorem dX8_together_102 : decode cX8_together 102 = .ok (.putfield 99, 3) := by decide +kernel
theorem dX8_together_105 : decode cX8_together 105 = .ok (.iload 4, 2) := by decide +kernel
theorem dX8_together_107 : decode cX8_together 107 = .ok (.ireturn, 1) := by decide +kernel
theorem dX8_ditched_0 : decode cX8_ditched 0 = .ok (.aload_n 0, 1) := by decide +kernel
theorem dX8_ditched_1 : decode cX8_ditched 1 = .ok (.invokevirtual 241, 3) := by decide +kernel
theorem dX8_ditched_4 : decode cX8_ditched 4 = .ok (.ifCond .eq 6, 3) := by decide +kernel
theorem dX8_ditched_7 : decode cX8_ditched 7 = .ok (.bipush (-2), 2) := by decide +kernel
theorem dX8_ditched_9 : decode cX8_ditched 9 = .ok (.ireturn, 1) := by decide +kernel
theorem dX8_ditched_10 : decode cX8_ditched 10 = .ok (.aload_n 0, 1) := by decide +kernel
theorem dX8_ditched_11 : decode cX8_ditched 11 = .ok (.invokevirtual 244, 3) := by decide +kernel
theorem dX8_ditched_14 : decode cX8_ditched 14 = .ok (.aload_n 0, 1) := by decide +kernel
theorem dX8_ditched_15 : decode cX8_ditched 15 = .ok (.getfield 232, 3) := by decide +kernel
theorem dX8_ditched_18 : decode cX8_ditched 18 = .ok (.istore_n 1, 1) := by decide +kernel
theorem dX8_ditched_19 : decode cX8_ditched 19 = .ok (.bipush (-4), 2) := by decide +kernel
theorem dX8_ditched_21 : decode cX8_ditched 21 = .ok (.istore_n 2, 1) := by decide +kernel
theorem dX8_ditched_22 : decode cX8_ditched 22 = .ok (.iconst 1, 1) := by decide +kernel
theorem dX8_ditched_23 : decode cX8_ditched 23 = .ok (.istore_n 3, 1) := by decide +kernel
theorem dX8_ditched_24 : decode cX8_ditched 24 = .ok (.iload_n 3, 1) := by decide +kernel
theorem dX8_ditched_25 : decode cX8_ditched 25 = .ok (.aload_n 0, 1) := by decide +kernel
theorem dX8_ditched_26 : decode cX8_ditched 26 = .ok (.getfield 62, 3) := by decide +kernel
theorem dX8_ditched_29 : decode cX8_ditched 29 = .ok (.if_icmp .ge 67, 3) := by decide +kernel
theorem dX8_ditched_32 : decode cX8_ditched 32 = .ok (.aload_n 0, 1) := by decide +kernel
theorem dX8_ditched_33 : decode cX8_ditched 33 = .ok (.getfield 7, 3) := by decide +kernel
theorem dX8_ditched_36 : decode cX8_ditched 36 = .ok (.iload_n 3, 1) := by decide +kernel
theorem dX8_ditched_37 : decode cX8_ditched 37 = .ok (.iaload, 1) := by decide +kernel
theorem dX8_ditched_38 : decode cX8_ditched 38 = .ok (.ifCond .ne 52, 3) := by decide +kernel
theorem dX8_ditched_41 : decode cX8_ditched 41 = .ok (.aload_n 0, 1) := by decide +kernel
theorem dX8_ditched_42 : decode cX8_ditched 42 = .ok (.getfield 7, 3) := by decide +kernel
theorem dX8_ditched_45 : decode cX8_ditched 45 = .ok (.iload_n 3, 1) := by decide +kernel
theorem dX8_ditched_46 : decode cX8_ditched 46 = .ok (.iconst 2, 1) := by decide +kernel
theorem dX8_ditched_47 : decode cX8_ditched 47 = .ok (.iastore, 1) := by decide +kernel
theorem dX8_ditched_48 : decode cX8_ditched 48 = .ok (.aload_n 0, 1) := by decide +kernel
theorem dX8_ditched_49 : decode cX8_ditched 49 = .ok (.invokevirtual 244, 3) := by decide +kernel
theorem dX8_ditched_52 : decode cX8_ditched 52 = .ok (.aload_n 0, 1) := by decide +kernel
theorem dX8_ditched_53 : decode cX8_ditched 53 = .ok (.getfield 232, 3) := by decide +kernel
theorem dX8_ditched_56 : decode cX8_ditched 56 = .ok (.iload_n 1, 1) := by decide +kernel
theorem dX8_ditched_57 : decode cX8_ditched 57 = .ok (.if_icmp .le 7, 3) := by decide +kernel
theorem dX8_ditched_60 : decode cX8_ditched 60 = .ok (.iload_n 3, 1) := by decide +kernel
theorem dX8_ditched_61 : decode cX8_ditched 61 = .ok (.goto 4, 3) := by decide +kernel
theorem dX8_ditched_64 : decode cX8_ditched 64 = .ok (.iload_n 2, 1) := by decide +kernel
theorem dX8_ditched_65 : decode cX8_ditched 65 = .ok (.istore_n 2, 1) := by decide +kernel
theorem dX8_ditched_66 : decode cX8_ditched 66 = .ok (.aload_n 0, 1) := by decide +kernel
theorem dX8_ditched_67 : decode cX8_ditched 67 = .ok (.getfield 232, 3) := by decide +kernel
theorem dX8_ditched_70 : decode cX8_ditched 70 = .ok (.iload_n 1, 1) := by decide +kernel
theorem dX8_ditched_71 : decode cX8_ditched 71 = .ok (.if_icmp .le 10, 3) := by decide +kernel
theorem dX8_ditched_74 : decode cX8_ditched 74 = .ok (.aload_n 0, 1) := by decide +kernel
theorem dX8_ditched_75 : decode cX8_ditched 75 = .ok (.getfield 232, 3) := by decide +kernel
theorem dX8_ditched_78 : decode cX8_ditched 78 = .ok (.goto 4, 3) := by decide +kernel
theorem dX8_ditched_81 : decode cX8_ditched 81 = .ok (.iload_n 1, 1) := by decide +kernel
theorem dX8_ditched_82 : decode cX8_ditched 82 = .ok (.istore_n 1, 1) := by decide +kernel
theorem dX8_ditched_83 : decode cX8_ditched 83 = .ok (.aload_n 0, 1) := by decide +kernel
theorem dX8_ditched_84 : decode cX8_ditched 84 = .ok (.getfield 7, 3) := by decide +kernel
theorem dX8_ditched_87 : decode cX8_ditched 87 = .ok (.iload_n 3, 1) := by decide +kernel
theorem dX8_ditched_88 : decode cX8_ditched 88 = .ok (.iconst 0, 1) := by decide +kernel
theorem dX8_ditched_89 : decode cX8_ditched 89 = .ok (.iastore, 1) := by decide +kernel
theorem dX8_ditched_90 : decode cX8_ditched 90 = .ok (.iinc 3 1, 3) := by decide +kernel
theorem dX8_ditched_93 : decode cX8_ditched 93 = .ok (.goto (-69), 3) := by decide +kernel
theorem dX8_ditched_96 : decode cX8_ditched 96 = .ok (.iload_n 2, 1) := by decide +kernel
theorem dX8_ditched_97 : decode cX8_ditched 97 = .ok (.ireturn, 1) := by decide +kernel
theorem dX8_ahead_0 : decode cX8_ahead 0 = .ok (.iload_n 1, 1) := by decide +kernel
theorem dX8_ahead_1 : decode cX8_ahead 1 = .ok (.i2l, 1) := by decide +kernel
theorem dX8_ahead_2 : decode cX8_ahead 2 = .ok (.lconst 0, 1) := by decide +kernel
theorem dX8_ahead_3 : decode cX8_ahead 3 = .ok (.lconst 1, 1) := by decide +kernel
theorem dX8_ahead_4 : decode cX8_ahead 4 = .ok (.invokestatic 69, 3) := by decide +kernel
theorem dX8_ahead_7 : decode cX8_ahead 7 = .ok (.ifCond .ne 5, 3) := by decide +kernel
theorem dX8_ahead_10 : decode cX8_ahead 10 = .ok (.iconst (-1), 1) := by decide +kernel
theorem dX8_ahead_11 : decode cX8_ahead 11 = .ok (.ireturn, 1) := by decide +kernel
theorem dX8_ahead_12 : decode cX8_ahead 12 = .ok (.aload_n 0, 1) := by decide +kernel
theorem dX8_ahead_13 : decode cX8_ahead 13 = .ok (.invokevirtual 241, 3) := by decide +kernel
theorem dX8_ahead_16 : decode cX8_ahead 16 = .ok (.ifCond .eq 6, 3) := by decide +kernel
theorem dX8_ahead_19 : decode cX8_ahead 19 = .ok (.bipush (-2), 2) := by decide +kernel
theorem dX8_ahead_21 : decode cX8_ahead 21 = .ok (.ireturn, 1) := by decide +kernel
theorem dX8_ahead_22 : decode cX8_ahead 22 = .ok (.bipush (-4), 2) := by decide +kernel
theorem dX8_ahead_24 : decode cX8_ahead 24 = .ok (.istore_n 2, 1) := by decide +kernel
theorem dX8_ahead_25 : decode cX8_ahead 25 = .ok (.iconst (-1), 1) := by decide +kernel
theorem dX8_ahead_26 : decode cX8_ahead 26 = .ok (.istore_n 3, 1) := by decide +kernel
theorem dX8_ahead_27 : decode cX8_ahead 27 = .ok (.iconst 1, 1) := by decide +kernel
theorem dX8_ahead_28 : decode cX8_ahead 28 = .ok (.istore 4, 2) := by decide +kernel
theorem dX8_ahead_30 : decode cX8_ahead 30 = .ok (.iload 4, 2) := by decide +kernel
theorem dX8_ahead_32 : decode cX8_ahead 32 = .ok (.aload_n 0, 1) := by decide +kernel
theorem dX8_ahead_33 : decode cX8_ahead 33 = .ok (.getfield 66, 3) := by decide +kernel
theorem dX8_ahead_36 : decode cX8_ahead 36 = .ok (.if_icmp .ge 96, 3) := by decide +kernel
theorem dX8_ahead_39 : decode cX8_ahead 39 = .ok (.aload_n 0, 1) := by decide +kernel
theorem dX8_ahead_40 : decode cX8_ahead 40 = .ok (.iload 4, 2) := by decide +kernel
theorem dX8_ahead_42 : decode cX8_ahead 42 = .ok (.invokevirtual 103, 3) := by decide +kernel
theorem dX8_ahead_45 : decode cX8_ahead 45 = .ok (.ifCond .ne 81, 3) := by decide +kernel
theorem dX8_ahead_48 : decode cX8_ahead 48 = .ok (.aload_n 0, 1) := by decide +kernel
theorem dX8_ahead_49 : decode cX8_ahead 49 = .ok (.getfield 16, 3) := by decide +kernel
theorem dX8_ahead_52 : decode cX8_ahead 52 = .ok (.iconst 3, 1) := by decide +kernel
theorem dX8_ahead_53 : decode cX8_ahead 53 = .ok (.iload 4, 2) := by decide +kernel
theorem dX8_ahead_55 : decode cX8_ahead 55 = .ok (.iadd, 1) := by decide +kernel
theorem dX8_ahead_56 : decode cX8_ahead 56 = .ok (.dup2, 1) := by decide +kernel
theorem dX8_ahead_57 : decode cX8_ahead 57 = .ok (.iaload, 1) := by decide +kernel
theorem dX8_ahead_58 : decode cX8_ahead 58 = .ok (.iconst 1, 1) := by decide +kernel
theorem dX8_ahead_59 : decode cX8_ahead 59 = .ok (.iadd, 1) := by decide +kernel
theorem dX8_ahead_60 : decode cX8_ahead 60 = .ok (.iastore, 1) := by decide +kernel
theorem dX8_ahead_61 : decode cX8_ahead 61 = .ok (.aload_n 0, 1) := by decide +kernel
theorem dX8_ahead_62 : decode cX8_ahead 62 = .ok (.invokevirtual 174, 3) := by decide +kernel
theorem dX8_ahead_65 : decode cX8_ahead 65 = .ok (.ifCond .ne 10, 3) := by decide +kernel
theorem dX8_ahead_68 : decode cX8_ahead 68 = .ok (.aload_n 0, 1) := by decide +kernel
theorem dX8_ahead_69 : decode cX8_ahead 69 = .ok (.invokevirtual 244, 3) := by decide +kernel
theorem dX8_ahead_72 : decode cX8_ahead 72 = .ok (.goto 9, 3) := by decide +kernel
theorem dX8_ahead_75 : decode cX8_ahead 75 = .ok (.aload_n 0, 1) := by decide +kernel
theorem dX8_ahead_76 : decode cX8_ahead 76 = .ok (.ldc 202, 2) := by decide +kernel
theorem dX8_ahead_78 : decode cX8_ahead 78 = .ok (.putfield 232, 3) := by decide +kernel
theorem dX8_ahead_81 : decode cX8_ahead 81 = .ok (.aload_n 0, 1) := by decide +kernel
theorem dX8_ahead_82 : decode cX8_ahead 82 = .ok (.getfield 232, 3) := by decide +kernel
theorem dX8_ahead_85 : decode cX8_ahead 85 = .ok (.iload_n 3, 1) := by decide +kernel
theorem dX8_ahead_86 : decode cX8_ahead 86 = .ok (.if_icmp .le 8, 3) := by decide +kernel
theorem dX8_ahead_89 : decode cX8_ahead 89 = .ok (.iload 4, 2) := by decide +kernel
theorem dX8_ahead_91 : decode cX8_ahead 91 = .ok (.goto 4, 3) := by decide +kernel
theorem dX8_ahead_94 : decode cX8_ahead 94 = .ok (.iload_n 2, 1) := by decide +kernel
theorem dX8_ahead_95 : decode cX8_ahead 95 = .ok (.istore_n 2, 1) := by decide +kernel
theorem dX8_ahead_96 : decode cX8_ahead 96 = .ok (.aload_n 0, 1) := by decide +kernel
theorem dX8_ahead_97 : decode cX8_ahead 97 = .ok (.getfield 232, 3) := by decide +kernel
theorem dX8_ahead_100 : decode cX8_ahead 100 = .ok (.iload_n 3, 1) := by decide +kernel
theorem dX8_ahead_101 : decode cX8_ahead 101 = .ok (.if_icmp .le 10, 3) := by decide +kernel
theorem dX8_ahead_104 : decode cX8_ahead 104 = .ok (.aload_n 0, 1) := by decide +kernel
theorem dX8_ahead_105 : decode cX8_ahead 105 = .ok (.getfield 232, 3) := by decide +kernel
theorem dX8_ahead_108 : decode cX8_ahead 108 = .ok (.goto 4, 3) := by decide +kernel
theorem dX8_ahead_111 : decode cX8_ahead 111 = .ok (.iload_n 3, 1) := by decide +kernel
theorem dX8_ahead_112 : decode cX8_ahead 112 = .ok (.istore_n 3, 1) := by decide +kernel
theorem dX8_ahead_113 : decode cX8_ahead 113 = .ok (.aload_n 0, 1) := by decide +kernel
theorem dX8_ahead_114 : decode cX8_ahead 114 = .ok (.getfield 16, 3) := by decide +kernel
theorem dX8_ahead_117 : decode cX8_ahead 117 = .ok (.iconst 3, 1) := by decide +kernel
theorem dX8_ahead_118 : decode cX8_ahead 118 = .ok (.iload 4, 2) := by decide +kernel
theorem dX8_ahead_120 : decode cX8_ahead 120 = .ok (.iadd, 1) := by decide +kernel
theorem dX8_ahead_121 : decode cX8_ahead 121 = .ok (.dup2, 1) := by decide +kernel
theorem dX8_ahead_122 : decode cX8_ahead 122 = .ok (.iaload, 1) := by decide +kernel
theorem dX8_ahead_123 : decode cX8_ahead 123 = .ok (.iconst 1, 1) := by decide +kernel
theorem dX8_ahead_124 : decode cX8_ahead 124 = .ok (.isub, 1) := by decide +kernel
theorem dX8_ahead_125 : decode cX8_ahead 125 = .ok (.iastore, 1) := by decide +kernel
theorem dX8_ahead_126 : decode cX8_ahead 126 = .ok (.iinc 4 1, 3) := by decide +kernel
theorem dX8_ahead_129 : decode cX8_ahead 129 = .ok (.goto (-99), 3) := by decide +kernel
theorem dX8_ahead_132 : decode cX8_ahead 132 = .ok (.iload_n 1, 1) := by decide +kernel
theorem dX8_ahead_133 : decode cX8_ahead 133 = .ok (.ifCond .ne 7, 3) := by decide +kernel
theorem dX8_ahead_136 : decode cX8_ahead 136 = .ok (.iload_n 2, 1) := by decide +kernel
theorem dX8_ahead_137 : decode cX8_ahead 137 = .ok (.goto 4, 3) := by decide +kernel
theorem dX8_ahead_140 : decode cX8_ahead 140 = .ok (.iload_n 3, 1) := by decide +kernel
theorem dX8_ahead_141 : decode cX8_ahead 141 = .ok (.ireturn, 1) := by decide +kernel
theorem dX8_fields_0 : decode cX8_fields 0 = .ok (.iload_n 1, 1) := by decide +kernel
theorem dX8_fields_1 : decode cX8_fields 1 = .ok (.i2l, 1) := by decide +kernel
theorem dX8_fields_2 : decode cX8_fields 2 = .ok (.lconst 0, 1) := by decide +kernel
theorem dX8_fields_3 : decode cX8_fields 3 = .ok (.ldc2_w 134, 3) := by decide +kernel
theorem dX8_fields_6 : decode cX8_fields 6 = .ok (.invokestatic 69, 3) := by decide +kernel
theorem dX8_fields_9 : decode cX8_fields 9 = .ok (.ifCond .eq 15, 3) := by decide +kernel
theorem dX8_fields_12 : decode cX8_fields 12 = .ok (.iload_n 2, 1) := by decide +kernel
theorem dX8_fields_13 : decode cX8_fields 13 = .ok (.i2l, 1) := by decide +kernel
theorem dX8_fields_14 : decode cX8_fields 14 = .ok (.lconst 1, 1) := by decide +kernel
theorem dX8_fields_15 : decode cX8_fields 15 = .ok (.ldc2_w 251, 3) := by decide +kernel
theorem dX8_fields_18 : decode cX8_fields 18 = .ok (.invokestatic 69, 3) := by decide +kernel
theorem dX8_fields_21 : decode cX8_fields 21 = .ok (.ifCond .ne 5, 3) := by decide +kernel
theorem dX8_fields_24 : decode cX8_fields 24 = .ok (.iconst (-1), 1) := by decide +kernel
theorem dX8_fields_25 : decode cX8_fields 25 = .ok (.ireturn, 1) := by decide +kernel
theorem dX8_fields_26 : decode cX8_fields 26 = .ok (.aload_n 0, 1) := by decide +kernel
theorem dX8_fields_27 : decode cX8_fields 27 = .ok (.invokevirtual 174, 3) := by decide +kernel
theorem dX8_fields_30 : decode cX8_fields 30 = .ok (.ifCond .eq 6, 3) := by decide +kernel
theorem dX8_fields_33 : decode cX8_fields 33 = .ok (.bipush (-2), 2) := by decide +kernel
theorem dX8_fields_35 : decode cX8_fields 35 = .ok (.ireturn, 1) := by decide +kernel
theorem dX8_fields_36 : decode cX8_fields 36 = .ok (.aload_n 0, 1) := by decide +kernel
theorem dX8_fields_37 : decode cX8_fields 37 = .ok (.invokevirtual 223, 3) := by decide +kernel
theorem dX8_fields_40 : decode cX8_fields 40 = .ok (.iconst 0, 1) := by decide +kernel
theorem dX8_fields_41 : decode cX8_fields 41 = .ok (.istore_n 3, 1) := by decide +kernel
theorem dX8_fields_42 : decode cX8_fields 42 = .ok (.iconst 0, 1) := by decide +kernel
theorem dX8_fields_43 : decode cX8_fields 43 = .ok (.istore 4, 2) := by decide +kernel
theorem dX8_fields_45 : decode cX8_fields 45 = .ok (.iload 4, 2) := by decide +kernel
theorem dX8_fields_47 : decode cX8_fields 47 = .ok (.iload_n 2, 1) := by decide +kernel
theorem dX8_fields_48 : decode cX8_fields 48 = .ok (.if_icmp .ge 73, 3) := by decide +kernel
theorem dX8_fields_51 : decode cX8_fields 51 = .ok (.aload_n 0, 1) := by decide +kernel
theorem dX8_fields_52 : decode cX8_fields 52 = .ok (.iload_n 1, 1) := by decide +kernel
theorem dX8_fields_53 : decode cX8_fields 53 = .ok (.invokevirtual 214, 3) := by decide +kernel
theorem dX8_fields_56 : decode cX8_fields 56 = .ok (.aload_n 0, 1) := by decide +kernel
theorem dX8_fields_57 : decode cX8_fields 57 = .ok (.invokevirtual 174, 3) := by decide +kernel
theorem dX8_fields_60 : decode cX8_fields 60 = .ok (.ifCond .ne 11, 3) := by decide +kernel
theorem dX8_fields_63 : decode cX8_fields 63 = .ok (.aload_n 0, 1) := by decide +kernel
theorem dX8_fields_64 : decode cX8_fields 64 = .ok (.invokevirtual 192, 3) := by decide +kernel
theorem dX8_fields_67 : decode cX8_fields 67 = .ok (.pop, 1) := by decide +kernel
theorem dX8_fields_68 : decode cX8_fields 68 = .ok (.goto (-12), 3) := by decide +kernel
theorem dX8_fields_71 : decode cX8_fields 71 = .ok (.iload_n 3, 1) := by decide +kernel
theorem dX8_fields_72 : decode cX8_fields 72 = .ok (.aload_n 0, 1) := by decide +kernel
theorem dX8_fields_73 : decode cX8_fields 73 = .ok (.invokevirtual 174, 3) := by decide +kernel
theorem dX8_fields_76 : decode cX8_fields 76 = .ok (.iconst 1, 1) := by decide +kernel
theorem dX8_fields_77 : decode cX8_fields 77 = .ok (.if_icmp .ne 7, 3) := by decide +kernel
theorem dX8_fields_80 : decode cX8_fields 80 = .ok (.iconst 1, 1) := by decide +kernel
theorem dX8_fields_81 : decode cX8_fields 81 = .ok (.goto 4, 3) := by decide +kernel
theorem dX8_fields_84 : decode cX8_fields 84 = .ok (.iconst 0, 1) := by decide +kernel
theorem dX8_fields_85 : decode cX8_fields 85 = .ok (.iadd, 1) := by decide +kernel
theorem dX8_fields_86 : decode cX8_fields 86 = .ok (.istore_n 3, 1) := by decide +kernel
theorem dX8_fields_87 : decode cX8_fields 87 = .ok (.aload_n 0, 1) := by decide +kernel
theorem dX8_fields_88 : decode cX8_fields 88 = .ok (.getfield 16, 3) := by decide +kernel
theorem dX8_fields_91 : decode cX8_fields 91 = .ok (.iconst 2, 1) := by decide +kernel
theorem dX8_fields_92 : decode cX8_fields 92 = .ok (.iaload, 1) := by decide +kernel
theorem dX8_fields_93 : decode cX8_fields 93 = .ok (.istore 5, 2) := by decide +kernel
theorem dX8_fields_95 : decode cX8_fields 95 = .ok (.aload_n 0, 1) := by decide +kernel
theorem dX8_fields_96 : decode cX8_fields 96 = .ok (.invokevirtual 229, 3) := by decide +kernel
theorem dX8_fields_99 : decode cX8_fields 99 = .ok (.aload_n 0, 1) := by decide +kernel
theorem dX8_fields_100 : decode cX8_fields 100 = .ok (.getfield 16, 3) := by decide +kernel
theorem dX8_fields_103 : decode cX8_fields 103 = .ok (.iconst 2, 1) := by decide +kernel
theorem dX8_fields_104 : decode cX8_fields 104 = .ok (.iload 5, 2) := by decide +kernel
theorem dX8_fields_106 : decode cX8_fields 106 = .ok (.iastore, 1) := by decide +kernel
theorem dX8_fields_107 : decode cX8_fields 107 = .ok (.aload_n 0, 1) := by decide +kernel
theorem dX8_fields_108 : decode cX8_fields 108 = .ok (.getfield 31, 3) := by decide +kernel
theorem dX8_fields_111 : decode cX8_fields 111 = .ok (.iconst 2, 1) := by decide +kernel
theorem dX8_fields_112 : decode cX8_fields 112 = .ok (.iload 5, 2) := by decide +kernel
theorem dX8_fields_114 : decode cX8_fields 114 = .ok (.iastore, 1) := by decide +kernel
theorem dX8_fields_115 : decode cX8_fields 115 = .ok (.iinc 4 1, 3) := by decide +kernel
theorem dX8_fields_118 : decode cX8_fields 118 = .ok (.goto (-73), 3) := by decide +kernel
theorem dX8_fields_121 : decode cX8_fields 121 = .ok (.iload_n 3, 1) := by decide +kernel
theorem dX8_fields_122 : decode cX8_fields 122 = .ok (.ireturn, 1) := by decide +kernel
theorem dX8_notesRow_0 : decode cX8_notesRow 0 = .ok (.iconst 0, 1) := by decide +kernel
theorem dX8_notesRow_1 : decode cX8_notesRow 1 = .ok (.istore_n 3, 1) := by decide +kernel
theorem dX8_notesRow_2 : decode cX8_notesRow 2 = .ok (.iload_n 3, 1) := by decide +kernel
theorem dX8_notesRow_3 : decode cX8_notesRow 3 = .ok (.aload_n 1, 1) := by decide +kernel
theorem dX8_notesRow_4 : decode cX8_notesRow 4 = .ok (.arraylength, 1) := by decide +kernel
theorem dX8_notesRow_5 : decode cX8_notesRow 5 = .ok (.if_icmp .ge 20, 3) := by decide +kernel
theorem dX8_notesRow_8 : decode cX8_notesRow 8 = .ok (.aload_n 0, 1) := by decide +kernel
theorem dX8_notesRow_9 : decode cX8_notesRow 9 = .ok (.getfield 46, 3) := by decide +kernel
theorem dX8_notesRow_12 : decode cX8_notesRow 12 = .ok (.iload_n 2, 1) := by decide +kernel
theorem dX8_notesRow_13 : decode cX8_notesRow 13 = .ok (.iload_n 3, 1) := by decide +kernel
theorem dX8_notesRow_14 : decode cX8_notesRow 14 = .ok (.iadd, 1) := by decide +kernel
theorem dX8_notesRow_15 : decode cX8_notesRow 15 = .ok (.aload_n 1, 1) := by decide +kernel
theorem dX8_notesRow_16 : decode cX8_notesRow 16 = .ok (.iload_n 3, 1) := by decide +kernel
theorem dX8_notesRow_17 : decode cX8_notesRow 17 = .ok (.iaload, 1) := by decide +kernel
theorem dX8_notesRow_18 : decode cX8_notesRow 18 = .ok (.iastore, 1) := by decide +kernel
theorem dX8_notesRow_19 : decode cX8_notesRow 19 = .ok (.iinc 3 1, 3) := by decide +kernel
theorem dX8_notesRow_22 : decode cX8_notesRow 22 = .ok (.goto (-20), 3) := by decide +kernel
theorem dX8_notesRow_25 : decode cX8_notesRow 25 = .ok (.iload_n 2, 1) := by decide +kernel
theorem dX8_notesRow_26 : decode cX8_notesRow 26 = .ok (.aload_n 1, 1) := by decide +kernel
theorem dX8_notesRow_27 : decode cX8_notesRow 27 = .ok (.arraylength, 1) := by decide +kernel
theorem dX8_notesRow_28 : decode cX8_notesRow 28 = .ok (.iadd, 1) := by decide +kernel
theorem dX8_notesRow_29 : decode cX8_notesRow 29 = .ok (.ireturn, 1) := by decide +kernel
theorem dX8_gives_0 : decode cX8_gives 0 = .ok (.iconst 0, 1) := by decide +kernel
theorem dX8_gives_1 : decode cX8_gives 1 = .ok (.istore_n 3, 1) := by decide +kernel
theorem dX8_gives_2 : decode cX8_gives 2 = .ok (.iload_n 3, 1) := by decide +kernel
theorem dX8_gives_3 : decode cX8_gives 3 = .ok (.aload_n 2, 1) := by decide +kernel
theorem dX8_gives_4 : decode cX8_gives 4 = .ok (.arraylength, 1) := by decide +kernel
theorem dX8_gives_5 : decode cX8_gives 5 = .ok (.if_icmp .ge 20, 3) := by decide +kernel
theorem dX8_gives_8 : decode cX8_gives 8 = .ok (.aload_n 2, 1) := by decide +kernel
theorem dX8_gives_9 : decode cX8_gives 9 = .ok (.iload_n 3, 1) := by decide +kernel
theorem dX8_gives_10 : decode cX8_gives 10 = .ok (.aload_n 0, 1) := by decide +kernel
theorem dX8_gives_11 : decode cX8_gives 11 = .ok (.getfield 46, 3) := by decide +kernel
theorem dX8_gives_14 : decode cX8_gives 14 = .ok (.iload_n 1, 1) := by decide +kernel
theorem dX8_gives_15 : decode cX8_gives 15 = .ok (.iload_n 3, 1) := by decide +kernel
theorem dX8_gives_16 : decode cX8_gives 16 = .ok (.iadd, 1) := by decide +kernel
theorem dX8_gives_17 : decode cX8_gives 17 = .ok (.iaload, 1) := by decide +kernel
theorem dX8_gives_18 : decode cX8_gives 18 = .ok (.iastore, 1) := by decide +kernel
theorem dX8_gives_19 : decode cX8_gives 19 = .ok (.iinc 3 1, 3) := by decide +kernel
theorem dX8_gives_22 : decode cX8_gives 22 = .ok (.goto (-20), 3) := by decide +kernel
theorem dX8_gives_25 : decode cX8_gives 25 = .ok (.iload_n 1, 1) := by decide +kernel
theorem dX8_gives_26 : decode cX8_gives 26 = .ok (.aload_n 2, 1) := by decide +kernel
theorem dX8_gives_27 : decode cX8_gives 27 = .ok (.arraylength, 1) := by decide +kernel
theorem dX8_gives_28 : decode cX8_gives 28 = .ok (.iadd, 1) := by decide +kernel
theorem dX8_gives_29 : decode cX8_gives 29 = .ok (.ireturn, 1) := by decide +kernel
theorem dX8_image_0 : decode cX8_image 0 = .ok (.aload_n 0, 1) := by decide +kernel
theorem dX8_image_1 : decode cX8_image 1 = .ok (.getfield 46, 3) := by decide +kernel
theorem dX8_image_4 : decode cX8_image 4 = .ok (.iconst 0, 1) := by decide +kernel
theorem dX8_image_5 : decode cX8_image 5 = .ok (.aload_n 0, 1) := by decide +kernel
theorem dX8_image_6 : decode cX8_image 6 = .ok (.getfield 62, 3) := by decide +kernel
theorem dX8_image_9 : decode cX8_image 9 = .ok (.iastore, 1) := by decide +kernel
theorem dX8_image_10 : decode cX8_image 10 = .ok (.aload_n 0, 1) := by decide +kernel
theorem dX8_image_11 : decode cX8_image 11 = .ok (.getfield 46, 3) := by decide +kernel
theorem dX8_image_14 : decode cX8_image 14 = .ok (.iconst 1, 1) := by decide +kernel
theorem dX8_image_15 : decode cX8_image 15 = .ok (.aload_n 0, 1) := by decide +kernel
theorem dX8_image_16 : decode cX8_image 16 = .ok (.getfield 66, 3) := by decide +kernel
theorem dX8_image_19 : decode cX8_image 19 = .ok (.iastore, 1) := by decide +kernel
theorem dX8_image_20 : decode cX8_image 20 = .ok (.aload_n 0, 1) := by decide +kernel
theorem dX8_image_21 : decode cX8_image 21 = .ok (.getfield 46, 3) := by decide +kernel
theorem dX8_image_24 : decode cX8_image 24 = .ok (.iconst 2, 1) := by decide +kernel
theorem dX8_image_25 : decode cX8_image 25 = .ok (.aload_n 0, 1) := by decide +kernel
theorem dX8_image_26 : decode cX8_image 26 = .ok (.getfield 117, 3) := by decide +kernel
theorem dX8_image_29 : decode cX8_image 29 = .ok (.iastore, 1) := by decide +kernel
theorem dX8_image_30 : decode cX8_image 30 = .ok (.aload_n 0, 1) := by decide +kernel
theorem dX8_image_31 : decode cX8_image 31 = .ok (.getfield 46, 3) := by decide +kernel
theorem dX8_image_34 : decode cX8_image 34 = .ok (.iconst 3, 1) := by decide +kernel
theorem dX8_image_35 : decode cX8_image 35 = .ok (.aload_n 0, 1) := by decide +kernel
theorem dX8_image_36 : decode cX8_image 36 = .ok (.getfield 88, 3) := by decide +kernel
theorem dX8_image_39 : decode cX8_image 39 = .ok (.iastore, 1) := by decide +kernel
theorem dX8_image_40 : decode cX8_image 40 = .ok (.aload_n 0, 1) := by decide +kernel
theorem dX8_image_41 : decode cX8_image 41 = .ok (.aload_n 0, 1) := by decide +kernel
theorem dX8_image_42 : decode cX8_image 42 = .ok (.getfield 7, 3) := by decide +kernel
theorem dX8_image_45 : decode cX8_image 45 = .ok (.iconst 4, 1) := by decide +kernel
theorem dX8_image_46 : decode cX8_image 46 = .ok (.invokevirtual 253, 3) := by decide +kernel
theorem dX8_image_49 : decode cX8_image 49 = .ok (.istore_n 1, 1) := by decide +kernel
theorem dX8_image_50 : decode cX8_image 50 = .ok (.aload_n 0, 1) := by decide +kernel
theorem dX8_image_51 : decode cX8_image 51 = .ok (.aload_n 0, 1) := by decide +kernel
theorem dX8_image_52 : decode cX8_image 52 = .ok (.getfield 13, 3) := by decide +kernel
theorem dX8_image_55 : decode cX8_image 55 = .ok (.iload_n 1, 1) := by decide +kernel
theorem dX8_image_56 : decode cX8_image 56 = .ok (.invokevirtual 253, 3) := by decide +kernel
theorem dX8_image_59 : decode cX8_image 59 = .ok (.istore_n 1, 1) := by decide +kernel
theorem dX8_image_60 : decode cX8_image 60 = .ok (.aload_n 0, 1) := by decide +kernel
theorem dX8_image_61 : decode cX8_image 61 = .ok (.aload_n 0, 1) := by decide +kernel
theorem dX8_image_62 : decode cX8_image 62 = .ok (.getfield 16, 3) := by decide +kernel
theorem dX8_image_65 : decode cX8_image 65 = .ok (.iload_n 1, 1) := by decide +kernel
theorem dX8_image_66 : decode cX8_image 66 = .ok (.invokevirtual 253, 3) := by decide +kernel
theorem dX8_image_69 : decode cX8_image 69 = .ok (.istore_n 1, 1) := by decide +kernel
theorem dX8_image_70 : decode cX8_image 70 = .ok (.aload_n 0, 1) := by decide +kernel
theorem dX8_image_71 : decode cX8_image 71 = .ok (.aload_n 0, 1) := by decide +kernel
theorem dX8_image_72 : decode cX8_image 72 = .ok (.getfield 28, 3) := by decide +kernel
theorem dX8_image_75 : decode cX8_image 75 = .ok (.iload_n 1, 1) := by decide +kernel
theorem dX8_image_76 : decode cX8_image 76 = .ok (.invokevirtual 253, 3) := by decide +kernel
theorem dX8_image_79 : decode cX8_image 79 = .ok (.pop, 1) := by decide +kernel
theorem dX8_image_80 : decode cX8_image 80 = .ok (.aload_n 0, 1) := by decide +kernel
theorem dX8_image_81 : decode cX8_image 81 = .ok (.iconst 1, 1) := by decide +kernel
theorem dX8_image_82 : decode cX8_image 82 = .ok (.putfield 257, 3) := by decide +kernel
theorem dX8_image_85 : decode cX8_image 85 = .ok (.iconst 1, 1) := by decide +kernel
theorem dX8_image_86 : decode cX8_image 86 = .ok (.ireturn, 1) := by decide +kernel
theorem dX8_restore_0 : decode cX8_restore 0 = .ok (.aload_n 0, 1) := by decide +kernel
theorem dX8_restore_1 : decode cX8_restore 1 = .ok (.getfield 257, 3) := by decide +kernel
theorem dX8_restore_4 : decode cX8_restore 4 = .ok (.ifCond .ne 6, 3) := by decide +kernel
theorem dX8_restore_7 : decode cX8_restore 7 = .ok (.bipush (-4), 2) := by decide +kernel
theorem dX8_restore_9 : decode cX8_restore 9 = .ok (.ireturn, 1) := by decide +kernel
theorem dX8_restore_10 : decode cX8_restore 10 = .ok (.aload_n 0, 1) := by decide +kernel
theorem dX8_restore_11 : decode cX8_restore 11 = .ok (.aload_n 0, 1) := by decide +kernel
theorem dX8_restore_12 : decode cX8_restore 12 = .ok (.getfield 46, 3) := by decide +kernel
theorem dX8_restore_15 : decode cX8_restore 15 = .ok (.iconst 0, 1) := by decide +kernel
theorem dX8_restore_16 : decode cX8_restore 16 = .ok (.iaload, 1) := by decide +kernel
theorem dX8_restore_17 : decode cX8_restore 17 = .ok (.putfield 62, 3) := by decide +kernel
theorem dX8_restore_20 : decode cX8_restore 20 = .ok (.aload_n 0, 1) := by decide +kernel
theorem dX8_restore_21 : decode cX8_restore 21 = .ok (.aload_n 0, 1) := by decide +kernel
theorem dX8_restore_22 : decode cX8_restore 22 = .ok (.getfield 46, 3) := by decide +kernel
theorem dX8_restore_25 : decode cX8_restore 25 = .ok (.iconst 1, 1) := by decide +kernel
theorem dX8_restore_26 : decode cX8_restore 26 = .ok (.iaload, 1) := by decide +kernel
theorem dX8_restore_27 : decode cX8_restore 27 = .ok (.putfield 66, 3) := by decide +kernel
theorem dX8_restore_30 : decode cX8_restore 30 = .ok (.aload_n 0, 1) := by decide +kernel
theorem dX8_restore_31 : decode cX8_restore 31 = .ok (.aload_n 0, 1) := by decide +kernel
theorem dX8_restore_32 : decode cX8_restore 32 = .ok (.getfield 46, 3) := by decide +kernel
theorem dX8_restore_35 : decode cX8_restore 35 = .ok (.iconst 2, 1) := by decide +kernel
theorem dX8_restore_36 : decode cX8_restore 36 = .ok (.iaload, 1) := by decide +kernel
theorem dX8_restore_37 : decode cX8_restore 37 = .ok (.putfield 117, 3) := by decide +kernel
theorem dX8_restore_40 : decode cX8_restore 40 = .ok (.aload_n 0, 1) := by decide +kernel
theorem dX8_restore_41 : decode cX8_restore 41 = .ok (.aload_n 0, 1) := by decide +kernel
theorem dX8_restore_42 : decode cX8_restore 42 = .ok (.getfield 46, 3) := by decide +kernel
theorem dX8_restore_45 : decode cX8_restore 45 = .ok (.iconst 3, 1) := by decide +kernel
theorem dX8_restore_46 : decode cX8_restore 46 = .ok (.iaload, 1) := by decide +kernel
theorem dX8_restore_47 : decode cX8_restore 47 = .ok (.putfield 88, 3) := by decide +kernel
theorem dX8_restore_50 : decode cX8_restore 50 = .ok (.aload_n 0, 1) := by decide +kernel
theorem dX8_restore_51 : decode cX8_restore 51 = .ok (.iconst 4, 1) := by decide +kernel
theorem dX8_restore_52 : decode cX8_restore 52 = .ok (.aload_n 0, 1) := by decide +kernel
theorem dX8_restore_53 : decode cX8_restore 53 = .ok (.getfield 7, 3) := by decide +kernel
theorem dX8_restore_56 : decode cX8_restore 56 = .ok (.invokevirtual 260, 3) := by decide +kernel
theorem dX8_restore_59 : decode cX8_restore 59 = .ok (.istore_n 1, 1) := by decide +kernel
theorem dX8_restore_60 : decode cX8_restore 60 = .ok (.aload_n 0, 1) := by decide +kernel
theorem dX8_restore_61 : decode cX8_restore 61 = .ok (.iload_n 1, 1) := by decide +kernel
theorem dX8_restore_62 : decode cX8_restore 62 = .ok (.aload_n 0, 1) := by decide +kernel
theorem dX8_restore_63 : decode cX8_restore 63 = .ok (.getfield 13, 3) := by decide +kernel
theorem dX8_restore_66 : decode cX8_restore 66 = .ok (.invokevirtual 260, 3) := by decide +kernel
theorem dX8_restore_69 : decode cX8_restore 69 = .ok (.istore_n 1, 1) := by decide +kernel
theorem dX8_restore_70 : decode cX8_restore 70 = .ok (.aload_n 0, 1) := by decide +kernel
theorem dX8_restore_71 : decode cX8_restore 71 = .ok (.iload_n 1, 1) := by decide +kernel
theorem dX8_restore_72 : decode cX8_restore 72 = .ok (.aload_n 0, 1) := by decide +kernel
theorem dX8_restore_73 : decode cX8_restore 73 = .ok (.getfield 16, 3) := by decide +kernel
theorem dX8_restore_76 : decode cX8_restore 76 = .ok (.invokevirtual 260, 3) := by decide +kernel
theorem dX8_restore_79 : decode cX8_restore 79 = .ok (.istore_n 1, 1) := by decide +kernel
theorem dX8_restore_80 : decode cX8_restore 80 = .ok (.aload_n 0, 1) := by decide +kernel
theorem dX8_restore_81 : decode cX8_restore 81 = .ok (.iload_n 1, 1) := by decide +kernel
theorem dX8_restore_82 : decode cX8_restore 82 = .ok (.aload_n 0, 1) := by decide +kernel
theorem dX8_restore_83 : decode cX8_restore 83 = .ok (.getfield 28, 3) := by decide +kernel
theorem dX8_restore_86 : decode cX8_restore 86 = .ok (.invokevirtual 260, 3) := by decide +kernel
theorem dX8_restore_89 : decode cX8_restore 89 = .ok (.pop, 1) := by decide +kernel
theorem dX8_restore_90 : decode cX8_restore 90 = .ok (.iconst 1, 1) := by decide +kernel
theorem dX8_restore_91 : decode cX8_restore 91 = .ok (.ireturn, 1) := by decide +kernel
theorem dX8_isSheet_0 : decode cX8_isSheet 0 = .ok (.iload_n 0, 1) := by decide +kernel
theorem dX8_isSheet_1 : decode cX8_isSheet 1 = .ok (.i2l, 1) := by decide +kernel
theorem dX8_isSheet_2 : decode cX8_isSheet 2 = .ok (.lconst 0, 1) := by decide +kernel
theorem dX8_isSheet_3 : decode cX8_isSheet 3 = .ok (.ldc2_w 74, 3) := by decide +kernel
theorem dX8_isSheet_6 : decode cX8_isSheet 6 = .ok (.invokestatic 69, 3) := by decide +kernel
theorem dX8_isSheet_9 : decode cX8_isSheet 9 = .ok (.ireturn, 1) := by decide +kernel
theorem dX8_isLane_0 : decode cX8_isLane 0 = .ok (.iload_n 0, 1) := by decide +kernel
theorem dX8_isLane_1 : decode cX8_isLane 1 = .ok (.i2l, 1) := by decide +kernel
theorem dX8_isLane_2 : decode cX8_isLane 2 = .ok (.lconst 0, 1) := by decide +kernel
theorem dX8_isLane_3 : decode cX8_isLane 3 = .ok (.ldc2_w 74, 3) := by decide +kernel
theorem dX8_isLane_6 : decode cX8_isLane 6 = .ok (.invokestatic 69, 3) := by decide +kernel
theorem dX8_isLane_9 : decode cX8_isLane 9 = .ok (.ireturn, 1) := by decide +kernel
theorem dX8_why_0 : decode cX8_why 0 = .ok (.aload_n 0, 1) := by decide +kernel
theorem dX8_why_1 : decode cX8_why 1 = .ok (.getfield 49, 3) := by decide +kernel
theorem dX8_why_4 : decode cX8_why 4 = .ok (.iload_n 1, 1) := by decide +kernel
theorem dX8_why_5 : decode cX8_why 5 = .ok (.iaload, 1) := by decide +kernel
theorem dX8_why_6 : decode cX8_why 6 = .ok (.ifCond .ge 6, 3) := by decide +kernel
theorem dX8_why_9 : decode cX8_why 9 = .ok (.bipush (-11), 2) := by decide +kernel
theorem dX8_why_11 : decode cX8_why 11 = .ok (.ireturn, 1) := by decide +kernel
theorem dX8_why_12 : decode cX8_why 12 = .ok (.aload_n 0, 1) := by decide +kernel
theorem dX8_why_13 : decode cX8_why 13 = .ok (.getfield 49, 3) := by decide +kernel
theorem dX8_why_16 : decode cX8_why 16 = .ok (.iload_n 1, 1) := by decide +kernel
theorem dX8_why_17 : decode cX8_why 17 = .ok (.iaload, 1) := by decide +kernel
theorem dX8_why_18 : decode cX8_why 18 = .ok (.iload_n 2, 1) := by decide +kernel
theorem dX8_why_19 : decode cX8_why 19 = .ok (.if_icmp .eq 6, 3) := by decide +kernel
theorem dX8_why_22 : decode cX8_why 22 = .ok (.bipush (-12), 2) := by decide +kernel
theorem dX8_why_24 : decode cX8_why 24 = .ok (.ireturn, 1) := by decide +kernel
theorem dX8_why_25 : decode cX8_why 25 = .ok (.iload_n 3, 1) := by decide +kernel
theorem dX8_why_26 : decode cX8_why 26 = .ok (.ifCond .lt 20, 3) := by decide +kernel
theorem dX8_why_29 : decode cX8_why 29 = .ok (.iload_n 3, 1) := by decide +kernel
theorem dX8_why_30 : decode cX8_why 30 = .ok (.i2l, 1) := by decide +kernel
theorem dX8_why_31 : decode cX8_why 31 = .ok (.iload 4, 2) := by decide +kernel
theorem dX8_why_33 : decode cX8_why 33 = .ok (.i2l, 1) := by decide +kernel
theorem dX8_why_34 : decode cX8_why 34 = .ok (.ladd, 1) := by decide +kernel
theorem dX8_why_35 : decode cX8_why 35 = .ok (.aload_n 0, 1) := by decide +kernel
theorem dX8_why_36 : decode cX8_why 36 = .ok (.getfield 52, 3) := by decide +kernel
theorem dX8_why_39 : decode cX8_why 39 = .ok (.iload_n 1, 1) := by decide +kernel
theorem dX8_why_40 : decode cX8_why 40 = .ok (.iaload, 1) := by decide +kernel
theorem dX8_why_41 : decode cX8_why 41 = .ok (.i2l, 1) := by decide +kernel
theorem dX8_why_42 : decode cX8_why 42 = .ok (.lcmp, 1) := by decide +kernel
theorem dX8_why_43 : decode cX8_why 43 = .ok (.ifCond .le 8, 3) := by decide +kernel
theorem dX8_why_46 : decode cX8_why 46 = .ok (.bipush (-13), 2) := by decide +kernel
theorem dX8_why_48 : decode cX8_why 48 = .ok (.goto 4, 3) := by decide +kernel
theorem dX8_why_51 : decode cX8_why 51 = .ok (.iconst 0, 1) := by decide +kernel
theorem dX8_why_52 : decode cX8_why 52 = .ok (.ireturn, 1) := by decide +kernel
theorem dX8_strides_0 : decode cX8_strides 0 = .ok (.aload_n 0, 1) := by decide +kernel
theorem dX8_strides_1 : decode cX8_strides 1 = .ok (.iload_n 1, 1) := by decide +kernel
theorem dX8_strides_2 : decode cX8_strides 2 = .ok (.invokevirtual 123, 3) := by decide +kernel
theorem dX8_strides_5 : decode cX8_strides 5 = .ok (.ifCond .eq 30, 3) := by decide +kernel
theorem dX8_strides_8 : decode cX8_strides 8 = .ok (.iload_n 2, 1) := by decide +kernel
theorem dX8_strides_9 : decode cX8_strides 9 = .ok (.invokestatic 264, 3) := by decide +kernel
theorem dX8_strides_12 : decode cX8_strides 12 = .ok (.ifCond .eq 23, 3) := by decide +kernel
theorem dX8_strides_15 : decode cX8_strides 15 = .ok (.iload_n 3, 1) := by decide +kernel
theorem dX8_strides_16 : decode cX8_strides 16 = .ok (.invokestatic 267, 3) := by decide +kernel
theorem dX8_strides_19 : decode cX8_strides 19 = .ok (.ifCond .eq 16, 3) := by decide +kernel
theorem dX8_strides_22 : decode cX8_strides 22 = .ok (.iload 5, 2) := by decide +kernel
theorem dX8_strides_24 : decode cX8_strides 24 = .ok (.i2l, 1) := by decide +kernel
theorem dX8_strides_25 : decode cX8_strides 25 = .ok (.lconst 1, 1) := by decide +kernel
theorem dX8_strides_26 : decode cX8_strides 26 = .ok (.ldc2_w 270, 3) := by decide +kernel
theorem dX8_strides_29 : decode cX8_strides 29 = .ok (.invokestatic 69, 3) := by decide +kernel
theorem dX8_strides_32 : decode cX8_strides 32 = .ok (.ifCond .ne 5, 3) := by decide +kernel
theorem dX8_strides_35 : decode cX8_strides 35 = .ok (.iconst (-1), 1) := by decide +kernel
theorem dX8_strides_36 : decode cX8_strides 36 = .ok (.ireturn, 1) := by decide +kernel
theorem dX8_strides_37 : decode cX8_strides 37 = .ok (.aload_n 0, 1) := by decide +kernel
theorem dX8_strides_38 : decode cX8_strides 38 = .ok (.iload_n 2, 1) := by decide +kernel
theorem dX8_strides_39 : decode cX8_strides 39 = .ok (.iload_n 3, 1) := by decide +kernel
theorem dX8_strides_40 : decode cX8_strides 40 = .ok (.iload 4, 2) := by decide +kernel
theorem dX8_strides_42 : decode cX8_strides 42 = .ok (.iconst 2, 1) := by decide +kernel
theorem dX8_strides_43 : decode cX8_strides 43 = .ok (.iload 5, 2) := by decide +kernel
theorem dX8_strides_45 : decode cX8_strides 45 = .ok (.imul, 1) := by decide +kernel
theorem dX8_strides_46 : decode cX8_strides 46 = .ok (.invokevirtual 272, 3) := by decide +kernel
theorem dX8_strides_49 : decode cX8_strides 49 = .ok (.istore 6, 2) := by decide +kernel
theorem dX8_strides_51 : decode cX8_strides 51 = .ok (.iload 6, 2) := by decide +kernel
theorem dX8_strides_53 : decode cX8_strides 53 = .ok (.ifCond .ge 6, 3) := by decide +kernel
theorem dX8_strides_56 : decode cX8_strides 56 = .ok (.iload 6, 2) := by decide +kernel
theorem dX8_strides_58 : decode cX8_strides 58 = .ok (.ireturn, 1) := by decide +kernel
theorem dX8_strides_59 : decode cX8_strides 59 = .ok (.bipush 24, 2) := by decide +kernel
theorem dX8_strides_61 : decode cX8_strides 61 = .ok (.iload_n 2, 1) := by decide +kernel
theorem dX8_strides_62 : decode cX8_strides 62 = .ok (.imul, 1) := by decide +kernel
theorem dX8_strides_63 : decode cX8_strides 63 = .ok (.iload 4, 2) := by decide +kernel
theorem dX8_strides_65 : decode cX8_strides 65 = .ok (.iadd, 1) := by decide +kernel
theorem dX8_strides_66 : decode cX8_strides 66 = .ok (.istore 7, 2) := by decide +kernel
theorem dX8_strides_68 : decode cX8_strides 68 = .ok (.iconst 0, 1) := by decide +kernel
theorem dX8_strides_69 : decode cX8_strides 69 = .ok (.istore 8, 2) := by decide +kernel
theorem dX8_strides_71 : decode cX8_strides 71 = .ok (.iload 8, 2) := by decide +kernel
theorem dX8_strides_73 : decode cX8_strides 73 = .ok (.iload 5, 2) := by decide +kernel
theorem dX8_strides_75 : decode cX8_strides 75 = .ok (.if_icmp .ge 62, 3) := by decide +kernel
theorem dX8_strides_78 : decode cX8_strides 78 = .ok (.aload_n 0, 1) := by decide +kernel
theorem dX8_strides_79 : decode cX8_strides 79 = .ok (.getfield 55, 3) := by decide +kernel
theorem dX8_strides_82 : decode cX8_strides 82 = .ok (.iload 7, 2) := by decide +kernel
theorem dX8_strides_84 : decode cX8_strides 84 = .ok (.iconst 2, 1) := by decide +kernel
theorem dX8_strides_85 : decode cX8_strides 85 = .ok (.iload 8, 2) := by decide +kernel
theorem dX8_strides_87 : decode cX8_strides 87 = .ok (.imul, 1) := by decide +kernel
theorem dX8_strides_88 : decode cX8_strides 88 = .ok (.iadd, 1) := by decide +kernel
theorem dX8_strides_89 : decode cX8_strides 89 = .ok (.laload, 1) := by decide +kernel
theorem dX8_strides_90 : decode cX8_strides 90 = .ok (.lconst 0, 1) := by decide +kernel
theorem dX8_strides_91 : decode cX8_strides 91 = .ok (.ldc2_w 134, 3) := by decide +kernel
theorem dX8_strides_94 : decode cX8_strides 94 = .ok (.invokestatic 69, 3) := by decide +kernel
theorem dX8_strides_97 : decode cX8_strides 97 = .ok (.ifCond .eq 31, 3) := by decide +kernel
theorem dX8_strides_100 : decode cX8_strides 100 = .ok (.aload_n 0, 1) := by decide +kernel
theorem dX8_strides_101 : decode cX8_strides 101 = .ok (.getfield 55, 3) := by decide +kernel
theorem dX8_strides_104 : decode cX8_strides 104 = .ok (.iload 7, 2) := by decide +kernel
theorem dX8_strides_106 : decode cX8_strides 106 = .ok (.iconst 2, 1) := by decide +kernel
theorem dX8_strides_107 : decode cX8_strides 107 = .ok (.iload 8, 2) := by decide +kernel
theorem dX8_strides_109 : decode cX8_strides 109 = .ok (.imul, 1) := by decide +kernel
theorem dX8_strides_110 : decode cX8_strides 110 = .ok (.iadd, 1) := by decide +kernel
theorem dX8_strides_111 : decode cX8_strides 111 = .ok (.iconst 1, 1) := by decide +kernel
theorem dX8_strides_112 : decode cX8_strides 112 = .ok (.iadd, 1) := by decide +kernel
theorem dX8_strides_113 : decode cX8_strides 113 = .ok (.laload, 1) := by decide +kernel
theorem dX8_strides_114 : decode cX8_strides 114 = .ok (.lconst 0, 1) := by decide +kernel
theorem dX8_strides_115 : decode cX8_strides 115 = .ok (.aload_n 0, 1) := by decide +kernel
theorem dX8_strides_116 : decode cX8_strides 116 = .ok (.getfield 62, 3) := by decide +kernel
theorem dX8_strides_119 : decode cX8_strides 119 = .ok (.iconst 1, 1) := by decide +kernel
theorem dX8_strides_120 : decode cX8_strides 120 = .ok (.isub, 1) := by decide +kernel
theorem dX8_strides_121 : decode cX8_strides 121 = .ok (.i2l, 1) := by decide +kernel
theorem dX8_strides_122 : decode cX8_strides 122 = .ok (.invokestatic 69, 3) := by decide +kernel
theorem dX8_strides_125 : decode cX8_strides 125 = .ok (.ifCond .ne 6, 3) := by decide +kernel
theorem dX8_strides_128 : decode cX8_strides 128 = .ok (.bipush (-2), 2) := by decide +kernel
theorem dX8_strides_130 : decode cX8_strides 130 = .ok (.ireturn, 1) := by decide +kernel
theorem dX8_strides_131 : decode cX8_strides 131 = .ok (.iinc 8 1, 3) := by decide +kernel
theorem dX8_strides_134 : decode cX8_strides 134 = .ok (.goto (-63), 3) := by decide +kernel
theorem dX8_strides_137 : decode cX8_strides 137 = .ok (.iconst 0, 1) := by decide +kernel
theorem dX8_strides_138 : decode cX8_strides 138 = .ok (.istore 8, 2) := by decide +kernel
theorem dX8_strides_140 : decode cX8_strides 140 = .ok (.iconst 0, 1) := by decide +kernel
theorem dX8_strides_141 : decode cX8_strides 141 = .ok (.istore 9, 2) := by decide +kernel
theorem dX8_strides_143 : decode cX8_strides 143 = .ok (.iload 9, 2) := by decide +kernel
theorem dX8_strides_145 : decode cX8_strides 145 = .ok (.bipush 6, 2) := by decide +kernel
theorem dX8_strides_147 : decode cX8_strides 147 = .ok (.if_icmp .ge 101, 3) := by decide +kernel
theorem dX8_strides_150 : decode cX8_strides 150 = .ok (.iconst 1, 1) := by decide +kernel
theorem dX8_strides_151 : decode cX8_strides 151 = .ok (.istore 10, 2) := by decide +kernel
theorem dX8_strides_153 : decode cX8_strides 153 = .ok (.iconst 0, 1) := by decide +kernel
theorem dX8_strides_154 : decode cX8_strides 154 = .ok (.istore 11, 2) := by decide +kernel
theorem dX8_strides_156 : decode cX8_strides 156 = .ok (.iload 11, 2) := by decide +kernel
theorem dX8_strides_158 : decode cX8_strides 158 = .ok (.iload 5, 2) := by decide +kernel
theorem dX8_strides_160 : decode cX8_strides 160 = .ok (.if_icmp .ge 64, 3) := by decide +kernel
theorem dX8_strides_163 : decode cX8_strides 163 = .ok (.iload 10, 2) := by decide +kernel
theorem dX8_strides_165 : decode cX8_strides 165 = .ok (.ifCond .eq 50, 3) := by decide +kernel
theorem dX8_strides_168 : decode cX8_strides 168 = .ok (.aload_n 0, 1) := by decide +kernel
theorem dX8_strides_169 : decode cX8_strides 169 = .ok (.aload_n 0, 1) := by decide +kernel
theorem dX8_strides_170 : decode cX8_strides 170 = .ok (.iload_n 1, 1) := by decide +kernel
theorem dX8_strides_171 : decode cX8_strides 171 = .ok (.iload 9, 2) := by decide +kernel
theorem dX8_strides_173 : decode cX8_strides 173 = .ok (.aload_n 0, 1) := by decide +kernel
theorem dX8_strides_174 : decode cX8_strides 174 = .ok (.getfield 55, 3) := by decide +kernel
theorem dX8_strides_177 : decode cX8_strides 177 = .ok (.iload 7, 2) := by decide +kernel
theorem dX8_strides_179 : decode cX8_strides 179 = .ok (.iconst 2, 1) := by decide +kernel
theorem dX8_strides_180 : decode cX8_strides 180 = .ok (.iload 11, 2) := by decide +kernel
theorem dX8_strides_182 : decode cX8_strides 182 = .ok (.imul, 1) := by decide +kernel
theorem dX8_strides_183 : decode cX8_strides 183 = .ok (.iadd, 1) := by decide +kernel
theorem dX8_strides_184 : decode cX8_strides 184 = .ok (.laload, 1) := by decide +kernel
theorem dX8_strides_185 : decode cX8_strides 185 = .ok (.l2i, 1) := by decide +kernel
theorem dX8_strides_186 : decode cX8_strides 186 = .ok (.invokevirtual 95, 3) := by decide +kernel
theorem dX8_strides_189 : decode cX8_strides 189 = .ok (.invokevirtual 107, 3) := by decide +kernel
theorem dX8_strides_192 : decode cX8_strides 192 = .ok (.i2l, 1) := by decide +kernel
theorem dX8_strides_193 : decode cX8_strides 193 = .ok (.aload_n 0, 1) := by decide +kernel
theorem dX8_strides_194 : decode cX8_strides 194 = .ok (.getfield 55, 3) := by decide +kernel
theorem dX8_strides_197 : decode cX8_strides 197 = .ok (.iload 7, 2) := by decide +kernel
theorem dX8_strides_199 : decode cX8_strides 199 = .ok (.iconst 2, 1) := by decide +kernel
theorem dX8_strides_200 : decode cX8_strides 200 = .ok (.iload 11, 2) := by decide +kernel
theorem dX8_strides_202 : decode cX8_strides 202 = .ok (.imul, 1) := by decide +kernel
theorem dX8_strides_203 : decode cX8_strides 203 = .ok (.iadd, 1) := by decide +kernel
theorem dX8_strides_204 : decode cX8_strides 204 = .ok (.iconst 1, 1) := by decide +kernel
theorem dX8_strides_205 : decode cX8_strides 205 = .ok (.iadd, 1) := by decide +kernel
theorem dX8_strides_206 : decode cX8_strides 206 = .ok (.laload, 1) := by decide +kernel
theorem dX8_strides_207 : decode cX8_strides 207 = .ok (.lcmp, 1) := by decide +kernel
theorem dX8_strides_208 : decode cX8_strides 208 = .ok (.ifCond .ne 7, 3) := by decide +kernel
theorem dX8_strides_211 : decode cX8_strides 211 = .ok (.iconst 1, 1) := by decide +kernel
theorem dX8_strides_212 : decode cX8_strides 212 = .ok (.goto 4, 3) := by decide +kernel
theorem dX8_strides_215 : decode cX8_strides 215 = .ok (.iconst 0, 1) := by decide +kernel
theorem dX8_strides_216 : decode cX8_strides 216 = .ok (.istore 10, 2) := by decide +kernel
theorem dX8_strides_218 : decode cX8_strides 218 = .ok (.iinc 11 1, 3) := by decide +kernel
theorem dX8_strides_221 : decode cX8_strides 221 = .ok (.goto (-65), 3) := by decide +kernel
theorem dX8_strides_224 : decode cX8_strides 224 = .ok (.iload 8, 2) := by decide +kernel
theorem dX8_strides_226 : decode cX8_strides 226 = .ok (.iload 10, 2) := by decide +kernel
theorem dX8_strides_228 : decode cX8_strides 228 = .ok (.ifCond .eq 10, 3) := by decide +kernel
theorem dX8_strides_231 : decode cX8_strides 231 = .ok (.iconst 1, 1) := by decide +kernel
theorem dX8_strides_232 : decode cX8_strides 232 = .ok (.iload 9, 2) := by decide +kernel
theorem dX8_strides_234 : decode cX8_strides 234 = .ok (.ishl, 1) := by decide +kernel
theorem dX8_strides_235 : decode cX8_strides 235 = .ok (.goto 4, 3) := by decide +kernel
theorem dX8_strides_238 : decode cX8_strides 238 = .ok (.iconst 0, 1) := by decide +kernel
theorem dX8_strides_239 : decode cX8_strides 239 = .ok (.ior, 1) := by decide +kernel
theorem dX8_strides_240 : decode cX8_strides 240 = .ok (.istore 8, 2) := by decide +kernel
theorem dX8_strides_242 : decode cX8_strides 242 = .ok (.iinc 9 1, 3) := by decide +kernel
theorem dX8_strides_245 : decode cX8_strides 245 = .ok (.goto (-102), 3) := by decide +kernel
theorem dX8_strides_248 : decode cX8_strides 248 = .ok (.iload 8, 2) := by decide +kernel
theorem dX8_strides_250 : decode cX8_strides 250 = .ok (.ireturn, 1) := by decide +kernel
theorem dX8_far_0 : decode cX8_far 0 = .ok (.iload_n 1, 1) := by decide +kernel
theorem dX8_far_1 : decode cX8_far 1 = .ok (.invokestatic 264, 3) := by decide +kernel
theorem dX8_far_4 : decode cX8_far 4 = .ok (.ifCond .eq 21, 3) := by decide +kernel
theorem dX8_far_7 : decode cX8_far 7 = .ok (.iload_n 2, 1) := by decide +kernel
theorem dX8_far_8 : decode cX8_far 8 = .ok (.invokestatic 267, 3) := by decide +kernel
theorem dX8_far_11 : decode cX8_far 11 = .ok (.ifCond .eq 14, 3) := by decide +kernel
theorem dX8_far_14 : decode cX8_far 14 = .ok (.iload 4, 2) := by decide +kernel
theorem dX8_far_16 : decode cX8_far 16 = .ok (.i2l, 1) := by decide +kernel
theorem dX8_far_17 : decode cX8_far 17 = .ok (.lconst 0, 1) := by decide +kernel
theorem dX8_far_18 : decode cX8_far 18 = .ok (.lconst 1, 1) := by decide +kernel
theorem dX8_far_19 : decode cX8_far 19 = .ok (.invokestatic 69, 3) := by decide +kernel
theorem dX8_far_22 : decode cX8_far 22 = .ok (.ifCond .ne 5, 3) := by decide +kernel
theorem dX8_far_25 : decode cX8_far 25 = .ok (.iconst (-1), 1) := by decide +kernel
theorem dX8_far_26 : decode cX8_far 26 = .ok (.ireturn, 1) := by decide +kernel
theorem dX8_far_27 : decode cX8_far 27 = .ok (.iconst 0, 1) := by decide +kernel
theorem dX8_far_28 : decode cX8_far 28 = .ok (.istore 5, 2) := by decide +kernel
theorem dX8_far_30 : decode cX8_far 30 = .ok (.iconst 1, 1) := by decide +kernel
theorem dX8_far_31 : decode cX8_far 31 = .ok (.istore 6, 2) := by decide +kernel
theorem dX8_far_33 : decode cX8_far 33 = .ok (.iload 6, 2) := by decide +kernel
theorem dX8_far_35 : decode cX8_far 35 = .ok (.aload_n 0, 1) := by decide +kernel
theorem dX8_far_36 : decode cX8_far 36 = .ok (.getfield 66, 3) := by decide +kernel
theorem dX8_far_39 : decode cX8_far 39 = .ok (.if_icmp .ge 28, 3) := by decide +kernel
theorem dX8_far_42 : decode cX8_far 42 = .ok (.iload 5, 2) := by decide +kernel
theorem dX8_far_44 : decode cX8_far 44 = .ok (.aload_n 0, 1) := by decide +kernel
theorem dX8_far_45 : decode cX8_far 45 = .ok (.iload 6, 2) := by decide +kernel
theorem dX8_far_47 : decode cX8_far 47 = .ok (.invokevirtual 103, 3) := by decide +kernel
theorem dX8_far_50 : decode cX8_far 50 = .ok (.ifCond .eq 7, 3) := by decide +kernel
theorem dX8_far_53 : decode cX8_far 53 = .ok (.iconst 0, 1) := by decide +kernel
theorem dX8_far_54 : decode cX8_far 54 = .ok (.goto 4, 3) := by decide +kernel
theorem dX8_far_57 : decode cX8_far 57 = .ok (.iconst 1, 1) := by decide +kernel
theorem dX8_far_58 : decode cX8_far 58 = .ok (.iadd, 1) := by decide +kernel
theorem dX8_far_59 : decode cX8_far 59 = .ok (.istore 5, 2) := by decide +kernel
theorem dX8_far_61 : decode cX8_far 61 = .ok (.iinc 6 1, 3) := by decide +kernel
theorem dX8_far_64 : decode cX8_far 64 = .ok (.goto (-31), 3) := by decide +kernel
theorem dX8_far_67 : decode cX8_far 67 = .ok (.aload_n 0, 1) := by decide +kernel
theorem dX8_far_68 : decode cX8_far 68 = .ok (.iload_n 1, 1) := by decide +kernel
theorem dX8_far_69 : decode cX8_far 69 = .ok (.iload_n 2, 1) := by decide +kernel
theorem dX8_far_70 : decode cX8_far 70 = .ok (.iload_n 3, 1) := by decide +kernel
theorem dX8_far_71 : decode cX8_far 71 = .ok (.iload 5, 2) := by decide +kernel
theorem dX8_far_73 : decode cX8_far 73 = .ok (.invokevirtual 272, 3) := by decide +kernel
theorem dX8_far_76 : decode cX8_far 76 = .ok (.istore 6, 2) := by decide +kernel
theorem dX8_far_78 : decode cX8_far 78 = .ok (.iload 6, 2) := by decide +kernel
theorem dX8_far_80 : decode cX8_far 80 = .ok (.ifCond .ge 6, 3) := by decide +kernel
theorem dX8_far_83 : decode cX8_far 83 = .ok (.iload 6, 2) := by decide +kernel
theorem dX8_far_85 : decode cX8_far 85 = .ok (.ireturn, 1) := by decide +kernel
theorem dX8_far_86 : decode cX8_far 86 = .ok (.iconst 0, 1) := by decide +kernel
theorem dX8_far_87 : decode cX8_far 87 = .ok (.istore 7, 2) := by decide +kernel
theorem dX8_far_89 : decode cX8_far 89 = .ok (.bipush (-4), 2) := by decide +kernel
theorem dX8_far_91 : decode cX8_far 91 = .ok (.istore 8, 2) := by decide +kernel
theorem dX8_far_93 : decode cX8_far 93 = .ok (.aload_n 0, 1) := by decide +kernel
theorem dX8_far_94 : decode cX8_far 94 = .ok (.getfield 66, 3) := by decide +kernel
theorem dX8_far_97 : decode cX8_far 97 = .ok (.ifCond .ne 7, 3) := by decide +kernel
theorem dX8_far_100 : decode cX8_far 100 = .ok (.iconst 1, 1) := by decide +kernel
theorem dX8_far_101 : decode cX8_far 101 = .ok (.goto 4, 3) := by decide +kernel
theorem dX8_far_104 : decode cX8_far 104 = .ok (.iconst 0, 1) := by decide +kernel
theorem dX8_far_105 : decode cX8_far 105 = .ok (.istore 9, 2) := by decide +kernel
theorem dX8_far_107 : decode cX8_far 107 = .ok (.iconst 0, 1) := by decide +kernel
theorem dX8_far_108 : decode cX8_far 108 = .ok (.istore 10, 2) := by decide +kernel
theorem dX8_far_110 : decode cX8_far 110 = .ok (.iload 10, 2) := by decide +kernel
theorem dX8_far_112 : decode cX8_far 112 = .ok (.bipush 61, 2) := by decide +kernel
theorem dX8_far_114 : decode cX8_far 114 = .ok (.if_icmp .ge 150, 3) := by decide +kernel
theorem dX8_far_117 : decode cX8_far 117 = .ok (.iload 9, 2) := by decide +kernel
theorem dX8_far_119 : decode cX8_far 119 = .ok (.ifCond .ne 145, 3) := by decide +kernel
theorem dX8_far_122 : decode cX8_far 122 = .ok (.aload_n 0, 1) := by decide +kernel
theorem dX8_far_123 : decode cX8_far 123 = .ok (.iload 10, 2) := by decide +kernel
theorem dX8_far_125 : decode cX8_far 125 = .ok (.invokevirtual 120, 3) := by decide +kernel
theorem dX8_far_128 : decode cX8_far 128 = .ok (.istore 11, 2) := by decide +kernel
theorem dX8_far_130 : decode cX8_far 130 = .ok (.iconst 1, 1) := by decide +kernel
theorem dX8_far_131 : decode cX8_far 131 = .ok (.istore 12, 2) := by decide +kernel
theorem dX8_far_133 : decode cX8_far 133 = .ok (.bipush 24, 2) := by decide +kernel
theorem dX8_far_135 : decode cX8_far 135 = .ok (.iload_n 1, 1) := by decide +kernel
theorem dX8_far_136 : decode cX8_far 136 = .ok (.imul, 1) := by decide +kernel
theorem dX8_far_137 : decode cX8_far 137 = .ok (.iload_n 3, 1) := by decide +kernel
theorem dX8_far_138 : decode cX8_far 138 = .ok (.iadd, 1) := by decide +kernel
theorem dX8_far_139 : decode cX8_far 139 = .ok (.istore 13, 2) := by decide +kernel
theorem dX8_far_141 : decode cX8_far 141 = .ok (.iconst 1, 1) := by decide +kernel
theorem dX8_far_142 : decode cX8_far 142 = .ok (.istore 14, 2) := by decide +kernel
theorem dX8_far_144 : decode cX8_far 144 = .ok (.iload 14, 2) := by decide +kernel
theorem dX8_far_146 : decode cX8_far 146 = .ok (.aload_n 0, 1) := by decide +kernel
theorem dX8_far_147 : decode cX8_far 147 = .ok (.getfield 66, 3) := by decide +kernel
theorem dX8_far_150 : decode cX8_far 150 = .ok (.if_icmp .ge 53, 3) := by decide +kernel
theorem dX8_far_153 : decode cX8_far 153 = .ok (.aload_n 0, 1) := by decide +kernel
theorem dX8_far_154 : decode cX8_far 154 = .ok (.iload 14, 2) := by decide +kernel
theorem dX8_far_156 : decode cX8_far 156 = .ok (.invokevirtual 103, 3) := by decide +kernel
theorem dX8_far_159 : decode cX8_far 159 = .ok (.ifCond .ne 38, 3) := by decide +kernel
theorem dX8_far_162 : decode cX8_far 162 = .ok (.iload 12, 2) := by decide +kernel
theorem dX8_far_164 : decode cX8_far 164 = .ok (.ifCond .eq 27, 3) := by decide +kernel
theorem dX8_far_167 : decode cX8_far 167 = .ok (.aload_n 0, 1) := by decide +kernel
theorem dX8_far_168 : decode cX8_far 168 = .ok (.iload 14, 2) := by decide +kernel
theorem dX8_far_170 : decode cX8_far 170 = .ok (.iload 11, 2) := by decide +kernel
theorem dX8_far_172 : decode cX8_far 172 = .ok (.invokevirtual 177, 3) := by decide +kernel
theorem dX8_far_175 : decode cX8_far 175 = .ok (.i2l, 1) := by decide +kernel
theorem dX8_far_176 : decode cX8_far 176 = .ok (.aload_n 0, 1) := by decide +kernel
theorem dX8_far_177 : decode cX8_far 177 = .ok (.getfield 55, 3) := by decide +kernel
theorem dX8_far_180 : decode cX8_far 180 = .ok (.iload 13, 2) := by decide +kernel
theorem dX8_far_182 : decode cX8_far 182 = .ok (.laload, 1) := by decide +kernel
theorem dX8_far_183 : decode cX8_far 183 = .ok (.lcmp, 1) := by decide +kernel
theorem dX8_far_184 : decode cX8_far 184 = .ok (.ifCond .ne 7, 3) := by decide +kernel
theorem dX8_far_187 : decode cX8_far 187 = .ok (.iconst 1, 1) := by decide +kernel
theorem dX8_far_188 : decode cX8_far 188 = .ok (.goto 4, 3) := by decide +kernel
theorem dX8_far_191 : decode cX8_far 191 = .ok (.iconst 0, 1) := by decide +kernel
theorem dX8_far_192 : decode cX8_far 192 = .ok (.istore 12, 2) := by decide +kernel
theorem dX8_far_194 : decode cX8_far 194 = .ok (.iinc 13 1, 3) := by decide +kernel
theorem dX8_far_197 : decode cX8_far 197 = .ok (.iinc 14 1, 3) := by decide +kernel
theorem dX8_far_200 : decode cX8_far 200 = .ok (.goto (-56), 3) := by decide +kernel
theorem dX8_far_203 : decode cX8_far 203 = .ok (.iload 12, 2) := by decide +kernel
theorem dX8_far_205 : decode cX8_far 205 = .ok (.ifCond .eq 13, 3) := by decide +kernel
theorem dX8_far_208 : decode cX8_far 208 = .ok (.iload 7, 2) := by decide +kernel
theorem dX8_far_210 : decode cX8_far 210 = .ok (.ifCond .ne 8, 3) := by decide +kernel
theorem dX8_far_213 : decode cX8_far 213 = .ok (.iload 10, 2) := by decide +kernel
theorem dX8_far_215 : decode cX8_far 215 = .ok (.goto 5, 3) := by decide +kernel
theorem dX8_far_218 : decode cX8_far 218 = .ok (.iload 8, 2) := by decide +kernel
theorem dX8_far_220 : decode cX8_far 220 = .ok (.istore 8, 2) := by decide +kernel
theorem dX8_far_222 : decode cX8_far 222 = .ok (.iload 7, 2) := by decide +kernel
theorem dX8_far_224 : decode cX8_far 224 = .ok (.iload 12, 2) := by decide +kernel
theorem dX8_far_226 : decode cX8_far 226 = .ok (.ifCond .eq 7, 3) := by decide +kernel
theorem dX8_far_229 : decode cX8_far 229 = .ok (.iconst 1, 1) := by decide +kernel
theorem dX8_far_230 : decode cX8_far 230 = .ok (.goto 4, 3) := by decide +kernel
theorem dX8_far_233 : decode cX8_far 233 = .ok (.iconst 0, 1) := by decide +kernel
theorem dX8_far_234 : decode cX8_far 234 = .ok (.iadd, 1) := by decide +kernel
theorem dX8_far_235 : decode cX8_far 235 = .ok (.istore 7, 2) := by decide +kernel
theorem dX8_far_237 : decode cX8_far 237 = .ok (.iload 10, 2) := by decide +kernel
theorem dX8_far_239 : decode cX8_far 239 = .ok (.ifCond .le 16, 3) := by decide +kernel
theorem dX8_far_242 : decode cX8_far 242 = .ok (.aload_n 0, 1) := by decide +kernel
theorem dX8_far_243 : decode cX8_far 243 = .ok (.iload 10, 2) := by decide +kernel
theorem dX8_far_245 : decode cX8_far 245 = .ok (.invokevirtual 195, 3) := by decide +kernel
theorem dX8_far_248 : decode cX8_far 248 = .ok (.ifCond .eq 7, 3) := by decide +kernel
theorem dX8_far_251 : decode cX8_far 251 = .ok (.iconst 1, 1) := by decide +kernel
theorem dX8_far_252 : decode cX8_far 252 = .ok (.goto 4, 3) := by decide +kernel
theorem dX8_far_255 : decode cX8_far 255 = .ok (.iconst 0, 1) := by decide +kernel
theorem dX8_far_256 : decode cX8_far 256 = .ok (.istore 9, 2) := by decide +kernel
theorem dX8_far_258 : decode cX8_far 258 = .ok (.iinc 10 1, 3) := by decide +kernel
theorem dX8_far_261 : decode cX8_far 261 = .ok (.goto (-151), 3) := by decide +kernel
theorem dX8_far_264 : decode cX8_far 264 = .ok (.iload 4, 2) := by decide +kernel
theorem dX8_far_266 : decode cX8_far 266 = .ok (.ifCond .ne 8, 3) := by decide +kernel
theorem dX8_far_269 : decode cX8_far 269 = .ok (.iload 7, 2) := by decide +kernel
theorem dX8_far_271 : decode cX8_far 271 = .ok (.goto 5, 3) := by decide +kernel
theorem dX8_far_274 : decode cX8_far 274 = .ok (.iload 8, 2) := by decide +kernel
theorem dX8_far_276 : decode cX8_far 276 = .ok (.ireturn, 1) := by decide +kernel
theorem dX8_puts_0 : decode cX8_puts 0 = .ok (.aload_n 0, 1) := by decide +kernel
theorem dX8_puts_1 : decode cX8_puts 1 = .ok (.getfield 49, 3) := by decide +kernel
theorem dX8_puts_4 : decode cX8_puts 4 = .ok (.iload_n 1, 1) := by decide +kernel
theorem dX8_puts_5 : decode cX8_puts 5 = .ok (.iaload, 1) := by decide +kernel
theorem dX8_puts_6 : decode cX8_puts 6 = .ok (.istore 5, 2) := by decide +kernel
theorem dX8_puts_8 : decode cX8_puts 8 = .ok (.aload_n 0, 1) := by decide +kernel
theorem dX8_puts_9 : decode cX8_puts 9 = .ok (.getfield 55, 3) := by decide +kernel
theorem dX8_puts_12 : decode cX8_puts 12 = .ok (.bipush 24, 2) := by decide +kernel
theorem dX8_puts_14 : decode cX8_puts 14 = .ok (.iload_n 1, 1) := by decide +kernel
theorem dX8_puts_15 : decode cX8_puts 15 = .ok (.imul, 1) := by decide +kernel
theorem dX8_puts_16 : decode cX8_puts 16 = .ok (.iload_n 2, 1) := by decide +kernel
theorem dX8_puts_17 : decode cX8_puts 17 = .ok (.iadd, 1) := by decide +kernel
theorem dX8_puts_18 : decode cX8_puts 18 = .ok (.iload 5, 2) := by decide +kernel
theorem dX8_puts_20 : decode cX8_puts 20 = .ok (.ifCond .ne 10, 3) := by decide +kernel
theorem dX8_puts_23 : decode cX8_puts 23 = .ok (.lload_n 3, 1) := by decide +kernel
theorem dX8_puts_24 : decode cX8_puts 24 = .ok (.l2i, 1) := by decide +kernel
theorem dX8_puts_25 : decode cX8_puts 25 = .ok (.i2b, 1) := by decide +kernel
theorem dX8_puts_26 : decode cX8_puts 26 = .ok (.i2l, 1) := by decide +kernel
theorem dX8_puts_27 : decode cX8_puts 27 = .ok (.goto 29, 3) := by decide +kernel
theorem dX8_puts_30 : decode cX8_puts 30 = .ok (.iload 5, 2) := by decide +kernel
theorem dX8_puts_32 : decode cX8_puts 32 = .ok (.iconst 1, 1) := by decide +kernel
theorem dX8_puts_33 : decode cX8_puts 33 = .ok (.if_icmp .ne 10, 3) := by decide +kernel
theorem dX8_puts_36 : decode cX8_puts 36 = .ok (.lload_n 3, 1) := by decide +kernel
theorem dX8_puts_37 : decode cX8_puts 37 = .ok (.l2i, 1) := by decide +kernel
theorem dX8_puts_38 : decode cX8_puts 38 = .ok (.i2s, 1) := by decide +kernel
theorem dX8_puts_39 : decode cX8_puts 39 = .ok (.i2l, 1) := by decide +kernel
theorem dX8_puts_40 : decode cX8_puts 40 = .ok (.goto 16, 3) := by decide +kernel
theorem dX8_puts_43 : decode cX8_puts 43 = .ok (.iload 5, 2) := by decide +kernel
theorem dX8_puts_45 : decode cX8_puts 45 = .ok (.iconst 2, 1) := by decide +kernel
theorem dX8_puts_46 : decode cX8_puts 46 = .ok (.if_icmp .ne 9, 3) := by decide +kernel
theorem dX8_puts_49 : decode cX8_puts 49 = .ok (.lload_n 3, 1) := by decide +kernel
theorem dX8_puts_50 : decode cX8_puts 50 = .ok (.l2i, 1) := by decide +kernel
theorem dX8_puts_51 : decode cX8_puts 51 = .ok (.i2l, 1) := by decide +kernel
theorem dX8_puts_52 : decode cX8_puts 52 = .ok (.goto 4, 3) := by decide +kernel
theorem dX8_puts_55 : decode cX8_puts 55 = .ok (.lload_n 3, 1) := by decide +kernel
theorem dX8_puts_56 : decode cX8_puts 56 = .ok (.lastore, 1) := by decide +kernel
theorem dX8_puts_57 : decode cX8_puts 57 = .ok (.return_, 1) := by decide +kernel
theorem dX8_film_0 : decode cX8_film 0 = .ok (.iload_n 1, 1) := by decide +kernel
theorem dX8_film_1 : decode cX8_film 1 = .ok (.i2l, 1) := by decide +kernel
theorem dX8_film_2 : decode cX8_film 2 = .ok (.lconst 1, 1) := by decide +kernel
theorem dX8_film_3 : decode cX8_film 3 = .ok (.ldc2_w 276, 3) := by decide +kernel
theorem dX8_film_6 : decode cX8_film 6 = .ok (.invokestatic 69, 3) := by decide +kernel
theorem dX8_film_9 : decode cX8_film 9 = .ok (.ifCond .eq 17, 3) := by decide +kernel
theorem dX8_film_12 : decode cX8_film 12 = .ok (.iload_n 2, 1) := by decide +kernel
theorem dX8_film_13 : decode cX8_film 13 = .ok (.invokestatic 264, 3) := by decide +kernel
theorem dX8_film_16 : decode cX8_film 16 = .ok (.ifCond .eq 10, 3) := by decide +kernel
theorem dX8_film_19 : decode cX8_film 19 = .ok (.iload_n 3, 1) := by decide +kernel
theorem dX8_film_20 : decode cX8_film 20 = .ok (.invokestatic 267, 3) := by decide +kernel
theorem dX8_film_23 : decode cX8_film 23 = .ok (.ifCond .ne 5, 3) := by decide +kernel
theorem dX8_film_26 : decode cX8_film 26 = .ok (.iconst (-1), 1) := by decide +kernel
theorem dX8_film_27 : decode cX8_film 27 = .ok (.ireturn, 1) := by decide +kernel
theorem dX8_film_28 : decode cX8_film 28 = .ok (.aload_n 0, 1) := by decide +kernel
theorem dX8_film_29 : decode cX8_film 29 = .ok (.invokevirtual 241, 3) := by decide +kernel
theorem dX8_film_32 : decode cX8_film 32 = .ok (.ifCond .eq 6, 3) := by decide +kernel
theorem dX8_film_35 : decode cX8_film 35 = .ok (.bipush (-2), 2) := by decide +kernel
theorem dX8_film_37 : decode cX8_film 37 = .ok (.ireturn, 1) := by decide +kernel
theorem dX8_film_38 : decode cX8_film 38 = .ok (.aload_n 0, 1) := by decide +kernel
theorem dX8_film_39 : decode cX8_film 39 = .ok (.iload_n 2, 1) := by decide +kernel
theorem dX8_film_40 : decode cX8_film 40 = .ok (.iload_n 3, 1) := by decide +kernel
theorem dX8_film_41 : decode cX8_film 41 = .ok (.iload 4, 2) := by decide +kernel
theorem dX8_film_43 : decode cX8_film 43 = .ok (.iload_n 1, 1) := by decide +kernel
theorem dX8_film_44 : decode cX8_film 44 = .ok (.invokevirtual 272, 3) := by decide +kernel
theorem dX8_film_47 : decode cX8_film 47 = .ok (.istore 5, 2) := by decide +kernel
theorem dX8_film_49 : decode cX8_film 49 = .ok (.iload 5, 2) := by decide +kernel
theorem dX8_film_51 : decode cX8_film 51 = .ok (.ifCond .ge 6, 3) := by decide +kernel
theorem dX8_film_54 : decode cX8_film 54 = .ok (.iload 5, 2) := by decide +kernel
theorem dX8_film_56 : decode cX8_film 56 = .ok (.ireturn, 1) := by decide +kernel
theorem dX8_film_57 : decode cX8_film 57 = .ok (.aload_n 0, 1) := by decide +kernel
theorem dX8_film_58 : decode cX8_film 58 = .ok (.invokevirtual 244, 3) := by decide +kernel
theorem dX8_film_61 : decode cX8_film 61 = .ok (.iconst 0, 1) := by decide +kernel
theorem dX8_film_62 : decode cX8_film 62 = .ok (.istore 6, 2) := by decide +kernel
theorem dX8_film_64 : decode cX8_film 64 = .ok (.iload 6, 2) := by decide +kernel
theorem dX8_film_66 : decode cX8_film 66 = .ok (.iload_n 1, 1) := by decide +kernel
theorem dX8_film_67 : decode cX8_film 67 = .ok (.if_icmp .ge 27, 3) := by decide +kernel
theorem dX8_film_70 : decode cX8_film 70 = .ok (.aload_n 0, 1) := by decide +kernel
theorem dX8_film_71 : decode cX8_film 71 = .ok (.iload_n 2, 1) := by decide +kernel
theorem dX8_film_72 : decode cX8_film 72 = .ok (.iload 4, 2) := by decide +kernel
theorem dX8_film_74 : decode cX8_film 74 = .ok (.iload 6, 2) := by decide +kernel
theorem dX8_film_76 : decode cX8_film 76 = .ok (.iadd, 1) := by decide +kernel
theorem dX8_film_77 : decode cX8_film 77 = .ok (.aload_n 0, 1) := by decide +kernel
theorem dX8_film_78 : decode cX8_film 78 = .ok (.getfield 43, 3) := by decide +kernel
theorem dX8_film_81 : decode cX8_film 81 = .ok (.iload 6, 2) := by decide +kernel
theorem dX8_film_83 : decode cX8_film 83 = .ok (.iaload, 1) := by decide +kernel
theorem dX8_film_84 : decode cX8_film 84 = .ok (.i2l, 1) := by decide +kernel
theorem dX8_film_85 : decode cX8_film 85 = .ok (.invokevirtual 278, 3) := by decide +kernel
theorem dX8_film_88 : decode cX8_film 88 = .ok (.iinc 6 1, 3) := by decide +kernel
theorem dX8_film_91 : decode cX8_film 91 = .ok (.goto (-27), 3) := by decide +kernel
theorem dX8_film_94 : decode cX8_film 94 = .ok (.iload_n 1, 1) := by decide +kernel
theorem dX8_film_95 : decode cX8_film 95 = .ok (.ireturn, 1) := by decide +kernel
theorem dX8_sheet_0 : decode cX8_sheet 0 = .ok (.iload_n 1, 1) := by decide +kernel
theorem dX8_sheet_1 : decode cX8_sheet 1 = .ok (.invokestatic 264, 3) := by decide +kernel
theorem dX8_sheet_4 : decode cX8_sheet 4 = .ok (.ifCond .eq 16, 3) := by decide +kernel
theorem dX8_sheet_7 : decode cX8_sheet 7 = .ok (.iload_n 2, 1) := by decide +kernel
theorem dX8_sheet_8 : decode cX8_sheet 8 = .ok (.invokestatic 267, 3) := by decide +kernel
theorem dX8_sheet_11 : decode cX8_sheet 11 = .ok (.ifCond .eq 9, 3) := by decide +kernel
theorem dX8_sheet_14 : decode cX8_sheet 14 = .ok (.iload_n 3, 1) := by decide +kernel
theorem dX8_sheet_15 : decode cX8_sheet 15 = .ok (.bipush 24, 2) := by decide +kernel
theorem dX8_sheet_17 : decode cX8_sheet 17 = .ok (.if_icmp .le 5, 3) := by decide +kernel
theorem dX8_sheet_20 : decode cX8_sheet 20 = .ok (.iconst (-1), 1) := by decide +kernel
theorem dX8_sheet_21 : decode cX8_sheet 21 = .ok (.ireturn, 1) := by decide +kernel
theorem dX8_sheet_22 : decode cX8_sheet 22 = .ok (.iload_n 3, 1) := by decide +kernel
theorem dX8_sheet_23 : decode cX8_sheet 23 = .ok (.ifCond .ge 6, 3) := by decide +kernel
theorem dX8_sheet_26 : decode cX8_sheet 26 = .ok (.bipush (-14), 2) := by decide +kernel
theorem dX8_sheet_28 : decode cX8_sheet 28 = .ok (.ireturn, 1) := by decide +kernel
theorem dX8_sheet_29 : decode cX8_sheet 29 = .ok (.aload_n 0, 1) := by decide +kernel
theorem dX8_sheet_30 : decode cX8_sheet 30 = .ok (.getfield 49, 3) := by decide +kernel
theorem dX8_sheet_33 : decode cX8_sheet 33 = .ok (.iload_n 1, 1) := by decide +kernel
theorem dX8_sheet_34 : decode cX8_sheet 34 = .ok (.iload_n 2, 1) := by decide +kernel
theorem dX8_sheet_35 : decode cX8_sheet 35 = .ok (.iastore, 1) := by decide +kernel
theorem dX8_sheet_36 : decode cX8_sheet 36 = .ok (.aload_n 0, 1) := by decide +kernel
theorem dX8_sheet_37 : decode cX8_sheet 37 = .ok (.getfield 52, 3) := by decide +kernel
theorem dX8_sheet_40 : decode cX8_sheet 40 = .ok (.iload_n 1, 1) := by decide +kernel
theorem dX8_sheet_41 : decode cX8_sheet 41 = .ok (.iload_n 3, 1) := by decide +kernel
theorem dX8_sheet_42 : decode cX8_sheet 42 = .ok (.iastore, 1) := by decide +kernel
theorem dX8_sheet_43 : decode cX8_sheet 43 = .ok (.iconst 0, 1) := by decide +kernel
theorem dX8_sheet_44 : decode cX8_sheet 44 = .ok (.istore 4, 2) := by decide +kernel
theorem dX8_sheet_46 : decode cX8_sheet 46 = .ok (.iload 4, 2) := by decide +kernel
theorem dX8_sheet_48 : decode cX8_sheet 48 = .ok (.bipush 24, 2) := by decide +kernel
theorem dX8_sheet_50 : decode cX8_sheet 50 = .ok (.if_icmp .ge 22, 3) := by decide +kernel
theorem dX8_sheet_53 : decode cX8_sheet 53 = .ok (.aload_n 0, 1) := by decide +kernel
theorem dX8_sheet_54 : decode cX8_sheet 54 = .ok (.getfield 55, 3) := by decide +kernel
theorem dX8_sheet_57 : decode cX8_sheet 57 = .ok (.bipush 24, 2) := by decide +kernel
theorem dX8_sheet_59 : decode cX8_sheet 59 = .ok (.iload_n 1, 1) := by decide +kernel
theorem dX8_sheet_60 : decode cX8_sheet 60 = .ok (.imul, 1) := by decide +kernel
theorem dX8_sheet_61 : decode cX8_sheet 61 = .ok (.iload 4, 2) := by decide +kernel
theorem dX8_sheet_63 : decode cX8_sheet 63 = .ok (.iadd, 1) := by decide +kernel
theorem dX8_sheet_64 : decode cX8_sheet 64 = .ok (.lconst 0, 1) := by decide +kernel
theorem dX8_sheet_65 : decode cX8_sheet 65 = .ok (.lastore, 1) := by decide +kernel
theorem dX8_sheet_66 : decode cX8_sheet 66 = .ok (.iinc 4 1, 3) := by decide +kernel
theorem dX8_sheet_69 : decode cX8_sheet 69 = .ok (.goto (-23), 3) := by decide +kernel
theorem dX8_sheet_72 : decode cX8_sheet 72 = .ok (.iload_n 3, 1) := by decide +kernel
theorem dX8_sheet_73 : decode cX8_sheet 73 = .ok (.ireturn, 1) := by decide +kernel
theorem dX8_drop_0 : decode cX8_drop 0 = .ok (.iload_n 1, 1) := by decide +kernel
theorem dX8_drop_1 : decode cX8_drop 1 = .ok (.invokestatic 264, 3) := by decide +kernel
theorem dX8_drop_4 : decode cX8_drop 4 = .ok (.ifCond .ne 5, 3) := by decide +kernel
theorem dX8_drop_7 : decode cX8_drop 7 = .ok (.iconst (-1), 1) := by decide +kernel
theorem dX8_drop_8 : decode cX8_drop 8 = .ok (.ireturn, 1) := by decide +kernel
theorem dX8_drop_9 : decode cX8_drop 9 = .ok (.aload_n 0, 1) := by decide +kernel
theorem dX8_drop_10 : decode cX8_drop 10 = .ok (.getfield 49, 3) := by decide +kernel
theorem dX8_drop_13 : decode cX8_drop 13 = .ok (.iload_n 1, 1) := by decide +kernel
theorem dX8_drop_14 : decode cX8_drop 14 = .ok (.iaload, 1) := by decide +kernel
theorem dX8_drop_15 : decode cX8_drop 15 = .ok (.ifCond .ge 6, 3) := by decide +kernel
theorem dX8_drop_18 : decode cX8_drop 18 = .ok (.bipush (-11), 2) := by decide +kernel
theorem dX8_drop_20 : decode cX8_drop 20 = .ok (.ireturn, 1) := by decide +kernel
theorem dX8_drop_21 : decode cX8_drop 21 = .ok (.aload_n 0, 1) := by decide +kernel
theorem dX8_drop_22 : decode cX8_drop 22 = .ok (.getfield 49, 3) := by decide +kernel
theorem dX8_drop_25 : decode cX8_drop 25 = .ok (.iload_n 1, 1) := by decide +kernel
theorem dX8_drop_26 : decode cX8_drop 26 = .ok (.iconst (-1), 1) := by decide +kernel
theorem dX8_drop_27 : decode cX8_drop 27 = .ok (.iastore, 1) := by decide +kernel
theorem dX8_drop_28 : decode cX8_drop 28 = .ok (.aload_n 0, 1) := by decide +kernel
theorem dX8_drop_29 : decode cX8_drop 29 = .ok (.getfield 52, 3) := by decide +kernel
theorem dX8_drop_32 : decode cX8_drop 32 = .ok (.iload_n 1, 1) := by decide +kernel
theorem dX8_drop_33 : decode cX8_drop 33 = .ok (.iaload, 1) := by decide +kernel
theorem dX8_drop_34 : decode cX8_drop 34 = .ok (.ireturn, 1) := by decide +kernel
theorem dX8_item_0 : decode cX8_item 0 = .ok (.iload_n 1, 1) := by decide +kernel
theorem dX8_item_1 : decode cX8_item 1 = .ok (.invokestatic 264, 3) := by decide +kernel
theorem dX8_item_4 : decode cX8_item 4 = .ok (.ifCond .eq 10, 3) := by decide +kernel
theorem dX8_item_7 : decode cX8_item 7 = .ok (.iload_n 2, 1) := by decide +kernel
theorem dX8_item_8 : decode cX8_item 8 = .ok (.invokestatic 267, 3) := by decide +kernel
theorem dX8_item_11 : decode cX8_item 11 = .ok (.ifCond .ne 5, 3) := by decide +kernel
theorem dX8_item_14 : decode cX8_item 14 = .ok (.iconst (-1), 1) := by decide +kernel
theorem dX8_item_15 : decode cX8_item 15 = .ok (.ireturn, 1) := by decide +kernel
theorem dX8_item_16 : decode cX8_item 16 = .ok (.aload_n 0, 1) := by decide +kernel
theorem dX8_item_17 : decode cX8_item 17 = .ok (.iload_n 1, 1) := by decide +kernel
theorem dX8_item_18 : decode cX8_item 18 = .ok (.iload_n 2, 1) := by decide +kernel
theorem dX8_item_19 : decode cX8_item 19 = .ok (.iload_n 3, 1) := by decide +kernel
theorem dX8_item_20 : decode cX8_item 20 = .ok (.iconst 1, 1) := by decide +kernel
theorem dX8_item_21 : decode cX8_item 21 = .ok (.invokevirtual 272, 3) := by decide +kernel
theorem dX8_item_24 : decode cX8_item 24 = .ok (.istore 6, 2) := by decide +kernel
theorem dX8_item_26 : decode cX8_item 26 = .ok (.iload 6, 2) := by decide +kernel
theorem dX8_item_28 : decode cX8_item 28 = .ok (.ifCond .ge 6, 3) := by decide +kernel
theorem dX8_item_31 : decode cX8_item 31 = .ok (.iload 6, 2) := by decide +kernel
theorem dX8_item_33 : decode cX8_item 33 = .ok (.ireturn, 1) := by decide +kernel
theorem dX8_item_34 : decode cX8_item 34 = .ok (.aload_n 0, 1) := by decide +kernel
theorem dX8_item_35 : decode cX8_item 35 = .ok (.iload_n 1, 1) := by decide +kernel
theorem dX8_item_36 : decode cX8_item 36 = .ok (.iload_n 3, 1) := by decide +kernel
theorem dX8_item_37 : decode cX8_item 37 = .ok (.lload 4, 2) := by decide +kernel
theorem dX8_item_39 : decode cX8_item 39 = .ok (.invokevirtual 278, 3) := by decide +kernel
theorem dX8_item_42 : decode cX8_item 42 = .ok (.iconst 1, 1) := by decide +kernel
theorem dX8_item_43 : decode cX8_item 43 = .ok (.ireturn, 1) := by decide +kernel
theorem dX8_copy_0 : decode cX8_copy 0 = .ok (.iload_n 1, 1) := by decide +kernel
theorem dX8_copy_1 : decode cX8_copy 1 = .ok (.invokestatic 264, 3) := by decide +kernel
theorem dX8_copy_4 : decode cX8_copy 4 = .ok (.ifCond .eq 10, 3) := by decide +kernel
theorem dX8_copy_7 : decode cX8_copy 7 = .ok (.iload_n 3, 1) := by decide +kernel
theorem dX8_copy_8 : decode cX8_copy 8 = .ok (.invokestatic 264, 3) := by decide +kernel
theorem dX8_copy_11 : decode cX8_copy 11 = .ok (.ifCond .ne 5, 3) := by decide +kernel
theorem dX8_copy_14 : decode cX8_copy 14 = .ok (.iconst (-1), 1) := by decide +kernel
theorem dX8_copy_15 : decode cX8_copy 15 = .ok (.ireturn, 1) := by decide +kernel
theorem dX8_copy_16 : decode cX8_copy 16 = .ok (.aload_n 0, 1) := by decide +kernel
theorem dX8_copy_17 : decode cX8_copy 17 = .ok (.getfield 49, 3) := by decide +kernel
theorem dX8_copy_20 : decode cX8_copy 20 = .ok (.iload_n 1, 1) := by decide +kernel
theorem dX8_copy_21 : decode cX8_copy 21 = .ok (.iaload, 1) := by decide +kernel
theorem dX8_copy_22 : decode cX8_copy 22 = .ok (.ifCond .lt 12, 3) := by decide +kernel
theorem dX8_copy_25 : decode cX8_copy 25 = .ok (.aload_n 0, 1) := by decide +kernel
theorem dX8_copy_26 : decode cX8_copy 26 = .ok (.getfield 49, 3) := by decide +kernel
theorem dX8_copy_29 : decode cX8_copy 29 = .ok (.iload_n 3, 1) := by decide +kernel
theorem dX8_copy_30 : decode cX8_copy 30 = .ok (.iaload, 1) := by decide +kernel
theorem dX8_copy_31 : decode cX8_copy 31 = .ok (.ifCond .ge 6, 3) := by decide +kernel
theorem dX8_copy_34 : decode cX8_copy 34 = .ok (.bipush (-11), 2) := by decide +kernel
theorem dX8_copy_36 : decode cX8_copy 36 = .ok (.ireturn, 1) := by decide +kernel
theorem dX8_copy_37 : decode cX8_copy 37 = .ok (.aload_n 0, 1) := by decide +kernel
theorem dX8_copy_38 : decode cX8_copy 38 = .ok (.getfield 49, 3) := by decide +kernel
theorem dX8_copy_41 : decode cX8_copy 41 = .ok (.iload_n 1, 1) := by decide +kernel
theorem dX8_copy_42 : decode cX8_copy 42 = .ok (.iaload, 1) := by decide +kernel
theorem dX8_copy_43 : decode cX8_copy 43 = .ok (.aload_n 0, 1) := by decide +kernel
theorem dX8_copy_44 : decode cX8_copy 44 = .ok (.getfield 49, 3) := by decide +kernel
theorem dX8_copy_47 : decode cX8_copy 47 = .ok (.iload_n 3, 1) := by decide +kernel
theorem dX8_copy_48 : decode cX8_copy 48 = .ok (.iaload, 1) := by decide +kernel
theorem dX8_copy_49 : decode cX8_copy 49 = .ok (.if_icmp .eq 6, 3) := by decide +kernel
theorem dX8_copy_52 : decode cX8_copy 52 = .ok (.bipush (-12), 2) := by decide +kernel
theorem dX8_copy_54 : decode cX8_copy 54 = .ok (.ireturn, 1) := by decide +kernel
theorem dX8_copy_55 : decode cX8_copy 55 = .ok (.iload 5, 2) := by decide +kernel
theorem dX8_copy_57 : decode cX8_copy 57 = .ok (.ifCond .lt 38, 3) := by decide +kernel
theorem dX8_copy_60 : decode cX8_copy 60 = .ok (.aload_n 0, 1) := by decide +kernel
theorem dX8_copy_61 : decode cX8_copy 61 = .ok (.iload_n 1, 1) := by decide +kernel
theorem dX8_copy_62 : decode cX8_copy 62 = .ok (.aload_n 0, 1) := by decide +kernel
theorem dX8_copy_63 : decode cX8_copy 63 = .ok (.getfield 49, 3) := by decide +kernel
theorem dX8_copy_66 : decode cX8_copy 66 = .ok (.iload_n 1, 1) := by decide +kernel
theorem dX8_copy_67 : decode cX8_copy 67 = .ok (.iaload, 1) := by decide +kernel
theorem dX8_copy_68 : decode cX8_copy 68 = .ok (.iload_n 2, 1) := by decide +kernel
theorem dX8_copy_69 : decode cX8_copy 69 = .ok (.iload 5, 2) := by decide +kernel
theorem dX8_copy_71 : decode cX8_copy 71 = .ok (.invokevirtual 272, 3) := by decide +kernel
theorem dX8_copy_74 : decode cX8_copy 74 = .ok (.ifCond .lt 21, 3) := by decide +kernel
theorem dX8_copy_77 : decode cX8_copy 77 = .ok (.aload_n 0, 1) := by decide +kernel
theorem dX8_copy_78 : decode cX8_copy 78 = .ok (.iload_n 3, 1) := by decide +kernel
theorem dX8_copy_79 : decode cX8_copy 79 = .ok (.aload_n 0, 1) := by decide +kernel
theorem dX8_copy_80 : decode cX8_copy 80 = .ok (.getfield 49, 3) := by decide +kernel
theorem dX8_copy_83 : decode cX8_copy 83 = .ok (.iload_n 3, 1) := by decide +kernel
theorem dX8_copy_84 : decode cX8_copy 84 = .ok (.iaload, 1) := by decide +kernel
theorem dX8_copy_85 : decode cX8_copy 85 = .ok (.iload 4, 2) := by decide +kernel
theorem dX8_copy_87 : decode cX8_copy 87 = .ok (.iload 5, 2) := by decide +kernel
theorem dX8_copy_89 : decode cX8_copy 89 = .ok (.invokevirtual 272, 3) := by decide +kernel
theorem dX8_copy_92 : decode cX8_copy 92 = .ok (.ifCond .ge 6, 3) := by decide +kernel
theorem dX8_copy_95 : decode cX8_copy 95 = .ok (.bipush (-13), 2) := by decide +kernel
theorem dX8_copy_97 : decode cX8_copy 97 = .ok (.ireturn, 1) := by decide +kernel
theorem dX8_copy_98 : decode cX8_copy 98 = .ok (.iconst 0, 1) := by decide +kernel
theorem dX8_copy_99 : decode cX8_copy 99 = .ok (.istore 6, 2) := by decide +kernel
theorem dX8_copy_101 : decode cX8_copy 101 = .ok (.iload 6, 2) := by decide +kernel
theorem dX8_copy_103 : decode cX8_copy 103 = .ok (.iload 5, 2) := by decide +kernel
theorem dX8_copy_105 : decode cX8_copy 105 = .ok (.if_icmp .ge 30, 3) := by decide +kernel
theorem dX8_copy_108 : decode cX8_copy 108 = .ok (.aload_n 0, 1) := by decide +kernel
theorem dX8_copy_109 : decode cX8_copy 109 = .ok (.getfield 59, 3) := by decide +kernel
theorem dX8_copy_112 : decode cX8_copy 112 = .ok (.iload 6, 2) := by decide +kernel
theorem dX8_copy_114 : decode cX8_copy 114 = .ok (.aload_n 0, 1) := by decide +kernel
theorem dX8_copy_115 : decode cX8_copy 115 = .ok (.getfield 55, 3) := by decide +kernel
theorem dX8_copy_118 : decode cX8_copy 118 = .ok (.bipush 24, 2) := by decide +kernel
theorem dX8_copy_120 : decode cX8_copy 120 = .ok (.iload_n 1, 1) := by decide +kernel
theorem dX8_copy_121 : decode cX8_copy 121 = .ok (.imul, 1) := by decide +kernel
theorem dX8_copy_122 : decode cX8_copy 122 = .ok (.iload_n 2, 1) := by decide +kernel
theorem dX8_copy_123 : decode cX8_copy 123 = .ok (.iadd, 1) := by decide +kernel
theorem dX8_copy_124 : decode cX8_copy 124 = .ok (.iload 6, 2) := by decide +kernel
theorem dX8_copy_126 : decode cX8_copy 126 = .ok (.iadd, 1) := by decide +kernel
theorem dX8_copy_127 : decode cX8_copy 127 = .ok (.laload, 1) := by decide +kernel
theorem dX8_copy_128 : decode cX8_copy 128 = .ok (.lastore, 1) := by decide +kernel
theorem dX8_copy_129 : decode cX8_copy 129 = .ok (.iinc 6 1, 3) := by decide +kernel
theorem dX8_copy_132 : decode cX8_copy 132 = .ok (.goto (-31), 3) := by decide +kernel
theorem dX8_copy_135 : decode cX8_copy 135 = .ok (.iconst 0, 1) := by decide +kernel
theorem dX8_copy_136 : decode cX8_copy 136 = .ok (.istore 6, 2) := by decide +kernel
theorem dX8_copy_138 : decode cX8_copy 138 = .ok (.iload 6, 2) := by decide +kernel
theorem dX8_copy_140 : decode cX8_copy 140 = .ok (.iload 5, 2) := by decide +kernel
theorem dX8_copy_142 : decode cX8_copy 142 = .ok (.if_icmp .ge 31, 3) := by decide +kernel
theorem dX8_copy_145 : decode cX8_copy 145 = .ok (.aload_n 0, 1) := by decide +kernel
theorem dX8_copy_146 : decode cX8_copy 146 = .ok (.getfield 55, 3) := by decide +kernel
theorem dX8_copy_149 : decode cX8_copy 149 = .ok (.bipush 24, 2) := by decide +kernel
theorem dX8_copy_151 : decode cX8_copy 151 = .ok (.iload_n 3, 1) := by decide +kernel
theorem dX8_copy_152 : decode cX8_copy 152 = .ok (.imul, 1) := by decide +kernel
theorem dX8_copy_153 : decode cX8_copy 153 = .ok (.iload 4, 2) := by decide +kernel
theorem dX8_copy_155 : decode cX8_copy 155 = .ok (.iadd, 1) := by decide +kernel
theorem dX8_copy_156 : decode cX8_copy 156 = .ok (.iload 6, 2) := by decide +kernel
theorem dX8_copy_158 : decode cX8_copy 158 = .ok (.iadd, 1) := by decide +kernel
theorem dX8_copy_159 : decode cX8_copy 159 = .ok (.aload_n 0, 1) := by decide +kernel
theorem dX8_copy_160 : decode cX8_copy 160 = .ok (.getfield 59, 3) := by decide +kernel
theorem dX8_copy_163 : decode cX8_copy 163 = .ok (.iload 6, 2) := by decide +kernel
theorem dX8_copy_165 : decode cX8_copy 165 = .ok (.laload, 1) := by decide +kernel
theorem dX8_copy_166 : decode cX8_copy 166 = .ok (.lastore, 1) := by decide +kernel
theorem dX8_copy_167 : decode cX8_copy 167 = .ok (.iinc 6 1, 3) := by decide +kernel
theorem dX8_copy_170 : decode cX8_copy 170 = .ok (.goto (-32), 3) := by decide +kernel
theorem dX8_copy_173 : decode cX8_copy 173 = .ok (.iload 5, 2) := by decide +kernel
theorem dX8_copy_175 : decode cX8_copy 175 = .ok (.ireturn, 1) := by decide +kernel
