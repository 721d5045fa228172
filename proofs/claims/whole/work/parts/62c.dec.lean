theorem dX5_othersUp_4 : decode cX5_othersUp 4 = .ok (.iload_n 2, 1) := by decide +kernel
theorem dX5_othersUp_5 : decode cX5_othersUp 5 = .ok (.aload_n 0, 1) := by decide +kernel
theorem dX5_othersUp_6 : decode cX5_othersUp 6 = .ok (.getfield 43, 3) := by decide +kernel
theorem dX5_othersUp_9 : decode cX5_othersUp 9 = .ok (.if_icmp .ge 20, 3) := by decide +kernel
theorem dX5_othersUp_12 : decode cX5_othersUp 12 = .ok (.aload_n 0, 1) := by decide +kernel
theorem dX5_othersUp_13 : decode cX5_othersUp 13 = .ok (.iload_n 2, 1) := by decide +kernel
theorem dX5_othersUp_14 : decode cX5_othersUp 14 = .ok (.invokevirtual 74, 3) := by decide +kernel
theorem dX5_othersUp_17 : decode cX5_othersUp 17 = .ok (.ifCond .eq 6, 3) := by decide +kernel
theorem dX5_othersUp_20 : decode cX5_othersUp 20 = .ok (.iinc 1 1, 3) := by decide +kernel
theorem dX5_othersUp_23 : decode cX5_othersUp 23 = .ok (.iinc 2 1, 3) := by decide +kernel
theorem dX5_othersUp_26 : decode cX5_othersUp 26 = .ok (.goto (-22), 3) := by decide +kernel
theorem dX5_othersUp_29 : decode cX5_othersUp 29 = .ok (.iload_n 1, 1) := by decide +kernel
theorem dX5_othersUp_30 : decode cX5_othersUp 30 = .ok (.ireturn, 1) := by decide +kernel
theorem dX5_outcome_0 : decode cX5_outcome 0 = .ok (.aload_n 0, 1) := by decide +kernel
theorem dX5_outcome_1 : decode cX5_outcome 1 = .ok (.getfield 43, 3) := by decide +kernel
theorem dX5_outcome_4 : decode cX5_outcome 4 = .ok (.iconst 2, 1) := by decide +kernel
theorem dX5_outcome_5 : decode cX5_outcome 5 = .ok (.if_icmp .ge 5, 3) := by decide +kernel
theorem dX5_outcome_8 : decode cX5_outcome 8 = .ok (.iconst 3, 1) := by decide +kernel
theorem dX5_outcome_9 : decode cX5_outcome 9 = .ok (.ireturn, 1) := by decide +kernel
theorem dX5_outcome_10 : decode cX5_outcome 10 = .ok (.aload_n 0, 1) := by decide +kernel
theorem dX5_outcome_11 : decode cX5_outcome 11 = .ok (.iconst 0, 1) := by decide +kernel
theorem dX5_outcome_12 : decode cX5_outcome 12 = .ok (.invokevirtual 74, 3) := by decide +kernel
theorem dX5_outcome_15 : decode cX5_outcome 15 = .ok (.ifCond .ne 5, 3) := by decide +kernel
theorem dX5_outcome_18 : decode cX5_outcome 18 = .ok (.iconst 2, 1) := by decide +kernel
theorem dX5_outcome_19 : decode cX5_outcome 19 = .ok (.ireturn, 1) := by decide +kernel
theorem dX5_outcome_20 : decode cX5_outcome 20 = .ok (.aload_n 0, 1) := by decide +kernel
theorem dX5_outcome_21 : decode cX5_outcome 21 = .ok (.invokevirtual 77, 3) := by decide +kernel
theorem dX5_outcome_24 : decode cX5_outcome 24 = .ok (.ifCond .ne 7, 3) := by decide +kernel
theorem dX5_outcome_27 : decode cX5_outcome 27 = .ok (.iconst 1, 1) := by decide +kernel
theorem dX5_outcome_28 : decode cX5_outcome 28 = .ok (.goto 4, 3) := by decide +kernel
theorem dX5_outcome_31 : decode cX5_outcome 31 = .ok (.iconst 0, 1) := by decide +kernel
theorem dX5_outcome_32 : decode cX5_outcome 32 = .ok (.ireturn, 1) := by decide +kernel
theorem dX5_forceOf_0 : decode cX5_forceOf 0 = .ok (.aload_n 0, 1) := by decide +kernel
theorem dX5_forceOf_1 : decode cX5_forceOf 1 = .ok (.getfield 22, 3) := by decide +kernel
theorem dX5_forceOf_4 : decode cX5_forceOf 4 = .ok (.iload_n 1, 1) := by decide +kernel
theorem dX5_forceOf_5 : decode cX5_forceOf 5 = .ok (.iaload, 1) := by decide +kernel
theorem dX5_forceOf_6 : decode cX5_forceOf 6 = .ok (.aload_n 0, 1) := by decide +kernel
theorem dX5_forceOf_7 : decode cX5_forceOf 7 = .ok (.getfield 25, 3) := by decide +kernel
theorem dX5_forceOf_10 : decode cX5_forceOf 10 = .ok (.iload_n 1, 1) := by decide +kernel
theorem dX5_forceOf_11 : decode cX5_forceOf 11 = .ok (.iaload, 1) := by decide +kernel
theorem dX5_forceOf_12 : decode cX5_forceOf 12 = .ok (.aload_n 0, 1) := by decide +kernel
theorem dX5_forceOf_13 : decode cX5_forceOf 13 = .ok (.getfield 31, 3) := by decide +kernel
theorem dX5_forceOf_16 : decode cX5_forceOf 16 = .ok (.iload_n 1, 1) := by decide +kernel
theorem dX5_forceOf_17 : decode cX5_forceOf 17 = .ok (.iaload, 1) := by decide +kernel
theorem dX5_forceOf_18 : decode cX5_forceOf 18 = .ok (.invokestatic 81, 3) := by decide +kernel
theorem dX5_forceOf_21 : decode cX5_forceOf 21 = .ok (.ireturn, 1) := by decide +kernel
theorem dX5_pointsOf_0 : decode cX5_pointsOf 0 = .ok (.aload_n 0, 1) := by decide +kernel
theorem dX5_pointsOf_1 : decode cX5_pointsOf 1 = .ok (.getfield 22, 3) := by decide +kernel
theorem dX5_pointsOf_4 : decode cX5_pointsOf 4 = .ok (.iload_n 1, 1) := by decide +kernel
theorem dX5_pointsOf_5 : decode cX5_pointsOf 5 = .ok (.iaload, 1) := by decide +kernel
theorem dX5_pointsOf_6 : decode cX5_pointsOf 6 = .ok (.istore 4, 2) := by decide +kernel
theorem dX5_pointsOf_8 : decode cX5_pointsOf 8 = .ok (.iload 4, 2) := by decide +kernel
theorem dX5_pointsOf_10 : decode cX5_pointsOf 10 = .ok (.iload 4, 2) := by decide +kernel
theorem dX5_pointsOf_12 : decode cX5_pointsOf 12 = .ok (.aload_n 0, 1) := by decide +kernel
theorem dX5_pointsOf_13 : decode cX5_pointsOf 13 = .ok (.getfield 28, 3) := by decide +kernel
theorem dX5_pointsOf_16 : decode cX5_pointsOf 16 = .ok (.iload_n 1, 1) := by decide +kernel
theorem dX5_pointsOf_17 : decode cX5_pointsOf 17 = .ok (.iaload, 1) := by decide +kernel
theorem dX5_pointsOf_18 : decode cX5_pointsOf 18 = .ok (.iload_n 2, 1) := by decide +kernel
theorem dX5_pointsOf_19 : decode cX5_pointsOf 19 = .ok (.invokestatic 87, 3) := by decide +kernel
theorem dX5_pointsOf_22 : decode cX5_pointsOf 22 = .ok (.iload_n 3, 1) := by decide +kernel
theorem dX5_pointsOf_23 : decode cX5_pointsOf 23 = .ok (.invokestatic 90, 3) := by decide +kernel
theorem dX5_pointsOf_26 : decode cX5_pointsOf 26 = .ok (.ireturn, 1) := by decide +kernel
theorem dX5_cellBy_0 : decode cX5_cellBy 0 = .ok (.iconst 0, 1) := by decide +kernel
theorem dX5_cellBy_1 : decode cX5_cellBy 1 = .ok (.istore_n 2, 1) := by decide +kernel
theorem dX5_cellBy_2 : decode cX5_cellBy 2 = .ok (.iload_n 2, 1) := by decide +kernel
theorem dX5_cellBy_3 : decode cX5_cellBy 3 = .ok (.iconst 1, 1) := by decide +kernel
theorem dX5_cellBy_4 : decode cX5_cellBy 4 = .ok (.iadd, 1) := by decide +kernel
theorem dX5_cellBy_5 : decode cX5_cellBy 5 = .ok (.aload_n 0, 1) := by decide +kernel
theorem dX5_cellBy_6 : decode cX5_cellBy 6 = .ok (.getfield 9, 3) := by decide +kernel
theorem dX5_cellBy_9 : decode cX5_cellBy 9 = .ok (.if_icmp .ge 21, 3) := by decide +kernel
theorem dX5_cellBy_12 : decode cX5_cellBy 12 = .ok (.aload_n 0, 1) := by decide +kernel
theorem dX5_cellBy_13 : decode cX5_cellBy 13 = .ok (.getfield 19, 3) := by decide +kernel
theorem dX5_cellBy_16 : decode cX5_cellBy 16 = .ok (.iload_n 2, 1) := by decide +kernel
theorem dX5_cellBy_17 : decode cX5_cellBy 17 = .ok (.iconst 1, 1) := by decide +kernel
theorem dX5_cellBy_18 : decode cX5_cellBy 18 = .ok (.iadd, 1) := by decide +kernel
theorem dX5_cellBy_19 : decode cX5_cellBy 19 = .ok (.iaload, 1) := by decide +kernel
theorem dX5_cellBy_20 : decode cX5_cellBy 20 = .ok (.iload_n 1, 1) := by decide +kernel
theorem dX5_cellBy_21 : decode cX5_cellBy 21 = .ok (.if_icmp .gt 9, 3) := by decide +kernel
theorem dX5_cellBy_24 : decode cX5_cellBy 24 = .ok (.iinc 2 1, 3) := by decide +kernel
theorem dX5_cellBy_27 : decode cX5_cellBy 27 = .ok (.goto (-25), 3) := by decide +kernel
theorem dX5_cellBy_30 : decode cX5_cellBy 30 = .ok (.iload_n 2, 1) := by decide +kernel
theorem dX5_cellBy_31 : decode cX5_cellBy 31 = .ok (.ireturn, 1) := by decide +kernel
theorem dX5_cellRunning_0 : decode cX5_cellRunning 0 = .ok (.aload_n 0, 1) := by decide +kernel
theorem dX5_cellRunning_1 : decode cX5_cellRunning 1 = .ok (.iload_n 1, 1) := by decide +kernel
theorem dX5_cellRunning_2 : decode cX5_cellRunning 2 = .ok (.invokevirtual 74, 3) := by decide +kernel
theorem dX5_cellRunning_5 : decode cX5_cellRunning 5 = .ok (.ifCond .eq 27, 3) := by decide +kernel
theorem dX5_cellRunning_8 : decode cX5_cellRunning 8 = .ok (.aload_n 0, 1) := by decide +kernel
theorem dX5_cellRunning_9 : decode cX5_cellRunning 9 = .ok (.aload_n 0, 1) := by decide +kernel
theorem dX5_cellRunning_10 : decode cX5_cellRunning 10 = .ok (.iload_n 1, 1) := by decide +kernel
theorem dX5_cellRunning_11 : decode cX5_cellRunning 11 = .ok (.aload_n 0, 1) := by decide +kernel
theorem dX5_cellRunning_12 : decode cX5_cellRunning 12 = .ok (.getfield 31, 3) := by decide +kernel
theorem dX5_cellRunning_15 : decode cX5_cellRunning 15 = .ok (.iload_n 1, 1) := by decide +kernel
theorem dX5_cellRunning_16 : decode cX5_cellRunning 16 = .ok (.iaload, 1) := by decide +kernel
theorem dX5_cellRunning_17 : decode cX5_cellRunning 17 = .ok (.aload_n 0, 1) := by decide +kernel
theorem dX5_cellRunning_18 : decode cX5_cellRunning 18 = .ok (.iload_n 1, 1) := by decide +kernel
theorem dX5_cellRunning_19 : decode cX5_cellRunning 19 = .ok (.iload_n 2, 1) := by decide +kernel
theorem dX5_cellRunning_20 : decode cX5_cellRunning 20 = .ok (.invokevirtual 93, 3) := by decide +kernel
theorem dX5_cellRunning_23 : decode cX5_cellRunning 23 = .ok (.invokevirtual 97, 3) := by decide +kernel
theorem dX5_cellRunning_26 : decode cX5_cellRunning 26 = .ok (.invokevirtual 100, 3) := by decide +kernel
theorem dX5_cellRunning_29 : decode cX5_cellRunning 29 = .ok (.goto 4, 3) := by decide +kernel
theorem dX5_cellRunning_32 : decode cX5_cellRunning 32 = .ok (.iconst 0, 1) := by decide +kernel
theorem dX5_cellRunning_33 : decode cX5_cellRunning 33 = .ok (.ireturn, 1) := by decide +kernel
theorem dX5_momentsOut_0 : decode cX5_momentsOut 0 = .ok (.iload_n 1, 1) := by decide +kernel
theorem dX5_momentsOut_1 : decode cX5_momentsOut 1 = .ok (.ifCond .ne 7, 3) := by decide +kernel
theorem dX5_momentsOut_4 : decode cX5_momentsOut 4 = .ok (.iload_n 2, 1) := by decide +kernel
theorem dX5_momentsOut_5 : decode cX5_momentsOut 5 = .ok (.goto 13, 3) := by decide +kernel
theorem dX5_momentsOut_8 : decode cX5_momentsOut 8 = .ok (.iconst 0, 1) := by decide +kernel
theorem dX5_momentsOut_9 : decode cX5_momentsOut 9 = .ok (.iload_n 2, 1) := by decide +kernel
theorem dX5_momentsOut_10 : decode cX5_momentsOut 10 = .ok (.aload_n 0, 1) := by decide +kernel
theorem dX5_momentsOut_11 : decode cX5_momentsOut 11 = .ok (.getfield 46, 3) := by decide +kernel
theorem dX5_momentsOut_14 : decode cX5_momentsOut 14 = .ok (.isub, 1) := by decide +kernel
theorem dX5_momentsOut_15 : decode cX5_momentsOut 15 = .ok (.invokestatic 103, 3) := by decide +kernel
theorem dX5_momentsOut_18 : decode cX5_momentsOut 18 = .ok (.ireturn, 1) := by decide +kernel
theorem dX5_cellNow_0 : decode cX5_cellNow 0 = .ok (.aload_n 0, 1) := by decide +kernel
theorem dX5_cellNow_1 : decode cX5_cellNow 1 = .ok (.invokevirtual 108, 3) := by decide +kernel
theorem dX5_cellNow_4 : decode cX5_cellNow 4 = .ok (.ifCond .ne 13, 3) := by decide +kernel
theorem dX5_cellNow_7 : decode cX5_cellNow 7 = .ok (.aload_n 0, 1) := by decide +kernel
theorem dX5_cellNow_8 : decode cX5_cellNow 8 = .ok (.iload_n 1, 1) := by decide +kernel
theorem dX5_cellNow_9 : decode cX5_cellNow 9 = .ok (.aload_n 0, 1) := by decide +kernel
theorem dX5_cellNow_10 : decode cX5_cellNow 10 = .ok (.getfield 49, 3) := by decide +kernel
theorem dX5_cellNow_13 : decode cX5_cellNow 13 = .ok (.invokevirtual 112, 3) := by decide +kernel
theorem dX5_cellNow_16 : decode cX5_cellNow 16 = .ok (.ireturn, 1) := by decide +kernel
theorem dX5_cellNow_17 : decode cX5_cellNow 17 = .ok (.iload_n 1, 1) := by decide +kernel
theorem dX5_cellNow_18 : decode cX5_cellNow 18 = .ok (.ifCond .ne 10, 3) := by decide +kernel
theorem dX5_cellNow_21 : decode cX5_cellNow 21 = .ok (.aload_n 0, 1) := by decide +kernel
theorem dX5_cellNow_22 : decode cX5_cellNow 22 = .ok (.getfield 34, 3) := by decide +kernel
theorem dX5_cellNow_25 : decode cX5_cellNow 25 = .ok (.goto 8, 3) := by decide +kernel
theorem dX5_cellNow_28 : decode cX5_cellNow 28 = .ok (.aload_n 0, 1) := by decide +kernel
theorem dX5_cellNow_29 : decode cX5_cellNow 29 = .ok (.iload_n 1, 1) := by decide +kernel
theorem dX5_cellNow_30 : decode cX5_cellNow 30 = .ok (.invokevirtual 115, 3) := by decide +kernel
theorem dX5_cellNow_33 : decode cX5_cellNow 33 = .ok (.ireturn, 1) := by decide +kernel
theorem dX5_cellBehindTurn_0 : decode cX5_cellBehindTurn 0 = .ok (.aload_n 0, 1) := by decide +kernel
theorem dX5_cellBehindTurn_1 : decode cX5_cellBehindTurn 1 = .ok (.getfield 37, 3) := by decide +kernel
theorem dX5_cellBehindTurn_4 : decode cX5_cellBehindTurn 4 = .ok (.iload_n 1, 1) := by decide +kernel
theorem dX5_cellBehindTurn_5 : decode cX5_cellBehindTurn 5 = .ok (.iaload, 1) := by decide +kernel
theorem dX5_cellBehindTurn_6 : decode cX5_cellBehindTurn 6 = .ok (.ldc 118, 2) := by decide +kernel
theorem dX5_cellBehindTurn_8 : decode cX5_cellBehindTurn 8 = .ok (.if_icmp .ne 5, 3) := by decide +kernel
theorem dX5_cellBehindTurn_11 : decode cX5_cellBehindTurn 11 = .ok (.iconst 0, 1) := by decide +kernel
theorem dX5_cellBehindTurn_12 : decode cX5_cellBehindTurn 12 = .ok (.ireturn, 1) := by decide +kernel
theorem dX5_cellBehindTurn_13 : decode cX5_cellBehindTurn 13 = .ok (.aload_n 0, 1) := by decide +kernel
theorem dX5_cellBehindTurn_14 : decode cX5_cellBehindTurn 14 = .ok (.getfield 37, 3) := by decide +kernel
theorem dX5_cellBehindTurn_17 : decode cX5_cellBehindTurn 17 = .ok (.iload_n 1, 1) := by decide +kernel
theorem dX5_cellBehindTurn_18 : decode cX5_cellBehindTurn 18 = .ok (.iaload, 1) := by decide +kernel
theorem dX5_cellBehindTurn_19 : decode cX5_cellBehindTurn 19 = .ok (.aload_n 0, 1) := by decide +kernel
theorem dX5_cellBehindTurn_20 : decode cX5_cellBehindTurn 20 = .ok (.getfield 49, 3) := by decide +kernel
theorem dX5_cellBehindTurn_23 : decode cX5_cellBehindTurn 23 = .ok (.if_icmp .gt 8, 3) := by decide +kernel
theorem dX5_cellBehindTurn_26 : decode cX5_cellBehindTurn 26 = .ok (.aload_n 0, 1) := by decide +kernel
theorem dX5_cellBehindTurn_27 : decode cX5_cellBehindTurn 27 = .ok (.getfield 34, 3) := by decide +kernel
theorem dX5_cellBehindTurn_30 : decode cX5_cellBehindTurn 30 = .ok (.ireturn, 1) := by decide +kernel
theorem dX5_cellBehindTurn_31 : decode cX5_cellBehindTurn 31 = .ok (.aload_n 0, 1) := by decide +kernel
theorem dX5_cellBehindTurn_32 : decode cX5_cellBehindTurn 32 = .ok (.aload_n 0, 1) := by decide +kernel
theorem dX5_cellBehindTurn_33 : decode cX5_cellBehindTurn 33 = .ok (.iload_n 1, 1) := by decide +kernel
theorem dX5_cellBehindTurn_34 : decode cX5_cellBehindTurn 34 = .ok (.aload_n 0, 1) := by decide +kernel
theorem dX5_cellBehindTurn_35 : decode cX5_cellBehindTurn 35 = .ok (.getfield 31, 3) := by decide +kernel
theorem dX5_cellBehindTurn_38 : decode cX5_cellBehindTurn 38 = .ok (.iload_n 1, 1) := by decide +kernel
theorem dX5_cellBehindTurn_39 : decode cX5_cellBehindTurn 39 = .ok (.iaload, 1) := by decide +kernel
theorem dX5_cellBehindTurn_40 : decode cX5_cellBehindTurn 40 = .ok (.aload_n 0, 1) := by decide +kernel
theorem dX5_cellBehindTurn_41 : decode cX5_cellBehindTurn 41 = .ok (.iload_n 1, 1) := by decide +kernel
theorem dX5_cellBehindTurn_42 : decode cX5_cellBehindTurn 42 = .ok (.aload_n 0, 1) := by decide +kernel
theorem dX5_cellBehindTurn_43 : decode cX5_cellBehindTurn 43 = .ok (.getfield 49, 3) := by decide +kernel
theorem dX5_cellBehindTurn_46 : decode cX5_cellBehindTurn 46 = .ok (.invokevirtual 93, 3) := by decide +kernel
theorem dX5_cellBehindTurn_49 : decode cX5_cellBehindTurn 49 = .ok (.invokevirtual 97, 3) := by decide +kernel
theorem dX5_cellBehindTurn_52 : decode cX5_cellBehindTurn 52 = .ok (.invokevirtual 100, 3) := by decide +kernel
theorem dX5_cellBehindTurn_55 : decode cX5_cellBehindTurn 55 = .ok (.ireturn, 1) := by decide +kernel
theorem dX5_comingOf_0 : decode cX5_comingOf 0 = .ok (.aload_n 0, 1) := by decide +kernel
theorem dX5_comingOf_1 : decode cX5_comingOf 1 = .ok (.invokevirtual 108, 3) := by decide +kernel
theorem dX5_comingOf_4 : decode cX5_comingOf 4 = .ok (.ifCond .eq 24, 3) := by decide +kernel
theorem dX5_comingOf_7 : decode cX5_comingOf 7 = .ok (.iload_n 1, 1) := by decide +kernel
theorem dX5_comingOf_8 : decode cX5_comingOf 8 = .ok (.ifCond .eq 20, 3) := by decide +kernel
theorem dX5_comingOf_11 : decode cX5_comingOf 11 = .ok (.aload_n 0, 1) := by decide +kernel
theorem dX5_comingOf_12 : decode cX5_comingOf 12 = .ok (.iload_n 1, 1) := by decide +kernel
theorem dX5_comingOf_13 : decode cX5_comingOf 13 = .ok (.invokevirtual 74, 3) := by decide +kernel
theorem dX5_comingOf_16 : decode cX5_comingOf 16 = .ok (.ifCond .eq 12, 3) := by decide +kernel
theorem dX5_comingOf_19 : decode cX5_comingOf 19 = .ok (.aload_n 0, 1) := by decide +kernel
theorem dX5_comingOf_20 : decode cX5_comingOf 20 = .ok (.getfield 37, 3) := by decide +kernel
theorem dX5_comingOf_23 : decode cX5_comingOf 23 = .ok (.iload_n 1, 1) := by decide +kernel
theorem dX5_comingOf_24 : decode cX5_comingOf 24 = .ok (.iaload, 1) := by decide +kernel
theorem dX5_comingOf_25 : decode cX5_comingOf 25 = .ok (.goto 5, 3) := by decide +kernel
theorem dX5_comingOf_28 : decode cX5_comingOf 28 = .ok (.bipush (-4), 2) := by decide +kernel
theorem dX5_comingOf_30 : decode cX5_comingOf 30 = .ok (.ireturn, 1) := by decide +kernel
theorem dX5_comesTo_0 : decode cX5_comesTo 0 = .ok (.aload_n 0, 1) := by decide +kernel
theorem dX5_comesTo_1 : decode cX5_comesTo 1 = .ok (.getfield 19, 3) := by decide +kernel
theorem dX5_comesTo_4 : decode cX5_comesTo 4 = .ok (.iload_n 2, 1) := by decide +kernel
theorem dX5_comesTo_5 : decode cX5_comesTo 5 = .ok (.iaload, 1) := by decide +kernel
theorem dX5_comesTo_6 : decode cX5_comesTo 6 = .ok (.istore_n 3, 1) := by decide +kernel
theorem dX5_comesTo_7 : decode cX5_comesTo 7 = .ok (.iload_n 3, 1) := by decide +kernel
theorem dX5_comesTo_8 : decode cX5_comesTo 8 = .ok (.ifCond .ne 5, 3) := by decide +kernel
theorem dX5_comesTo_11 : decode cX5_comesTo 11 = .ok (.iconst 0, 1) := by decide +kernel
theorem dX5_comesTo_12 : decode cX5_comesTo 12 = .ok (.ireturn, 1) := by decide +kernel
theorem dX5_comesTo_13 : decode cX5_comesTo 13 = .ok (.aload_n 0, 1) := by decide +kernel
theorem dX5_comesTo_14 : decode cX5_comesTo 14 = .ok (.getfield 22, 3) := by decide +kernel
theorem dX5_comesTo_17 : decode cX5_comesTo 17 = .ok (.iload_n 1, 1) := by decide +kernel
theorem dX5_comesTo_18 : decode cX5_comesTo 18 = .ok (.iaload, 1) := by decide +kernel
theorem dX5_comesTo_19 : decode cX5_comesTo 19 = .ok (.istore 4, 2) := by decide +kernel
theorem dX5_comesTo_21 : decode cX5_comesTo 21 = .ok (.aload_n 0, 1) := by decide +kernel
theorem dX5_comesTo_22 : decode cX5_comesTo 22 = .ok (.getfield 46, 3) := by decide +kernel
theorem dX5_comesTo_25 : decode cX5_comesTo 25 = .ok (.iload 4, 2) := by decide +kernel
theorem dX5_comesTo_27 : decode cX5_comesTo 27 = .ok (.iload 4, 2) := by decide +kernel
theorem dX5_comesTo_29 : decode cX5_comesTo 29 = .ok (.aload_n 0, 1) := by decide +kernel
theorem dX5_comesTo_30 : decode cX5_comesTo 30 = .ok (.getfield 28, 3) := by decide +kernel
theorem dX5_comesTo_33 : decode cX5_comesTo 33 = .ok (.iload_n 1, 1) := by decide +kernel
theorem dX5_comesTo_34 : decode cX5_comesTo 34 = .ok (.iaload, 1) := by decide +kernel
theorem dX5_comesTo_35 : decode cX5_comesTo 35 = .ok (.aload_n 0, 1) := by decide +kernel
theorem dX5_comesTo_36 : decode cX5_comesTo 36 = .ok (.getfield 31, 3) := by decide +kernel
theorem dX5_comesTo_39 : decode cX5_comesTo 39 = .ok (.iload_n 1, 1) := by decide +kernel
theorem dX5_comesTo_40 : decode cX5_comesTo 40 = .ok (.iaload, 1) := by decide +kernel
theorem dX5_comesTo_41 : decode cX5_comesTo 41 = .ok (.invokestatic 87, 3) := by decide +kernel
theorem dX5_comesTo_44 : decode cX5_comesTo 44 = .ok (.iload_n 3, 1) := by decide +kernel
theorem dX5_comesTo_45 : decode cX5_comesTo 45 = .ok (.invokestatic 119, 3) := by decide +kernel
theorem dX5_comesTo_48 : decode cX5_comesTo 48 = .ok (.iadd, 1) := by decide +kernel
theorem dX5_comesTo_49 : decode cX5_comesTo 49 = .ok (.ireturn, 1) := by decide +kernel
theorem dX5_isCaughtIn_0 : decode cX5_isCaughtIn 0 = .ok (.aload_n 0, 1) := by decide +kernel
theorem dX5_isCaughtIn_1 : decode cX5_isCaughtIn 1 = .ok (.iconst 0, 1) := by decide +kernel
theorem dX5_isCaughtIn_2 : decode cX5_isCaughtIn 2 = .ok (.iload_n 1, 1) := by decide +kernel
theorem dX5_isCaughtIn_3 : decode cX5_isCaughtIn 3 = .ok (.invokevirtual 112, 3) := by decide +kernel
theorem dX5_isCaughtIn_6 : decode cX5_isCaughtIn 6 = .ok (.istore_n 2, 1) := by decide +kernel
theorem dX5_isCaughtIn_7 : decode cX5_isCaughtIn 7 = .ok (.iload_n 2, 1) := by decide +kernel
theorem dX5_isCaughtIn_8 : decode cX5_isCaughtIn 8 = .ok (.aload_n 0, 1) := by decide +kernel
theorem dX5_isCaughtIn_9 : decode cX5_isCaughtIn 9 = .ok (.getfield 9, 3) := by decide +kernel
theorem dX5_isCaughtIn_12 : decode cX5_isCaughtIn 12 = .ok (.iconst 1, 1) := by decide +kernel
theorem dX5_isCaughtIn_13 : decode cX5_isCaughtIn 13 = .ok (.isub, 1) := by decide +kernel
theorem dX5_isCaughtIn_14 : decode cX5_isCaughtIn 14 = .ok (.if_icmp .ne 7, 3) := by decide +kernel
theorem dX5_isCaughtIn_17 : decode cX5_isCaughtIn 17 = .ok (.iconst 1, 1) := by decide +kernel
theorem dX5_isCaughtIn_18 : decode cX5_isCaughtIn 18 = .ok (.goto 4, 3) := by decide +kernel
theorem dX5_isCaughtIn_21 : decode cX5_isCaughtIn 21 = .ok (.iconst 0, 1) := by decide +kernel
theorem dX5_isCaughtIn_22 : decode cX5_isCaughtIn 22 = .ok (.istore_n 3, 1) := by decide +kernel
theorem dX5_isCaughtIn_23 : decode cX5_isCaughtIn 23 = .ok (.iconst 1, 1) := by decide +kernel
theorem dX5_isCaughtIn_24 : decode cX5_isCaughtIn 24 = .ok (.istore 4, 2) := by decide +kernel
theorem dX5_isCaughtIn_26 : decode cX5_isCaughtIn 26 = .ok (.iload 4, 2) := by decide +kernel
theorem dX5_isCaughtIn_28 : decode cX5_isCaughtIn 28 = .ok (.aload_n 0, 1) := by decide +kernel
theorem dX5_isCaughtIn_29 : decode cX5_isCaughtIn 29 = .ok (.getfield 43, 3) := by decide +kernel
theorem dX5_isCaughtIn_32 : decode cX5_isCaughtIn 32 = .ok (.if_icmp .ge 39, 3) := by decide +kernel
theorem dX5_isCaughtIn_35 : decode cX5_isCaughtIn 35 = .ok (.iload_n 3, 1) := by decide +kernel
theorem dX5_isCaughtIn_36 : decode cX5_isCaughtIn 36 = .ok (.ifCond .ne 35, 3) := by decide +kernel
theorem dX5_isCaughtIn_39 : decode cX5_isCaughtIn 39 = .ok (.aload_n 0, 1) := by decide +kernel
theorem dX5_isCaughtIn_40 : decode cX5_isCaughtIn 40 = .ok (.iload 4, 2) := by decide +kernel
theorem dX5_isCaughtIn_42 : decode cX5_isCaughtIn 42 = .ok (.invokevirtual 74, 3) := by decide +kernel
theorem dX5_isCaughtIn_45 : decode cX5_isCaughtIn 45 = .ok (.ifCond .eq 18, 3) := by decide +kernel
theorem dX5_isCaughtIn_48 : decode cX5_isCaughtIn 48 = .ok (.aload_n 0, 1) := by decide +kernel
theorem dX5_isCaughtIn_49 : decode cX5_isCaughtIn 49 = .ok (.iload 4, 2) := by decide +kernel
theorem dX5_isCaughtIn_51 : decode cX5_isCaughtIn 51 = .ok (.iload_n 2, 1) := by decide +kernel
theorem dX5_isCaughtIn_52 : decode cX5_isCaughtIn 52 = .ok (.invokevirtual 122, 3) := by decide +kernel
theorem dX5_isCaughtIn_55 : decode cX5_isCaughtIn 55 = .ok (.iload_n 1, 1) := by decide +kernel
theorem dX5_isCaughtIn_56 : decode cX5_isCaughtIn 56 = .ok (.if_icmp .gt 7, 3) := by decide +kernel
theorem dX5_isCaughtIn_59 : decode cX5_isCaughtIn 59 = .ok (.iconst 1, 1) := by decide +kernel
theorem dX5_isCaughtIn_60 : decode cX5_isCaughtIn 60 = .ok (.goto 4, 3) := by decide +kernel
theorem dX5_isCaughtIn_63 : decode cX5_isCaughtIn 63 = .ok (.iconst 0, 1) := by decide +kernel
theorem dX5_isCaughtIn_64 : decode cX5_isCaughtIn 64 = .ok (.istore_n 3, 1) := by decide +kernel
theorem dX5_isCaughtIn_65 : decode cX5_isCaughtIn 65 = .ok (.iinc 4 1, 3) := by decide +kernel
theorem dX5_isCaughtIn_68 : decode cX5_isCaughtIn 68 = .ok (.goto (-42), 3) := by decide +kernel
theorem dX5_isCaughtIn_71 : decode cX5_isCaughtIn 71 = .ok (.iload_n 3, 1) := by decide +kernel
theorem dX5_isCaughtIn_72 : decode cX5_isCaughtIn 72 = .ok (.ireturn, 1) := by decide +kernel
theorem dX5_turnMoment_0 : decode cX5_turnMoment 0 = .ok (.iload_n 1, 1) := by decide +kernel
theorem dX5_turnMoment_1 : decode cX5_turnMoment 1 = .ok (.istore_n 3, 1) := by decide +kernel
theorem dX5_turnMoment_2 : decode cX5_turnMoment 2 = .ok (.iload_n 3, 1) := by decide +kernel
theorem dX5_turnMoment_3 : decode cX5_turnMoment 3 = .ok (.iload_n 2, 1) := by decide +kernel
theorem dX5_turnMoment_4 : decode cX5_turnMoment 4 = .ok (.if_icmp .ge 16, 3) := by decide +kernel
theorem dX5_turnMoment_7 : decode cX5_turnMoment 7 = .ok (.iinc 3 1, 3) := by decide +kernel
theorem dX5_turnMoment_10 : decode cX5_turnMoment 10 = .ok (.aload_n 0, 1) := by decide +kernel
theorem dX5_turnMoment_11 : decode cX5_turnMoment 11 = .ok (.iload_n 3, 1) := by decide +kernel
theorem dX5_turnMoment_12 : decode cX5_turnMoment 12 = .ok (.invokevirtual 125, 3) := by decide +kernel
theorem dX5_turnMoment_15 : decode cX5_turnMoment 15 = .ok (.ifCond .eq (-13), 3) := by decide +kernel
theorem dX5_turnMoment_18 : decode cX5_turnMoment 18 = .ok (.iload_n 3, 1) := by decide +kernel
theorem dX5_turnMoment_19 : decode cX5_turnMoment 19 = .ok (.ireturn, 1) := by decide +kernel
theorem dX5_turnMoment_20 : decode cX5_turnMoment 20 = .ok (.iload_n 3, 1) := by decide +kernel
theorem dX5_turnMoment_21 : decode cX5_turnMoment 21 = .ok (.ireturn, 1) := by decide +kernel
theorem dX5_turnIn_0 : decode cX5_turnIn 0 = .ok (.aload_n 0, 1) := by decide +kernel
theorem dX5_turnIn_1 : decode cX5_turnIn 1 = .ok (.aload_n 0, 1) := by decide +kernel
theorem dX5_turnIn_2 : decode cX5_turnIn 2 = .ok (.iconst 0, 1) := by decide +kernel
theorem dX5_turnIn_3 : decode cX5_turnIn 3 = .ok (.iload_n 1, 1) := by decide +kernel
theorem dX5_turnIn_4 : decode cX5_turnIn 4 = .ok (.invokevirtual 112, 3) := by decide +kernel
theorem dX5_turnIn_7 : decode cX5_turnIn 7 = .ok (.putfield 34, 3) := by decide +kernel
theorem dX5_turnIn_10 : decode cX5_turnIn 10 = .ok (.aload_n 0, 1) := by decide +kernel
theorem dX5_turnIn_11 : decode cX5_turnIn 11 = .ok (.iload_n 1, 1) := by decide +kernel
theorem dX5_turnIn_12 : decode cX5_turnIn 12 = .ok (.putfield 49, 3) := by decide +kernel
theorem dX5_turnIn_15 : decode cX5_turnIn 15 = .ok (.iconst 1, 1) := by decide +kernel
theorem dX5_turnIn_16 : decode cX5_turnIn 16 = .ok (.istore_n 2, 1) := by decide +kernel
theorem dX5_turnIn_17 : decode cX5_turnIn 17 = .ok (.iload_n 2, 1) := by decide +kernel
theorem dX5_turnIn_18 : decode cX5_turnIn 18 = .ok (.aload_n 0, 1) := by decide +kernel
theorem dX5_turnIn_19 : decode cX5_turnIn 19 = .ok (.getfield 43, 3) := by decide +kernel
theorem dX5_turnIn_22 : decode cX5_turnIn 22 = .ok (.if_icmp .ge 37, 3) := by decide +kernel
theorem dX5_turnIn_25 : decode cX5_turnIn 25 = .ok (.aload_n 0, 1) := by decide +kernel
theorem dX5_turnIn_26 : decode cX5_turnIn 26 = .ok (.getfield 37, 3) := by decide +kernel
theorem dX5_turnIn_29 : decode cX5_turnIn 29 = .ok (.iload_n 2, 1) := by decide +kernel
theorem dX5_turnIn_30 : decode cX5_turnIn 30 = .ok (.aload_n 0, 1) := by decide +kernel
theorem dX5_turnIn_31 : decode cX5_turnIn 31 = .ok (.iload_n 2, 1) := by decide +kernel
theorem dX5_turnIn_32 : decode cX5_turnIn 32 = .ok (.invokevirtual 74, 3) := by decide +kernel
theorem dX5_turnIn_35 : decode cX5_turnIn 35 = .ok (.ifCond .eq 15, 3) := by decide +kernel
theorem dX5_turnIn_38 : decode cX5_turnIn 38 = .ok (.aload_n 0, 1) := by decide +kernel
theorem dX5_turnIn_39 : decode cX5_turnIn 39 = .ok (.iload_n 2, 1) := by decide +kernel
theorem dX5_turnIn_40 : decode cX5_turnIn 40 = .ok (.aload_n 0, 1) := by decide +kernel
theorem dX5_turnIn_41 : decode cX5_turnIn 41 = .ok (.getfield 34, 3) := by decide +kernel
theorem dX5_turnIn_44 : decode cX5_turnIn 44 = .ok (.invokevirtual 122, 3) := by decide +kernel
theorem dX5_turnIn_47 : decode cX5_turnIn 47 = .ok (.goto 5, 3) := by decide +kernel
theorem dX5_turnIn_50 : decode cX5_turnIn 50 = .ok (.ldc 118, 2) := by decide +kernel
theorem dX5_turnIn_52 : decode cX5_turnIn 52 = .ok (.iastore, 1) := by decide +kernel
theorem dX5_turnIn_53 : decode cX5_turnIn 53 = .ok (.iinc 2 1, 3) := by decide +kernel
theorem dX5_turnIn_56 : decode cX5_turnIn 56 = .ok (.goto (-39), 3) := by decide +kernel
theorem dX5_turnIn_59 : decode cX5_turnIn 59 = .ok (.return_, 1) := by decide +kernel
theorem dX5_firstThere_0 : decode cX5_firstThere 0 = .ok (.iconst (-1), 1) := by decide +kernel
theorem dX5_firstThere_1 : decode cX5_firstThere 1 = .ok (.istore_n 1, 1) := by decide +kernel
theorem dX5_firstThere_2 : decode cX5_firstThere 2 = .ok (.iconst 1, 1) := by decide +kernel
theorem dX5_firstThere_3 : decode cX5_firstThere 3 = .ok (.istore_n 2, 1) := by decide +kernel
theorem dX5_firstThere_4 : decode cX5_firstThere 4 = .ok (.iload_n 2, 1) := by decide +kernel
theorem dX5_firstThere_5 : decode cX5_firstThere 5 = .ok (.aload_n 0, 1) := by decide +kernel
theorem dX5_firstThere_6 : decode cX5_firstThere 6 = .ok (.getfield 43, 3) := by decide +kernel
theorem dX5_firstThere_9 : decode cX5_firstThere 9 = .ok (.if_icmp .ge 38, 3) := by decide +kernel
theorem dX5_firstThere_12 : decode cX5_firstThere 12 = .ok (.aload_n 0, 1) := by decide +kernel
theorem dX5_firstThere_13 : decode cX5_firstThere 13 = .ok (.iload_n 2, 1) := by decide +kernel
theorem dX5_firstThere_14 : decode cX5_firstThere 14 = .ok (.invokevirtual 128, 3) := by decide +kernel
theorem dX5_firstThere_17 : decode cX5_firstThere 17 = .ok (.ifCond .eq 24, 3) := by decide +kernel
theorem dX5_firstThere_20 : decode cX5_firstThere 20 = .ok (.iload_n 1, 1) := by decide +kernel
theorem dX5_firstThere_21 : decode cX5_firstThere 21 = .ok (.ifCond .lt 18, 3) := by decide +kernel
theorem dX5_firstThere_24 : decode cX5_firstThere 24 = .ok (.aload_n 0, 1) := by decide +kernel
theorem dX5_firstThere_25 : decode cX5_firstThere 25 = .ok (.getfield 37, 3) := by decide +kernel
theorem dX5_firstThere_28 : decode cX5_firstThere 28 = .ok (.iload_n 2, 1) := by decide +kernel
theorem dX5_firstThere_29 : decode cX5_firstThere 29 = .ok (.iaload, 1) := by decide +kernel
theorem dX5_firstThere_30 : decode cX5_firstThere 30 = .ok (.aload_n 0, 1) := by decide +kernel
theorem dX5_firstThere_31 : decode cX5_firstThere 31 = .ok (.getfield 37, 3) := by decide +kernel
theorem dX5_firstThere_34 : decode cX5_firstThere 34 = .ok (.iload_n 1, 1) := by decide +kernel
theorem dX5_firstThere_35 : decode cX5_firstThere 35 = .ok (.iaload, 1) := by decide +kernel
theorem dX5_firstThere_36 : decode cX5_firstThere 36 = .ok (.if_icmp .ge 5, 3) := by decide +kernel
theorem dX5_firstThere_39 : decode cX5_firstThere 39 = .ok (.iload_n 2, 1) := by decide +kernel
theorem dX5_firstThere_40 : decode cX5_firstThere 40 = .ok (.istore_n 1, 1) := by decide +kernel
theorem dX5_firstThere_41 : decode cX5_firstThere 41 = .ok (.iinc 2 1, 3) := by decide +kernel
theorem dX5_firstThere_44 : decode cX5_firstThere 44 = .ok (.goto (-40), 3) := by decide +kernel
theorem dX5_firstThere_47 : decode cX5_firstThere 47 = .ok (.iload_n 1, 1) := by decide +kernel
theorem dX5_firstThere_48 : decode cX5_firstThere 48 = .ok (.ireturn, 1) := by decide +kernel
theorem dX5_isThere_0 : decode cX5_isThere 0 = .ok (.aload_n 0, 1) := by decide +kernel
theorem dX5_isThere_1 : decode cX5_isThere 1 = .ok (.iload_n 1, 1) := by decide +kernel
theorem dX5_isThere_2 : decode cX5_isThere 2 = .ok (.invokevirtual 74, 3) := by decide +kernel
theorem dX5_isThere_5 : decode cX5_isThere 5 = .ok (.ifCond .eq 20, 3) := by decide +kernel
theorem dX5_isThere_8 : decode cX5_isThere 8 = .ok (.aload_n 0, 1) := by decide +kernel
theorem dX5_isThere_9 : decode cX5_isThere 9 = .ok (.getfield 37, 3) := by decide +kernel
theorem dX5_isThere_12 : decode cX5_isThere 12 = .ok (.iload_n 1, 1) := by decide +kernel
theorem dX5_isThere_13 : decode cX5_isThere 13 = .ok (.iaload, 1) := by decide +kernel
theorem dX5_isThere_14 : decode cX5_isThere 14 = .ok (.aload_n 0, 1) := by decide +kernel
theorem dX5_isThere_15 : decode cX5_isThere 15 = .ok (.getfield 49, 3) := by decide +kernel
theorem dX5_isThere_18 : decode cX5_isThere 18 = .ok (.if_icmp .gt 7, 3) := by decide +kernel
theorem dX5_isThere_21 : decode cX5_isThere 21 = .ok (.iconst 1, 1) := by decide +kernel
theorem dX5_isThere_22 : decode cX5_isThere 22 = .ok (.goto 4, 3) := by decide +kernel
theorem dX5_isThere_25 : decode cX5_isThere 25 = .ok (.iconst 0, 1) := by decide +kernel
theorem dX5_isThere_26 : decode cX5_isThere 26 = .ok (.ireturn, 1) := by decide +kernel
theorem dX5_countThere_0 : decode cX5_countThere 0 = .ok (.iconst 0, 1) := by decide +kernel
theorem dX5_countThere_1 : decode cX5_countThere 1 = .ok (.istore_n 1, 1) := by decide +kernel
theorem dX5_countThere_2 : decode cX5_countThere 2 = .ok (.iconst 1, 1) := by decide +kernel
theorem dX5_countThere_3 : decode cX5_countThere 3 = .ok (.istore_n 2, 1) := by decide +kernel
theorem dX5_countThere_4 : decode cX5_countThere 4 = .ok (.iload_n 2, 1) := by decide +kernel
theorem dX5_countThere_5 : decode cX5_countThere 5 = .ok (.aload_n 0, 1) := by decide +kernel
theorem dX5_countThere_6 : decode cX5_countThere 6 = .ok (.getfield 43, 3) := by decide +kernel
theorem dX5_countThere_9 : decode cX5_countThere 9 = .ok (.if_icmp .ge 20, 3) := by decide +kernel
theorem dX5_countThere_12 : decode cX5_countThere 12 = .ok (.aload_n 0, 1) := by decide +kernel
theorem dX5_countThere_13 : decode cX5_countThere 13 = .ok (.iload_n 2, 1) := by decide +kernel
theorem dX5_countThere_14 : decode cX5_countThere 14 = .ok (.invokevirtual 128, 3) := by decide +kernel
theorem dX5_countThere_17 : decode cX5_countThere 17 = .ok (.ifCond .eq 6, 3) := by decide +kernel
theorem dX5_countThere_20 : decode cX5_countThere 20 = .ok (.iinc 1 1, 3) := by decide +kernel
theorem dX5_countThere_23 : decode cX5_countThere 23 = .ok (.iinc 2 1, 3) := by decide +kernel
theorem dX5_countThere_26 : decode cX5_countThere 26 = .ok (.goto (-22), 3) := by decide +kernel
theorem dX5_countThere_29 : decode cX5_countThere 29 = .ok (.iload_n 1, 1) := by decide +kernel
theorem dX5_countThere_30 : decode cX5_countThere 30 = .ok (.ireturn, 1) := by decide +kernel
theorem dX5_odds_0 : decode cX5_odds 0 = .ok (.bipush 8, 2) := by decide +kernel
theorem dX5_odds_2 : decode cX5_odds 2 = .ok (.iload_n 0, 1) := by decide +kernel
theorem dX5_odds_3 : decode cX5_odds 3 = .ok (.iadd, 1) := by decide +kernel
theorem dX5_odds_4 : decode cX5_odds 4 = .ok (.iload_n 1, 1) := by decide +kernel
theorem dX5_odds_5 : decode cX5_odds 5 = .ok (.isub, 1) := by decide +kernel
theorem dX5_odds_6 : decode cX5_odds 6 = .ok (.iconst 2, 1) := by decide +kernel
theorem dX5_odds_7 : decode cX5_odds 7 = .ok (.iload_n 2, 1) := by decide +kernel
theorem dX5_odds_8 : decode cX5_odds 8 = .ok (.imul, 1) := by decide +kernel
theorem dX5_odds_9 : decode cX5_odds 9 = .ok (.isub, 1) := by decide +kernel
theorem dX5_odds_10 : decode cX5_odds 10 = .ok (.istore_n 3, 1) := by decide +kernel
theorem dX5_odds_11 : decode cX5_odds 11 = .ok (.iload_n 3, 1) := by decide +kernel
theorem dX5_odds_12 : decode cX5_odds 12 = .ok (.iconst 1, 1) := by decide +kernel
theorem dX5_odds_13 : decode cX5_odds 13 = .ok (.if_icmp .ge 5, 3) := by decide +kernel
theorem dX5_odds_16 : decode cX5_odds 16 = .ok (.iconst 1, 1) := by decide +kernel
theorem dX5_odds_17 : decode cX5_odds 17 = .ok (.ireturn, 1) := by decide +kernel
theorem dX5_odds_18 : decode cX5_odds 18 = .ok (.iload_n 3, 1) := by decide +kernel
theorem dX5_odds_19 : decode cX5_odds 19 = .ok (.bipush 15, 2) := by decide +kernel
theorem dX5_odds_21 : decode cX5_odds 21 = .ok (.if_icmp .le 8, 3) := by decide +kernel
theorem dX5_odds_24 : decode cX5_odds 24 = .ok (.bipush 15, 2) := by decide +kernel
theorem dX5_odds_26 : decode cX5_odds 26 = .ok (.goto 4, 3) := by decide +kernel
theorem dX5_odds_29 : decode cX5_odds 29 = .ok (.iload_n 3, 1) := by decide +kernel
theorem dX5_odds_30 : decode cX5_odds 30 = .ok (.ireturn, 1) := by decide +kernel
theorem dX5_fightFirst_0 : decode cX5_fightFirst 0 = .ok (.aload_n 0, 1) := by decide +kernel
theorem dX5_fightFirst_1 : decode cX5_fightFirst 1 = .ok (.invokevirtual 131, 3) := by decide +kernel
theorem dX5_fightFirst_4 : decode cX5_fightFirst 4 = .ok (.istore_n 1, 1) := by decide +kernel
theorem dX5_fightFirst_5 : decode cX5_fightFirst 5 = .ok (.iload_n 1, 1) := by decide +kernel
theorem dX5_fightFirst_6 : decode cX5_fightFirst 6 = .ok (.ifCond .ge 6, 3) := by decide +kernel
theorem dX5_fightFirst_9 : decode cX5_fightFirst 9 = .ok (.bipush (-4), 2) := by decide +kernel
theorem dX5_fightFirst_11 : decode cX5_fightFirst 11 = .ok (.ireturn, 1) := by decide +kernel
theorem dX5_fightFirst_12 : decode cX5_fightFirst 12 = .ok (.aload_n 0, 1) := by decide +kernel
theorem dX5_fightFirst_13 : decode cX5_fightFirst 13 = .ok (.iconst 0, 1) := by decide +kernel
theorem dX5_fightFirst_14 : decode cX5_fightFirst 14 = .ok (.invokevirtual 134, 3) := by decide +kernel
theorem dX5_fightFirst_17 : decode cX5_fightFirst 17 = .ok (.aload_n 0, 1) := by decide +kernel
theorem dX5_fightFirst_18 : decode cX5_fightFirst 18 = .ok (.iload_n 1, 1) := by decide +kernel
theorem dX5_fightFirst_19 : decode cX5_fightFirst 19 = .ok (.invokevirtual 134, 3) := by decide +kernel
theorem dX5_fightFirst_22 : decode cX5_fightFirst 22 = .ok (.aload_n 0, 1) := by decide +kernel
theorem dX5_fightFirst_23 : decode cX5_fightFirst 23 = .ok (.invokevirtual 137, 3) := by decide +kernel
theorem dX5_fightFirst_26 : decode cX5_fightFirst 26 = .ok (.iconst 1, 1) := by decide +kernel
theorem dX5_fightFirst_27 : decode cX5_fightFirst 27 = .ok (.isub, 1) := by decide +kernel
theorem dX5_fightFirst_28 : decode cX5_fightFirst 28 = .ok (.invokestatic 140, 3) := by decide +kernel
theorem dX5_fightFirst_31 : decode cX5_fightFirst 31 = .ok (.istore_n 2, 1) := by decide +kernel
theorem dX5_fightFirst_32 : decode cX5_fightFirst 32 = .ok (.iload_n 2, 1) := by decide +kernel
theorem dX5_fightFirst_33 : decode cX5_fightFirst 33 = .ok (.aload_n 0, 1) := by decide +kernel
theorem dX5_fightFirst_34 : decode cX5_fightFirst 34 = .ok (.invokevirtual 143, 3) := by decide +kernel
theorem dX5_fightFirst_37 : decode cX5_fightFirst 37 = .ok (.if_icmp .le 7, 3) := by decide +kernel
theorem dX5_fightFirst_40 : decode cX5_fightFirst 40 = .ok (.iload_n 1, 1) := by decide +kernel
theorem dX5_fightFirst_41 : decode cX5_fightFirst 41 = .ok (.goto 4, 3) := by decide +kernel
theorem dX5_fightFirst_44 : decode cX5_fightFirst 44 = .ok (.iconst 0, 1) := by decide +kernel
theorem dX5_fightFirst_45 : decode cX5_fightFirst 45 = .ok (.istore_n 3, 1) := by decide +kernel
theorem dX5_fightFirst_46 : decode cX5_fightFirst 46 = .ok (.aload_n 0, 1) := by decide +kernel
theorem dX5_fightFirst_47 : decode cX5_fightFirst 47 = .ok (.getfield 31, 3) := by decide +kernel
theorem dX5_fightFirst_50 : decode cX5_fightFirst 50 = .ok (.iload_n 3, 1) := by decide +kernel
theorem dX5_fightFirst_51 : decode cX5_fightFirst 51 = .ok (.dup2, 1) := by decide +kernel
theorem dX5_fightFirst_52 : decode cX5_fightFirst 52 = .ok (.iaload, 1) := by decide +kernel
theorem dX5_fightFirst_53 : decode cX5_fightFirst 53 = .ok (.iconst 1, 1) := by decide +kernel
theorem dX5_fightFirst_54 : decode cX5_fightFirst 54 = .ok (.iadd, 1) := by decide +kernel
theorem dX5_fightFirst_55 : decode cX5_fightFirst 55 = .ok (.iastore, 1) := by decide +kernel
theorem dX5_fightFirst_56 : decode cX5_fightFirst 56 = .ok (.iload_n 3, 1) := by decide +kernel
theorem dX5_fightFirst_57 : decode cX5_fightFirst 57 = .ok (.ireturn, 1) := by decide +kernel
theorem dX5_drawOfSixteen_0 : decode cX5_drawOfSixteen 0 = .ok (.aload_n 0, 1) := by decide +kernel
theorem dX5_drawOfSixteen_1 : decode cX5_drawOfSixteen 1 = .ok (.aload_n 0, 1) := by decide +kernel
theorem dX5_drawOfSixteen_2 : decode cX5_drawOfSixteen 2 = .ok (.getfield 40, 3) := by decide +kernel
theorem dX5_drawOfSixteen_5 : decode cX5_drawOfSixteen 5 = .ok (.ldc 146, 2) := by decide +kernel
theorem dX5_drawOfSixteen_7 : decode cX5_drawOfSixteen 7 = .ok (.imul, 1) := by decide +kernel
theorem dX5_drawOfSixteen_8 : decode cX5_drawOfSixteen 8 = .ok (.sipush 12345, 3) := by decide +kernel
theorem dX5_drawOfSixteen_11 : decode cX5_drawOfSixteen 11 = .ok (.iadd, 1) := by decide +kernel
theorem dX5_drawOfSixteen_12 : decode cX5_drawOfSixteen 12 = .ok (.ldc 147, 2) := by decide +kernel
theorem dX5_drawOfSixteen_14 : decode cX5_drawOfSixteen 14 = .ok (.iand, 1) := by decide +kernel
theorem dX5_drawOfSixteen_15 : decode cX5_drawOfSixteen 15 = .ok (.putfield 40, 3) := by decide +kernel
theorem dX5_drawOfSixteen_18 : decode cX5_drawOfSixteen 18 = .ok (.aload_n 0, 1) := by decide +kernel
theorem dX5_drawOfSixteen_19 : decode cX5_drawOfSixteen 19 = .ok (.getfield 40, 3) := by decide +kernel
theorem dX5_drawOfSixteen_22 : decode cX5_drawOfSixteen 22 = .ok (.ldc 148, 2) := by decide +kernel
theorem dX5_drawOfSixteen_24 : decode cX5_drawOfSixteen 24 = .ok (.idiv, 1) := by decide +kernel
theorem dX5_drawOfSixteen_25 : decode cX5_drawOfSixteen 25 = .ok (.bipush 16, 2) := by decide +kernel
theorem dX5_drawOfSixteen_27 : decode cX5_drawOfSixteen 27 = .ok (.irem, 1) := by decide +kernel
theorem dX5_drawOfSixteen_28 : decode cX5_drawOfSixteen 28 = .ok (.ireturn, 1) := by decide +kernel
theorem dX5_waitForNext_0 : decode cX5_waitForNext 0 = .ok (.ldc 118, 2) := by decide +kernel
theorem dX5_waitForNext_2 : decode cX5_waitForNext 2 = .ok (.istore_n 1, 1) := by decide +kernel
theorem dX5_waitForNext_3 : decode cX5_waitForNext 3 = .ok (.iconst 1, 1) := by decide +kernel
theorem dX5_waitForNext_4 : decode cX5_waitForNext 4 = .ok (.istore_n 2, 1) := by decide +kernel
theorem dX5_waitForNext_5 : decode cX5_waitForNext 5 = .ok (.iload_n 2, 1) := by decide +kernel
theorem dX5_waitForNext_6 : decode cX5_waitForNext 6 = .ok (.aload_n 0, 1) := by decide +kernel
theorem dX5_waitForNext_7 : decode cX5_waitForNext 7 = .ok (.getfield 43, 3) := by decide +kernel
theorem dX5_waitForNext_10 : decode cX5_waitForNext 10 = .ok (.if_icmp .ge 28, 3) := by decide +kernel
theorem dX5_waitForNext_13 : decode cX5_waitForNext 13 = .ok (.aload_n 0, 1) := by decide +kernel
theorem dX5_waitForNext_14 : decode cX5_waitForNext 14 = .ok (.iload_n 2, 1) := by decide +kernel
theorem dX5_waitForNext_15 : decode cX5_waitForNext 15 = .ok (.invokevirtual 74, 3) := by decide +kernel
theorem dX5_waitForNext_18 : decode cX5_waitForNext 18 = .ok (.ifCond .eq 14, 3) := by decide +kernel
theorem dX5_waitForNext_21 : decode cX5_waitForNext 21 = .ok (.iload_n 1, 1) := by decide +kernel
theorem dX5_waitForNext_22 : decode cX5_waitForNext 22 = .ok (.aload_n 0, 1) := by decide +kernel
theorem dX5_waitForNext_23 : decode cX5_waitForNext 23 = .ok (.getfield 37, 3) := by decide +kernel
theorem dX5_waitForNext_26 : decode cX5_waitForNext 26 = .ok (.iload_n 2, 1) := by decide +kernel
theorem dX5_waitForNext_27 : decode cX5_waitForNext 27 = .ok (.iaload, 1) := by decide +kernel
theorem dX5_waitForNext_28 : decode cX5_waitForNext 28 = .ok (.invokestatic 149, 3) := by decide +kernel
theorem dX5_waitForNext_31 : decode cX5_waitForNext 31 = .ok (.istore_n 1, 1) := by decide +kernel
theorem dX5_waitForNext_32 : decode cX5_waitForNext 32 = .ok (.iinc 2 1, 3) := by decide +kernel
theorem dX5_waitForNext_35 : decode cX5_waitForNext 35 = .ok (.goto (-30), 3) := by decide +kernel
theorem dX5_waitForNext_38 : decode cX5_waitForNext 38 = .ok (.aload_n 0, 1) := by decide +kernel
theorem dX5_waitForNext_39 : decode cX5_waitForNext 39 = .ok (.aload_n 0, 1) := by decide +kernel
theorem dX5_waitForNext_40 : decode cX5_waitForNext 40 = .ok (.getfield 49, 3) := by decide +kernel
theorem dX5_waitForNext_43 : decode cX5_waitForNext 43 = .ok (.iconst 1, 1) := by decide +kernel
theorem dX5_waitForNext_44 : decode cX5_waitForNext 44 = .ok (.iadd, 1) := by decide +kernel
theorem dX5_waitForNext_45 : decode cX5_waitForNext 45 = .ok (.iload_n 1, 1) := by decide +kernel
theorem dX5_waitForNext_46 : decode cX5_waitForNext 46 = .ok (.invokestatic 103, 3) := by decide +kernel
theorem dX5_waitForNext_49 : decode cX5_waitForNext 49 = .ok (.putfield 49, 3) := by decide +kernel
theorem dX5_waitForNext_52 : decode cX5_waitForNext 52 = .ok (.return_, 1) := by decide +kernel
theorem dX6_init_0 : decode cX6_init 0 = .ok (.aload_n 0, 1) := by decide +kernel
theorem dX6_init_1 : decode cX6_init 1 = .ok (.invokespecial 3, 3) := by decide +kernel
theorem dX6_init_4 : decode cX6_init 4 = .ok (.aload_n 0, 1) := by decide +kernel
theorem dX6_init_5 : decode cX6_init 5 = .ok (.iconst (-1), 1) := by decide +kernel
theorem dX6_init_6 : decode cX6_init 6 = .ok (.putfield 11, 3) := by decide +kernel
theorem dX6_init_9 : decode cX6_init 9 = .ok (.aload_n 0, 1) := by decide +kernel
theorem dX6_init_10 : decode cX6_init 10 = .ok (.bipush 24, 2) := by decide +kernel
theorem dX6_init_12 : decode cX6_init 12 = .ok (.newarray .long, 2) := by decide +kernel
theorem dX6_init_14 : decode cX6_init 14 = .ok (.putfield 15, 3) := by decide +kernel
theorem dX6_init_17 : decode cX6_init 17 = .ok (.return_, 1) := by decide +kernel
theorem dX6_hold_0 : decode cX6_hold 0 = .ok (.aload_n 0, 1) := by decide +kernel
theorem dX6_hold_1 : decode cX6_hold 1 = .ok (.iload_n 1, 1) := by decide +kernel
theorem dX6_hold_2 : decode cX6_hold 2 = .ok (.putfield 11, 3) := by decide +kernel
theorem dX6_hold_5 : decode cX6_hold 5 = .ok (.aload_n 0, 1) := by decide +kernel
theorem dX6_hold_6 : decode cX6_hold 6 = .ok (.iload_n 2, 1) := by decide +kernel
theorem dX6_hold_7 : decode cX6_hold 7 = .ok (.putfield 19, 3) := by decide +kernel
theorem dX6_hold_10 : decode cX6_hold 10 = .ok (.iconst 0, 1) := by decide +kernel
theorem dX6_hold_11 : decode cX6_hold 11 = .ok (.istore_n 3, 1) := by decide +kernel
theorem dX6_hold_12 : decode cX6_hold 12 = .ok (.iload_n 3, 1) := by decide +kernel
theorem dX6_hold_13 : decode cX6_hold 13 = .ok (.bipush 24, 2) := by decide +kernel
theorem dX6_hold_15 : decode cX6_hold 15 = .ok (.if_icmp .ge 16, 3) := by decide +kernel
theorem dX6_hold_18 : decode cX6_hold 18 = .ok (.aload_n 0, 1) := by decide +kernel
theorem dX6_hold_19 : decode cX6_hold 19 = .ok (.getfield 15, 3) := by decide +kernel
theorem dX6_hold_22 : decode cX6_hold 22 = .ok (.iload_n 3, 1) := by decide +kernel
theorem dX6_hold_23 : decode cX6_hold 23 = .ok (.lconst 0, 1) := by decide +kernel
theorem dX6_hold_24 : decode cX6_hold 24 = .ok (.lastore, 1) := by decide +kernel
theorem dX6_hold_25 : decode cX6_hold 25 = .ok (.iinc 3 1, 3) := by decide +kernel
theorem dX6_hold_28 : decode cX6_hold 28 = .ok (.goto (-16), 3) := by decide +kernel
theorem dX6_hold_31 : decode cX6_hold 31 = .ok (.return_, 1) := by decide +kernel
theorem dX6_dropAll_0 : decode cX6_dropAll 0 = .ok (.aload_n 0, 1) := by decide +kernel
theorem dX6_dropAll_1 : decode cX6_dropAll 1 = .ok (.iconst (-1), 1) := by decide +kernel
theorem dX6_dropAll_2 : decode cX6_dropAll 2 = .ok (.putfield 11, 3) := by decide +kernel
theorem dX6_dropAll_5 : decode cX6_dropAll 5 = .ok (.return_, 1) := by decide +kernel
theorem dX6_isThere_0 : decode cX6_isThere 0 = .ok (.aload_n 0, 1) := by decide +kernel
theorem dX6_isThere_1 : decode cX6_isThere 1 = .ok (.getfield 11, 3) := by decide +kernel
theorem dX6_isThere_4 : decode cX6_isThere 4 = .ok (.iconst (-1), 1) := by decide +kernel
theorem dX6_isThere_5 : decode cX6_isThere 5 = .ok (.if_icmp .eq 7, 3) := by decide +kernel
theorem dX6_isThere_8 : decode cX6_isThere 8 = .ok (.iconst 1, 1) := by decide +kernel
theorem dX6_isThere_9 : decode cX6_isThere 9 = .ok (.goto 4, 3) := by decide +kernel
theorem dX6_isThere_12 : decode cX6_isThere 12 = .ok (.iconst 0, 1) := by decide +kernel
theorem dX6_isThere_13 : decode cX6_isThere 13 = .ok (.ireturn, 1) := by decide +kernel
theorem dX6_holds_0 : decode cX6_holds 0 = .ok (.iload_n 1, 1) := by decide +kernel
theorem dX6_holds_1 : decode cX6_holds 1 = .ok (.ifCond .lt 29, 3) := by decide +kernel
theorem dX6_holds_4 : decode cX6_holds 4 = .ok (.iload_n 2, 1) := by decide +kernel
theorem dX6_holds_5 : decode cX6_holds 5 = .ok (.ifCond .lt 25, 3) := by decide +kernel
theorem dX6_holds_8 : decode cX6_holds 8 = .ok (.iload_n 2, 1) := by decide +kernel
theorem dX6_holds_9 : decode cX6_holds 9 = .ok (.aload_n 0, 1) := by decide +kernel
theorem dX6_holds_10 : decode cX6_holds 10 = .ok (.getfield 19, 3) := by decide +kernel
theorem dX6_holds_13 : decode cX6_holds 13 = .ok (.if_icmp .gt 17, 3) := by decide +kernel
theorem dX6_holds_16 : decode cX6_holds 16 = .ok (.iload_n 1, 1) := by decide +kernel
theorem dX6_holds_17 : decode cX6_holds 17 = .ok (.aload_n 0, 1) := by decide +kernel
theorem dX6_holds_18 : decode cX6_holds 18 = .ok (.getfield 19, 3) := by decide +kernel
theorem dX6_holds_21 : decode cX6_holds 21 = .ok (.iload_n 2, 1) := by decide +kernel
theorem dX6_holds_22 : decode cX6_holds 22 = .ok (.isub, 1) := by decide +kernel
theorem dX6_holds_23 : decode cX6_holds 23 = .ok (.if_icmp .gt 7, 3) := by decide +kernel
theorem dX6_holds_26 : decode cX6_holds 26 = .ok (.iconst 1, 1) := by decide +kernel
theorem dX6_holds_27 : decode cX6_holds 27 = .ok (.goto 4, 3) := by decide +kernel
theorem dX6_holds_30 : decode cX6_holds 30 = .ok (.iconst 0, 1) := by decide +kernel
theorem dX6_holds_31 : decode cX6_holds 31 = .ok (.ireturn, 1) := by decide +kernel
theorem dX6_refusal_0 : decode cX6_refusal 0 = .ok (.aload_n 0, 1) := by decide +kernel
theorem dX6_refusal_1 : decode cX6_refusal 1 = .ok (.invokevirtual 22, 3) := by decide +kernel
theorem dX6_refusal_4 : decode cX6_refusal 4 = .ok (.ifCond .ne 6, 3) := by decide +kernel
theorem dX6_refusal_7 : decode cX6_refusal 7 = .ok (.bipush (-11), 2) := by decide +kernel
theorem dX6_refusal_9 : decode cX6_refusal 9 = .ok (.ireturn, 1) := by decide +kernel
theorem dX6_refusal_10 : decode cX6_refusal 10 = .ok (.aload_n 0, 1) := by decide +kernel
theorem dX6_refusal_11 : decode cX6_refusal 11 = .ok (.getfield 11, 3) := by decide +kernel
theorem dX6_refusal_14 : decode cX6_refusal 14 = .ok (.iload_n 1, 1) := by decide +kernel
theorem dX6_refusal_15 : decode cX6_refusal 15 = .ok (.if_icmp .eq 6, 3) := by decide +kernel
theorem dX6_refusal_18 : decode cX6_refusal 18 = .ok (.bipush (-12), 2) := by decide +kernel
theorem dX6_refusal_20 : decode cX6_refusal 20 = .ok (.ireturn, 1) := by decide +kernel
theorem dX6_refusal_21 : decode cX6_refusal 21 = .ok (.aload_n 0, 1) := by decide +kernel
theorem dX6_refusal_22 : decode cX6_refusal 22 = .ok (.iload_n 2, 1) := by decide +kernel
theorem dX6_refusal_23 : decode cX6_refusal 23 = .ok (.iload_n 3, 1) := by decide +kernel
theorem dX6_refusal_24 : decode cX6_refusal 24 = .ok (.invokevirtual 26, 3) := by decide +kernel
theorem dX6_refusal_27 : decode cX6_refusal 27 = .ok (.ifCond .eq 7, 3) := by decide +kernel
theorem dX6_refusal_30 : decode cX6_refusal 30 = .ok (.iconst 0, 1) := by decide +kernel
theorem dX6_refusal_31 : decode cX6_refusal 31 = .ok (.goto 5, 3) := by decide +kernel
theorem dX6_refusal_34 : decode cX6_refusal 34 = .ok (.bipush (-13), 2) := by decide +kernel
theorem dX6_refusal_36 : decode cX6_refusal 36 = .ok (.ireturn, 1) := by decide +kernel
theorem dX6_itemAt_0 : decode cX6_itemAt 0 = .ok (.aload_n 0, 1) := by decide +kernel
theorem dX6_itemAt_1 : decode cX6_itemAt 1 = .ok (.iload_n 1, 1) := by decide +kernel
theorem dX6_itemAt_2 : decode cX6_itemAt 2 = .ok (.iconst 1, 1) := by decide +kernel
theorem dX6_itemAt_3 : decode cX6_itemAt 3 = .ok (.invokevirtual 26, 3) := by decide +kernel
theorem dX6_itemAt_6 : decode cX6_itemAt 6 = .ok (.ifCond .eq 12, 3) := by decide +kernel
theorem dX6_itemAt_9 : decode cX6_itemAt 9 = .ok (.aload_n 0, 1) := by decide +kernel
theorem dX6_itemAt_10 : decode cX6_itemAt 10 = .ok (.getfield 15, 3) := by decide +kernel
theorem dX6_itemAt_13 : decode cX6_itemAt 13 = .ok (.iload_n 1, 1) := by decide +kernel
theorem dX6_itemAt_14 : decode cX6_itemAt 14 = .ok (.laload, 1) := by decide +kernel
theorem dX6_itemAt_15 : decode cX6_itemAt 15 = .ok (.goto 4, 3) := by decide +kernel
theorem dX6_itemAt_18 : decode cX6_itemAt 18 = .ok (.lconst 0, 1) := by decide +kernel
theorem dX6_itemAt_19 : decode cX6_itemAt 19 = .ok (.lreturn, 1) := by decide +kernel
theorem dX6_put_0 : decode cX6_put 0 = .ok (.aload_n 0, 1) := by decide +kernel
theorem dX6_put_1 : decode cX6_put 1 = .ok (.iload_n 1, 1) := by decide +kernel
theorem dX6_put_2 : decode cX6_put 2 = .ok (.iconst 1, 1) := by decide +kernel
theorem dX6_put_3 : decode cX6_put 3 = .ok (.invokevirtual 26, 3) := by decide +kernel
theorem dX6_put_6 : decode cX6_put 6 = .ok (.ifCond .eq 14, 3) := by decide +kernel
theorem dX6_put_9 : decode cX6_put 9 = .ok (.aload_n 0, 1) := by decide +kernel
theorem dX6_put_10 : decode cX6_put 10 = .ok (.getfield 15, 3) := by decide +kernel
theorem dX6_put_13 : decode cX6_put 13 = .ok (.iload_n 1, 1) := by decide +kernel
theorem dX6_put_14 : decode cX6_put 14 = .ok (.aload_n 0, 1) := by decide +kernel
theorem dX6_put_15 : decode cX6_put 15 = .ok (.lload_n 2, 1) := by decide +kernel
theorem dX6_put_16 : decode cX6_put 16 = .ok (.invokevirtual 30, 3) := by decide +kernel
theorem dX6_put_19 : decode cX6_put 19 = .ok (.lastore, 1) := by decide +kernel
theorem dX6_put_20 : decode cX6_put 20 = .ok (.return_, 1) := by decide +kernel
theorem dX6_lowestBits_0 : decode cX6_lowestBits 0 = .ok (.aload_n 0, 1) := by decide +kernel
theorem dX6_lowestBits_1 : decode cX6_lowestBits 1 = .ok (.getfield 11, 3) := by decide +kernel
theorem dX6_lowestBits_4 : decode cX6_lowestBits 4 = .ok (.tableswitch 42 0 2 #[28, 33, 38], 28) := by decide +kernel
theorem dX6_lowestBits_32 : decode cX6_lowestBits 32 = .ok (.lload_n 1, 1) := by decide +kernel
theorem dX6_lowestBits_33 : decode cX6_lowestBits 33 = .ok (.l2i, 1) := by decide +kernel
theorem dX6_lowestBits_34 : decode cX6_lowestBits 34 = .ok (.i2b, 1) := by decide +kernel
theorem dX6_lowestBits_35 : decode cX6_lowestBits 35 = .ok (.i2l, 1) := by decide +kernel
theorem dX6_lowestBits_36 : decode cX6_lowestBits 36 = .ok (.lreturn, 1) := by decide +kernel
theorem dX6_lowestBits_37 : decode cX6_lowestBits 37 = .ok (.lload_n 1, 1) := by decide +kernel
theorem dX6_lowestBits_38 : decode cX6_lowestBits 38 = .ok (.l2i, 1) := by decide +kernel
theorem dX6_lowestBits_39 : decode cX6_lowestBits 39 = .ok (.i2s, 1) := by decide +kernel
theorem dX6_lowestBits_40 : decode cX6_lowestBits 40 = .ok (.i2l, 1) := by decide +kernel
theorem dX6_lowestBits_41 : decode cX6_lowestBits 41 = .ok (.lreturn, 1) := by decide +kernel
theorem dX6_lowestBits_42 : decode cX6_lowestBits 42 = .ok (.lload_n 1, 1) := by decide +kernel
theorem dX6_lowestBits_43 : decode cX6_lowestBits 43 = .ok (.l2i, 1) := by decide +kernel
theorem dX6_lowestBits_44 : decode cX6_lowestBits 44 = .ok (.i2l, 1) := by decide +kernel
theorem dX6_lowestBits_45 : decode cX6_lowestBits 45 = .ok (.lreturn, 1) := by decide +kernel
theorem dX6_lowestBits_46 : decode cX6_lowestBits 46 = .ok (.lload_n 1, 1) := by decide +kernel
theorem dX6_lowestBits_47 : decode cX6_lowestBits 47 = .ok (.lreturn, 1) := by decide +kernel
theorem dX7_init_0 : decode cX7_init 0 = .ok (.aload_n 0, 1) := by decide +kernel
theorem dX7_init_1 : decode cX7_init 1 = .ok (.invokespecial 1, 3) := by decide +kernel
theorem dX7_init_4 : decode cX7_init 4 = .ok (.aload_n 0, 1) := by decide +kernel
theorem dX7_init_5 : decode cX7_init 5 = .ok (.new 7, 3) := by decide +kernel
theorem dX7_init_8 : decode cX7_init 8 = .ok (.dup, 1) := by decide +kernel
theorem dX7_init_9 : decode cX7_init 9 = .ok (.invokespecial 9, 3) := by decide +kernel
theorem dX7_init_12 : decode cX7_init 12 = .ok (.putfield 10, 3) := by decide +kernel
theorem dX7_init_15 : decode cX7_init 15 = .ok (.aload_n 0, 1) := by decide +kernel
theorem dX7_init_16 : decode cX7_init 16 = .ok (.new 16, 3) := by decide +kernel
theorem dX7_init_19 : decode cX7_init 19 = .ok (.dup, 1) := by decide +kernel
theorem dX7_init_20 : decode cX7_init 20 = .ok (.invokespecial 18, 3) := by decide +kernel
theorem dX7_init_23 : decode cX7_init 23 = .ok (.putfield 19, 3) := by decide +kernel
theorem dX7_init_26 : decode cX7_init 26 = .ok (.aload_n 0, 1) := by decide +kernel
theorem dX7_init_27 : decode cX7_init 27 = .ok (.new 7, 3) := by decide +kernel
theorem dX7_init_30 : decode cX7_init 30 = .ok (.dup, 1) := by decide +kernel
theorem dX7_init_31 : decode cX7_init 31 = .ok (.invokespecial 9, 3) := by decide +kernel
theorem dX7_init_34 : decode cX7_init 34 = .ok (.putfield 23, 3) := by decide +kernel
theorem dX7_init_37 : decode cX7_init 37 = .ok (.aload_n 0, 1) := by decide +kernel
theorem dX7_init_38 : decode cX7_init 38 = .ok (.new 16, 3) := by decide +kernel
theorem dX7_init_41 : decode cX7_init 41 = .ok (.dup, 1) := by decide +kernel
theorem dX7_init_42 : decode cX7_init 42 = .ok (.invokespecial 18, 3) := by decide +kernel
theorem dX7_init_45 : decode cX7_init 45 = .ok (.putfield 26, 3) := by decide +kernel
theorem dX7_init_48 : decode cX7_init 48 = .ok (.aload_n 0, 1) := by decide +kernel
theorem dX7_init_49 : decode cX7_init 49 = .ok (.new 29, 3) := by decide +kernel
theorem dX7_init_52 : decode cX7_init 52 = .ok (.dup, 1) := by decide +kernel
theorem dX7_init_53 : decode cX7_init 53 = .ok (.invokespecial 31, 3) := by decide +kernel
theorem dX7_init_56 : decode cX7_init 56 = .ok (.putfield 32, 3) := by decide +kernel
theorem dX7_init_59 : decode cX7_init 59 = .ok (.aload_n 0, 1) := by decide +kernel
theorem dX7_init_60 : decode cX7_init 60 = .ok (.new 36, 3) := by decide +kernel
theorem dX7_init_63 : decode cX7_init 63 = .ok (.dup, 1) := by decide +kernel
theorem dX7_init_64 : decode cX7_init 64 = .ok (.invokespecial 38, 3) := by decide +kernel
theorem dX7_init_67 : decode cX7_init 67 = .ok (.putfield 39, 3) := by decide +kernel
theorem dX7_init_70 : decode cX7_init 70 = .ok (.aload_n 0, 1) := by decide +kernel
theorem dX7_init_71 : decode cX7_init 71 = .ok (.iconst 4, 1) := by decide +kernel
theorem dX7_init_72 : decode cX7_init 72 = .ok (.anewarray 43, 3) := by decide +kernel
theorem dX7_init_75 : decode cX7_init 75 = .ok (.putfield 45, 3) := by decide +kernel
theorem dX7_init_78 : decode cX7_init 78 = .ok (.iconst 0, 1) := by decide +kernel
theorem dX7_init_79 : decode cX7_init 79 = .ok (.istore_n 1, 1) := by decide +kernel
theorem dX7_init_80 : decode cX7_init 80 = .ok (.iload_n 1, 1) := by decide +kernel
theorem dX7_init_81 : decode cX7_init 81 = .ok (.aload_n 0, 1) := by decide +kernel
theorem dX7_init_82 : decode cX7_init 82 = .ok (.getfield 45, 3) := by decide +kernel
theorem dX7_init_85 : decode cX7_init 85 = .ok (.arraylength, 1) := by decide +kernel
theorem dX7_init_86 : decode cX7_init 86 = .ok (.if_icmp .ge 22, 3) := by decide +kernel
theorem dX7_init_89 : decode cX7_init 89 = .ok (.aload_n 0, 1) := by decide +kernel
theorem dX7_init_90 : decode cX7_init 90 = .ok (.getfield 45, 3) := by decide +kernel
theorem dX7_init_93 : decode cX7_init 93 = .ok (.iload_n 1, 1) := by decide +kernel
theorem dX7_init_94 : decode cX7_init 94 = .ok (.new 43, 3) := by decide +kernel
theorem dX7_init_97 : decode cX7_init 97 = .ok (.dup, 1) := by decide +kernel
theorem dX7_init_98 : decode cX7_init 98 = .ok (.invokespecial 49, 3) := by decide +kernel
theorem dX7_init_101 : decode cX7_init 101 = .ok (.aastore, 1) := by decide +kernel
theorem dX7_init_102 : decode cX7_init 102 = .ok (.iinc 1 1, 3) := by decide +kernel
theorem dX7_init_105 : decode cX7_init 105 = .ok (.goto (-25), 3) := by decide +kernel
theorem dX7_init_108 : decode cX7_init 108 = .ok (.return_, 1) := by decide +kernel
theorem dX7_fighter_0 : decode cX7_fighter 0 = .ok (.iload_n 1, 1) := by decide +kernel
theorem dX7_fighter_1 : decode cX7_fighter 1 = .ok (.iconst 0, 1) := by decide +kernel
theorem dX7_fighter_2 : decode cX7_fighter 2 = .ok (.iconst 3, 1) := by decide +kernel
theorem dX7_fighter_3 : decode cX7_fighter 3 = .ok (.invokestatic 50, 3) := by decide +kernel
theorem dX7_fighter_6 : decode cX7_fighter 6 = .ok (.ifCond .eq 23, 3) := by decide +kernel
theorem dX7_fighter_9 : decode cX7_fighter 9 = .ok (.iload_n 2, 1) := by decide +kernel
theorem dX7_fighter_10 : decode cX7_fighter 10 = .ok (.iconst 1, 1) := by decide +kernel
theorem dX7_fighter_11 : decode cX7_fighter 11 = .ok (.bipush 9, 2) := by decide +kernel
theorem dX7_fighter_13 : decode cX7_fighter 13 = .ok (.invokestatic 50, 3) := by decide +kernel
theorem dX7_fighter_16 : decode cX7_fighter 16 = .ok (.ifCond .eq 13, 3) := by decide +kernel
theorem dX7_fighter_19 : decode cX7_fighter 19 = .ok (.iload_n 3, 1) := by decide +kernel
theorem dX7_fighter_20 : decode cX7_fighter 20 = .ok (.iconst 1, 1) := by decide +kernel
theorem dX7_fighter_21 : decode cX7_fighter 21 = .ok (.bipush 6, 2) := by decide +kernel
theorem dX7_fighter_23 : decode cX7_fighter 23 = .ok (.invokestatic 50, 3) := by decide +kernel
theorem dX7_fighter_26 : decode cX7_fighter 26 = .ok (.ifCond .ne 5, 3) := by decide +kernel
theorem dX7_fighter_29 : decode cX7_fighter 29 = .ok (.iconst (-1), 1) := by decide +kernel
theorem dX7_fighter_30 : decode cX7_fighter 30 = .ok (.ireturn, 1) := by decide +kernel
theorem dX7_fighter_31 : decode cX7_fighter 31 = .ok (.aload_n 0, 1) := by decide +kernel
theorem dX7_fighter_32 : decode cX7_fighter 32 = .ok (.getfield 10, 3) := by decide +kernel
theorem dX7_fighter_35 : decode cX7_fighter 35 = .ok (.invokevirtual 54, 3) := by decide +kernel
theorem dX7_fighter_38 : decode cX7_fighter 38 = .ok (.ifCond .eq 6, 3) := by decide +kernel
theorem dX7_fighter_41 : decode cX7_fighter 41 = .ok (.bipush (-2), 2) := by decide +kernel
theorem dX7_fighter_43 : decode cX7_fighter 43 = .ok (.ireturn, 1) := by decide +kernel
theorem dX7_fighter_44 : decode cX7_fighter 44 = .ok (.aload_n 0, 1) := by decide +kernel
theorem dX7_fighter_45 : decode cX7_fighter 45 = .ok (.getfield 10, 3) := by decide +kernel
theorem dX7_fighter_48 : decode cX7_fighter 48 = .ok (.getfield 58, 3) := by decide +kernel
theorem dX7_fighter_51 : decode cX7_fighter 51 = .ok (.iconst 5, 1) := by decide +kernel
theorem dX7_fighter_52 : decode cX7_fighter 52 = .ok (.if_icmp .lt 6, 3) := by decide +kernel
theorem dX7_fighter_55 : decode cX7_fighter 55 = .ok (.bipush (-3), 2) := by decide +kernel
theorem dX7_fighter_57 : decode cX7_fighter 57 = .ok (.ireturn, 1) := by decide +kernel
theorem dX7_fighter_58 : decode cX7_fighter 58 = .ok (.aload_n 0, 1) := by decide +kernel
theorem dX7_fighter_59 : decode cX7_fighter 59 = .ok (.getfield 19, 3) := by decide +kernel
theorem dX7_fighter_62 : decode cX7_fighter 62 = .ok (.invokevirtual 62, 3) := by decide +kernel
theorem dX7_fighter_65 : decode cX7_fighter 65 = .ok (.aload_n 0, 1) := by decide +kernel
theorem dX7_fighter_66 : decode cX7_fighter 66 = .ok (.getfield 10, 3) := by decide +kernel
theorem dX7_fighter_69 : decode cX7_fighter 69 = .ok (.iload_n 1, 1) := by decide +kernel
theorem dX7_fighter_70 : decode cX7_fighter 70 = .ok (.iload_n 2, 1) := by decide +kernel
theorem dX7_fighter_71 : decode cX7_fighter 71 = .ok (.iload_n 3, 1) := by decide +kernel
theorem dX7_fighter_72 : decode cX7_fighter 72 = .ok (.iconst 0, 1) := by decide +kernel
theorem dX7_fighter_73 : decode cX7_fighter 73 = .ok (.invokevirtual 65, 3) := by decide +kernel
theorem dX7_fighter_76 : decode cX7_fighter 76 = .ok (.ireturn, 1) := by decide +kernel
theorem dX7_of_0 : decode cX7_of 0 = .ok (.aload_n 0, 1) := by decide +kernel
theorem dX7_of_1 : decode cX7_of 1 = .ok (.getfield 10, 3) := by decide +kernel
theorem dX7_of_4 : decode cX7_of 4 = .ok (.iload_n 1, 1) := by decide +kernel
theorem dX7_of_5 : decode cX7_of 5 = .ok (.invokevirtual 69, 3) := by decide +kernel
theorem dX7_of_8 : decode cX7_of 8 = .ok (.ifCond .ne 5, 3) := by decide +kernel
theorem dX7_of_11 : decode cX7_of 11 = .ok (.iconst (-1), 1) := by decide +kernel
theorem dX7_of_12 : decode cX7_of 12 = .ok (.ireturn, 1) := by decide +kernel
theorem dX7_of_13 : decode cX7_of 13 = .ok (.iload_n 2, 1) := by decide +kernel
theorem dX7_of_14 : decode cX7_of 14 = .ok (.tableswitch 109 0 6 #[42, 52, 62, 72, 82, 91, 100], 42) := by decide +kernel
theorem dX7_of_56 : decode cX7_of 56 = .ok (.aload_n 0, 1) := by decide +kernel
theorem dX7_of_57 : decode cX7_of 57 = .ok (.getfield 10, 3) := by decide +kernel
theorem dX7_of_60 : decode cX7_of 60 = .ok (.getfield 73, 3) := by decide +kernel
theorem dX7_of_63 : decode cX7_of 63 = .ok (.iload_n 1, 1) := by decide +kernel
theorem dX7_of_64 : decode cX7_of 64 = .ok (.iaload, 1) := by decide +kernel
theorem dX7_of_65 : decode cX7_of 65 = .ok (.ireturn, 1) := by decide +kernel
theorem dX7_of_66 : decode cX7_of 66 = .ok (.aload_n 0, 1) := by decide +kernel
theorem dX7_of_67 : decode cX7_of 67 = .ok (.getfield 10, 3) := by decide +kernel
theorem dX7_of_70 : decode cX7_of 70 = .ok (.getfield 77, 3) := by decide +kernel
theorem dX7_of_73 : decode cX7_of 73 = .ok (.iload_n 1, 1) := by decide +kernel
theorem dX7_of_74 : decode cX7_of 74 = .ok (.iaload, 1) := by decide +kernel
theorem dX7_of_75 : decode cX7_of 75 = .ok (.ireturn, 1) := by decide +kernel
theorem dX7_of_76 : decode cX7_of 76 = .ok (.aload_n 0, 1) := by decide +kernel
theorem dX7_of_77 : decode cX7_of 77 = .ok (.getfield 10, 3) := by decide +kernel
theorem dX7_of_80 : decode cX7_of 80 = .ok (.getfield 80, 3) := by decide +kernel
theorem dX7_of_83 : decode cX7_of 83 = .ok (.iload_n 1, 1) := by decide +kernel
theorem dX7_of_84 : decode cX7_of 84 = .ok (.iaload, 1) := by decide +kernel
theorem dX7_of_85 : decode cX7_of 85 = .ok (.ireturn, 1) := by decide +kernel
theorem dX7_of_86 : decode cX7_of 86 = .ok (.aload_n 0, 1) := by decide +kernel
theorem dX7_of_87 : decode cX7_of 87 = .ok (.getfield 10, 3) := by decide +kernel
theorem dX7_of_90 : decode cX7_of 90 = .ok (.getfield 83, 3) := by decide +kernel
theorem dX7_of_93 : decode cX7_of 93 = .ok (.iload_n 1, 1) := by decide +kernel
theorem dX7_of_94 : decode cX7_of 94 = .ok (.iaload, 1) := by decide +kernel
theorem dX7_of_95 : decode cX7_of 95 = .ok (.ireturn, 1) := by decide +kernel
theorem dX7_of_96 : decode cX7_of 96 = .ok (.aload_n 0, 1) := by decide +kernel
theorem dX7_of_97 : decode cX7_of 97 = .ok (.getfield 10, 3) := by decide +kernel
theorem dX7_of_100 : decode cX7_of 100 = .ok (.iload_n 1, 1) := by decide +kernel
theorem dX7_of_101 : decode cX7_of 101 = .ok (.invokevirtual 86, 3) := by decide +kernel
theorem dX7_of_104 : decode cX7_of 104 = .ok (.ireturn, 1) := by decide +kernel
theorem dX7_of_105 : decode cX7_of 105 = .ok (.aload_n 0, 1) := by decide +kernel
theorem dX7_of_106 : decode cX7_of 106 = .ok (.getfield 10, 3) := by decide +kernel
theorem dX7_of_109 : decode cX7_of 109 = .ok (.iload_n 1, 1) := by decide +kernel
theorem dX7_of_110 : decode cX7_of 110 = .ok (.invokevirtual 90, 3) := by decide +kernel
theorem dX7_of_113 : decode cX7_of 113 = .ok (.ireturn, 1) := by decide +kernel
theorem dX7_of_114 : decode cX7_of 114 = .ok (.aload_n 0, 1) := by decide +kernel
theorem dX7_of_115 : decode cX7_of 115 = .ok (.getfield 10, 3) := by decide +kernel
theorem dX7_of_118 : decode cX7_of 118 = .ok (.iload_n 1, 1) := by decide +kernel
theorem dX7_of_119 : decode cX7_of 119 = .ok (.invokevirtual 93, 3) := by decide +kernel
theorem dX7_of_122 : decode cX7_of 122 = .ok (.ireturn, 1) := by decide +kernel
theorem dX7_of_123 : decode cX7_of 123 = .ok (.iconst (-1), 1) := by decide +kernel
theorem dX7_of_124 : decode cX7_of 124 = .ok (.ireturn, 1) := by decide +kernel
theorem dX7_hurt_0 : decode cX7_hurt 0 = .ok (.aload_n 0, 1) := by decide +kernel
theorem dX7_hurt_1 : decode cX7_hurt 1 = .ok (.getfield 10, 3) := by decide +kernel
theorem dX7_hurt_4 : decode cX7_hurt 4 = .ok (.iload_n 1, 1) := by decide +kernel
theorem dX7_hurt_5 : decode cX7_hurt 5 = .ok (.invokevirtual 69, 3) := by decide +kernel
theorem dX7_hurt_8 : decode cX7_hurt 8 = .ok (.ifCond .eq 13, 3) := by decide +kernel
theorem dX7_hurt_11 : decode cX7_hurt 11 = .ok (.iload_n 2, 1) := by decide +kernel
theorem dX7_hurt_12 : decode cX7_hurt 12 = .ok (.iconst 0, 1) := by decide +kernel
theorem dX7_hurt_13 : decode cX7_hurt 13 = .ok (.bipush 6, 2) := by decide +kernel
theorem dX7_hurt_15 : decode cX7_hurt 15 = .ok (.invokestatic 50, 3) := by decide +kernel
theorem dX7_hurt_18 : decode cX7_hurt 18 = .ok (.ifCond .ne 5, 3) := by decide +kernel
theorem dX7_hurt_21 : decode cX7_hurt 21 = .ok (.iconst (-1), 1) := by decide +kernel
theorem dX7_hurt_22 : decode cX7_hurt 22 = .ok (.ireturn, 1) := by decide +kernel
theorem dX7_hurt_23 : decode cX7_hurt 23 = .ok (.aload_n 0, 1) := by decide +kernel
theorem dX7_hurt_24 : decode cX7_hurt 24 = .ok (.getfield 10, 3) := by decide +kernel
theorem dX7_hurt_27 : decode cX7_hurt 27 = .ok (.invokevirtual 54, 3) := by decide +kernel
theorem dX7_hurt_30 : decode cX7_hurt 30 = .ok (.ifCond .eq 6, 3) := by decide +kernel
theorem dX7_hurt_33 : decode cX7_hurt 33 = .ok (.bipush (-2), 2) := by decide +kernel
theorem dX7_hurt_35 : decode cX7_hurt 35 = .ok (.ireturn, 1) := by decide +kernel
theorem dX7_hurt_36 : decode cX7_hurt 36 = .ok (.aload_n 0, 1) := by decide +kernel
theorem dX7_hurt_37 : decode cX7_hurt 37 = .ok (.getfield 10, 3) := by decide +kernel
theorem dX7_hurt_40 : decode cX7_hurt 40 = .ok (.getfield 83, 3) := by decide +kernel
theorem dX7_hurt_43 : decode cX7_hurt 43 = .ok (.iload_n 1, 1) := by decide +kernel
theorem dX7_hurt_44 : decode cX7_hurt 44 = .ok (.iaload, 1) := by decide +kernel
theorem dX7_hurt_45 : decode cX7_hurt 45 = .ok (.istore_n 3, 1) := by decide +kernel
theorem dX7_hurt_46 : decode cX7_hurt 46 = .ok (.aload_n 0, 1) := by decide +kernel
theorem dX7_hurt_47 : decode cX7_hurt 47 = .ok (.getfield 10, 3) := by decide +kernel
theorem dX7_hurt_50 : decode cX7_hurt 50 = .ok (.getfield 83, 3) := by decide +kernel
theorem dX7_hurt_53 : decode cX7_hurt 53 = .ok (.iload_n 1, 1) := by decide +kernel
theorem dX7_hurt_54 : decode cX7_hurt 54 = .ok (.iload_n 2, 1) := by decide +kernel
theorem dX7_hurt_55 : decode cX7_hurt 55 = .ok (.iastore, 1) := by decide +kernel
theorem dX7_hurt_56 : decode cX7_hurt 56 = .ok (.iload_n 3, 1) := by decide +kernel
theorem dX7_hurt_57 : decode cX7_hurt 57 = .ok (.ireturn, 1) := by decide +kernel
theorem dX7_start_0 : decode cX7_start 0 = .ok (.iload_n 1, 1) := by decide +kernel
theorem dX7_start_1 : decode cX7_start 1 = .ok (.iconst 0, 1) := by decide +kernel
theorem dX7_start_2 : decode cX7_start 2 = .ok (.bipush 20, 2) := by decide +kernel
theorem dX7_start_4 : decode cX7_start 4 = .ok (.invokestatic 50, 3) := by decide +kernel
theorem dX7_start_7 : decode cX7_start 7 = .ok (.ifCond .ne 5, 3) := by decide +kernel
theorem dX7_start_10 : decode cX7_start 10 = .ok (.iconst (-1), 1) := by decide +kernel
theorem dX7_start_11 : decode cX7_start 11 = .ok (.ireturn, 1) := by decide +kernel
theorem dX7_start_12 : decode cX7_start 12 = .ok (.aload_n 0, 1) := by decide +kernel
theorem dX7_start_13 : decode cX7_start 13 = .ok (.getfield 10, 3) := by decide +kernel
theorem dX7_start_16 : decode cX7_start 16 = .ok (.getfield 96, 3) := by decide +kernel
theorem dX7_start_19 : decode cX7_start 19 = .ok (.ifCond .eq 6, 3) := by decide +kernel
theorem dX7_start_22 : decode cX7_start 22 = .ok (.bipush (-2), 2) := by decide +kernel
theorem dX7_start_24 : decode cX7_start 24 = .ok (.ireturn, 1) := by decide +kernel
theorem dX7_start_25 : decode cX7_start 25 = .ok (.aload_n 0, 1) := by decide +kernel
theorem dX7_start_26 : decode cX7_start 26 = .ok (.getfield 10, 3) := by decide +kernel
theorem dX7_start_29 : decode cX7_start 29 = .ok (.getfield 99, 3) := by decide +kernel
theorem dX7_start_32 : decode cX7_start 32 = .ok (.istore_n 2, 1) := by decide +kernel
theorem dX7_start_33 : decode cX7_start 33 = .ok (.aload_n 0, 1) := by decide +kernel
theorem dX7_start_34 : decode cX7_start 34 = .ok (.getfield 10, 3) := by decide +kernel
theorem dX7_start_37 : decode cX7_start 37 = .ok (.iload_n 1, 1) := by decide +kernel
theorem dX7_start_38 : decode cX7_start 38 = .ok (.putfield 99, 3) := by decide +kernel
theorem dX7_start_41 : decode cX7_start 41 = .ok (.iload_n 2, 1) := by decide +kernel
theorem dX7_start_42 : decode cX7_start 42 = .ok (.ireturn, 1) := by decide +kernel
theorem dX7_sort_0 : decode cX7_sort 0 = .ok (.aload_n 0, 1) := by decide +kernel
theorem dX7_sort_1 : decode cX7_sort 1 = .ok (.getfield 10, 3) := by decide +kernel
theorem dX7_sort_4 : decode cX7_sort 4 = .ok (.iload_n 1, 1) := by decide +kernel
theorem dX7_sort_5 : decode cX7_sort 5 = .ok (.invokevirtual 102, 3) := by decide +kernel
theorem dX7_sort_8 : decode cX7_sort 8 = .ok (.ifCond .eq 15, 3) := by decide +kernel
theorem dX7_sort_11 : decode cX7_sort 11 = .ok (.aload_n 0, 1) := by decide +kernel
theorem dX7_sort_12 : decode cX7_sort 12 = .ok (.getfield 10, 3) := by decide +kernel
theorem dX7_sort_15 : decode cX7_sort 15 = .ok (.getfield 105, 3) := by decide +kernel
theorem dX7_sort_18 : decode cX7_sort 18 = .ok (.iload_n 1, 1) := by decide +kernel
theorem dX7_sort_19 : decode cX7_sort 19 = .ok (.iaload, 1) := by decide +kernel
theorem dX7_sort_20 : decode cX7_sort 20 = .ok (.goto 4, 3) := by decide +kernel
theorem dX7_sort_23 : decode cX7_sort 23 = .ok (.iconst (-1), 1) := by decide +kernel
theorem dX7_sort_24 : decode cX7_sort 24 = .ok (.ireturn, 1) := by decide +kernel
theorem dX7_cost_0 : decode cX7_cost 0 = .ok (.aload_n 0, 1) := by decide +kernel
theorem dX7_cost_1 : decode cX7_cost 1 = .ok (.getfield 10, 3) := by decide +kernel
theorem dX7_cost_4 : decode cX7_cost 4 = .ok (.iload_n 1, 1) := by decide +kernel
theorem dX7_cost_5 : decode cX7_cost 5 = .ok (.invokevirtual 102, 3) := by decide +kernel
theorem dX7_cost_8 : decode cX7_cost 8 = .ok (.ifCond .eq 15, 3) := by decide +kernel
theorem dX7_cost_11 : decode cX7_cost 11 = .ok (.aload_n 0, 1) := by decide +kernel
theorem dX7_cost_12 : decode cX7_cost 12 = .ok (.getfield 10, 3) := by decide +kernel
theorem dX7_cost_15 : decode cX7_cost 15 = .ok (.getfield 108, 3) := by decide +kernel
theorem dX7_cost_18 : decode cX7_cost 18 = .ok (.iload_n 1, 1) := by decide +kernel
theorem dX7_cost_19 : decode cX7_cost 19 = .ok (.iaload, 1) := by decide +kernel
theorem dX7_cost_20 : decode cX7_cost 20 = .ok (.goto 4, 3) := by decide +kernel
theorem dX7_cost_23 : decode cX7_cost 23 = .ok (.iconst (-1), 1) := by decide +kernel
theorem dX7_cost_24 : decode cX7_cost 24 = .ok (.ireturn, 1) := by decide +kernel
theorem dX7_points_0 : decode cX7_points 0 = .ok (.aload_n 0, 1) := by decide +kernel
theorem dX7_points_1 : decode cX7_points 1 = .ok (.getfield 10, 3) := by decide +kernel
theorem dX7_points_4 : decode cX7_points 4 = .ok (.iload_n 1, 1) := by decide +kernel
theorem dX7_points_5 : decode cX7_points 5 = .ok (.invokevirtual 69, 3) := by decide +kernel
theorem dX7_points_8 : decode cX7_points 8 = .ok (.ifCond .eq 14, 3) := by decide +kernel
theorem dX7_points_11 : decode cX7_points 11 = .ok (.iload_n 2, 1) := by decide +kernel
theorem dX7_points_12 : decode cX7_points 12 = .ok (.iconst 0, 1) := by decide +kernel
theorem dX7_points_13 : decode cX7_points 13 = .ok (.sipush 400, 3) := by decide +kernel
theorem dX7_points_16 : decode cX7_points 16 = .ok (.invokestatic 50, 3) := by decide +kernel
theorem dX7_points_19 : decode cX7_points 19 = .ok (.ifCond .ne 5, 3) := by decide +kernel
theorem dX7_points_22 : decode cX7_points 22 = .ok (.iconst (-1), 1) := by decide +kernel
theorem dX7_points_23 : decode cX7_points 23 = .ok (.ireturn, 1) := by decide +kernel
theorem dX7_points_24 : decode cX7_points 24 = .ok (.aload_n 0, 1) := by decide +kernel
theorem dX7_points_25 : decode cX7_points 25 = .ok (.getfield 10, 3) := by decide +kernel
theorem dX7_points_28 : decode cX7_points 28 = .ok (.iload_n 1, 1) := by decide +kernel
theorem dX7_points_29 : decode cX7_points 29 = .ok (.aload_n 0, 1) := by decide +kernel
theorem dX7_points_30 : decode cX7_points 30 = .ok (.getfield 10, 3) := by decide +kernel
theorem dX7_points_33 : decode cX7_points 33 = .ok (.getfield 83, 3) := by decide +kernel
theorem dX7_points_36 : decode cX7_points 36 = .ok (.iload_n 1, 1) := by decide +kernel
theorem dX7_points_37 : decode cX7_points 37 = .ok (.iaload, 1) := by decide +kernel
theorem dX7_points_38 : decode cX7_points 38 = .ok (.iload_n 2, 1) := by decide +kernel
theorem dX7_points_39 : decode cX7_points 39 = .ok (.invokevirtual 111, 3) := by decide +kernel
theorem dX7_points_42 : decode cX7_points 42 = .ok (.ireturn, 1) := by decide +kernel
theorem dX7_type_0 : decode cX7_type 0 = .ok (.iload_n 1, 1) := by decide +kernel
theorem dX7_type_1 : decode cX7_type 1 = .ok (.bipush 32, 2) := by decide +kernel
theorem dX7_type_3 : decode cX7_type 3 = .ok (.bipush 126, 2) := by decide +kernel
theorem dX7_type_5 : decode cX7_type 5 = .ok (.invokestatic 50, 3) := by decide +kernel
theorem dX7_type_8 : decode cX7_type 8 = .ok (.ifCond .ne 5, 3) := by decide +kernel
theorem dX7_type_11 : decode cX7_type 11 = .ok (.iconst (-1), 1) := by decide +kernel
theorem dX7_type_12 : decode cX7_type 12 = .ok (.ireturn, 1) := by decide +kernel
theorem dX7_type_13 : decode cX7_type 13 = .ok (.aload_n 0, 1) := by decide +kernel
theorem dX7_type_14 : decode cX7_type 14 = .ok (.getfield 32, 3) := by decide +kernel
theorem dX7_type_17 : decode cX7_type 17 = .ok (.iload_n 1, 1) := by decide +kernel
theorem dX7_type_18 : decode cX7_type 18 = .ok (.invokevirtual 115, 3) := by decide +kernel
theorem dX7_type_21 : decode cX7_type 21 = .ok (.ifCond .eq 13, 3) := by decide +kernel
theorem dX7_type_24 : decode cX7_type 24 = .ok (.aload_n 0, 1) := by decide +kernel
theorem dX7_type_25 : decode cX7_type 25 = .ok (.getfield 32, 3) := by decide +kernel
theorem dX7_type_28 : decode cX7_type 28 = .ok (.getfield 118, 3) := by decide +kernel
theorem dX7_type_31 : decode cX7_type 31 = .ok (.goto 5, 3) := by decide +kernel
theorem dX7_type_34 : decode cX7_type 34 = .ok (.bipush (-3), 2) := by decide +kernel
theorem dX7_type_36 : decode cX7_type 36 = .ok (.ireturn, 1) := by decide +kernel
theorem dX7_field_0 : decode cX7_field 0 = .ok (.aload_n 0, 1) := by decide +kernel
theorem dX7_field_1 : decode cX7_field 1 = .ok (.getfield 32, 3) := by decide +kernel
theorem dX7_field_4 : decode cX7_field 4 = .ok (.invokevirtual 121, 3) := by decide +kernel
theorem dX7_field_7 : decode cX7_field 7 = .ok (.istore_n 1, 1) := by decide +kernel
theorem dX7_field_8 : decode cX7_field 8 = .ok (.aload_n 0, 1) := by decide +kernel
theorem dX7_field_9 : decode cX7_field 9 = .ok (.getfield 32, 3) := by decide +kernel
theorem dX7_field_12 : decode cX7_field 12 = .ok (.iconst 0, 1) := by decide +kernel
theorem dX7_field_13 : decode cX7_field 13 = .ok (.putfield 118, 3) := by decide +kernel
theorem dX7_field_16 : decode cX7_field 16 = .ok (.iload_n 1, 1) := by decide +kernel
theorem dX7_field_17 : decode cX7_field 17 = .ok (.ifCond .ne 14, 3) := by decide +kernel
theorem dX7_field_20 : decode cX7_field 20 = .ok (.bipush (-20), 2) := by decide +kernel
theorem dX7_field_22 : decode cX7_field 22 = .ok (.aload_n 0, 1) := by decide +kernel
theorem dX7_field_23 : decode cX7_field 23 = .ok (.getfield 32, 3) := by decide +kernel
theorem dX7_field_26 : decode cX7_field 26 = .ok (.getfield 124, 3) := by decide +kernel
theorem dX7_field_29 : decode cX7_field 29 = .ok (.isub, 1) := by decide +kernel
theorem dX7_field_30 : decode cX7_field 30 = .ok (.ireturn, 1) := by decide +kernel
theorem dX7_field_31 : decode cX7_field 31 = .ok (.aload_n 0, 1) := by decide +kernel
theorem dX7_field_32 : decode cX7_field 32 = .ok (.getfield 32, 3) := by decide +kernel
theorem dX7_field_35 : decode cX7_field 35 = .ok (.aload_n 0, 1) := by decide +kernel
theorem dX7_field_36 : decode cX7_field 36 = .ok (.getfield 10, 3) := by decide +kernel
theorem dX7_field_39 : decode cX7_field 39 = .ok (.invokevirtual 127, 3) := by decide +kernel
theorem dX7_field_42 : decode cX7_field 42 = .ok (.aload_n 0, 1) := by decide +kernel
theorem dX7_field_43 : decode cX7_field 43 = .ok (.getfield 19, 3) := by decide +kernel
theorem dX7_field_46 : decode cX7_field 46 = .ok (.invokevirtual 62, 3) := by decide +kernel
theorem dX7_field_49 : decode cX7_field 49 = .ok (.aload_n 0, 1) := by decide +kernel
theorem dX7_field_50 : decode cX7_field 50 = .ok (.getfield 10, 3) := by decide +kernel
theorem dX7_field_53 : decode cX7_field 53 = .ok (.getfield 58, 3) := by decide +kernel
theorem dX7_field_56 : decode cX7_field 56 = .ok (.ireturn, 1) := by decide +kernel
theorem dX7_count_0 : decode cX7_count 0 = .ok (.iload_n 1, 1) := by decide +kernel
theorem dX7_count_1 : decode cX7_count 1 = .ok (.tableswitch 119 0 7 #[47, 55, 63, 71, 87, 95, 103, 111], 47) := by decide +kernel
theorem dX7_count_48 : decode cX7_count 48 = .ok (.aload_n 0, 1) := by decide +kernel
theorem dX7_count_49 : decode cX7_count 49 = .ok (.getfield 10, 3) := by decide +kernel
theorem dX7_count_52 : decode cX7_count 52 = .ok (.getfield 131, 3) := by decide +kernel
theorem dX7_count_55 : decode cX7_count 55 = .ok (.ireturn, 1) := by decide +kernel
theorem dX7_count_56 : decode cX7_count 56 = .ok (.aload_n 0, 1) := by decide +kernel
theorem dX7_count_57 : decode cX7_count 57 = .ok (.getfield 10, 3) := by decide +kernel
theorem dX7_count_60 : decode cX7_count 60 = .ok (.getfield 58, 3) := by decide +kernel
theorem dX7_count_63 : decode cX7_count 63 = .ok (.ireturn, 1) := by decide +kernel
theorem dX7_count_64 : decode cX7_count 64 = .ok (.aload_n 0, 1) := by decide +kernel
theorem dX7_count_65 : decode cX7_count 65 = .ok (.getfield 10, 3) := by decide +kernel
theorem dX7_count_68 : decode cX7_count 68 = .ok (.getfield 96, 3) := by decide +kernel
theorem dX7_count_71 : decode cX7_count 71 = .ok (.ireturn, 1) := by decide +kernel
theorem dX7_count_72 : decode cX7_count 72 = .ok (.aload_n 0, 1) := by decide +kernel
theorem dX7_count_73 : decode cX7_count 73 = .ok (.getfield 10, 3) := by decide +kernel
theorem dX7_count_76 : decode cX7_count 76 = .ok (.invokevirtual 54, 3) := by decide +kernel
theorem dX7_count_79 : decode cX7_count 79 = .ok (.ifCond .eq 7, 3) := by decide +kernel
theorem dX7_count_82 : decode cX7_count 82 = .ok (.iconst 1, 1) := by decide +kernel
theorem dX7_count_83 : decode cX7_count 83 = .ok (.goto 4, 3) := by decide +kernel
theorem dX7_count_86 : decode cX7_count 86 = .ok (.iconst 0, 1) := by decide +kernel
theorem dX7_count_87 : decode cX7_count 87 = .ok (.ireturn, 1) := by decide +kernel
theorem dX7_count_88 : decode cX7_count 88 = .ok (.aload_n 0, 1) := by decide +kernel
theorem dX7_count_89 : decode cX7_count 89 = .ok (.getfield 10, 3) := by decide +kernel
theorem dX7_count_92 : decode cX7_count 92 = .ok (.getfield 134, 3) := by decide +kernel
theorem dX7_count_95 : decode cX7_count 95 = .ok (.ireturn, 1) := by decide +kernel
theorem dX7_count_96 : decode cX7_count 96 = .ok (.aload_n 0, 1) := by decide +kernel
theorem dX7_count_97 : decode cX7_count 97 = .ok (.getfield 19, 3) := by decide +kernel
theorem dX7_count_100 : decode cX7_count 100 = .ok (.getfield 137, 3) := by decide +kernel
theorem dX7_count_103 : decode cX7_count 103 = .ok (.ireturn, 1) := by decide +kernel
theorem dX7_count_104 : decode cX7_count 104 = .ok (.aload_n 0, 1) := by decide +kernel
theorem dX7_count_105 : decode cX7_count 105 = .ok (.getfield 10, 3) := by decide +kernel
theorem dX7_count_108 : decode cX7_count 108 = .ok (.invokevirtual 140, 3) := by decide +kernel
theorem dX7_count_111 : decode cX7_count 111 = .ok (.ireturn, 1) := by decide +kernel
theorem dX7_count_112 : decode cX7_count 112 = .ok (.aload_n 0, 1) := by decide +kernel
theorem dX7_count_113 : decode cX7_count 113 = .ok (.getfield 10, 3) := by decide +kernel
theorem dX7_count_116 : decode cX7_count 116 = .ok (.invokevirtual 144, 3) := by decide +kernel
