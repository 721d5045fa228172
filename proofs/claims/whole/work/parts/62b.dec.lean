theorem dX1_peek_30 : decode cX1_peek 30 = .ok (.iconst 1, 1) := by decide +kernel
theorem dX1_peek_31 : decode cX1_peek 31 = .ok (.iadd, 1) := by decide +kernel
theorem dX1_peek_32 : decode cX1_peek 32 = .ok (.putfield 36, 3) := by decide +kernel
theorem dX1_peek_35 : decode cX1_peek 35 = .ok (.goto (-35), 3) := by decide +kernel
theorem dX1_peek_38 : decode cX1_peek 38 = .ok (.aload_n 0, 1) := by decide +kernel
theorem dX1_peek_39 : decode cX1_peek 39 = .ok (.getfield 36, 3) := by decide +kernel
theorem dX1_peek_42 : decode cX1_peek 42 = .ok (.aload_n 0, 1) := by decide +kernel
theorem dX1_peek_43 : decode cX1_peek 43 = .ok (.getfield 22, 3) := by decide +kernel
theorem dX1_peek_46 : decode cX1_peek 46 = .ok (.if_icmp .ge 15, 3) := by decide +kernel
theorem dX1_peek_49 : decode cX1_peek 49 = .ok (.aload_n 0, 1) := by decide +kernel
theorem dX1_peek_50 : decode cX1_peek 50 = .ok (.getfield 9, 3) := by decide +kernel
theorem dX1_peek_53 : decode cX1_peek 53 = .ok (.aload_n 0, 1) := by decide +kernel
theorem dX1_peek_54 : decode cX1_peek 54 = .ok (.getfield 36, 3) := by decide +kernel
theorem dX1_peek_57 : decode cX1_peek 57 = .ok (.iaload, 1) := by decide +kernel
theorem dX1_peek_58 : decode cX1_peek 58 = .ok (.goto 4, 3) := by decide +kernel
theorem dX1_peek_61 : decode cX1_peek 61 = .ok (.iconst 0, 1) := by decide +kernel
theorem dX1_peek_62 : decode cX1_peek 62 = .ok (.ireturn, 1) := by decide +kernel
theorem dX1_take_0 : decode cX1_take 0 = .ok (.aload_n 0, 1) := by decide +kernel
theorem dX1_take_1 : decode cX1_take 1 = .ok (.invokevirtual 46, 3) := by decide +kernel
theorem dX1_take_4 : decode cX1_take 4 = .ok (.iload_n 1, 1) := by decide +kernel
theorem dX1_take_5 : decode cX1_take 5 = .ok (.if_icmp .eq 5, 3) := by decide +kernel
theorem dX1_take_8 : decode cX1_take 8 = .ok (.iconst 0, 1) := by decide +kernel
theorem dX1_take_9 : decode cX1_take 9 = .ok (.ireturn, 1) := by decide +kernel
theorem dX1_take_10 : decode cX1_take 10 = .ok (.aload_n 0, 1) := by decide +kernel
theorem dX1_take_11 : decode cX1_take 11 = .ok (.dup, 1) := by decide +kernel
theorem dX1_take_12 : decode cX1_take 12 = .ok (.getfield 36, 3) := by decide +kernel
theorem dX1_take_15 : decode cX1_take 15 = .ok (.iconst 1, 1) := by decide +kernel
theorem dX1_take_16 : decode cX1_take 16 = .ok (.iadd, 1) := by decide +kernel
theorem dX1_take_17 : decode cX1_take 17 = .ok (.putfield 36, 3) := by decide +kernel
theorem dX1_take_20 : decode cX1_take 20 = .ok (.iconst 1, 1) := by decide +kernel
theorem dX1_take_21 : decode cX1_take 21 = .ok (.ireturn, 1) := by decide +kernel
theorem dX1_takeDigit_0 : decode cX1_takeDigit 0 = .ok (.aload_n 0, 1) := by decide +kernel
theorem dX1_takeDigit_1 : decode cX1_takeDigit 1 = .ok (.invokevirtual 46, 3) := by decide +kernel
theorem dX1_takeDigit_4 : decode cX1_takeDigit 4 = .ok (.bipush 48, 2) := by decide +kernel
theorem dX1_takeDigit_6 : decode cX1_takeDigit 6 = .ok (.isub, 1) := by decide +kernel
theorem dX1_takeDigit_7 : decode cX1_takeDigit 7 = .ok (.istore_n 3, 1) := by decide +kernel
theorem dX1_takeDigit_8 : decode cX1_takeDigit 8 = .ok (.iload_n 3, 1) := by decide +kernel
theorem dX1_takeDigit_9 : decode cX1_takeDigit 9 = .ok (.iload_n 1, 1) := by decide +kernel
theorem dX1_takeDigit_10 : decode cX1_takeDigit 10 = .ok (.iload_n 2, 1) := by decide +kernel
theorem dX1_takeDigit_11 : decode cX1_takeDigit 11 = .ok (.invokestatic 88, 3) := by decide +kernel
theorem dX1_takeDigit_14 : decode cX1_takeDigit 14 = .ok (.ifCond .ne 5, 3) := by decide +kernel
theorem dX1_takeDigit_17 : decode cX1_takeDigit 17 = .ok (.iconst (-1), 1) := by decide +kernel
theorem dX1_takeDigit_18 : decode cX1_takeDigit 18 = .ok (.ireturn, 1) := by decide +kernel
theorem dX1_takeDigit_19 : decode cX1_takeDigit 19 = .ok (.aload_n 0, 1) := by decide +kernel
theorem dX1_takeDigit_20 : decode cX1_takeDigit 20 = .ok (.dup, 1) := by decide +kernel
theorem dX1_takeDigit_21 : decode cX1_takeDigit 21 = .ok (.getfield 36, 3) := by decide +kernel
theorem dX1_takeDigit_24 : decode cX1_takeDigit 24 = .ok (.iconst 1, 1) := by decide +kernel
theorem dX1_takeDigit_25 : decode cX1_takeDigit 25 = .ok (.iadd, 1) := by decide +kernel
theorem dX1_takeDigit_26 : decode cX1_takeDigit 26 = .ok (.putfield 36, 3) := by decide +kernel
theorem dX1_takeDigit_29 : decode cX1_takeDigit 29 = .ok (.iload_n 3, 1) := by decide +kernel
theorem dX1_takeDigit_30 : decode cX1_takeDigit 30 = .ok (.ireturn, 1) := by decide +kernel
theorem dX2_init_0 : decode cX2_init 0 = .ok (.aload_n 0, 1) := by decide +kernel
theorem dX2_init_1 : decode cX2_init 1 = .ok (.invokespecial 3, 3) := by decide +kernel
theorem dX2_init_4 : decode cX2_init 4 = .ok (.aload_n 0, 1) := by decide +kernel
theorem dX2_init_5 : decode cX2_init 5 = .ok (.new 9, 3) := by decide +kernel
theorem dX2_init_8 : decode cX2_init 8 = .ok (.dup, 1) := by decide +kernel
theorem dX2_init_9 : decode cX2_init 9 = .ok (.invokespecial 11, 3) := by decide +kernel
theorem dX2_init_12 : decode cX2_init 12 = .ok (.putfield 12, 3) := by decide +kernel
theorem dX2_init_15 : decode cX2_init 15 = .ok (.aload_n 0, 1) := by decide +kernel
theorem dX2_init_16 : decode cX2_init 16 = .ok (.new 18, 3) := by decide +kernel
theorem dX2_init_19 : decode cX2_init 19 = .ok (.dup, 1) := by decide +kernel
theorem dX2_init_20 : decode cX2_init 20 = .ok (.invokespecial 20, 3) := by decide +kernel
theorem dX2_init_23 : decode cX2_init 23 = .ok (.putfield 21, 3) := by decide +kernel
theorem dX2_init_26 : decode cX2_init 26 = .ok (.aload_n 0, 1) := by decide +kernel
theorem dX2_init_27 : decode cX2_init 27 = .ok (.bipush 61, 2) := by decide +kernel
theorem dX2_init_29 : decode cX2_init 29 = .ok (.newarray .int, 2) := by decide +kernel
theorem dX2_init_31 : decode cX2_init 31 = .ok (.putfield 25, 3) := by decide +kernel
theorem dX2_init_34 : decode cX2_init 34 = .ok (.return_, 1) := by decide +kernel
theorem dX2_begin_0 : decode cX2_begin 0 = .ok (.aload_n 0, 1) := by decide +kernel
theorem dX2_begin_1 : decode cX2_begin 1 = .ok (.getfield 12, 3) := by decide +kernel
theorem dX2_begin_4 : decode cX2_begin 4 = .ok (.aload_n 1, 1) := by decide +kernel
theorem dX2_begin_5 : decode cX2_begin 5 = .ok (.invokevirtual 29, 3) := by decide +kernel
theorem dX2_begin_8 : decode cX2_begin 8 = .ok (.aload_n 0, 1) := by decide +kernel
theorem dX2_begin_9 : decode cX2_begin 9 = .ok (.getfield 21, 3) := by decide +kernel
theorem dX2_begin_12 : decode cX2_begin 12 = .ok (.invokevirtual 33, 3) := by decide +kernel
theorem dX2_begin_15 : decode cX2_begin 15 = .ok (.return_, 1) := by decide +kernel
theorem dX2_chanceBy_0 : decode cX2_chanceBy 0 = .ok (.aload_n 0, 1) := by decide +kernel
theorem dX2_chanceBy_1 : decode cX2_chanceBy 1 = .ok (.getfield 12, 3) := by decide +kernel
theorem dX2_chanceBy_4 : decode cX2_chanceBy 4 = .ok (.getfield 36, 3) := by decide +kernel
theorem dX2_chanceBy_7 : decode cX2_chanceBy 7 = .ok (.istore_n 2, 1) := by decide +kernel
theorem dX2_chanceBy_8 : decode cX2_chanceBy 8 = .ok (.aload_n 0, 1) := by decide +kernel
theorem dX2_chanceBy_9 : decode cX2_chanceBy 9 = .ok (.getfield 12, 3) := by decide +kernel
theorem dX2_chanceBy_12 : decode cX2_chanceBy 12 = .ok (.invokevirtual 40, 3) := by decide +kernel
theorem dX2_chanceBy_15 : decode cX2_chanceBy 15 = .ok (.ifCond .eq 17, 3) := by decide +kernel
theorem dX2_chanceBy_18 : decode cX2_chanceBy 18 = .ok (.aload_n 0, 1) := by decide +kernel
theorem dX2_chanceBy_19 : decode cX2_chanceBy 19 = .ok (.getfield 21, 3) := by decide +kernel
theorem dX2_chanceBy_22 : decode cX2_chanceBy 22 = .ok (.aload_n 0, 1) := by decide +kernel
theorem dX2_chanceBy_23 : decode cX2_chanceBy 23 = .ok (.getfield 12, 3) := by decide +kernel
theorem dX2_chanceBy_26 : decode cX2_chanceBy 26 = .ok (.invokevirtual 44, 3) := by decide +kernel
theorem dX2_chanceBy_29 : decode cX2_chanceBy 29 = .ok (.goto 25, 3) := by decide +kernel
theorem dX2_chanceBy_32 : decode cX2_chanceBy 32 = .ok (.aload_n 0, 1) := by decide +kernel
theorem dX2_chanceBy_33 : decode cX2_chanceBy 33 = .ok (.getfield 12, 3) := by decide +kernel
theorem dX2_chanceBy_36 : decode cX2_chanceBy 36 = .ok (.iload_n 2, 1) := by decide +kernel
theorem dX2_chanceBy_37 : decode cX2_chanceBy 37 = .ok (.iload_n 1, 1) := by decide +kernel
theorem dX2_chanceBy_38 : decode cX2_chanceBy 38 = .ok (.invokevirtual 47, 3) := by decide +kernel
theorem dX2_chanceBy_41 : decode cX2_chanceBy 41 = .ok (.istore_n 2, 1) := by decide +kernel
theorem dX2_chanceBy_42 : decode cX2_chanceBy 42 = .ok (.aload_n 0, 1) := by decide +kernel
theorem dX2_chanceBy_43 : decode cX2_chanceBy 43 = .ok (.getfield 21, 3) := by decide +kernel
theorem dX2_chanceBy_46 : decode cX2_chanceBy 46 = .ok (.aload_n 0, 1) := by decide +kernel
theorem dX2_chanceBy_47 : decode cX2_chanceBy 47 = .ok (.getfield 12, 3) := by decide +kernel
theorem dX2_chanceBy_50 : decode cX2_chanceBy 50 = .ok (.iload_n 2, 1) := by decide +kernel
theorem dX2_chanceBy_51 : decode cX2_chanceBy 51 = .ok (.invokevirtual 51, 3) := by decide +kernel
theorem dX2_chanceBy_54 : decode cX2_chanceBy 54 = .ok (.aload_n 0, 1) := by decide +kernel
theorem dX2_chanceBy_55 : decode cX2_chanceBy 55 = .ok (.getfield 21, 3) := by decide +kernel
theorem dX2_chanceBy_58 : decode cX2_chanceBy 58 = .ok (.aload_n 0, 1) := by decide +kernel
theorem dX2_chanceBy_59 : decode cX2_chanceBy 59 = .ok (.getfield 12, 3) := by decide +kernel
theorem dX2_chanceBy_62 : decode cX2_chanceBy 62 = .ok (.iload_n 2, 1) := by decide +kernel
theorem dX2_chanceBy_63 : decode cX2_chanceBy 63 = .ok (.invokevirtual 55, 3) := by decide +kernel
theorem dX2_chanceBy_66 : decode cX2_chanceBy 66 = .ok (.ireturn, 1) := by decide +kernel
theorem dX2_chanceTogether_0 : decode cX2_chanceTogether 0 = .ok (.aload_n 0, 1) := by decide +kernel
theorem dX2_chanceTogether_1 : decode cX2_chanceTogether 1 = .ok (.getfield 21, 3) := by decide +kernel
theorem dX2_chanceTogether_4 : decode cX2_chanceTogether 4 = .ok (.invokevirtual 59, 3) := by decide +kernel
theorem dX2_chanceTogether_7 : decode cX2_chanceTogether 7 = .ok (.aload_n 0, 1) := by decide +kernel
theorem dX2_chanceTogether_8 : decode cX2_chanceTogether 8 = .ok (.getfield 21, 3) := by decide +kernel
theorem dX2_chanceTogether_11 : decode cX2_chanceTogether 11 = .ok (.aload_n 0, 1) := by decide +kernel
theorem dX2_chanceTogether_12 : decode cX2_chanceTogether 12 = .ok (.getfield 12, 3) := by decide +kernel
theorem dX2_chanceTogether_15 : decode cX2_chanceTogether 15 = .ok (.aload_n 0, 1) := by decide +kernel
theorem dX2_chanceTogether_16 : decode cX2_chanceTogether 16 = .ok (.getfield 12, 3) := by decide +kernel
theorem dX2_chanceTogether_19 : decode cX2_chanceTogether 19 = .ok (.getfield 36, 3) := by decide +kernel
theorem dX2_chanceTogether_22 : decode cX2_chanceTogether 22 = .ok (.invokevirtual 55, 3) := by decide +kernel
theorem dX2_chanceTogether_25 : decode cX2_chanceTogether 25 = .ok (.ireturn, 1) := by decide +kernel
theorem dX2_foresee_0 : decode cX2_foresee 0 = .ok (.iconst 0, 1) := by decide +kernel
theorem dX2_foresee_1 : decode cX2_foresee 1 = .ok (.istore_n 2, 1) := by decide +kernel
theorem dX2_foresee_2 : decode cX2_foresee 2 = .ok (.iconst 0, 1) := by decide +kernel
theorem dX2_foresee_3 : decode cX2_foresee 3 = .ok (.istore_n 3, 1) := by decide +kernel
theorem dX2_foresee_4 : decode cX2_foresee 4 = .ok (.iconst 0, 1) := by decide +kernel
theorem dX2_foresee_5 : decode cX2_foresee 5 = .ok (.istore 4, 2) := by decide +kernel
theorem dX2_foresee_7 : decode cX2_foresee 7 = .ok (.iconst 0, 1) := by decide +kernel
theorem dX2_foresee_8 : decode cX2_foresee 8 = .ok (.istore 5, 2) := by decide +kernel
theorem dX2_foresee_10 : decode cX2_foresee 10 = .ok (.iload 5, 2) := by decide +kernel
theorem dX2_foresee_12 : decode cX2_foresee 12 = .ok (.iload_n 1, 1) := by decide +kernel
theorem dX2_foresee_13 : decode cX2_foresee 13 = .ok (.if_icmp .ge 98, 3) := by decide +kernel
theorem dX2_foresee_16 : decode cX2_foresee 16 = .ok (.iload 5, 2) := by decide +kernel
theorem dX2_foresee_18 : decode cX2_foresee 18 = .ok (.bipush 61, 2) := by decide +kernel
theorem dX2_foresee_20 : decode cX2_foresee 20 = .ok (.if_icmp .ge 91, 3) := by decide +kernel
theorem dX2_foresee_23 : decode cX2_foresee 23 = .ok (.iload 4, 2) := by decide +kernel
theorem dX2_foresee_25 : decode cX2_foresee 25 = .ok (.ifCond .ne 66, 3) := by decide +kernel
theorem dX2_foresee_28 : decode cX2_foresee 28 = .ok (.aload_n 0, 1) := by decide +kernel
theorem dX2_foresee_29 : decode cX2_foresee 29 = .ok (.getfield 12, 3) := by decide +kernel
theorem dX2_foresee_32 : decode cX2_foresee 32 = .ok (.getfield 36, 3) := by decide +kernel
theorem dX2_foresee_35 : decode cX2_foresee 35 = .ok (.iload 5, 2) := by decide +kernel
theorem dX2_foresee_37 : decode cX2_foresee 37 = .ok (.iadd, 1) := by decide +kernel
theorem dX2_foresee_38 : decode cX2_foresee 38 = .ok (.istore 6, 2) := by decide +kernel
theorem dX2_foresee_40 : decode cX2_foresee 40 = .ok (.aload_n 0, 1) := by decide +kernel
theorem dX2_foresee_41 : decode cX2_foresee 41 = .ok (.getfield 21, 3) := by decide +kernel
theorem dX2_foresee_44 : decode cX2_foresee 44 = .ok (.aload_n 0, 1) := by decide +kernel
theorem dX2_foresee_45 : decode cX2_foresee 45 = .ok (.getfield 12, 3) := by decide +kernel
theorem dX2_foresee_48 : decode cX2_foresee 48 = .ok (.iload 6, 2) := by decide +kernel
theorem dX2_foresee_50 : decode cX2_foresee 50 = .ok (.invokevirtual 51, 3) := by decide +kernel
theorem dX2_foresee_53 : decode cX2_foresee 53 = .ok (.aload_n 0, 1) := by decide +kernel
theorem dX2_foresee_54 : decode cX2_foresee 54 = .ok (.getfield 21, 3) := by decide +kernel
theorem dX2_foresee_57 : decode cX2_foresee 57 = .ok (.aload_n 0, 1) := by decide +kernel
theorem dX2_foresee_58 : decode cX2_foresee 58 = .ok (.getfield 12, 3) := by decide +kernel
theorem dX2_foresee_61 : decode cX2_foresee 61 = .ok (.iload 6, 2) := by decide +kernel
theorem dX2_foresee_63 : decode cX2_foresee 63 = .ok (.invokevirtual 55, 3) := by decide +kernel
theorem dX2_foresee_66 : decode cX2_foresee 66 = .ok (.istore_n 3, 1) := by decide +kernel
theorem dX2_foresee_67 : decode cX2_foresee 67 = .ok (.iload 5, 2) := by decide +kernel
theorem dX2_foresee_69 : decode cX2_foresee 69 = .ok (.ifCond .le 19, 3) := by decide +kernel
theorem dX2_foresee_72 : decode cX2_foresee 72 = .ok (.aload_n 0, 1) := by decide +kernel
theorem dX2_foresee_73 : decode cX2_foresee 73 = .ok (.getfield 12, 3) := by decide +kernel
theorem dX2_foresee_76 : decode cX2_foresee 76 = .ok (.iload 6, 2) := by decide +kernel
theorem dX2_foresee_78 : decode cX2_foresee 78 = .ok (.invokevirtual 62, 3) := by decide +kernel
theorem dX2_foresee_81 : decode cX2_foresee 81 = .ok (.ifCond .eq 7, 3) := by decide +kernel
theorem dX2_foresee_84 : decode cX2_foresee 84 = .ok (.iconst 1, 1) := by decide +kernel
theorem dX2_foresee_85 : decode cX2_foresee 85 = .ok (.goto 4, 3) := by decide +kernel
theorem dX2_foresee_88 : decode cX2_foresee 88 = .ok (.iconst 0, 1) := by decide +kernel
theorem dX2_foresee_89 : decode cX2_foresee 89 = .ok (.istore 4, 2) := by decide +kernel
theorem dX2_foresee_91 : decode cX2_foresee 91 = .ok (.aload_n 0, 1) := by decide +kernel
theorem dX2_foresee_92 : decode cX2_foresee 92 = .ok (.getfield 25, 3) := by decide +kernel
theorem dX2_foresee_95 : decode cX2_foresee 95 = .ok (.iload 5, 2) := by decide +kernel
theorem dX2_foresee_97 : decode cX2_foresee 97 = .ok (.iload_n 3, 1) := by decide +kernel
theorem dX2_foresee_98 : decode cX2_foresee 98 = .ok (.iastore, 1) := by decide +kernel
theorem dX2_foresee_99 : decode cX2_foresee 99 = .ok (.iload_n 2, 1) := by decide +kernel
theorem dX2_foresee_100 : decode cX2_foresee 100 = .ok (.iload_n 3, 1) := by decide +kernel
theorem dX2_foresee_101 : decode cX2_foresee 101 = .ok (.invokestatic 66, 3) := by decide +kernel
theorem dX2_foresee_104 : decode cX2_foresee 104 = .ok (.istore_n 2, 1) := by decide +kernel
theorem dX2_foresee_105 : decode cX2_foresee 105 = .ok (.iinc 5 1, 3) := by decide +kernel
theorem dX2_foresee_108 : decode cX2_foresee 108 = .ok (.goto (-98), 3) := by decide +kernel
theorem dX2_foresee_111 : decode cX2_foresee 111 = .ok (.iload_n 2, 1) := by decide +kernel
theorem dX2_foresee_112 : decode cX2_foresee 112 = .ok (.ireturn, 1) := by decide +kernel
theorem dX2_foreseen_0 : decode cX2_foreseen 0 = .ok (.iload_n 1, 1) := by decide +kernel
theorem dX2_foreseen_1 : decode cX2_foreseen 1 = .ok (.iconst 0, 1) := by decide +kernel
theorem dX2_foreseen_2 : decode cX2_foreseen 2 = .ok (.bipush 60, 2) := by decide +kernel
theorem dX2_foreseen_4 : decode cX2_foreseen 4 = .ok (.invokestatic 71, 3) := by decide +kernel
theorem dX2_foreseen_7 : decode cX2_foreseen 7 = .ok (.ifCond .eq 12, 3) := by decide +kernel
theorem dX2_foreseen_10 : decode cX2_foreseen 10 = .ok (.aload_n 0, 1) := by decide +kernel
theorem dX2_foreseen_11 : decode cX2_foreseen 11 = .ok (.getfield 25, 3) := by decide +kernel
theorem dX2_foreseen_14 : decode cX2_foreseen 14 = .ok (.iload_n 1, 1) := by decide +kernel
theorem dX2_foreseen_15 : decode cX2_foreseen 15 = .ok (.iaload, 1) := by decide +kernel
theorem dX2_foreseen_16 : decode cX2_foreseen 16 = .ok (.goto 4, 3) := by decide +kernel
theorem dX2_foreseen_19 : decode cX2_foreseen 19 = .ok (.iconst 0, 1) := by decide +kernel
theorem dX2_foreseen_20 : decode cX2_foreseen 20 = .ok (.ireturn, 1) := by decide +kernel
theorem dX2_firstWith_0 : decode cX2_firstWith 0 = .ok (.iconst 0, 1) := by decide +kernel
theorem dX2_firstWith_1 : decode cX2_firstWith 1 = .ok (.istore_n 2, 1) := by decide +kernel
theorem dX2_firstWith_2 : decode cX2_firstWith 2 = .ok (.iload_n 2, 1) := by decide +kernel
theorem dX2_firstWith_3 : decode cX2_firstWith 3 = .ok (.bipush 61, 2) := by decide +kernel
theorem dX2_firstWith_5 : decode cX2_firstWith 5 = .ok (.if_icmp .ge 29, 3) := by decide +kernel
theorem dX2_firstWith_8 : decode cX2_firstWith 8 = .ok (.aload_n 0, 1) := by decide +kernel
theorem dX2_firstWith_9 : decode cX2_firstWith 9 = .ok (.getfield 25, 3) := by decide +kernel
theorem dX2_firstWith_12 : decode cX2_firstWith 12 = .ok (.iload_n 2, 1) := by decide +kernel
theorem dX2_firstWith_13 : decode cX2_firstWith 13 = .ok (.iaload, 1) := by decide +kernel
theorem dX2_firstWith_14 : decode cX2_firstWith 14 = .ok (.iload_n 1, 1) := by decide +kernel
theorem dX2_firstWith_15 : decode cX2_firstWith 15 = .ok (.if_icmp .lt 13, 3) := by decide +kernel
theorem dX2_firstWith_18 : decode cX2_firstWith 18 = .ok (.aload_n 0, 1) := by decide +kernel
theorem dX2_firstWith_19 : decode cX2_firstWith 19 = .ok (.getfield 12, 3) := by decide +kernel
theorem dX2_firstWith_22 : decode cX2_firstWith 22 = .ok (.getfield 36, 3) := by decide +kernel
theorem dX2_firstWith_25 : decode cX2_firstWith 25 = .ok (.iload_n 2, 1) := by decide +kernel
theorem dX2_firstWith_26 : decode cX2_firstWith 26 = .ok (.iadd, 1) := by decide +kernel
theorem dX2_firstWith_27 : decode cX2_firstWith 27 = .ok (.ireturn, 1) := by decide +kernel
theorem dX2_firstWith_28 : decode cX2_firstWith 28 = .ok (.iinc 2 1, 3) := by decide +kernel
theorem dX2_firstWith_31 : decode cX2_firstWith 31 = .ok (.goto (-29), 3) := by decide +kernel
theorem dX2_firstWith_34 : decode cX2_firstWith 34 = .ok (.bipush (-4), 2) := by decide +kernel
theorem dX2_firstWith_36 : decode cX2_firstWith 36 = .ok (.ireturn, 1) := by decide +kernel
theorem dX2_lastWith_0 : decode cX2_lastWith 0 = .ok (.bipush 60, 2) := by decide +kernel
theorem dX2_lastWith_2 : decode cX2_lastWith 2 = .ok (.istore_n 2, 1) := by decide +kernel
theorem dX2_lastWith_3 : decode cX2_lastWith 3 = .ok (.iload_n 2, 1) := by decide +kernel
theorem dX2_lastWith_4 : decode cX2_lastWith 4 = .ok (.ifCond .lt 29, 3) := by decide +kernel
theorem dX2_lastWith_7 : decode cX2_lastWith 7 = .ok (.aload_n 0, 1) := by decide +kernel
theorem dX2_lastWith_8 : decode cX2_lastWith 8 = .ok (.getfield 25, 3) := by decide +kernel
theorem dX2_lastWith_11 : decode cX2_lastWith 11 = .ok (.iload_n 2, 1) := by decide +kernel
theorem dX2_lastWith_12 : decode cX2_lastWith 12 = .ok (.iaload, 1) := by decide +kernel
theorem dX2_lastWith_13 : decode cX2_lastWith 13 = .ok (.iload_n 1, 1) := by decide +kernel
theorem dX2_lastWith_14 : decode cX2_lastWith 14 = .ok (.if_icmp .lt 13, 3) := by decide +kernel
theorem dX2_lastWith_17 : decode cX2_lastWith 17 = .ok (.aload_n 0, 1) := by decide +kernel
theorem dX2_lastWith_18 : decode cX2_lastWith 18 = .ok (.getfield 12, 3) := by decide +kernel
theorem dX2_lastWith_21 : decode cX2_lastWith 21 = .ok (.getfield 36, 3) := by decide +kernel
theorem dX2_lastWith_24 : decode cX2_lastWith 24 = .ok (.iload_n 2, 1) := by decide +kernel
theorem dX2_lastWith_25 : decode cX2_lastWith 25 = .ok (.iadd, 1) := by decide +kernel
theorem dX2_lastWith_26 : decode cX2_lastWith 26 = .ok (.ireturn, 1) := by decide +kernel
theorem dX2_lastWith_27 : decode cX2_lastWith 27 = .ok (.iinc 2 (-1), 3) := by decide +kernel
theorem dX2_lastWith_30 : decode cX2_lastWith 30 = .ok (.goto (-27), 3) := by decide +kernel
theorem dX2_lastWith_33 : decode cX2_lastWith 33 = .ok (.bipush (-4), 2) := by decide +kernel
theorem dX2_lastWith_35 : decode cX2_lastWith 35 = .ok (.ireturn, 1) := by decide +kernel
theorem dX2_suppose_0 : decode cX2_suppose 0 = .ok (.aload_n 0, 1) := by decide +kernel
theorem dX2_suppose_1 : decode cX2_suppose 1 = .ok (.getfield 12, 3) := by decide +kernel
theorem dX2_suppose_4 : decode cX2_suppose 4 = .ok (.iload_n 1, 1) := by decide +kernel
theorem dX2_suppose_5 : decode cX2_suppose 5 = .ok (.iload_n 2, 1) := by decide +kernel
theorem dX2_suppose_6 : decode cX2_suppose 6 = .ok (.invokevirtual 75, 3) := by decide +kernel
theorem dX2_suppose_9 : decode cX2_suppose 9 = .ok (.return_, 1) := by decide +kernel
theorem dX2_supposeHurt_0 : decode cX2_supposeHurt 0 = .ok (.aload_n 0, 1) := by decide +kernel
theorem dX2_supposeHurt_1 : decode cX2_supposeHurt 1 = .ok (.getfield 12, 3) := by decide +kernel
theorem dX2_supposeHurt_4 : decode cX2_supposeHurt 4 = .ok (.iload_n 1, 1) := by decide +kernel
theorem dX2_supposeHurt_5 : decode cX2_supposeHurt 5 = .ok (.invokevirtual 79, 3) := by decide +kernel
theorem dX2_supposeHurt_8 : decode cX2_supposeHurt 8 = .ok (.ifCond .eq 20, 3) := by decide +kernel
theorem dX2_supposeHurt_11 : decode cX2_supposeHurt 11 = .ok (.aload_n 0, 1) := by decide +kernel
theorem dX2_supposeHurt_12 : decode cX2_supposeHurt 12 = .ok (.getfield 12, 3) := by decide +kernel
theorem dX2_supposeHurt_15 : decode cX2_supposeHurt 15 = .ok (.getfield 82, 3) := by decide +kernel
theorem dX2_supposeHurt_18 : decode cX2_supposeHurt 18 = .ok (.iload_n 1, 1) := by decide +kernel
theorem dX2_supposeHurt_19 : decode cX2_supposeHurt 19 = .ok (.iload_n 2, 1) := by decide +kernel
theorem dX2_supposeHurt_20 : decode cX2_supposeHurt 20 = .ok (.iastore, 1) := by decide +kernel
theorem dX2_supposeHurt_21 : decode cX2_supposeHurt 21 = .ok (.aload_n 0, 1) := by decide +kernel
theorem dX2_supposeHurt_22 : decode cX2_supposeHurt 22 = .ok (.getfield 21, 3) := by decide +kernel
theorem dX2_supposeHurt_25 : decode cX2_supposeHurt 25 = .ok (.invokevirtual 33, 3) := by decide +kernel
theorem dX2_supposeHurt_28 : decode cX2_supposeHurt 28 = .ok (.return_, 1) := by decide +kernel
theorem dX2_winsOf_0 : decode cX2_winsOf 0 = .ok (.aload_n 0, 1) := by decide +kernel
theorem dX2_winsOf_1 : decode cX2_winsOf 1 = .ok (.getfield 12, 3) := by decide +kernel
theorem dX2_winsOf_4 : decode cX2_winsOf 4 = .ok (.invokevirtual 40, 3) := by decide +kernel
theorem dX2_winsOf_7 : decode cX2_winsOf 7 = .ok (.ifCond .ne 25, 3) := by decide +kernel
theorem dX2_winsOf_10 : decode cX2_winsOf 10 = .ok (.aload_n 0, 1) := by decide +kernel
theorem dX2_winsOf_11 : decode cX2_winsOf 11 = .ok (.getfield 12, 3) := by decide +kernel
theorem dX2_winsOf_14 : decode cX2_winsOf 14 = .ok (.aload_n 0, 1) := by decide +kernel
theorem dX2_winsOf_15 : decode cX2_winsOf 15 = .ok (.getfield 12, 3) := by decide +kernel
theorem dX2_winsOf_18 : decode cX2_winsOf 18 = .ok (.aload_n 0, 1) := by decide +kernel
theorem dX2_winsOf_19 : decode cX2_winsOf 19 = .ok (.getfield 12, 3) := by decide +kernel
theorem dX2_winsOf_22 : decode cX2_winsOf 22 = .ok (.getfield 36, 3) := by decide +kernel
theorem dX2_winsOf_25 : decode cX2_winsOf 25 = .ok (.iload_n 2, 1) := by decide +kernel
theorem dX2_winsOf_26 : decode cX2_winsOf 26 = .ok (.invokevirtual 47, 3) := by decide +kernel
theorem dX2_winsOf_29 : decode cX2_winsOf 29 = .ok (.invokevirtual 85, 3) := by decide +kernel
theorem dX2_winsOf_32 : decode cX2_winsOf 32 = .ok (.aload_n 0, 1) := by decide +kernel
theorem dX2_winsOf_33 : decode cX2_winsOf 33 = .ok (.getfield 12, 3) := by decide +kernel
theorem dX2_winsOf_36 : decode cX2_winsOf 36 = .ok (.getfield 36, 3) := by decide +kernel
theorem dX2_winsOf_39 : decode cX2_winsOf 39 = .ok (.istore 4, 2) := by decide +kernel
theorem dX2_winsOf_41 : decode cX2_winsOf 41 = .ok (.iconst 0, 1) := by decide +kernel
theorem dX2_winsOf_42 : decode cX2_winsOf 42 = .ok (.istore 5, 2) := by decide +kernel
theorem dX2_winsOf_44 : decode cX2_winsOf 44 = .ok (.iconst 0, 1) := by decide +kernel
theorem dX2_winsOf_45 : decode cX2_winsOf 45 = .ok (.istore 6, 2) := by decide +kernel
theorem dX2_winsOf_47 : decode cX2_winsOf 47 = .ok (.iload 6, 2) := by decide +kernel
theorem dX2_winsOf_49 : decode cX2_winsOf 49 = .ok (.iload_n 3, 1) := by decide +kernel
theorem dX2_winsOf_50 : decode cX2_winsOf 50 = .ok (.if_icmp .ge 36, 3) := by decide +kernel
theorem dX2_winsOf_53 : decode cX2_winsOf 53 = .ok (.aload_n 0, 1) := by decide +kernel
theorem dX2_winsOf_54 : decode cX2_winsOf 54 = .ok (.getfield 12, 3) := by decide +kernel
theorem dX2_winsOf_57 : decode cX2_winsOf 57 = .ok (.aload_n 1, 1) := by decide +kernel
theorem dX2_winsOf_58 : decode cX2_winsOf 58 = .ok (.invokevirtual 89, 3) := by decide +kernel
theorem dX2_winsOf_61 : decode cX2_winsOf 61 = .ok (.aload_n 0, 1) := by decide +kernel
theorem dX2_winsOf_62 : decode cX2_winsOf 62 = .ok (.getfield 12, 3) := by decide +kernel
theorem dX2_winsOf_65 : decode cX2_winsOf 65 = .ok (.iload 4, 2) := by decide +kernel
theorem dX2_winsOf_67 : decode cX2_winsOf 67 = .ok (.putfield 36, 3) := by decide +kernel
theorem dX2_winsOf_70 : decode cX2_winsOf 70 = .ok (.aload_n 0, 1) := by decide +kernel
theorem dX2_winsOf_71 : decode cX2_winsOf 71 = .ok (.invokevirtual 92, 3) := by decide +kernel
theorem dX2_winsOf_74 : decode cX2_winsOf 74 = .ok (.ifCond .eq 6, 3) := by decide +kernel
theorem dX2_winsOf_77 : decode cX2_winsOf 77 = .ok (.iinc 5 1, 3) := by decide +kernel
theorem dX2_winsOf_80 : decode cX2_winsOf 80 = .ok (.iinc 6 1, 3) := by decide +kernel
theorem dX2_winsOf_83 : decode cX2_winsOf 83 = .ok (.goto (-36), 3) := by decide +kernel
theorem dX2_winsOf_86 : decode cX2_winsOf 86 = .ok (.aload_n 1, 1) := by decide +kernel
theorem dX2_winsOf_87 : decode cX2_winsOf 87 = .ok (.aload_n 0, 1) := by decide +kernel
theorem dX2_winsOf_88 : decode cX2_winsOf 88 = .ok (.getfield 12, 3) := by decide +kernel
theorem dX2_winsOf_91 : decode cX2_winsOf 91 = .ok (.getfield 95, 3) := by decide +kernel
theorem dX2_winsOf_94 : decode cX2_winsOf 94 = .ok (.putfield 95, 3) := by decide +kernel
theorem dX2_winsOf_97 : decode cX2_winsOf 97 = .ok (.iload 5, 2) := by decide +kernel
theorem dX2_winsOf_99 : decode cX2_winsOf 99 = .ok (.ireturn, 1) := by decide +kernel
theorem dX2_winsOne_0 : decode cX2_winsOne 0 = .ok (.iconst 0, 1) := by decide +kernel
theorem dX2_winsOne_1 : decode cX2_winsOne 1 = .ok (.istore_n 1, 1) := by decide +kernel
theorem dX2_winsOne_2 : decode cX2_winsOne 2 = .ok (.iload_n 1, 1) := by decide +kernel
theorem dX2_winsOne_3 : decode cX2_winsOne 3 = .ok (.bipush 40, 2) := by decide +kernel
theorem dX2_winsOne_5 : decode cX2_winsOne 5 = .ok (.if_icmp .ge 34, 3) := by decide +kernel
theorem dX2_winsOne_8 : decode cX2_winsOne 8 = .ok (.aload_n 0, 1) := by decide +kernel
theorem dX2_winsOne_9 : decode cX2_winsOne 9 = .ok (.getfield 12, 3) := by decide +kernel
theorem dX2_winsOne_12 : decode cX2_winsOne 12 = .ok (.invokevirtual 98, 3) := by decide +kernel
theorem dX2_winsOne_15 : decode cX2_winsOne 15 = .ok (.ifCond .ne 24, 3) := by decide +kernel
theorem dX2_winsOne_18 : decode cX2_winsOne 18 = .ok (.aload_n 0, 1) := by decide +kernel
theorem dX2_winsOne_19 : decode cX2_winsOne 19 = .ok (.getfield 12, 3) := by decide +kernel
theorem dX2_winsOne_22 : decode cX2_winsOne 22 = .ok (.invokevirtual 102, 3) := by decide +kernel
theorem dX2_winsOne_25 : decode cX2_winsOne 25 = .ok (.aload_n 0, 1) := by decide +kernel
theorem dX2_winsOne_26 : decode cX2_winsOne 26 = .ok (.getfield 12, 3) := by decide +kernel
theorem dX2_winsOne_29 : decode cX2_winsOne 29 = .ok (.invokevirtual 105, 3) := by decide +kernel
theorem dX2_winsOne_32 : decode cX2_winsOne 32 = .ok (.pop, 1) := by decide +kernel
theorem dX2_winsOne_33 : decode cX2_winsOne 33 = .ok (.iinc 1 1, 3) := by decide +kernel
theorem dX2_winsOne_36 : decode cX2_winsOne 36 = .ok (.goto (-34), 3) := by decide +kernel
theorem dX2_winsOne_39 : decode cX2_winsOne 39 = .ok (.aload_n 0, 1) := by decide +kernel
theorem dX2_winsOne_40 : decode cX2_winsOne 40 = .ok (.getfield 12, 3) := by decide +kernel
theorem dX2_winsOne_43 : decode cX2_winsOne 43 = .ok (.invokevirtual 98, 3) := by decide +kernel
theorem dX2_winsOne_46 : decode cX2_winsOne 46 = .ok (.iconst 1, 1) := by decide +kernel
theorem dX2_winsOne_47 : decode cX2_winsOne 47 = .ok (.if_icmp .ne 7, 3) := by decide +kernel
theorem dX2_winsOne_50 : decode cX2_winsOne 50 = .ok (.iconst 1, 1) := by decide +kernel
theorem dX2_winsOne_51 : decode cX2_winsOne 51 = .ok (.goto 4, 3) := by decide +kernel
theorem dX2_winsOne_54 : decode cX2_winsOne 54 = .ok (.iconst 0, 1) := by decide +kernel
theorem dX2_winsOne_55 : decode cX2_winsOne 55 = .ok (.ireturn, 1) := by decide +kernel
theorem dX3_force_0 : decode cX3_force 0 = .ok (.iconst 1, 1) := by decide +kernel
theorem dX3_force_1 : decode cX3_force 1 = .ok (.iload_n 1, 1) := by decide +kernel
theorem dX3_force_2 : decode cX3_force 2 = .ok (.iload_n 2, 1) := by decide +kernel
theorem dX3_force_3 : decode cX3_force 3 = .ok (.iconst 2, 1) := by decide +kernel
theorem dX3_force_4 : decode cX3_force 4 = .ok (.idiv, 1) := by decide +kernel
theorem dX3_force_5 : decode cX3_force 5 = .ok (.isub, 1) := by decide +kernel
theorem dX3_force_6 : decode cX3_force 6 = .ok (.invokestatic 7, 3) := by decide +kernel
theorem dX3_force_9 : decode cX3_force 9 = .ok (.istore_n 3, 1) := by decide +kernel
theorem dX3_force_10 : decode cX3_force 10 = .ok (.iload_n 0, 1) := by decide +kernel
theorem dX3_force_11 : decode cX3_force 11 = .ok (.iconst 1, 1) := by decide +kernel
theorem dX3_force_12 : decode cX3_force 12 = .ok (.if_icmp .ne 9, 3) := by decide +kernel
theorem dX3_force_15 : decode cX3_force 15 = .ok (.iload_n 3, 1) := by decide +kernel
theorem dX3_force_16 : decode cX3_force 16 = .ok (.iconst 2, 1) := by decide +kernel
theorem dX3_force_17 : decode cX3_force 17 = .ok (.iadd, 1) := by decide +kernel
theorem dX3_force_18 : decode cX3_force 18 = .ok (.goto 4, 3) := by decide +kernel
theorem dX3_force_21 : decode cX3_force 21 = .ok (.iload_n 3, 1) := by decide +kernel
theorem dX3_force_22 : decode cX3_force 22 = .ok (.ireturn, 1) := by decide +kernel
theorem dX3_stride_0 : decode cX3_stride 0 = .ok (.iload_n 0, 1) := by decide +kernel
theorem dX3_stride_1 : decode cX3_stride 1 = .ok (.iconst 1, 1) := by decide +kernel
theorem dX3_stride_2 : decode cX3_stride 2 = .ok (.if_icmp .ne 13, 3) := by decide +kernel
theorem dX3_stride_5 : decode cX3_stride 5 = .ok (.iconst 1, 1) := by decide +kernel
theorem dX3_stride_6 : decode cX3_stride 6 = .ok (.iload_n 1, 1) := by decide +kernel
theorem dX3_stride_7 : decode cX3_stride 7 = .ok (.iconst 1, 1) := by decide +kernel
theorem dX3_stride_8 : decode cX3_stride 8 = .ok (.isub, 1) := by decide +kernel
theorem dX3_stride_9 : decode cX3_stride 9 = .ok (.invokestatic 7, 3) := by decide +kernel
theorem dX3_stride_12 : decode cX3_stride 12 = .ok (.goto 4, 3) := by decide +kernel
theorem dX3_stride_15 : decode cX3_stride 15 = .ok (.iload_n 1, 1) := by decide +kernel
theorem dX3_stride_16 : decode cX3_stride 16 = .ok (.istore_n 3, 1) := by decide +kernel
theorem dX3_stride_17 : decode cX3_stride 17 = .ok (.iconst 1, 1) := by decide +kernel
theorem dX3_stride_18 : decode cX3_stride 18 = .ok (.iload_n 3, 1) := by decide +kernel
theorem dX3_stride_19 : decode cX3_stride 19 = .ok (.iload_n 2, 1) := by decide +kernel
theorem dX3_stride_20 : decode cX3_stride 20 = .ok (.iconst 2, 1) := by decide +kernel
theorem dX3_stride_21 : decode cX3_stride 21 = .ok (.idiv, 1) := by decide +kernel
theorem dX3_stride_22 : decode cX3_stride 22 = .ok (.isub, 1) := by decide +kernel
theorem dX3_stride_23 : decode cX3_stride 23 = .ok (.invokestatic 7, 3) := by decide +kernel
theorem dX3_stride_26 : decode cX3_stride 26 = .ok (.ireturn, 1) := by decide +kernel
theorem dX3_pointsIn_0 : decode cX3_pointsIn 0 = .ok (.iload_n 0, 1) := by decide +kernel
theorem dX3_pointsIn_1 : decode cX3_pointsIn 1 = .ok (.lookupswitch 55 #[(2, 27), (3, 33)], 27) := by decide +kernel
theorem dX3_pointsIn_28 : decode cX3_pointsIn 28 = .ok (.iload_n 2, 1) := by decide +kernel
theorem dX3_pointsIn_29 : decode cX3_pointsIn 29 = .ok (.iload_n 1, 1) := by decide +kernel
theorem dX3_pointsIn_30 : decode cX3_pointsIn 30 = .ok (.imul, 1) := by decide +kernel
theorem dX3_pointsIn_31 : decode cX3_pointsIn 31 = .ok (.iconst 2, 1) := by decide +kernel
theorem dX3_pointsIn_32 : decode cX3_pointsIn 32 = .ok (.idiv, 1) := by decide +kernel
theorem dX3_pointsIn_33 : decode cX3_pointsIn 33 = .ok (.ireturn, 1) := by decide +kernel
theorem dX3_pointsIn_34 : decode cX3_pointsIn 34 = .ok (.iload_n 2, 1) := by decide +kernel
theorem dX3_pointsIn_35 : decode cX3_pointsIn 35 = .ok (.bipush 6, 2) := by decide +kernel
theorem dX3_pointsIn_37 : decode cX3_pointsIn 37 = .ok (.invokestatic 15, 3) := by decide +kernel
theorem dX3_pointsIn_40 : decode cX3_pointsIn 40 = .ok (.iload_n 1, 1) := by decide +kernel
theorem dX3_pointsIn_41 : decode cX3_pointsIn 41 = .ok (.imul, 1) := by decide +kernel
theorem dX3_pointsIn_42 : decode cX3_pointsIn 42 = .ok (.iconst 2, 1) := by decide +kernel
theorem dX3_pointsIn_43 : decode cX3_pointsIn 43 = .ok (.idiv, 1) := by decide +kernel
theorem dX3_pointsIn_44 : decode cX3_pointsIn 44 = .ok (.iconst 0, 1) := by decide +kernel
theorem dX3_pointsIn_45 : decode cX3_pointsIn 45 = .ok (.iload_n 2, 1) := by decide +kernel
theorem dX3_pointsIn_46 : decode cX3_pointsIn 46 = .ok (.bipush 6, 2) := by decide +kernel
theorem dX3_pointsIn_48 : decode cX3_pointsIn 48 = .ok (.isub, 1) := by decide +kernel
theorem dX3_pointsIn_49 : decode cX3_pointsIn 49 = .ok (.invokestatic 7, 3) := by decide +kernel
theorem dX3_pointsIn_52 : decode cX3_pointsIn 52 = .ok (.iload_n 1, 1) := by decide +kernel
theorem dX3_pointsIn_53 : decode cX3_pointsIn 53 = .ok (.imul, 1) := by decide +kernel
theorem dX3_pointsIn_54 : decode cX3_pointsIn 54 = .ok (.iadd, 1) := by decide +kernel
theorem dX3_pointsIn_55 : decode cX3_pointsIn 55 = .ok (.ireturn, 1) := by decide +kernel
theorem dX3_pointsIn_56 : decode cX3_pointsIn 56 = .ok (.iload_n 2, 1) := by decide +kernel
theorem dX3_pointsIn_57 : decode cX3_pointsIn 57 = .ok (.iload_n 1, 1) := by decide +kernel
theorem dX3_pointsIn_58 : decode cX3_pointsIn 58 = .ok (.imul, 1) := by decide +kernel
theorem dX3_pointsIn_59 : decode cX3_pointsIn 59 = .ok (.ireturn, 1) := by decide +kernel
theorem dX3_momentsFor_0 : decode cX3_momentsFor 0 = .ok (.iload_n 0, 1) := by decide +kernel
theorem dX3_momentsFor_1 : decode cX3_momentsFor 1 = .ok (.lookupswitch 68 #[(2, 27), (3, 35)], 27) := by decide +kernel
theorem dX3_momentsFor_28 : decode cX3_momentsFor 28 = .ok (.iconst 2, 1) := by decide +kernel
theorem dX3_momentsFor_29 : decode cX3_momentsFor 29 = .ok (.iload_n 2, 1) := by decide +kernel
theorem dX3_momentsFor_30 : decode cX3_momentsFor 30 = .ok (.imul, 1) := by decide +kernel
theorem dX3_momentsFor_31 : decode cX3_momentsFor 31 = .ok (.iload_n 1, 1) := by decide +kernel
theorem dX3_momentsFor_32 : decode cX3_momentsFor 32 = .ok (.invokestatic 18, 3) := by decide +kernel
theorem dX3_momentsFor_35 : decode cX3_momentsFor 35 = .ok (.ireturn, 1) := by decide +kernel
theorem dX3_momentsFor_36 : decode cX3_momentsFor 36 = .ok (.bipush 6, 2) := by decide +kernel
theorem dX3_momentsFor_38 : decode cX3_momentsFor 38 = .ok (.iload_n 1, 1) := by decide +kernel
theorem dX3_momentsFor_39 : decode cX3_momentsFor 39 = .ok (.imul, 1) := by decide +kernel
theorem dX3_momentsFor_40 : decode cX3_momentsFor 40 = .ok (.iconst 2, 1) := by decide +kernel
theorem dX3_momentsFor_41 : decode cX3_momentsFor 41 = .ok (.idiv, 1) := by decide +kernel
theorem dX3_momentsFor_42 : decode cX3_momentsFor 42 = .ok (.istore_n 3, 1) := by decide +kernel
theorem dX3_momentsFor_43 : decode cX3_momentsFor 43 = .ok (.iload_n 2, 1) := by decide +kernel
theorem dX3_momentsFor_44 : decode cX3_momentsFor 44 = .ok (.iload_n 3, 1) := by decide +kernel
theorem dX3_momentsFor_45 : decode cX3_momentsFor 45 = .ok (.if_icmp .gt 13, 3) := by decide +kernel
theorem dX3_momentsFor_48 : decode cX3_momentsFor 48 = .ok (.iconst 2, 1) := by decide +kernel
theorem dX3_momentsFor_49 : decode cX3_momentsFor 49 = .ok (.iload_n 2, 1) := by decide +kernel
theorem dX3_momentsFor_50 : decode cX3_momentsFor 50 = .ok (.imul, 1) := by decide +kernel
theorem dX3_momentsFor_51 : decode cX3_momentsFor 51 = .ok (.iload_n 1, 1) := by decide +kernel
theorem dX3_momentsFor_52 : decode cX3_momentsFor 52 = .ok (.invokestatic 18, 3) := by decide +kernel
theorem dX3_momentsFor_55 : decode cX3_momentsFor 55 = .ok (.goto 13, 3) := by decide +kernel
theorem dX3_momentsFor_58 : decode cX3_momentsFor 58 = .ok (.bipush 6, 2) := by decide +kernel
theorem dX3_momentsFor_60 : decode cX3_momentsFor 60 = .ok (.iload_n 2, 1) := by decide +kernel
theorem dX3_momentsFor_61 : decode cX3_momentsFor 61 = .ok (.iload_n 3, 1) := by decide +kernel
theorem dX3_momentsFor_62 : decode cX3_momentsFor 62 = .ok (.isub, 1) := by decide +kernel
theorem dX3_momentsFor_63 : decode cX3_momentsFor 63 = .ok (.iload_n 1, 1) := by decide +kernel
theorem dX3_momentsFor_64 : decode cX3_momentsFor 64 = .ok (.invokestatic 18, 3) := by decide +kernel
theorem dX3_momentsFor_67 : decode cX3_momentsFor 67 = .ok (.iadd, 1) := by decide +kernel
theorem dX3_momentsFor_68 : decode cX3_momentsFor 68 = .ok (.ireturn, 1) := by decide +kernel
theorem dX3_momentsFor_69 : decode cX3_momentsFor 69 = .ok (.iload_n 2, 1) := by decide +kernel
theorem dX3_momentsFor_70 : decode cX3_momentsFor 70 = .ok (.iload_n 1, 1) := by decide +kernel
theorem dX3_momentsFor_71 : decode cX3_momentsFor 71 = .ok (.invokestatic 18, 3) := by decide +kernel
theorem dX3_momentsFor_74 : decode cX3_momentsFor 74 = .ok (.ireturn, 1) := by decide +kernel
theorem dX3_shares_0 : decode cX3_shares 0 = .ok (.iload_n 1, 1) := by decide +kernel
theorem dX3_shares_1 : decode cX3_shares 1 = .ok (.iconst 1, 1) := by decide +kernel
theorem dX3_shares_2 : decode cX3_shares 2 = .ok (.if_icmp .ge 7, 3) := by decide +kernel
theorem dX3_shares_5 : decode cX3_shares 5 = .ok (.iload_n 0, 1) := by decide +kernel
theorem dX3_shares_6 : decode cX3_shares 6 = .ok (.goto 10, 3) := by decide +kernel
theorem dX3_shares_9 : decode cX3_shares 9 = .ok (.iload_n 0, 1) := by decide +kernel
theorem dX3_shares_10 : decode cX3_shares 10 = .ok (.iload_n 1, 1) := by decide +kernel
theorem dX3_shares_11 : decode cX3_shares 11 = .ok (.iadd, 1) := by decide +kernel
theorem dX3_shares_12 : decode cX3_shares 12 = .ok (.iconst 1, 1) := by decide +kernel
theorem dX3_shares_13 : decode cX3_shares 13 = .ok (.isub, 1) := by decide +kernel
theorem dX3_shares_14 : decode cX3_shares 14 = .ok (.iload_n 1, 1) := by decide +kernel
theorem dX3_shares_15 : decode cX3_shares 15 = .ok (.idiv, 1) := by decide +kernel
theorem dX3_shares_16 : decode cX3_shares 16 = .ok (.ireturn, 1) := by decide +kernel
theorem dX4_init_0 : decode cX4_init 0 = .ok (.aload_n 0, 1) := by decide +kernel
theorem dX4_init_1 : decode cX4_init 1 = .ok (.invokespecial 3, 3) := by decide +kernel
theorem dX4_init_4 : decode cX4_init 4 = .ok (.aload_n 0, 1) := by decide +kernel
theorem dX4_init_5 : decode cX4_init 5 = .ok (.bipush 40, 2) := by decide +kernel
theorem dX4_init_7 : decode cX4_init 7 = .ok (.newarray .int, 2) := by decide +kernel
theorem dX4_init_9 : decode cX4_init 9 = .ok (.putfield 11, 3) := by decide +kernel
theorem dX4_init_12 : decode cX4_init 12 = .ok (.aload_n 0, 1) := by decide +kernel
theorem dX4_init_13 : decode cX4_init 13 = .ok (.bipush 8, 2) := by decide +kernel
theorem dX4_init_15 : decode cX4_init 15 = .ok (.newarray .int, 2) := by decide +kernel
theorem dX4_init_17 : decode cX4_init 17 = .ok (.putfield 15, 3) := by decide +kernel
theorem dX4_init_20 : decode cX4_init 20 = .ok (.aload_n 0, 1) := by decide +kernel
theorem dX4_init_21 : decode cX4_init 21 = .ok (.bipush 8, 2) := by decide +kernel
theorem dX4_init_23 : decode cX4_init 23 = .ok (.newarray .int, 2) := by decide +kernel
theorem dX4_init_25 : decode cX4_init 25 = .ok (.putfield 18, 3) := by decide +kernel
theorem dX4_init_28 : decode cX4_init 28 = .ok (.aload_n 0, 1) := by decide +kernel
theorem dX4_init_29 : decode cX4_init 29 = .ok (.bipush 8, 2) := by decide +kernel
theorem dX4_init_31 : decode cX4_init 31 = .ok (.newarray .int, 2) := by decide +kernel
theorem dX4_init_33 : decode cX4_init 33 = .ok (.putfield 21, 3) := by decide +kernel
theorem dX4_init_36 : decode cX4_init 36 = .ok (.return_, 1) := by decide +kernel
theorem dX4_forget_0 : decode cX4_forget 0 = .ok (.aload_n 0, 1) := by decide +kernel
theorem dX4_forget_1 : decode cX4_forget 1 = .ok (.iconst 0, 1) := by decide +kernel
theorem dX4_forget_2 : decode cX4_forget 2 = .ok (.putfield 24, 3) := by decide +kernel
theorem dX4_forget_5 : decode cX4_forget 5 = .ok (.return_, 1) := by decide +kernel
theorem dX4_takeFrom_0 : decode cX4_takeFrom 0 = .ok (.aload_n 0, 1) := by decide +kernel
theorem dX4_takeFrom_1 : decode cX4_takeFrom 1 = .ok (.aload_n 1, 1) := by decide +kernel
theorem dX4_takeFrom_2 : decode cX4_takeFrom 2 = .ok (.getfield 24, 3) := by decide +kernel
theorem dX4_takeFrom_5 : decode cX4_takeFrom 5 = .ok (.putfield 24, 3) := by decide +kernel
theorem dX4_takeFrom_8 : decode cX4_takeFrom 8 = .ok (.aload_n 0, 1) := by decide +kernel
theorem dX4_takeFrom_9 : decode cX4_takeFrom 9 = .ok (.aload_n 1, 1) := by decide +kernel
theorem dX4_takeFrom_10 : decode cX4_takeFrom 10 = .ok (.getfield 28, 3) := by decide +kernel
theorem dX4_takeFrom_13 : decode cX4_takeFrom 13 = .ok (.putfield 28, 3) := by decide +kernel
theorem dX4_takeFrom_16 : decode cX4_takeFrom 16 = .ok (.aload_n 1, 1) := by decide +kernel
theorem dX4_takeFrom_17 : decode cX4_takeFrom 17 = .ok (.getfield 11, 3) := by decide +kernel
theorem dX4_takeFrom_20 : decode cX4_takeFrom 20 = .ok (.iconst 0, 1) := by decide +kernel
theorem dX4_takeFrom_21 : decode cX4_takeFrom 21 = .ok (.aload_n 0, 1) := by decide +kernel
theorem dX4_takeFrom_22 : decode cX4_takeFrom 22 = .ok (.getfield 11, 3) := by decide +kernel
theorem dX4_takeFrom_25 : decode cX4_takeFrom 25 = .ok (.iconst 0, 1) := by decide +kernel
theorem dX4_takeFrom_26 : decode cX4_takeFrom 26 = .ok (.aload_n 0, 1) := by decide +kernel
theorem dX4_takeFrom_27 : decode cX4_takeFrom 27 = .ok (.getfield 11, 3) := by decide +kernel
theorem dX4_takeFrom_30 : decode cX4_takeFrom 30 = .ok (.arraylength, 1) := by decide +kernel
theorem dX4_takeFrom_31 : decode cX4_takeFrom 31 = .ok (.invokestatic 31, 3) := by decide +kernel
theorem dX4_takeFrom_34 : decode cX4_takeFrom 34 = .ok (.aload_n 1, 1) := by decide +kernel
theorem dX4_takeFrom_35 : decode cX4_takeFrom 35 = .ok (.getfield 15, 3) := by decide +kernel
theorem dX4_takeFrom_38 : decode cX4_takeFrom 38 = .ok (.iconst 0, 1) := by decide +kernel
theorem dX4_takeFrom_39 : decode cX4_takeFrom 39 = .ok (.aload_n 0, 1) := by decide +kernel
theorem dX4_takeFrom_40 : decode cX4_takeFrom 40 = .ok (.getfield 15, 3) := by decide +kernel
theorem dX4_takeFrom_43 : decode cX4_takeFrom 43 = .ok (.iconst 0, 1) := by decide +kernel
theorem dX4_takeFrom_44 : decode cX4_takeFrom 44 = .ok (.bipush 8, 2) := by decide +kernel
theorem dX4_takeFrom_46 : decode cX4_takeFrom 46 = .ok (.invokestatic 31, 3) := by decide +kernel
theorem dX4_takeFrom_49 : decode cX4_takeFrom 49 = .ok (.aload_n 1, 1) := by decide +kernel
theorem dX4_takeFrom_50 : decode cX4_takeFrom 50 = .ok (.getfield 18, 3) := by decide +kernel
theorem dX4_takeFrom_53 : decode cX4_takeFrom 53 = .ok (.iconst 0, 1) := by decide +kernel
theorem dX4_takeFrom_54 : decode cX4_takeFrom 54 = .ok (.aload_n 0, 1) := by decide +kernel
theorem dX4_takeFrom_55 : decode cX4_takeFrom 55 = .ok (.getfield 18, 3) := by decide +kernel
theorem dX4_takeFrom_58 : decode cX4_takeFrom 58 = .ok (.iconst 0, 1) := by decide +kernel
theorem dX4_takeFrom_59 : decode cX4_takeFrom 59 = .ok (.bipush 8, 2) := by decide +kernel
theorem dX4_takeFrom_61 : decode cX4_takeFrom 61 = .ok (.invokestatic 31, 3) := by decide +kernel
theorem dX4_takeFrom_64 : decode cX4_takeFrom 64 = .ok (.aload_n 1, 1) := by decide +kernel
theorem dX4_takeFrom_65 : decode cX4_takeFrom 65 = .ok (.getfield 21, 3) := by decide +kernel
theorem dX4_takeFrom_68 : decode cX4_takeFrom 68 = .ok (.iconst 0, 1) := by decide +kernel
theorem dX4_takeFrom_69 : decode cX4_takeFrom 69 = .ok (.aload_n 0, 1) := by decide +kernel
theorem dX4_takeFrom_70 : decode cX4_takeFrom 70 = .ok (.getfield 21, 3) := by decide +kernel
theorem dX4_takeFrom_73 : decode cX4_takeFrom 73 = .ok (.iconst 0, 1) := by decide +kernel
theorem dX4_takeFrom_74 : decode cX4_takeFrom 74 = .ok (.bipush 8, 2) := by decide +kernel
theorem dX4_takeFrom_76 : decode cX4_takeFrom 76 = .ok (.invokestatic 31, 3) := by decide +kernel
theorem dX4_takeFrom_79 : decode cX4_takeFrom 79 = .ok (.return_, 1) := by decide +kernel
theorem dX4_remember_0 : decode cX4_remember 0 = .ok (.aload_n 1, 1) := by decide +kernel
theorem dX4_remember_1 : decode cX4_remember 1 = .ok (.getfield 37, 3) := by decide +kernel
theorem dX4_remember_4 : decode cX4_remember 4 = .ok (.iconst 0, 1) := by decide +kernel
theorem dX4_remember_5 : decode cX4_remember 5 = .ok (.aload_n 0, 1) := by decide +kernel
theorem dX4_remember_6 : decode cX4_remember 6 = .ok (.getfield 11, 3) := by decide +kernel
theorem dX4_remember_9 : decode cX4_remember 9 = .ok (.aload_n 0, 1) := by decide +kernel
theorem dX4_remember_10 : decode cX4_remember 10 = .ok (.getfield 28, 3) := by decide +kernel
theorem dX4_remember_13 : decode cX4_remember 13 = .ok (.iconst 5, 1) := by decide +kernel
theorem dX4_remember_14 : decode cX4_remember 14 = .ok (.imul, 1) := by decide +kernel
theorem dX4_remember_15 : decode cX4_remember 15 = .ok (.iconst 5, 1) := by decide +kernel
theorem dX4_remember_16 : decode cX4_remember 16 = .ok (.invokestatic 31, 3) := by decide +kernel
theorem dX4_remember_19 : decode cX4_remember 19 = .ok (.aload_n 0, 1) := by decide +kernel
theorem dX4_remember_20 : decode cX4_remember 20 = .ok (.getfield 15, 3) := by decide +kernel
theorem dX4_remember_23 : decode cX4_remember 23 = .ok (.aload_n 0, 1) := by decide +kernel
theorem dX4_remember_24 : decode cX4_remember 24 = .ok (.getfield 28, 3) := by decide +kernel
theorem dX4_remember_27 : decode cX4_remember 27 = .ok (.aload_n 1, 1) := by decide +kernel
theorem dX4_remember_28 : decode cX4_remember 28 = .ok (.getfield 40, 3) := by decide +kernel
theorem dX4_remember_31 : decode cX4_remember 31 = .ok (.iastore, 1) := by decide +kernel
theorem dX4_remember_32 : decode cX4_remember 32 = .ok (.aload_n 0, 1) := by decide +kernel
theorem dX4_remember_33 : decode cX4_remember 33 = .ok (.getfield 18, 3) := by decide +kernel
theorem dX4_remember_36 : decode cX4_remember 36 = .ok (.aload_n 0, 1) := by decide +kernel
theorem dX4_remember_37 : decode cX4_remember 37 = .ok (.getfield 28, 3) := by decide +kernel
theorem dX4_remember_40 : decode cX4_remember 40 = .ok (.aload_n 1, 1) := by decide +kernel
theorem dX4_remember_41 : decode cX4_remember 41 = .ok (.getfield 43, 3) := by decide +kernel
theorem dX4_remember_44 : decode cX4_remember 44 = .ok (.iastore, 1) := by decide +kernel
theorem dX4_remember_45 : decode cX4_remember 45 = .ok (.aload_n 0, 1) := by decide +kernel
theorem dX4_remember_46 : decode cX4_remember 46 = .ok (.getfield 21, 3) := by decide +kernel
theorem dX4_remember_49 : decode cX4_remember 49 = .ok (.aload_n 0, 1) := by decide +kernel
theorem dX4_remember_50 : decode cX4_remember 50 = .ok (.getfield 28, 3) := by decide +kernel
theorem dX4_remember_53 : decode cX4_remember 53 = .ok (.aload_n 1, 1) := by decide +kernel
theorem dX4_remember_54 : decode cX4_remember 54 = .ok (.getfield 46, 3) := by decide +kernel
theorem dX4_remember_57 : decode cX4_remember 57 = .ok (.iastore, 1) := by decide +kernel
theorem dX4_remember_58 : decode cX4_remember 58 = .ok (.aload_n 0, 1) := by decide +kernel
theorem dX4_remember_59 : decode cX4_remember 59 = .ok (.aload_n 0, 1) := by decide +kernel
theorem dX4_remember_60 : decode cX4_remember 60 = .ok (.getfield 28, 3) := by decide +kernel
theorem dX4_remember_63 : decode cX4_remember 63 = .ok (.iconst 1, 1) := by decide +kernel
theorem dX4_remember_64 : decode cX4_remember 64 = .ok (.iadd, 1) := by decide +kernel
theorem dX4_remember_65 : decode cX4_remember 65 = .ok (.bipush 8, 2) := by decide +kernel
theorem dX4_remember_67 : decode cX4_remember 67 = .ok (.irem, 1) := by decide +kernel
theorem dX4_remember_68 : decode cX4_remember 68 = .ok (.putfield 28, 3) := by decide +kernel
theorem dX4_remember_71 : decode cX4_remember 71 = .ok (.aload_n 0, 1) := by decide +kernel
theorem dX4_remember_72 : decode cX4_remember 72 = .ok (.bipush 8, 2) := by decide +kernel
theorem dX4_remember_74 : decode cX4_remember 74 = .ok (.aload_n 0, 1) := by decide +kernel
theorem dX4_remember_75 : decode cX4_remember 75 = .ok (.getfield 24, 3) := by decide +kernel
theorem dX4_remember_78 : decode cX4_remember 78 = .ok (.iconst 1, 1) := by decide +kernel
theorem dX4_remember_79 : decode cX4_remember 79 = .ok (.iadd, 1) := by decide +kernel
theorem dX4_remember_80 : decode cX4_remember 80 = .ok (.invokestatic 49, 3) := by decide +kernel
theorem dX4_remember_83 : decode cX4_remember 83 = .ok (.putfield 24, 3) := by decide +kernel
theorem dX4_remember_86 : decode cX4_remember 86 = .ok (.return_, 1) := by decide +kernel
theorem dX4_bringBack_0 : decode cX4_bringBack 0 = .ok (.aload_n 0, 1) := by decide +kernel
theorem dX4_bringBack_1 : decode cX4_bringBack 1 = .ok (.getfield 24, 3) := by decide +kernel
theorem dX4_bringBack_4 : decode cX4_bringBack 4 = .ok (.ifCond .ne 5, 3) := by decide +kernel
theorem dX4_bringBack_7 : decode cX4_bringBack 7 = .ok (.iconst 0, 1) := by decide +kernel
theorem dX4_bringBack_8 : decode cX4_bringBack 8 = .ok (.ireturn, 1) := by decide +kernel
theorem dX4_bringBack_9 : decode cX4_bringBack 9 = .ok (.aload_n 0, 1) := by decide +kernel
theorem dX4_bringBack_10 : decode cX4_bringBack 10 = .ok (.dup, 1) := by decide +kernel
theorem dX4_bringBack_11 : decode cX4_bringBack 11 = .ok (.getfield 24, 3) := by decide +kernel
theorem dX4_bringBack_14 : decode cX4_bringBack 14 = .ok (.iconst 1, 1) := by decide +kernel
theorem dX4_bringBack_15 : decode cX4_bringBack 15 = .ok (.isub, 1) := by decide +kernel
theorem dX4_bringBack_16 : decode cX4_bringBack 16 = .ok (.putfield 24, 3) := by decide +kernel
theorem dX4_bringBack_19 : decode cX4_bringBack 19 = .ok (.aload_n 0, 1) := by decide +kernel
theorem dX4_bringBack_20 : decode cX4_bringBack 20 = .ok (.aload_n 0, 1) := by decide +kernel
theorem dX4_bringBack_21 : decode cX4_bringBack 21 = .ok (.getfield 28, 3) := by decide +kernel
theorem dX4_bringBack_24 : decode cX4_bringBack 24 = .ok (.bipush 8, 2) := by decide +kernel
theorem dX4_bringBack_26 : decode cX4_bringBack 26 = .ok (.iadd, 1) := by decide +kernel
theorem dX4_bringBack_27 : decode cX4_bringBack 27 = .ok (.iconst 1, 1) := by decide +kernel
theorem dX4_bringBack_28 : decode cX4_bringBack 28 = .ok (.isub, 1) := by decide +kernel
theorem dX4_bringBack_29 : decode cX4_bringBack 29 = .ok (.bipush 8, 2) := by decide +kernel
theorem dX4_bringBack_31 : decode cX4_bringBack 31 = .ok (.irem, 1) := by decide +kernel
theorem dX4_bringBack_32 : decode cX4_bringBack 32 = .ok (.putfield 28, 3) := by decide +kernel
theorem dX4_bringBack_35 : decode cX4_bringBack 35 = .ok (.aload_n 0, 1) := by decide +kernel
theorem dX4_bringBack_36 : decode cX4_bringBack 36 = .ok (.getfield 11, 3) := by decide +kernel
theorem dX4_bringBack_39 : decode cX4_bringBack 39 = .ok (.aload_n 0, 1) := by decide +kernel
theorem dX4_bringBack_40 : decode cX4_bringBack 40 = .ok (.getfield 28, 3) := by decide +kernel
theorem dX4_bringBack_43 : decode cX4_bringBack 43 = .ok (.iconst 5, 1) := by decide +kernel
theorem dX4_bringBack_44 : decode cX4_bringBack 44 = .ok (.imul, 1) := by decide +kernel
theorem dX4_bringBack_45 : decode cX4_bringBack 45 = .ok (.aload_n 1, 1) := by decide +kernel
theorem dX4_bringBack_46 : decode cX4_bringBack 46 = .ok (.getfield 37, 3) := by decide +kernel
theorem dX4_bringBack_49 : decode cX4_bringBack 49 = .ok (.iconst 0, 1) := by decide +kernel
theorem dX4_bringBack_50 : decode cX4_bringBack 50 = .ok (.iconst 5, 1) := by decide +kernel
theorem dX4_bringBack_51 : decode cX4_bringBack 51 = .ok (.invokestatic 31, 3) := by decide +kernel
theorem dX4_bringBack_54 : decode cX4_bringBack 54 = .ok (.aload_n 1, 1) := by decide +kernel
theorem dX4_bringBack_55 : decode cX4_bringBack 55 = .ok (.aload_n 0, 1) := by decide +kernel
theorem dX4_bringBack_56 : decode cX4_bringBack 56 = .ok (.getfield 15, 3) := by decide +kernel
theorem dX4_bringBack_59 : decode cX4_bringBack 59 = .ok (.aload_n 0, 1) := by decide +kernel
theorem dX4_bringBack_60 : decode cX4_bringBack 60 = .ok (.getfield 28, 3) := by decide +kernel
theorem dX4_bringBack_63 : decode cX4_bringBack 63 = .ok (.iaload, 1) := by decide +kernel
theorem dX4_bringBack_64 : decode cX4_bringBack 64 = .ok (.putfield 40, 3) := by decide +kernel
theorem dX4_bringBack_67 : decode cX4_bringBack 67 = .ok (.aload_n 1, 1) := by decide +kernel
theorem dX4_bringBack_68 : decode cX4_bringBack 68 = .ok (.aload_n 0, 1) := by decide +kernel
theorem dX4_bringBack_69 : decode cX4_bringBack 69 = .ok (.getfield 18, 3) := by decide +kernel
theorem dX4_bringBack_72 : decode cX4_bringBack 72 = .ok (.aload_n 0, 1) := by decide +kernel
theorem dX4_bringBack_73 : decode cX4_bringBack 73 = .ok (.getfield 28, 3) := by decide +kernel
theorem dX4_bringBack_76 : decode cX4_bringBack 76 = .ok (.iaload, 1) := by decide +kernel
theorem dX4_bringBack_77 : decode cX4_bringBack 77 = .ok (.putfield 43, 3) := by decide +kernel
theorem dX4_bringBack_80 : decode cX4_bringBack 80 = .ok (.aload_n 1, 1) := by decide +kernel
theorem dX4_bringBack_81 : decode cX4_bringBack 81 = .ok (.aload_n 0, 1) := by decide +kernel
theorem dX4_bringBack_82 : decode cX4_bringBack 82 = .ok (.getfield 21, 3) := by decide +kernel
theorem dX4_bringBack_85 : decode cX4_bringBack 85 = .ok (.aload_n 0, 1) := by decide +kernel
theorem dX4_bringBack_86 : decode cX4_bringBack 86 = .ok (.getfield 28, 3) := by decide +kernel
theorem dX4_bringBack_89 : decode cX4_bringBack 89 = .ok (.iaload, 1) := by decide +kernel
theorem dX4_bringBack_90 : decode cX4_bringBack 90 = .ok (.putfield 46, 3) := by decide +kernel
theorem dX4_bringBack_93 : decode cX4_bringBack 93 = .ok (.iconst 1, 1) := by decide +kernel
theorem dX4_bringBack_94 : decode cX4_bringBack 94 = .ok (.ireturn, 1) := by decide +kernel
theorem dX5_init_0 : decode cX5_init 0 = .ok (.aload_n 0, 1) := by decide +kernel
theorem dX5_init_1 : decode cX5_init 1 = .ok (.invokespecial 3, 3) := by decide +kernel
theorem dX5_init_4 : decode cX5_init 4 = .ok (.aload_n 0, 1) := by decide +kernel
theorem dX5_init_5 : decode cX5_init 5 = .ok (.iconst 1, 1) := by decide +kernel
theorem dX5_init_6 : decode cX5_init 6 = .ok (.putfield 9, 3) := by decide +kernel
theorem dX5_init_9 : decode cX5_init 9 = .ok (.aload_n 0, 1) := by decide +kernel
theorem dX5_init_10 : decode cX5_init 10 = .ok (.bipush 40, 2) := by decide +kernel
theorem dX5_init_12 : decode cX5_init 12 = .ok (.newarray .int, 2) := by decide +kernel
theorem dX5_init_14 : decode cX5_init 14 = .ok (.putfield 15, 3) := by decide +kernel
theorem dX5_init_17 : decode cX5_init 17 = .ok (.aload_n 0, 1) := by decide +kernel
theorem dX5_init_18 : decode cX5_init 18 = .ok (.bipush 40, 2) := by decide +kernel
theorem dX5_init_20 : decode cX5_init 20 = .ok (.newarray .int, 2) := by decide +kernel
theorem dX5_init_22 : decode cX5_init 22 = .ok (.putfield 19, 3) := by decide +kernel
theorem dX5_init_25 : decode cX5_init 25 = .ok (.aload_n 0, 1) := by decide +kernel
theorem dX5_init_26 : decode cX5_init 26 = .ok (.iconst 5, 1) := by decide +kernel
theorem dX5_init_27 : decode cX5_init 27 = .ok (.newarray .int, 2) := by decide +kernel
theorem dX5_init_29 : decode cX5_init 29 = .ok (.putfield 22, 3) := by decide +kernel
theorem dX5_init_32 : decode cX5_init 32 = .ok (.aload_n 0, 1) := by decide +kernel
theorem dX5_init_33 : decode cX5_init 33 = .ok (.iconst 5, 1) := by decide +kernel
theorem dX5_init_34 : decode cX5_init 34 = .ok (.newarray .int, 2) := by decide +kernel
theorem dX5_init_36 : decode cX5_init 36 = .ok (.putfield 25, 3) := by decide +kernel
theorem dX5_init_39 : decode cX5_init 39 = .ok (.aload_n 0, 1) := by decide +kernel
theorem dX5_init_40 : decode cX5_init 40 = .ok (.iconst 5, 1) := by decide +kernel
theorem dX5_init_41 : decode cX5_init 41 = .ok (.newarray .int, 2) := by decide +kernel
theorem dX5_init_43 : decode cX5_init 43 = .ok (.putfield 28, 3) := by decide +kernel
theorem dX5_init_46 : decode cX5_init 46 = .ok (.aload_n 0, 1) := by decide +kernel
theorem dX5_init_47 : decode cX5_init 47 = .ok (.iconst 5, 1) := by decide +kernel
theorem dX5_init_48 : decode cX5_init 48 = .ok (.newarray .int, 2) := by decide +kernel
theorem dX5_init_50 : decode cX5_init 50 = .ok (.putfield 31, 3) := by decide +kernel
theorem dX5_init_53 : decode cX5_init 53 = .ok (.aload_n 0, 1) := by decide +kernel
theorem dX5_init_54 : decode cX5_init 54 = .ok (.bipush (-4), 2) := by decide +kernel
theorem dX5_init_56 : decode cX5_init 56 = .ok (.putfield 34, 3) := by decide +kernel
theorem dX5_init_59 : decode cX5_init 59 = .ok (.aload_n 0, 1) := by decide +kernel
theorem dX5_init_60 : decode cX5_init 60 = .ok (.iconst 5, 1) := by decide +kernel
theorem dX5_init_61 : decode cX5_init 61 = .ok (.newarray .int, 2) := by decide +kernel
theorem dX5_init_63 : decode cX5_init 63 = .ok (.putfield 37, 3) := by decide +kernel
theorem dX5_init_66 : decode cX5_init 66 = .ok (.aload_n 0, 1) := by decide +kernel
theorem dX5_init_67 : decode cX5_init 67 = .ok (.iconst 1, 1) := by decide +kernel
theorem dX5_init_68 : decode cX5_init 68 = .ok (.putfield 40, 3) := by decide +kernel
theorem dX5_init_71 : decode cX5_init 71 = .ok (.return_, 1) := by decide +kernel
theorem dX5_takeFrom_0 : decode cX5_takeFrom 0 = .ok (.aload_n 0, 1) := by decide +kernel
theorem dX5_takeFrom_1 : decode cX5_takeFrom 1 = .ok (.aload_n 1, 1) := by decide +kernel
theorem dX5_takeFrom_2 : decode cX5_takeFrom 2 = .ok (.getfield 9, 3) := by decide +kernel
theorem dX5_takeFrom_5 : decode cX5_takeFrom 5 = .ok (.putfield 9, 3) := by decide +kernel
theorem dX5_takeFrom_8 : decode cX5_takeFrom 8 = .ok (.aload_n 0, 1) := by decide +kernel
theorem dX5_takeFrom_9 : decode cX5_takeFrom 9 = .ok (.aload_n 1, 1) := by decide +kernel
theorem dX5_takeFrom_10 : decode cX5_takeFrom 10 = .ok (.getfield 43, 3) := by decide +kernel
theorem dX5_takeFrom_13 : decode cX5_takeFrom 13 = .ok (.putfield 43, 3) := by decide +kernel
theorem dX5_takeFrom_16 : decode cX5_takeFrom 16 = .ok (.aload_n 0, 1) := by decide +kernel
theorem dX5_takeFrom_17 : decode cX5_takeFrom 17 = .ok (.aload_n 1, 1) := by decide +kernel
theorem dX5_takeFrom_18 : decode cX5_takeFrom 18 = .ok (.getfield 46, 3) := by decide +kernel
theorem dX5_takeFrom_21 : decode cX5_takeFrom 21 = .ok (.putfield 46, 3) := by decide +kernel
theorem dX5_takeFrom_24 : decode cX5_takeFrom 24 = .ok (.aload_n 0, 1) := by decide +kernel
theorem dX5_takeFrom_25 : decode cX5_takeFrom 25 = .ok (.aload_n 1, 1) := by decide +kernel
theorem dX5_takeFrom_26 : decode cX5_takeFrom 26 = .ok (.getfield 49, 3) := by decide +kernel
theorem dX5_takeFrom_29 : decode cX5_takeFrom 29 = .ok (.putfield 49, 3) := by decide +kernel
theorem dX5_takeFrom_32 : decode cX5_takeFrom 32 = .ok (.aload_n 0, 1) := by decide +kernel
theorem dX5_takeFrom_33 : decode cX5_takeFrom 33 = .ok (.aload_n 1, 1) := by decide +kernel
theorem dX5_takeFrom_34 : decode cX5_takeFrom 34 = .ok (.getfield 34, 3) := by decide +kernel
theorem dX5_takeFrom_37 : decode cX5_takeFrom 37 = .ok (.putfield 34, 3) := by decide +kernel
theorem dX5_takeFrom_40 : decode cX5_takeFrom 40 = .ok (.aload_n 0, 1) := by decide +kernel
theorem dX5_takeFrom_41 : decode cX5_takeFrom 41 = .ok (.aload_n 1, 1) := by decide +kernel
theorem dX5_takeFrom_42 : decode cX5_takeFrom 42 = .ok (.getfield 40, 3) := by decide +kernel
theorem dX5_takeFrom_45 : decode cX5_takeFrom 45 = .ok (.putfield 40, 3) := by decide +kernel
theorem dX5_takeFrom_48 : decode cX5_takeFrom 48 = .ok (.aload_n 1, 1) := by decide +kernel
theorem dX5_takeFrom_49 : decode cX5_takeFrom 49 = .ok (.getfield 15, 3) := by decide +kernel
theorem dX5_takeFrom_52 : decode cX5_takeFrom 52 = .ok (.iconst 0, 1) := by decide +kernel
theorem dX5_takeFrom_53 : decode cX5_takeFrom 53 = .ok (.aload_n 0, 1) := by decide +kernel
theorem dX5_takeFrom_54 : decode cX5_takeFrom 54 = .ok (.getfield 15, 3) := by decide +kernel
theorem dX5_takeFrom_57 : decode cX5_takeFrom 57 = .ok (.iconst 0, 1) := by decide +kernel
theorem dX5_takeFrom_58 : decode cX5_takeFrom 58 = .ok (.bipush 40, 2) := by decide +kernel
theorem dX5_takeFrom_60 : decode cX5_takeFrom 60 = .ok (.invokestatic 52, 3) := by decide +kernel
theorem dX5_takeFrom_63 : decode cX5_takeFrom 63 = .ok (.aload_n 1, 1) := by decide +kernel
theorem dX5_takeFrom_64 : decode cX5_takeFrom 64 = .ok (.getfield 19, 3) := by decide +kernel
theorem dX5_takeFrom_67 : decode cX5_takeFrom 67 = .ok (.iconst 0, 1) := by decide +kernel
theorem dX5_takeFrom_68 : decode cX5_takeFrom 68 = .ok (.aload_n 0, 1) := by decide +kernel
theorem dX5_takeFrom_69 : decode cX5_takeFrom 69 = .ok (.getfield 19, 3) := by decide +kernel
theorem dX5_takeFrom_72 : decode cX5_takeFrom 72 = .ok (.iconst 0, 1) := by decide +kernel
theorem dX5_takeFrom_73 : decode cX5_takeFrom 73 = .ok (.bipush 40, 2) := by decide +kernel
theorem dX5_takeFrom_75 : decode cX5_takeFrom 75 = .ok (.invokestatic 52, 3) := by decide +kernel
theorem dX5_takeFrom_78 : decode cX5_takeFrom 78 = .ok (.aload_n 1, 1) := by decide +kernel
theorem dX5_takeFrom_79 : decode cX5_takeFrom 79 = .ok (.getfield 22, 3) := by decide +kernel
theorem dX5_takeFrom_82 : decode cX5_takeFrom 82 = .ok (.iconst 0, 1) := by decide +kernel
theorem dX5_takeFrom_83 : decode cX5_takeFrom 83 = .ok (.aload_n 0, 1) := by decide +kernel
theorem dX5_takeFrom_84 : decode cX5_takeFrom 84 = .ok (.getfield 22, 3) := by decide +kernel
theorem dX5_takeFrom_87 : decode cX5_takeFrom 87 = .ok (.iconst 0, 1) := by decide +kernel
theorem dX5_takeFrom_88 : decode cX5_takeFrom 88 = .ok (.iconst 5, 1) := by decide +kernel
theorem dX5_takeFrom_89 : decode cX5_takeFrom 89 = .ok (.invokestatic 52, 3) := by decide +kernel
theorem dX5_takeFrom_92 : decode cX5_takeFrom 92 = .ok (.aload_n 1, 1) := by decide +kernel
theorem dX5_takeFrom_93 : decode cX5_takeFrom 93 = .ok (.getfield 25, 3) := by decide +kernel
theorem dX5_takeFrom_96 : decode cX5_takeFrom 96 = .ok (.iconst 0, 1) := by decide +kernel
theorem dX5_takeFrom_97 : decode cX5_takeFrom 97 = .ok (.aload_n 0, 1) := by decide +kernel
theorem dX5_takeFrom_98 : decode cX5_takeFrom 98 = .ok (.getfield 25, 3) := by decide +kernel
theorem dX5_takeFrom_101 : decode cX5_takeFrom 101 = .ok (.iconst 0, 1) := by decide +kernel
theorem dX5_takeFrom_102 : decode cX5_takeFrom 102 = .ok (.iconst 5, 1) := by decide +kernel
theorem dX5_takeFrom_103 : decode cX5_takeFrom 103 = .ok (.invokestatic 52, 3) := by decide +kernel
theorem dX5_takeFrom_106 : decode cX5_takeFrom 106 = .ok (.aload_n 1, 1) := by decide +kernel
theorem dX5_takeFrom_107 : decode cX5_takeFrom 107 = .ok (.getfield 28, 3) := by decide +kernel
theorem dX5_takeFrom_110 : decode cX5_takeFrom 110 = .ok (.iconst 0, 1) := by decide +kernel
theorem dX5_takeFrom_111 : decode cX5_takeFrom 111 = .ok (.aload_n 0, 1) := by decide +kernel
theorem dX5_takeFrom_112 : decode cX5_takeFrom 112 = .ok (.getfield 28, 3) := by decide +kernel
theorem dX5_takeFrom_115 : decode cX5_takeFrom 115 = .ok (.iconst 0, 1) := by decide +kernel
theorem dX5_takeFrom_116 : decode cX5_takeFrom 116 = .ok (.iconst 5, 1) := by decide +kernel
theorem dX5_takeFrom_117 : decode cX5_takeFrom 117 = .ok (.invokestatic 52, 3) := by decide +kernel
theorem dX5_takeFrom_120 : decode cX5_takeFrom 120 = .ok (.aload_n 1, 1) := by decide +kernel
theorem dX5_takeFrom_121 : decode cX5_takeFrom 121 = .ok (.getfield 37, 3) := by decide +kernel
theorem dX5_takeFrom_124 : decode cX5_takeFrom 124 = .ok (.iconst 0, 1) := by decide +kernel
theorem dX5_takeFrom_125 : decode cX5_takeFrom 125 = .ok (.aload_n 0, 1) := by decide +kernel
theorem dX5_takeFrom_126 : decode cX5_takeFrom 126 = .ok (.getfield 37, 3) := by decide +kernel
theorem dX5_takeFrom_129 : decode cX5_takeFrom 129 = .ok (.iconst 0, 1) := by decide +kernel
theorem dX5_takeFrom_130 : decode cX5_takeFrom 130 = .ok (.iconst 5, 1) := by decide +kernel
theorem dX5_takeFrom_131 : decode cX5_takeFrom 131 = .ok (.invokestatic 52, 3) := by decide +kernel
theorem dX5_takeFrom_134 : decode cX5_takeFrom 134 = .ok (.aload_n 0, 1) := by decide +kernel
theorem dX5_takeFrom_135 : decode cX5_takeFrom 135 = .ok (.aload_n 1, 1) := by decide +kernel
theorem dX5_takeFrom_136 : decode cX5_takeFrom 136 = .ok (.invokevirtual 58, 3) := by decide +kernel
theorem dX5_takeFrom_139 : decode cX5_takeFrom 139 = .ok (.return_, 1) := by decide +kernel
theorem dX5_takeHurts_0 : decode cX5_takeHurts 0 = .ok (.aload_n 1, 1) := by decide +kernel
theorem dX5_takeHurts_1 : decode cX5_takeHurts 1 = .ok (.getfield 31, 3) := by decide +kernel
theorem dX5_takeHurts_4 : decode cX5_takeHurts 4 = .ok (.iconst 0, 1) := by decide +kernel
theorem dX5_takeHurts_5 : decode cX5_takeHurts 5 = .ok (.aload_n 0, 1) := by decide +kernel
theorem dX5_takeHurts_6 : decode cX5_takeHurts 6 = .ok (.getfield 31, 3) := by decide +kernel
theorem dX5_takeHurts_9 : decode cX5_takeHurts 9 = .ok (.iconst 0, 1) := by decide +kernel
theorem dX5_takeHurts_10 : decode cX5_takeHurts 10 = .ok (.iconst 5, 1) := by decide +kernel
theorem dX5_takeHurts_11 : decode cX5_takeHurts 11 = .ok (.invokestatic 52, 3) := by decide +kernel
theorem dX5_takeHurts_14 : decode cX5_takeHurts 14 = .ok (.return_, 1) := by decide +kernel
theorem dX5_clear_0 : decode cX5_clear 0 = .ok (.aload_n 0, 1) := by decide +kernel
theorem dX5_clear_1 : decode cX5_clear 1 = .ok (.iconst 0, 1) := by decide +kernel
theorem dX5_clear_2 : decode cX5_clear 2 = .ok (.putfield 9, 3) := by decide +kernel
theorem dX5_clear_5 : decode cX5_clear 5 = .ok (.aload_n 0, 1) := by decide +kernel
theorem dX5_clear_6 : decode cX5_clear 6 = .ok (.iconst 0, 1) := by decide +kernel
theorem dX5_clear_7 : decode cX5_clear 7 = .ok (.putfield 43, 3) := by decide +kernel
theorem dX5_clear_10 : decode cX5_clear 10 = .ok (.aload_n 0, 1) := by decide +kernel
theorem dX5_clear_11 : decode cX5_clear 11 = .ok (.iconst 0, 1) := by decide +kernel
theorem dX5_clear_12 : decode cX5_clear 12 = .ok (.putfield 49, 3) := by decide +kernel
theorem dX5_clear_15 : decode cX5_clear 15 = .ok (.aload_n 0, 1) := by decide +kernel
theorem dX5_clear_16 : decode cX5_clear 16 = .ok (.bipush (-4), 2) := by decide +kernel
theorem dX5_clear_18 : decode cX5_clear 18 = .ok (.putfield 34, 3) := by decide +kernel
theorem dX5_clear_21 : decode cX5_clear 21 = .ok (.return_, 1) := by decide +kernel
theorem dX5_addCell_0 : decode cX5_addCell 0 = .ok (.aload_n 0, 1) := by decide +kernel
theorem dX5_addCell_1 : decode cX5_addCell 1 = .ok (.getfield 9, 3) := by decide +kernel
theorem dX5_addCell_4 : decode cX5_addCell 4 = .ok (.bipush 40, 2) := by decide +kernel
theorem dX5_addCell_6 : decode cX5_addCell 6 = .ok (.if_icmp .ge 59, 3) := by decide +kernel
theorem dX5_addCell_9 : decode cX5_addCell 9 = .ok (.aload_n 0, 1) := by decide +kernel
theorem dX5_addCell_10 : decode cX5_addCell 10 = .ok (.getfield 19, 3) := by decide +kernel
theorem dX5_addCell_13 : decode cX5_addCell 13 = .ok (.aload_n 0, 1) := by decide +kernel
theorem dX5_addCell_14 : decode cX5_addCell 14 = .ok (.getfield 9, 3) := by decide +kernel
theorem dX5_addCell_17 : decode cX5_addCell 17 = .ok (.aload_n 0, 1) := by decide +kernel
theorem dX5_addCell_18 : decode cX5_addCell 18 = .ok (.getfield 9, 3) := by decide +kernel
theorem dX5_addCell_21 : decode cX5_addCell 21 = .ok (.ifCond .ne 7, 3) := by decide +kernel
theorem dX5_addCell_24 : decode cX5_addCell 24 = .ok (.iconst 0, 1) := by decide +kernel
theorem dX5_addCell_25 : decode cX5_addCell 25 = .ok (.goto 19, 3) := by decide +kernel
theorem dX5_addCell_28 : decode cX5_addCell 28 = .ok (.aload_n 0, 1) := by decide +kernel
theorem dX5_addCell_29 : decode cX5_addCell 29 = .ok (.getfield 19, 3) := by decide +kernel
theorem dX5_addCell_32 : decode cX5_addCell 32 = .ok (.aload_n 0, 1) := by decide +kernel
theorem dX5_addCell_33 : decode cX5_addCell 33 = .ok (.getfield 9, 3) := by decide +kernel
theorem dX5_addCell_36 : decode cX5_addCell 36 = .ok (.iconst 1, 1) := by decide +kernel
theorem dX5_addCell_37 : decode cX5_addCell 37 = .ok (.isub, 1) := by decide +kernel
theorem dX5_addCell_38 : decode cX5_addCell 38 = .ok (.iaload, 1) := by decide +kernel
theorem dX5_addCell_39 : decode cX5_addCell 39 = .ok (.iload_n 1, 1) := by decide +kernel
theorem dX5_addCell_40 : decode cX5_addCell 40 = .ok (.invokestatic 62, 3) := by decide +kernel
theorem dX5_addCell_43 : decode cX5_addCell 43 = .ok (.iadd, 1) := by decide +kernel
theorem dX5_addCell_44 : decode cX5_addCell 44 = .ok (.iastore, 1) := by decide +kernel
theorem dX5_addCell_45 : decode cX5_addCell 45 = .ok (.aload_n 0, 1) := by decide +kernel
theorem dX5_addCell_46 : decode cX5_addCell 46 = .ok (.getfield 15, 3) := by decide +kernel
theorem dX5_addCell_49 : decode cX5_addCell 49 = .ok (.aload_n 0, 1) := by decide +kernel
theorem dX5_addCell_50 : decode cX5_addCell 50 = .ok (.getfield 9, 3) := by decide +kernel
theorem dX5_addCell_53 : decode cX5_addCell 53 = .ok (.iload_n 1, 1) := by decide +kernel
theorem dX5_addCell_54 : decode cX5_addCell 54 = .ok (.iastore, 1) := by decide +kernel
theorem dX5_addCell_55 : decode cX5_addCell 55 = .ok (.aload_n 0, 1) := by decide +kernel
theorem dX5_addCell_56 : decode cX5_addCell 56 = .ok (.dup, 1) := by decide +kernel
theorem dX5_addCell_57 : decode cX5_addCell 57 = .ok (.getfield 9, 3) := by decide +kernel
theorem dX5_addCell_60 : decode cX5_addCell 60 = .ok (.iconst 1, 1) := by decide +kernel
theorem dX5_addCell_61 : decode cX5_addCell 61 = .ok (.iadd, 1) := by decide +kernel
theorem dX5_addCell_62 : decode cX5_addCell 62 = .ok (.putfield 9, 3) := by decide +kernel
theorem dX5_addCell_65 : decode cX5_addCell 65 = .ok (.return_, 1) := by decide +kernel
theorem dX5_changeSort_0 : decode cX5_changeSort 0 = .ok (.aload_n 0, 1) := by decide +kernel
theorem dX5_changeSort_1 : decode cX5_changeSort 1 = .ok (.iload_n 1, 1) := by decide +kernel
theorem dX5_changeSort_2 : decode cX5_changeSort 2 = .ok (.invokevirtual 66, 3) := by decide +kernel
theorem dX5_changeSort_5 : decode cX5_changeSort 5 = .ok (.ifCond .eq 54, 3) := by decide +kernel
theorem dX5_changeSort_8 : decode cX5_changeSort 8 = .ok (.iload_n 2, 1) := by decide +kernel
theorem dX5_changeSort_9 : decode cX5_changeSort 9 = .ok (.invokestatic 62, 3) := by decide +kernel
theorem dX5_changeSort_12 : decode cX5_changeSort 12 = .ok (.aload_n 0, 1) := by decide +kernel
theorem dX5_changeSort_13 : decode cX5_changeSort 13 = .ok (.getfield 15, 3) := by decide +kernel
theorem dX5_changeSort_16 : decode cX5_changeSort 16 = .ok (.iload_n 1, 1) := by decide +kernel
theorem dX5_changeSort_17 : decode cX5_changeSort 17 = .ok (.iaload, 1) := by decide +kernel
theorem dX5_changeSort_18 : decode cX5_changeSort 18 = .ok (.invokestatic 62, 3) := by decide +kernel
theorem dX5_changeSort_21 : decode cX5_changeSort 21 = .ok (.isub, 1) := by decide +kernel
theorem dX5_changeSort_22 : decode cX5_changeSort 22 = .ok (.istore_n 3, 1) := by decide +kernel
theorem dX5_changeSort_23 : decode cX5_changeSort 23 = .ok (.aload_n 0, 1) := by decide +kernel
theorem dX5_changeSort_24 : decode cX5_changeSort 24 = .ok (.getfield 15, 3) := by decide +kernel
theorem dX5_changeSort_27 : decode cX5_changeSort 27 = .ok (.iload_n 1, 1) := by decide +kernel
theorem dX5_changeSort_28 : decode cX5_changeSort 28 = .ok (.iload_n 2, 1) := by decide +kernel
theorem dX5_changeSort_29 : decode cX5_changeSort 29 = .ok (.iastore, 1) := by decide +kernel
theorem dX5_changeSort_30 : decode cX5_changeSort 30 = .ok (.iload_n 1, 1) := by decide +kernel
theorem dX5_changeSort_31 : decode cX5_changeSort 31 = .ok (.istore 4, 2) := by decide +kernel
theorem dX5_changeSort_33 : decode cX5_changeSort 33 = .ok (.iload 4, 2) := by decide +kernel
theorem dX5_changeSort_35 : decode cX5_changeSort 35 = .ok (.aload_n 0, 1) := by decide +kernel
theorem dX5_changeSort_36 : decode cX5_changeSort 36 = .ok (.getfield 9, 3) := by decide +kernel
theorem dX5_changeSort_39 : decode cX5_changeSort 39 = .ok (.if_icmp .ge 20, 3) := by decide +kernel
theorem dX5_changeSort_42 : decode cX5_changeSort 42 = .ok (.aload_n 0, 1) := by decide +kernel
theorem dX5_changeSort_43 : decode cX5_changeSort 43 = .ok (.getfield 19, 3) := by decide +kernel
theorem dX5_changeSort_46 : decode cX5_changeSort 46 = .ok (.iload 4, 2) := by decide +kernel
theorem dX5_changeSort_48 : decode cX5_changeSort 48 = .ok (.dup2, 1) := by decide +kernel
theorem dX5_changeSort_49 : decode cX5_changeSort 49 = .ok (.iaload, 1) := by decide +kernel
theorem dX5_changeSort_50 : decode cX5_changeSort 50 = .ok (.iload_n 3, 1) := by decide +kernel
theorem dX5_changeSort_51 : decode cX5_changeSort 51 = .ok (.iadd, 1) := by decide +kernel
theorem dX5_changeSort_52 : decode cX5_changeSort 52 = .ok (.iastore, 1) := by decide +kernel
theorem dX5_changeSort_53 : decode cX5_changeSort 53 = .ok (.iinc 4 1, 3) := by decide +kernel
theorem dX5_changeSort_56 : decode cX5_changeSort 56 = .ok (.goto (-23), 3) := by decide +kernel
theorem dX5_changeSort_59 : decode cX5_changeSort 59 = .ok (.return_, 1) := by decide +kernel
theorem dX5_costOf_0 : decode cX5_costOf 0 = .ok (.iload_n 0, 1) := by decide +kernel
theorem dX5_costOf_1 : decode cX5_costOf 1 = .ok (.iconst 1, 1) := by decide +kernel
theorem dX5_costOf_2 : decode cX5_costOf 2 = .ok (.iadd, 1) := by decide +kernel
theorem dX5_costOf_3 : decode cX5_costOf 3 = .ok (.ireturn, 1) := by decide +kernel
theorem dX5_addFighter_0 : decode cX5_addFighter 0 = .ok (.aload_n 0, 1) := by decide +kernel
theorem dX5_addFighter_1 : decode cX5_addFighter 1 = .ok (.getfield 43, 3) := by decide +kernel
theorem dX5_addFighter_4 : decode cX5_addFighter 4 = .ok (.iconst 5, 1) := by decide +kernel
theorem dX5_addFighter_5 : decode cX5_addFighter 5 = .ok (.if_icmp .lt 6, 3) := by decide +kernel
theorem dX5_addFighter_8 : decode cX5_addFighter 8 = .ok (.bipush (-3), 2) := by decide +kernel
theorem dX5_addFighter_10 : decode cX5_addFighter 10 = .ok (.ireturn, 1) := by decide +kernel
theorem dX5_addFighter_11 : decode cX5_addFighter 11 = .ok (.aload_n 0, 1) := by decide +kernel
theorem dX5_addFighter_12 : decode cX5_addFighter 12 = .ok (.getfield 43, 3) := by decide +kernel
theorem dX5_addFighter_15 : decode cX5_addFighter 15 = .ok (.istore 5, 2) := by decide +kernel
theorem dX5_addFighter_17 : decode cX5_addFighter 17 = .ok (.aload_n 0, 1) := by decide +kernel
theorem dX5_addFighter_18 : decode cX5_addFighter 18 = .ok (.getfield 22, 3) := by decide +kernel
theorem dX5_addFighter_21 : decode cX5_addFighter 21 = .ok (.iload 5, 2) := by decide +kernel
theorem dX5_addFighter_23 : decode cX5_addFighter 23 = .ok (.iload_n 1, 1) := by decide +kernel
theorem dX5_addFighter_24 : decode cX5_addFighter 24 = .ok (.iastore, 1) := by decide +kernel
theorem dX5_addFighter_25 : decode cX5_addFighter 25 = .ok (.aload_n 0, 1) := by decide +kernel
theorem dX5_addFighter_26 : decode cX5_addFighter 26 = .ok (.getfield 25, 3) := by decide +kernel
theorem dX5_addFighter_29 : decode cX5_addFighter 29 = .ok (.iload 5, 2) := by decide +kernel
theorem dX5_addFighter_31 : decode cX5_addFighter 31 = .ok (.iload_n 2, 1) := by decide +kernel
theorem dX5_addFighter_32 : decode cX5_addFighter 32 = .ok (.iastore, 1) := by decide +kernel
theorem dX5_addFighter_33 : decode cX5_addFighter 33 = .ok (.aload_n 0, 1) := by decide +kernel
theorem dX5_addFighter_34 : decode cX5_addFighter 34 = .ok (.getfield 28, 3) := by decide +kernel
theorem dX5_addFighter_37 : decode cX5_addFighter 37 = .ok (.iload 5, 2) := by decide +kernel
theorem dX5_addFighter_39 : decode cX5_addFighter 39 = .ok (.iload_n 3, 1) := by decide +kernel
theorem dX5_addFighter_40 : decode cX5_addFighter 40 = .ok (.iastore, 1) := by decide +kernel
theorem dX5_addFighter_41 : decode cX5_addFighter 41 = .ok (.aload_n 0, 1) := by decide +kernel
theorem dX5_addFighter_42 : decode cX5_addFighter 42 = .ok (.getfield 31, 3) := by decide +kernel
theorem dX5_addFighter_45 : decode cX5_addFighter 45 = .ok (.iload 5, 2) := by decide +kernel
theorem dX5_addFighter_47 : decode cX5_addFighter 47 = .ok (.iload 4, 2) := by decide +kernel
theorem dX5_addFighter_49 : decode cX5_addFighter 49 = .ok (.iastore, 1) := by decide +kernel
theorem dX5_addFighter_50 : decode cX5_addFighter 50 = .ok (.aload_n 0, 1) := by decide +kernel
theorem dX5_addFighter_51 : decode cX5_addFighter 51 = .ok (.dup, 1) := by decide +kernel
theorem dX5_addFighter_52 : decode cX5_addFighter 52 = .ok (.getfield 43, 3) := by decide +kernel
theorem dX5_addFighter_55 : decode cX5_addFighter 55 = .ok (.iconst 1, 1) := by decide +kernel
theorem dX5_addFighter_56 : decode cX5_addFighter 56 = .ok (.iadd, 1) := by decide +kernel
theorem dX5_addFighter_57 : decode cX5_addFighter 57 = .ok (.putfield 43, 3) := by decide +kernel
theorem dX5_addFighter_60 : decode cX5_addFighter 60 = .ok (.iload 5, 2) := by decide +kernel
theorem dX5_addFighter_62 : decode cX5_addFighter 62 = .ok (.ireturn, 1) := by decide +kernel
theorem dX5_hasCell_0 : decode cX5_hasCell 0 = .ok (.iload_n 1, 1) := by decide +kernel
theorem dX5_hasCell_1 : decode cX5_hasCell 1 = .ok (.iconst 0, 1) := by decide +kernel
theorem dX5_hasCell_2 : decode cX5_hasCell 2 = .ok (.aload_n 0, 1) := by decide +kernel
theorem dX5_hasCell_3 : decode cX5_hasCell 3 = .ok (.getfield 9, 3) := by decide +kernel
theorem dX5_hasCell_6 : decode cX5_hasCell 6 = .ok (.iconst 1, 1) := by decide +kernel
theorem dX5_hasCell_7 : decode cX5_hasCell 7 = .ok (.isub, 1) := by decide +kernel
theorem dX5_hasCell_8 : decode cX5_hasCell 8 = .ok (.invokestatic 70, 3) := by decide +kernel
theorem dX5_hasCell_11 : decode cX5_hasCell 11 = .ok (.ireturn, 1) := by decide +kernel
theorem dX5_exists_0 : decode cX5_exists 0 = .ok (.iload_n 1, 1) := by decide +kernel
theorem dX5_exists_1 : decode cX5_exists 1 = .ok (.iconst 0, 1) := by decide +kernel
theorem dX5_exists_2 : decode cX5_exists 2 = .ok (.aload_n 0, 1) := by decide +kernel
theorem dX5_exists_3 : decode cX5_exists 3 = .ok (.getfield 43, 3) := by decide +kernel
theorem dX5_exists_6 : decode cX5_exists 6 = .ok (.iconst 1, 1) := by decide +kernel
theorem dX5_exists_7 : decode cX5_exists 7 = .ok (.isub, 1) := by decide +kernel
theorem dX5_exists_8 : decode cX5_exists 8 = .ok (.invokestatic 70, 3) := by decide +kernel
theorem dX5_exists_11 : decode cX5_exists 11 = .ok (.ireturn, 1) := by decide +kernel
theorem dX5_isUp_0 : decode cX5_isUp 0 = .ok (.aload_n 0, 1) := by decide +kernel
theorem dX5_isUp_1 : decode cX5_isUp 1 = .ok (.getfield 31, 3) := by decide +kernel
theorem dX5_isUp_4 : decode cX5_isUp 4 = .ok (.iload_n 1, 1) := by decide +kernel
theorem dX5_isUp_5 : decode cX5_isUp 5 = .ok (.iaload, 1) := by decide +kernel
theorem dX5_isUp_6 : decode cX5_isUp 6 = .ok (.bipush 6, 2) := by decide +kernel
theorem dX5_isUp_8 : decode cX5_isUp 8 = .ok (.if_icmp .ge 7, 3) := by decide +kernel
theorem dX5_isUp_11 : decode cX5_isUp 11 = .ok (.iconst 1, 1) := by decide +kernel
theorem dX5_isUp_12 : decode cX5_isUp 12 = .ok (.goto 4, 3) := by decide +kernel
theorem dX5_isUp_15 : decode cX5_isUp 15 = .ok (.iconst 0, 1) := by decide +kernel
theorem dX5_isUp_16 : decode cX5_isUp 16 = .ok (.ireturn, 1) := by decide +kernel
theorem dX5_hasTurned_0 : decode cX5_hasTurned 0 = .ok (.aload_n 0, 1) := by decide +kernel
theorem dX5_hasTurned_1 : decode cX5_hasTurned 1 = .ok (.getfield 34, 3) := by decide +kernel
theorem dX5_hasTurned_4 : decode cX5_hasTurned 4 = .ok (.bipush (-4), 2) := by decide +kernel
theorem dX5_hasTurned_6 : decode cX5_hasTurned 6 = .ok (.if_icmp .eq 7, 3) := by decide +kernel
theorem dX5_hasTurned_9 : decode cX5_hasTurned 9 = .ok (.iconst 1, 1) := by decide +kernel
theorem dX5_hasTurned_10 : decode cX5_hasTurned 10 = .ok (.goto 4, 3) := by decide +kernel
theorem dX5_hasTurned_13 : decode cX5_hasTurned 13 = .ok (.iconst 0, 1) := by decide +kernel
theorem dX5_hasTurned_14 : decode cX5_hasTurned 14 = .ok (.ireturn, 1) := by decide +kernel
theorem dX5_thoseDown_0 : decode cX5_thoseDown 0 = .ok (.iconst 0, 1) := by decide +kernel
theorem dX5_thoseDown_1 : decode cX5_thoseDown 1 = .ok (.istore_n 1, 1) := by decide +kernel
theorem dX5_thoseDown_2 : decode cX5_thoseDown 2 = .ok (.iconst 0, 1) := by decide +kernel
theorem dX5_thoseDown_3 : decode cX5_thoseDown 3 = .ok (.istore_n 2, 1) := by decide +kernel
theorem dX5_thoseDown_4 : decode cX5_thoseDown 4 = .ok (.iload_n 2, 1) := by decide +kernel
theorem dX5_thoseDown_5 : decode cX5_thoseDown 5 = .ok (.aload_n 0, 1) := by decide +kernel
theorem dX5_thoseDown_6 : decode cX5_thoseDown 6 = .ok (.getfield 43, 3) := by decide +kernel
theorem dX5_thoseDown_9 : decode cX5_thoseDown 9 = .ok (.if_icmp .ge 23, 3) := by decide +kernel
theorem dX5_thoseDown_12 : decode cX5_thoseDown 12 = .ok (.aload_n 0, 1) := by decide +kernel
theorem dX5_thoseDown_13 : decode cX5_thoseDown 13 = .ok (.iload_n 2, 1) := by decide +kernel
theorem dX5_thoseDown_14 : decode cX5_thoseDown 14 = .ok (.invokevirtual 74, 3) := by decide +kernel
theorem dX5_thoseDown_17 : decode cX5_thoseDown 17 = .ok (.ifCond .ne 9, 3) := by decide +kernel
theorem dX5_thoseDown_20 : decode cX5_thoseDown 20 = .ok (.iload_n 1, 1) := by decide +kernel
theorem dX5_thoseDown_21 : decode cX5_thoseDown 21 = .ok (.iconst 1, 1) := by decide +kernel
theorem dX5_thoseDown_22 : decode cX5_thoseDown 22 = .ok (.iload_n 2, 1) := by decide +kernel
theorem dX5_thoseDown_23 : decode cX5_thoseDown 23 = .ok (.ishl, 1) := by decide +kernel
theorem dX5_thoseDown_24 : decode cX5_thoseDown 24 = .ok (.ior, 1) := by decide +kernel
theorem dX5_thoseDown_25 : decode cX5_thoseDown 25 = .ok (.istore_n 1, 1) := by decide +kernel
theorem dX5_thoseDown_26 : decode cX5_thoseDown 26 = .ok (.iinc 2 1, 3) := by decide +kernel
theorem dX5_thoseDown_29 : decode cX5_thoseDown 29 = .ok (.goto (-25), 3) := by decide +kernel
theorem dX5_thoseDown_32 : decode cX5_thoseDown 32 = .ok (.iload_n 1, 1) := by decide +kernel
theorem dX5_thoseDown_33 : decode cX5_thoseDown 33 = .ok (.ireturn, 1) := by decide +kernel
theorem dX5_othersUp_0 : decode cX5_othersUp 0 = .ok (.iconst 0, 1) := by decide +kernel
theorem dX5_othersUp_1 : decode cX5_othersUp 1 = .ok (.istore_n 1, 1) := by decide +kernel
theorem dX5_othersUp_2 : decode cX5_othersUp 2 = .ok (.iconst 1, 1) := by decide +kernel
theorem dX5_othersUp_3 : decode cX5_othersUp 3 = .ok (.istore_n 2, 1) := by decide +kernel
