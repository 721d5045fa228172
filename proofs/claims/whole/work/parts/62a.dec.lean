theorem dX0_init_0 : decode cX0_init 0 = .ok (.aload_n 0, 1) := by decide +kernel
theorem dX0_init_1 : decode cX0_init 1 = .ok (.invokespecial 5, 3) := by decide +kernel
theorem dX0_init_4 : decode cX0_init 4 = .ok (.aload_n 0, 1) := by decide +kernel
theorem dX0_init_5 : decode cX0_init 5 = .ok (.iconst 4, 1) := by decide +kernel
theorem dX0_init_6 : decode cX0_init 6 = .ok (.newarray .int, 2) := by decide +kernel
theorem dX0_init_8 : decode cX0_init 8 = .ok (.putfield 11, 3) := by decide +kernel
theorem dX0_init_11 : decode cX0_init 11 = .ok (.aload_n 0, 1) := by decide +kernel
theorem dX0_init_12 : decode cX0_init 12 = .ok (.iconst 5, 1) := by decide +kernel
theorem dX0_init_13 : decode cX0_init 13 = .ok (.newarray .int, 2) := by decide +kernel
theorem dX0_init_15 : decode cX0_init 15 = .ok (.putfield 15, 3) := by decide +kernel
theorem dX0_init_18 : decode cX0_init 18 = .ok (.aload_n 0, 1) := by decide +kernel
theorem dX0_init_19 : decode cX0_init 19 = .ok (.iconst 4, 1) := by decide +kernel
theorem dX0_init_20 : decode cX0_init 20 = .ok (.newarray .int, 2) := by decide +kernel
theorem dX0_init_22 : decode cX0_init 22 = .ok (.putfield 18, 3) := by decide +kernel
theorem dX0_init_25 : decode cX0_init 25 = .ok (.aload_n 0, 1) := by decide +kernel
theorem dX0_init_26 : decode cX0_init 26 = .ok (.iconst 5, 1) := by decide +kernel
theorem dX0_init_27 : decode cX0_init 27 = .ok (.newarray .int, 2) := by decide +kernel
theorem dX0_init_29 : decode cX0_init 29 = .ok (.putfield 21, 3) := by decide +kernel
theorem dX0_init_32 : decode cX0_init 32 = .ok (.aload_n 0, 1) := by decide +kernel
theorem dX0_init_33 : decode cX0_init 33 = .ok (.iconst 4, 1) := by decide +kernel
theorem dX0_init_34 : decode cX0_init 34 = .ok (.newarray .int, 2) := by decide +kernel
theorem dX0_init_36 : decode cX0_init 36 = .ok (.putfield 24, 3) := by decide +kernel
theorem dX0_init_39 : decode cX0_init 39 = .ok (.aload_n 0, 1) := by decide +kernel
theorem dX0_init_40 : decode cX0_init 40 = .ok (.bipush 24, 2) := by decide +kernel
theorem dX0_init_42 : decode cX0_init 42 = .ok (.newarray .int, 2) := by decide +kernel
theorem dX0_init_44 : decode cX0_init 44 = .ok (.putfield 27, 3) := by decide +kernel
theorem dX0_init_47 : decode cX0_init 47 = .ok (.aload_n 0, 1) := by decide +kernel
theorem dX0_init_48 : decode cX0_init 48 = .ok (.bipush 24, 2) := by decide +kernel
theorem dX0_init_50 : decode cX0_init 50 = .ok (.newarray .int, 2) := by decide +kernel
theorem dX0_init_52 : decode cX0_init 52 = .ok (.putfield 30, 3) := by decide +kernel
theorem dX0_init_55 : decode cX0_init 55 = .ok (.aload_n 0, 1) := by decide +kernel
theorem dX0_init_56 : decode cX0_init 56 = .ok (.bipush 6, 2) := by decide +kernel
theorem dX0_init_58 : decode cX0_init 58 = .ok (.newarray .int, 2) := by decide +kernel
theorem dX0_init_60 : decode cX0_init 60 = .ok (.putfield 33, 3) := by decide +kernel
theorem dX0_init_63 : decode cX0_init 63 = .ok (.aload_n 0, 1) := by decide +kernel
theorem dX0_init_64 : decode cX0_init 64 = .ok (.sipush 175, 3) := by decide +kernel
theorem dX0_init_67 : decode cX0_init 67 = .ok (.newarray .int, 2) := by decide +kernel
theorem dX0_init_69 : decode cX0_init 69 = .ok (.putfield 36, 3) := by decide +kernel
theorem dX0_init_72 : decode cX0_init 72 = .ok (.aload_n 0, 1) := by decide +kernel
theorem dX0_init_73 : decode cX0_init 73 = .ok (.sipush 128, 3) := by decide +kernel
theorem dX0_init_76 : decode cX0_init 76 = .ok (.newarray .int, 2) := by decide +kernel
theorem dX0_init_78 : decode cX0_init 78 = .ok (.putfield 39, 3) := by decide +kernel
theorem dX0_init_81 : decode cX0_init 81 = .ok (.aload_n 0, 1) := by decide +kernel
theorem dX0_init_82 : decode cX0_init 82 = .ok (.sipush 128, 3) := by decide +kernel
theorem dX0_init_85 : decode cX0_init 85 = .ok (.newarray .int, 2) := by decide +kernel
theorem dX0_init_87 : decode cX0_init 87 = .ok (.putfield 42, 3) := by decide +kernel
theorem dX0_init_90 : decode cX0_init 90 = .ok (.return_, 1) := by decide +kernel
theorem dX0_forget_0 : decode cX0_forget 0 = .ok (.iconst 0, 1) := by decide +kernel
theorem dX0_forget_1 : decode cX0_forget 1 = .ok (.istore_n 1, 1) := by decide +kernel
theorem dX0_forget_2 : decode cX0_forget 2 = .ok (.iload_n 1, 1) := by decide +kernel
theorem dX0_forget_3 : decode cX0_forget 3 = .ok (.sipush 128, 3) := by decide +kernel
theorem dX0_forget_6 : decode cX0_forget 6 = .ok (.if_icmp .ge 16, 3) := by decide +kernel
theorem dX0_forget_9 : decode cX0_forget 9 = .ok (.aload_n 0, 1) := by decide +kernel
theorem dX0_forget_10 : decode cX0_forget 10 = .ok (.getfield 39, 3) := by decide +kernel
theorem dX0_forget_13 : decode cX0_forget 13 = .ok (.iload_n 1, 1) := by decide +kernel
theorem dX0_forget_14 : decode cX0_forget 14 = .ok (.iconst (-1), 1) := by decide +kernel
theorem dX0_forget_15 : decode cX0_forget 15 = .ok (.iastore, 1) := by decide +kernel
theorem dX0_forget_16 : decode cX0_forget 16 = .ok (.iinc 1 1, 3) := by decide +kernel
theorem dX0_forget_19 : decode cX0_forget 19 = .ok (.goto (-17), 3) := by decide +kernel
theorem dX0_forget_22 : decode cX0_forget 22 = .ok (.return_, 1) := by decide +kernel
theorem dX0_takeComing_0 : decode cX0_takeComing 0 = .ok (.aload_n 1, 1) := by decide +kernel
theorem dX0_takeComing_1 : decode cX0_takeComing 1 = .ok (.getfield 45, 3) := by decide +kernel
theorem dX0_takeComing_4 : decode cX0_takeComing 4 = .ok (.iconst 0, 1) := by decide +kernel
theorem dX0_takeComing_5 : decode cX0_takeComing 5 = .ok (.aload_n 0, 1) := by decide +kernel
theorem dX0_takeComing_6 : decode cX0_takeComing 6 = .ok (.getfield 15, 3) := by decide +kernel
theorem dX0_takeComing_9 : decode cX0_takeComing 9 = .ok (.iconst 0, 1) := by decide +kernel
theorem dX0_takeComing_10 : decode cX0_takeComing 10 = .ok (.iconst 5, 1) := by decide +kernel
theorem dX0_takeComing_11 : decode cX0_takeComing 11 = .ok (.invokestatic 48, 3) := by decide +kernel
theorem dX0_takeComing_14 : decode cX0_takeComing 14 = .ok (.return_, 1) := by decide +kernel
theorem dX0_tellComing_0 : decode cX0_tellComing 0 = .ok (.aload_n 1, 1) := by decide +kernel
theorem dX0_tellComing_1 : decode cX0_tellComing 1 = .ok (.iconst 0, 1) := by decide +kernel
theorem dX0_tellComing_2 : decode cX0_tellComing 2 = .ok (.iload_n 2, 1) := by decide +kernel
theorem dX0_tellComing_3 : decode cX0_tellComing 3 = .ok (.invokevirtual 54, 3) := by decide +kernel
theorem dX0_tellComing_6 : decode cX0_tellComing 6 = .ok (.istore_n 3, 1) := by decide +kernel
theorem dX0_tellComing_7 : decode cX0_tellComing 7 = .ok (.iconst 1, 1) := by decide +kernel
theorem dX0_tellComing_8 : decode cX0_tellComing 8 = .ok (.istore 4, 2) := by decide +kernel
theorem dX0_tellComing_10 : decode cX0_tellComing 10 = .ok (.iload 4, 2) := by decide +kernel
theorem dX0_tellComing_12 : decode cX0_tellComing 12 = .ok (.aload_n 1, 1) := by decide +kernel
theorem dX0_tellComing_13 : decode cX0_tellComing 13 = .ok (.getfield 58, 3) := by decide +kernel
theorem dX0_tellComing_16 : decode cX0_tellComing 16 = .ok (.if_icmp .ge 23, 3) := by decide +kernel
theorem dX0_tellComing_19 : decode cX0_tellComing 19 = .ok (.aload_n 0, 1) := by decide +kernel
theorem dX0_tellComing_20 : decode cX0_tellComing 20 = .ok (.getfield 15, 3) := by decide +kernel
theorem dX0_tellComing_23 : decode cX0_tellComing 23 = .ok (.iload 4, 2) := by decide +kernel
theorem dX0_tellComing_25 : decode cX0_tellComing 25 = .ok (.aload_n 1, 1) := by decide +kernel
theorem dX0_tellComing_26 : decode cX0_tellComing 26 = .ok (.iload 4, 2) := by decide +kernel
theorem dX0_tellComing_28 : decode cX0_tellComing 28 = .ok (.iload_n 3, 1) := by decide +kernel
theorem dX0_tellComing_29 : decode cX0_tellComing 29 = .ok (.invokevirtual 62, 3) := by decide +kernel
theorem dX0_tellComing_32 : decode cX0_tellComing 32 = .ok (.iastore, 1) := by decide +kernel
theorem dX0_tellComing_33 : decode cX0_tellComing 33 = .ok (.iinc 4 1, 3) := by decide +kernel
theorem dX0_tellComing_36 : decode cX0_tellComing 36 = .ok (.goto (-26), 3) := by decide +kernel
theorem dX0_tellComing_39 : decode cX0_tellComing 39 = .ok (.return_, 1) := by decide +kernel
theorem dX0_tellAllAtOnce_0 : decode cX0_tellAllAtOnce 0 = .ok (.iconst 1, 1) := by decide +kernel
theorem dX0_tellAllAtOnce_1 : decode cX0_tellAllAtOnce 1 = .ok (.istore_n 1, 1) := by decide +kernel
theorem dX0_tellAllAtOnce_2 : decode cX0_tellAllAtOnce 2 = .ok (.iload_n 1, 1) := by decide +kernel
theorem dX0_tellAllAtOnce_3 : decode cX0_tellAllAtOnce 3 = .ok (.iconst 5, 1) := by decide +kernel
theorem dX0_tellAllAtOnce_4 : decode cX0_tellAllAtOnce 4 = .ok (.if_icmp .ge 16, 3) := by decide +kernel
theorem dX0_tellAllAtOnce_7 : decode cX0_tellAllAtOnce 7 = .ok (.aload_n 0, 1) := by decide +kernel
theorem dX0_tellAllAtOnce_8 : decode cX0_tellAllAtOnce 8 = .ok (.getfield 15, 3) := by decide +kernel
theorem dX0_tellAllAtOnce_11 : decode cX0_tellAllAtOnce 11 = .ok (.iload_n 1, 1) := by decide +kernel
theorem dX0_tellAllAtOnce_12 : decode cX0_tellAllAtOnce 12 = .ok (.iconst 0, 1) := by decide +kernel
theorem dX0_tellAllAtOnce_13 : decode cX0_tellAllAtOnce 13 = .ok (.iastore, 1) := by decide +kernel
theorem dX0_tellAllAtOnce_14 : decode cX0_tellAllAtOnce 14 = .ok (.iinc 1 1, 3) := by decide +kernel
theorem dX0_tellAllAtOnce_17 : decode cX0_tellAllAtOnce 17 = .ok (.goto (-15), 3) := by decide +kernel
theorem dX0_tellAllAtOnce_20 : decode cX0_tellAllAtOnce 20 = .ok (.return_, 1) := by decide +kernel
theorem dX0_chanceFrom_0 : decode cX0_chanceFrom 0 = .ok (.aload_n 0, 1) := by decide +kernel
theorem dX0_chanceFrom_1 : decode cX0_chanceFrom 1 = .ok (.aload_n 1, 1) := by decide +kernel
theorem dX0_chanceFrom_2 : decode cX0_chanceFrom 2 = .ok (.invokevirtual 65, 3) := by decide +kernel
theorem dX0_chanceFrom_5 : decode cX0_chanceFrom 5 = .ok (.aload_n 0, 1) := by decide +kernel
theorem dX0_chanceFrom_6 : decode cX0_chanceFrom 6 = .ok (.getfield 69, 3) := by decide +kernel
theorem dX0_chanceFrom_9 : decode cX0_chanceFrom 9 = .ok (.ifCond .ne 6, 3) := by decide +kernel
theorem dX0_chanceFrom_12 : decode cX0_chanceFrom 12 = .ok (.ldc 72, 2) := by decide +kernel
theorem dX0_chanceFrom_14 : decode cX0_chanceFrom 14 = .ok (.ireturn, 1) := by decide +kernel
theorem dX0_chanceFrom_15 : decode cX0_chanceFrom 15 = .ok (.aload_n 1, 1) := by decide +kernel
theorem dX0_chanceFrom_16 : decode cX0_chanceFrom 16 = .ok (.iconst 0, 1) := by decide +kernel
theorem dX0_chanceFrom_17 : decode cX0_chanceFrom 17 = .ok (.invokevirtual 73, 3) := by decide +kernel
theorem dX0_chanceFrom_20 : decode cX0_chanceFrom 20 = .ok (.ifCond .ne 5, 3) := by decide +kernel
theorem dX0_chanceFrom_23 : decode cX0_chanceFrom 23 = .ok (.iconst 0, 1) := by decide +kernel
theorem dX0_chanceFrom_24 : decode cX0_chanceFrom 24 = .ok (.ireturn, 1) := by decide +kernel
theorem dX0_chanceFrom_25 : decode cX0_chanceFrom 25 = .ok (.aload_n 0, 1) := by decide +kernel
theorem dX0_chanceFrom_26 : decode cX0_chanceFrom 26 = .ok (.iload_n 2, 1) := by decide +kernel
theorem dX0_chanceFrom_27 : decode cX0_chanceFrom 27 = .ok (.invokevirtual 77, 3) := by decide +kernel
theorem dX0_chanceFrom_30 : decode cX0_chanceFrom 30 = .ok (.aload_n 0, 1) := by decide +kernel
theorem dX0_chanceFrom_31 : decode cX0_chanceFrom 31 = .ok (.invokevirtual 81, 3) := by decide +kernel
theorem dX0_chanceFrom_34 : decode cX0_chanceFrom 34 = .ok (.istore_n 3, 1) := by decide +kernel
theorem dX0_chanceFrom_35 : decode cX0_chanceFrom 35 = .ok (.iload_n 3, 1) := by decide +kernel
theorem dX0_chanceFrom_36 : decode cX0_chanceFrom 36 = .ok (.iload_n 3, 1) := by decide +kernel
theorem dX0_chanceFrom_37 : decode cX0_chanceFrom 37 = .ok (.bipush 7, 2) := by decide +kernel
theorem dX0_chanceFrom_39 : decode cX0_chanceFrom 39 = .ok (.ishr, 1) := by decide +kernel
theorem dX0_chanceFrom_40 : decode cX0_chanceFrom 40 = .ok (.ixor, 1) := by decide +kernel
theorem dX0_chanceFrom_41 : decode cX0_chanceFrom 41 = .ok (.iload_n 3, 1) := by decide +kernel
theorem dX0_chanceFrom_42 : decode cX0_chanceFrom 42 = .ok (.bipush 14, 2) := by decide +kernel
theorem dX0_chanceFrom_44 : decode cX0_chanceFrom 44 = .ok (.ishr, 1) := by decide +kernel
theorem dX0_chanceFrom_45 : decode cX0_chanceFrom 45 = .ok (.ixor, 1) := by decide +kernel
theorem dX0_chanceFrom_46 : decode cX0_chanceFrom 46 = .ok (.iload_n 3, 1) := by decide +kernel
theorem dX0_chanceFrom_47 : decode cX0_chanceFrom 47 = .ok (.bipush 21, 2) := by decide +kernel
theorem dX0_chanceFrom_49 : decode cX0_chanceFrom 49 = .ok (.ishr, 1) := by decide +kernel
theorem dX0_chanceFrom_50 : decode cX0_chanceFrom 50 = .ok (.ixor, 1) := by decide +kernel
theorem dX0_chanceFrom_51 : decode cX0_chanceFrom 51 = .ok (.bipush 127, 2) := by decide +kernel
theorem dX0_chanceFrom_53 : decode cX0_chanceFrom 53 = .ok (.iand, 1) := by decide +kernel
theorem dX0_chanceFrom_54 : decode cX0_chanceFrom 54 = .ok (.istore 4, 2) := by decide +kernel
theorem dX0_chanceFrom_56 : decode cX0_chanceFrom 56 = .ok (.aload_n 0, 1) := by decide +kernel
theorem dX0_chanceFrom_57 : decode cX0_chanceFrom 57 = .ok (.getfield 39, 3) := by decide +kernel
theorem dX0_chanceFrom_60 : decode cX0_chanceFrom 60 = .ok (.iload 4, 2) := by decide +kernel
theorem dX0_chanceFrom_62 : decode cX0_chanceFrom 62 = .ok (.iaload, 1) := by decide +kernel
theorem dX0_chanceFrom_63 : decode cX0_chanceFrom 63 = .ok (.iload_n 3, 1) := by decide +kernel
theorem dX0_chanceFrom_64 : decode cX0_chanceFrom 64 = .ok (.if_icmp .eq 23, 3) := by decide +kernel
theorem dX0_chanceFrom_67 : decode cX0_chanceFrom 67 = .ok (.aload_n 0, 1) := by decide +kernel
theorem dX0_chanceFrom_68 : decode cX0_chanceFrom 68 = .ok (.getfield 39, 3) := by decide +kernel
theorem dX0_chanceFrom_71 : decode cX0_chanceFrom 71 = .ok (.iload 4, 2) := by decide +kernel
theorem dX0_chanceFrom_73 : decode cX0_chanceFrom 73 = .ok (.iload_n 3, 1) := by decide +kernel
theorem dX0_chanceFrom_74 : decode cX0_chanceFrom 74 = .ok (.iastore, 1) := by decide +kernel
theorem dX0_chanceFrom_75 : decode cX0_chanceFrom 75 = .ok (.aload_n 0, 1) := by decide +kernel
theorem dX0_chanceFrom_76 : decode cX0_chanceFrom 76 = .ok (.getfield 42, 3) := by decide +kernel
theorem dX0_chanceFrom_79 : decode cX0_chanceFrom 79 = .ok (.iload 4, 2) := by decide +kernel
theorem dX0_chanceFrom_81 : decode cX0_chanceFrom 81 = .ok (.aload_n 0, 1) := by decide +kernel
theorem dX0_chanceFrom_82 : decode cX0_chanceFrom 82 = .ok (.aload_n 1, 1) := by decide +kernel
theorem dX0_chanceFrom_83 : decode cX0_chanceFrom 83 = .ok (.invokevirtual 85, 3) := by decide +kernel
theorem dX0_chanceFrom_86 : decode cX0_chanceFrom 86 = .ok (.iastore, 1) := by decide +kernel
theorem dX0_chanceFrom_87 : decode cX0_chanceFrom 87 = .ok (.aload_n 0, 1) := by decide +kernel
theorem dX0_chanceFrom_88 : decode cX0_chanceFrom 88 = .ok (.getfield 42, 3) := by decide +kernel
theorem dX0_chanceFrom_91 : decode cX0_chanceFrom 91 = .ok (.iload 4, 2) := by decide +kernel
theorem dX0_chanceFrom_93 : decode cX0_chanceFrom 93 = .ok (.iaload, 1) := by decide +kernel
theorem dX0_chanceFrom_94 : decode cX0_chanceFrom 94 = .ok (.ireturn, 1) := by decide +kernel
theorem dX0_putInOrder_0 : decode cX0_putInOrder 0 = .ok (.aload_n 0, 1) := by decide +kernel
theorem dX0_putInOrder_1 : decode cX0_putInOrder 1 = .ok (.iconst 0, 1) := by decide +kernel
theorem dX0_putInOrder_2 : decode cX0_putInOrder 2 = .ok (.putfield 69, 3) := by decide +kernel
theorem dX0_putInOrder_5 : decode cX0_putInOrder 5 = .ok (.iconst 1, 1) := by decide +kernel
theorem dX0_putInOrder_6 : decode cX0_putInOrder 6 = .ok (.istore_n 2, 1) := by decide +kernel
theorem dX0_putInOrder_7 : decode cX0_putInOrder 7 = .ok (.iload_n 2, 1) := by decide +kernel
theorem dX0_putInOrder_8 : decode cX0_putInOrder 8 = .ok (.aload_n 1, 1) := by decide +kernel
theorem dX0_putInOrder_9 : decode cX0_putInOrder 9 = .ok (.getfield 58, 3) := by decide +kernel
theorem dX0_putInOrder_12 : decode cX0_putInOrder 12 = .ok (.if_icmp .ge 85, 3) := by decide +kernel
theorem dX0_putInOrder_15 : decode cX0_putInOrder 15 = .ok (.aload_n 1, 1) := by decide +kernel
theorem dX0_putInOrder_16 : decode cX0_putInOrder 16 = .ok (.iload_n 2, 1) := by decide +kernel
theorem dX0_putInOrder_17 : decode cX0_putInOrder 17 = .ok (.invokevirtual 73, 3) := by decide +kernel
theorem dX0_putInOrder_20 : decode cX0_putInOrder 20 = .ok (.ifCond .eq 71, 3) := by decide +kernel
theorem dX0_putInOrder_23 : decode cX0_putInOrder 23 = .ok (.aload_n 0, 1) := by decide +kernel
theorem dX0_putInOrder_24 : decode cX0_putInOrder 24 = .ok (.getfield 69, 3) := by decide +kernel
theorem dX0_putInOrder_27 : decode cX0_putInOrder 27 = .ok (.istore_n 3, 1) := by decide +kernel
theorem dX0_putInOrder_28 : decode cX0_putInOrder 28 = .ok (.iload_n 3, 1) := by decide +kernel
theorem dX0_putInOrder_29 : decode cX0_putInOrder 29 = .ok (.ifCond .le 45, 3) := by decide +kernel
theorem dX0_putInOrder_32 : decode cX0_putInOrder 32 = .ok (.aload_n 0, 1) := by decide +kernel
theorem dX0_putInOrder_33 : decode cX0_putInOrder 33 = .ok (.getfield 15, 3) := by decide +kernel
theorem dX0_putInOrder_36 : decode cX0_putInOrder 36 = .ok (.aload_n 0, 1) := by decide +kernel
theorem dX0_putInOrder_37 : decode cX0_putInOrder 37 = .ok (.getfield 11, 3) := by decide +kernel
theorem dX0_putInOrder_40 : decode cX0_putInOrder 40 = .ok (.iload_n 3, 1) := by decide +kernel
theorem dX0_putInOrder_41 : decode cX0_putInOrder 41 = .ok (.iconst 1, 1) := by decide +kernel
theorem dX0_putInOrder_42 : decode cX0_putInOrder 42 = .ok (.isub, 1) := by decide +kernel
theorem dX0_putInOrder_43 : decode cX0_putInOrder 43 = .ok (.iaload, 1) := by decide +kernel
theorem dX0_putInOrder_44 : decode cX0_putInOrder 44 = .ok (.iaload, 1) := by decide +kernel
theorem dX0_putInOrder_45 : decode cX0_putInOrder 45 = .ok (.aload_n 0, 1) := by decide +kernel
theorem dX0_putInOrder_46 : decode cX0_putInOrder 46 = .ok (.getfield 15, 3) := by decide +kernel
theorem dX0_putInOrder_49 : decode cX0_putInOrder 49 = .ok (.iload_n 2, 1) := by decide +kernel
theorem dX0_putInOrder_50 : decode cX0_putInOrder 50 = .ok (.iaload, 1) := by decide +kernel
theorem dX0_putInOrder_51 : decode cX0_putInOrder 51 = .ok (.if_icmp .le 23, 3) := by decide +kernel
theorem dX0_putInOrder_54 : decode cX0_putInOrder 54 = .ok (.aload_n 0, 1) := by decide +kernel
theorem dX0_putInOrder_55 : decode cX0_putInOrder 55 = .ok (.getfield 11, 3) := by decide +kernel
theorem dX0_putInOrder_58 : decode cX0_putInOrder 58 = .ok (.iload_n 3, 1) := by decide +kernel
theorem dX0_putInOrder_59 : decode cX0_putInOrder 59 = .ok (.aload_n 0, 1) := by decide +kernel
theorem dX0_putInOrder_60 : decode cX0_putInOrder 60 = .ok (.getfield 11, 3) := by decide +kernel
theorem dX0_putInOrder_63 : decode cX0_putInOrder 63 = .ok (.iload_n 3, 1) := by decide +kernel
theorem dX0_putInOrder_64 : decode cX0_putInOrder 64 = .ok (.iconst 1, 1) := by decide +kernel
theorem dX0_putInOrder_65 : decode cX0_putInOrder 65 = .ok (.isub, 1) := by decide +kernel
theorem dX0_putInOrder_66 : decode cX0_putInOrder 66 = .ok (.iaload, 1) := by decide +kernel
theorem dX0_putInOrder_67 : decode cX0_putInOrder 67 = .ok (.iastore, 1) := by decide +kernel
theorem dX0_putInOrder_68 : decode cX0_putInOrder 68 = .ok (.iinc 3 (-1), 3) := by decide +kernel
theorem dX0_putInOrder_71 : decode cX0_putInOrder 71 = .ok (.goto (-43), 3) := by decide +kernel
theorem dX0_putInOrder_74 : decode cX0_putInOrder 74 = .ok (.aload_n 0, 1) := by decide +kernel
theorem dX0_putInOrder_75 : decode cX0_putInOrder 75 = .ok (.getfield 11, 3) := by decide +kernel
theorem dX0_putInOrder_78 : decode cX0_putInOrder 78 = .ok (.iload_n 3, 1) := by decide +kernel
theorem dX0_putInOrder_79 : decode cX0_putInOrder 79 = .ok (.iload_n 2, 1) := by decide +kernel
theorem dX0_putInOrder_80 : decode cX0_putInOrder 80 = .ok (.iastore, 1) := by decide +kernel
theorem dX0_putInOrder_81 : decode cX0_putInOrder 81 = .ok (.aload_n 0, 1) := by decide +kernel
theorem dX0_putInOrder_82 : decode cX0_putInOrder 82 = .ok (.dup, 1) := by decide +kernel
theorem dX0_putInOrder_83 : decode cX0_putInOrder 83 = .ok (.getfield 69, 3) := by decide +kernel
theorem dX0_putInOrder_86 : decode cX0_putInOrder 86 = .ok (.iconst 1, 1) := by decide +kernel
theorem dX0_putInOrder_87 : decode cX0_putInOrder 87 = .ok (.iadd, 1) := by decide +kernel
theorem dX0_putInOrder_88 : decode cX0_putInOrder 88 = .ok (.putfield 69, 3) := by decide +kernel
theorem dX0_putInOrder_91 : decode cX0_putInOrder 91 = .ok (.iinc 2 1, 3) := by decide +kernel
theorem dX0_putInOrder_94 : decode cX0_putInOrder 94 = .ok (.goto (-87), 3) := by decide +kernel
theorem dX0_putInOrder_97 : decode cX0_putInOrder 97 = .ok (.return_, 1) := by decide +kernel
theorem dX0_tellWaits_0 : decode cX0_tellWaits 0 = .ok (.iload_n 1, 1) := by decide +kernel
theorem dX0_tellWaits_1 : decode cX0_tellWaits 1 = .ok (.aload_n 0, 1) := by decide +kernel
theorem dX0_tellWaits_2 : decode cX0_tellWaits 2 = .ok (.getfield 15, 3) := by decide +kernel
theorem dX0_tellWaits_5 : decode cX0_tellWaits 5 = .ok (.aload_n 0, 1) := by decide +kernel
theorem dX0_tellWaits_6 : decode cX0_tellWaits 6 = .ok (.getfield 11, 3) := by decide +kernel
theorem dX0_tellWaits_9 : decode cX0_tellWaits 9 = .ok (.iconst 0, 1) := by decide +kernel
theorem dX0_tellWaits_10 : decode cX0_tellWaits 10 = .ok (.iaload, 1) := by decide +kernel
theorem dX0_tellWaits_11 : decode cX0_tellWaits 11 = .ok (.iaload, 1) := by decide +kernel
theorem dX0_tellWaits_12 : decode cX0_tellWaits 12 = .ok (.iconst 1, 1) := by decide +kernel
theorem dX0_tellWaits_13 : decode cX0_tellWaits 13 = .ok (.isub, 1) := by decide +kernel
theorem dX0_tellWaits_14 : decode cX0_tellWaits 14 = .ok (.invokestatic 89, 3) := by decide +kernel
theorem dX0_tellWaits_17 : decode cX0_tellWaits 17 = .ok (.istore_n 2, 1) := by decide +kernel
theorem dX0_tellWaits_18 : decode cX0_tellWaits 18 = .ok (.iconst 0, 1) := by decide +kernel
theorem dX0_tellWaits_19 : decode cX0_tellWaits 19 = .ok (.istore_n 3, 1) := by decide +kernel
theorem dX0_tellWaits_20 : decode cX0_tellWaits 20 = .ok (.aload_n 0, 1) := by decide +kernel
theorem dX0_tellWaits_21 : decode cX0_tellWaits 21 = .ok (.getfield 18, 3) := by decide +kernel
theorem dX0_tellWaits_24 : decode cX0_tellWaits 24 = .ok (.iconst 0, 1) := by decide +kernel
theorem dX0_tellWaits_25 : decode cX0_tellWaits 25 = .ok (.iconst 0, 1) := by decide +kernel
theorem dX0_tellWaits_26 : decode cX0_tellWaits 26 = .ok (.iastore, 1) := by decide +kernel
theorem dX0_tellWaits_27 : decode cX0_tellWaits 27 = .ok (.iconst 1, 1) := by decide +kernel
theorem dX0_tellWaits_28 : decode cX0_tellWaits 28 = .ok (.istore 4, 2) := by decide +kernel
theorem dX0_tellWaits_30 : decode cX0_tellWaits 30 = .ok (.iload 4, 2) := by decide +kernel
theorem dX0_tellWaits_32 : decode cX0_tellWaits 32 = .ok (.aload_n 0, 1) := by decide +kernel
theorem dX0_tellWaits_33 : decode cX0_tellWaits 33 = .ok (.getfield 69, 3) := by decide +kernel
theorem dX0_tellWaits_36 : decode cX0_tellWaits 36 = .ok (.if_icmp .ge 60, 3) := by decide +kernel
theorem dX0_tellWaits_39 : decode cX0_tellWaits 39 = .ok (.iconst 0, 1) := by decide +kernel
theorem dX0_tellWaits_40 : decode cX0_tellWaits 40 = .ok (.aload_n 0, 1) := by decide +kernel
theorem dX0_tellWaits_41 : decode cX0_tellWaits 41 = .ok (.getfield 15, 3) := by decide +kernel
theorem dX0_tellWaits_44 : decode cX0_tellWaits 44 = .ok (.aload_n 0, 1) := by decide +kernel
theorem dX0_tellWaits_45 : decode cX0_tellWaits 45 = .ok (.getfield 11, 3) := by decide +kernel
theorem dX0_tellWaits_48 : decode cX0_tellWaits 48 = .ok (.iload 4, 2) := by decide +kernel
theorem dX0_tellWaits_50 : decode cX0_tellWaits 50 = .ok (.iaload, 1) := by decide +kernel
theorem dX0_tellWaits_51 : decode cX0_tellWaits 51 = .ok (.iaload, 1) := by decide +kernel
theorem dX0_tellWaits_52 : decode cX0_tellWaits 52 = .ok (.iconst 1, 1) := by decide +kernel
theorem dX0_tellWaits_53 : decode cX0_tellWaits 53 = .ok (.isub, 1) := by decide +kernel
theorem dX0_tellWaits_54 : decode cX0_tellWaits 54 = .ok (.iload_n 2, 1) := by decide +kernel
theorem dX0_tellWaits_55 : decode cX0_tellWaits 55 = .ok (.isub, 1) := by decide +kernel
theorem dX0_tellWaits_56 : decode cX0_tellWaits 56 = .ok (.invokestatic 89, 3) := by decide +kernel
theorem dX0_tellWaits_59 : decode cX0_tellWaits 59 = .ok (.istore 5, 2) := by decide +kernel
theorem dX0_tellWaits_61 : decode cX0_tellWaits 61 = .ok (.aload_n 0, 1) := by decide +kernel
theorem dX0_tellWaits_62 : decode cX0_tellWaits 62 = .ok (.getfield 18, 3) := by decide +kernel
theorem dX0_tellWaits_65 : decode cX0_tellWaits 65 = .ok (.iload 4, 2) := by decide +kernel
theorem dX0_tellWaits_67 : decode cX0_tellWaits 67 = .ok (.aload_n 0, 1) := by decide +kernel
theorem dX0_tellWaits_68 : decode cX0_tellWaits 68 = .ok (.getfield 18, 3) := by decide +kernel
theorem dX0_tellWaits_71 : decode cX0_tellWaits 71 = .ok (.iload 4, 2) := by decide +kernel
theorem dX0_tellWaits_73 : decode cX0_tellWaits 73 = .ok (.iconst 1, 1) := by decide +kernel
theorem dX0_tellWaits_74 : decode cX0_tellWaits 74 = .ok (.isub, 1) := by decide +kernel
theorem dX0_tellWaits_75 : decode cX0_tellWaits 75 = .ok (.iaload, 1) := by decide +kernel
theorem dX0_tellWaits_76 : decode cX0_tellWaits 76 = .ok (.bipush 31, 2) := by decide +kernel
theorem dX0_tellWaits_78 : decode cX0_tellWaits 78 = .ok (.iload 5, 2) := by decide +kernel
theorem dX0_tellWaits_80 : decode cX0_tellWaits 80 = .ok (.iload_n 3, 1) := by decide +kernel
theorem dX0_tellWaits_81 : decode cX0_tellWaits 81 = .ok (.isub, 1) := by decide +kernel
theorem dX0_tellWaits_82 : decode cX0_tellWaits 82 = .ok (.invokestatic 94, 3) := by decide +kernel
theorem dX0_tellWaits_85 : decode cX0_tellWaits 85 = .ok (.iadd, 1) := by decide +kernel
theorem dX0_tellWaits_86 : decode cX0_tellWaits 86 = .ok (.iastore, 1) := by decide +kernel
theorem dX0_tellWaits_87 : decode cX0_tellWaits 87 = .ok (.iload 5, 2) := by decide +kernel
theorem dX0_tellWaits_89 : decode cX0_tellWaits 89 = .ok (.istore_n 3, 1) := by decide +kernel
theorem dX0_tellWaits_90 : decode cX0_tellWaits 90 = .ok (.iinc 4 1, 3) := by decide +kernel
theorem dX0_tellWaits_93 : decode cX0_tellWaits 93 = .ok (.goto (-63), 3) := by decide +kernel
theorem dX0_tellWaits_96 : decode cX0_tellWaits 96 = .ok (.return_, 1) := by decide +kernel
theorem dX0_keyOf_0 : decode cX0_keyOf 0 = .ok (.iconst 0, 1) := by decide +kernel
theorem dX0_keyOf_1 : decode cX0_keyOf 1 = .ok (.istore_n 1, 1) := by decide +kernel
theorem dX0_keyOf_2 : decode cX0_keyOf 2 = .ok (.iconst 0, 1) := by decide +kernel
theorem dX0_keyOf_3 : decode cX0_keyOf 3 = .ok (.istore_n 2, 1) := by decide +kernel
theorem dX0_keyOf_4 : decode cX0_keyOf 4 = .ok (.iload_n 2, 1) := by decide +kernel
theorem dX0_keyOf_5 : decode cX0_keyOf 5 = .ok (.aload_n 0, 1) := by decide +kernel
theorem dX0_keyOf_6 : decode cX0_keyOf 6 = .ok (.getfield 69, 3) := by decide +kernel
theorem dX0_keyOf_9 : decode cX0_keyOf 9 = .ok (.if_icmp .ge 51, 3) := by decide +kernel
theorem dX0_keyOf_12 : decode cX0_keyOf 12 = .ok (.iload_n 2, 1) := by decide +kernel
theorem dX0_keyOf_13 : decode cX0_keyOf 13 = .ok (.ifCond .ne 7, 3) := by decide +kernel
theorem dX0_keyOf_16 : decode cX0_keyOf 16 = .ok (.iconst 0, 1) := by decide +kernel
theorem dX0_keyOf_17 : decode cX0_keyOf 17 = .ok (.goto 18, 3) := by decide +kernel
theorem dX0_keyOf_20 : decode cX0_keyOf 20 = .ok (.aload_n 0, 1) := by decide +kernel
theorem dX0_keyOf_21 : decode cX0_keyOf 21 = .ok (.getfield 18, 3) := by decide +kernel
theorem dX0_keyOf_24 : decode cX0_keyOf 24 = .ok (.iload_n 2, 1) := by decide +kernel
theorem dX0_keyOf_25 : decode cX0_keyOf 25 = .ok (.iaload, 1) := by decide +kernel
theorem dX0_keyOf_26 : decode cX0_keyOf 26 = .ok (.aload_n 0, 1) := by decide +kernel
theorem dX0_keyOf_27 : decode cX0_keyOf 27 = .ok (.getfield 18, 3) := by decide +kernel
theorem dX0_keyOf_30 : decode cX0_keyOf 30 = .ok (.iload_n 2, 1) := by decide +kernel
theorem dX0_keyOf_31 : decode cX0_keyOf 31 = .ok (.iconst 1, 1) := by decide +kernel
theorem dX0_keyOf_32 : decode cX0_keyOf 32 = .ok (.isub, 1) := by decide +kernel
theorem dX0_keyOf_33 : decode cX0_keyOf 33 = .ok (.iaload, 1) := by decide +kernel
theorem dX0_keyOf_34 : decode cX0_keyOf 34 = .ok (.isub, 1) := by decide +kernel
theorem dX0_keyOf_35 : decode cX0_keyOf 35 = .ok (.istore_n 3, 1) := by decide +kernel
theorem dX0_keyOf_36 : decode cX0_keyOf 36 = .ok (.iload_n 1, 1) := by decide +kernel
theorem dX0_keyOf_37 : decode cX0_keyOf 37 = .ok (.bipush 7, 2) := by decide +kernel
theorem dX0_keyOf_39 : decode cX0_keyOf 39 = .ok (.ishl, 1) := by decide +kernel
theorem dX0_keyOf_40 : decode cX0_keyOf 40 = .ok (.iload_n 3, 1) := by decide +kernel
theorem dX0_keyOf_41 : decode cX0_keyOf 41 = .ok (.iconst 2, 1) := by decide +kernel
theorem dX0_keyOf_42 : decode cX0_keyOf 42 = .ok (.ishl, 1) := by decide +kernel
theorem dX0_keyOf_43 : decode cX0_keyOf 43 = .ok (.ior, 1) := by decide +kernel
theorem dX0_keyOf_44 : decode cX0_keyOf 44 = .ok (.aload_n 0, 1) := by decide +kernel
theorem dX0_keyOf_45 : decode cX0_keyOf 45 = .ok (.getfield 11, 3) := by decide +kernel
theorem dX0_keyOf_48 : decode cX0_keyOf 48 = .ok (.iload_n 2, 1) := by decide +kernel
theorem dX0_keyOf_49 : decode cX0_keyOf 49 = .ok (.iaload, 1) := by decide +kernel
theorem dX0_keyOf_50 : decode cX0_keyOf 50 = .ok (.iconst 1, 1) := by decide +kernel
theorem dX0_keyOf_51 : decode cX0_keyOf 51 = .ok (.isub, 1) := by decide +kernel
theorem dX0_keyOf_52 : decode cX0_keyOf 52 = .ok (.ior, 1) := by decide +kernel
theorem dX0_keyOf_53 : decode cX0_keyOf 53 = .ok (.istore_n 1, 1) := by decide +kernel
theorem dX0_keyOf_54 : decode cX0_keyOf 54 = .ok (.iinc 2 1, 3) := by decide +kernel
theorem dX0_keyOf_57 : decode cX0_keyOf 57 = .ok (.goto (-53), 3) := by decide +kernel
theorem dX0_keyOf_60 : decode cX0_keyOf 60 = .ok (.iload_n 1, 1) := by decide +kernel
theorem dX0_keyOf_61 : decode cX0_keyOf 61 = .ok (.ireturn, 1) := by decide +kernel
theorem dX0_foldBack_0 : decode cX0_foldBack 0 = .ok (.aload_n 0, 1) := by decide +kernel
theorem dX0_foldBack_1 : decode cX0_foldBack 1 = .ok (.aload_n 1, 1) := by decide +kernel
theorem dX0_foldBack_2 : decode cX0_foldBack 2 = .ok (.invokevirtual 97, 3) := by decide +kernel
theorem dX0_foldBack_5 : decode cX0_foldBack 5 = .ok (.aload_n 0, 1) := by decide +kernel
theorem dX0_foldBack_6 : decode cX0_foldBack 6 = .ok (.invokevirtual 100, 3) := by decide +kernel
theorem dX0_foldBack_9 : decode cX0_foldBack 9 = .ok (.aload_n 1, 1) := by decide +kernel
theorem dX0_foldBack_10 : decode cX0_foldBack 10 = .ok (.getfield 103, 3) := by decide +kernel
theorem dX0_foldBack_13 : decode cX0_foldBack 13 = .ok (.iconst 0, 1) := by decide +kernel
theorem dX0_foldBack_14 : decode cX0_foldBack 14 = .ok (.iaload, 1) := by decide +kernel
theorem dX0_foldBack_15 : decode cX0_foldBack 15 = .ok (.istore_n 2, 1) := by decide +kernel
theorem dX0_foldBack_16 : decode cX0_foldBack 16 = .ok (.aload_n 0, 1) := by decide +kernel
theorem dX0_foldBack_17 : decode cX0_foldBack 17 = .ok (.iload_n 2, 1) := by decide +kernel
theorem dX0_foldBack_18 : decode cX0_foldBack 18 = .ok (.invokevirtual 106, 3) := by decide +kernel
theorem dX0_foldBack_21 : decode cX0_foldBack 21 = .ok (.aload_n 0, 1) := by decide +kernel
theorem dX0_foldBack_22 : decode cX0_foldBack 22 = .ok (.getfield 18, 3) := by decide +kernel
theorem dX0_foldBack_25 : decode cX0_foldBack 25 = .ok (.aload_n 0, 1) := by decide +kernel
theorem dX0_foldBack_26 : decode cX0_foldBack 26 = .ok (.getfield 69, 3) := by decide +kernel
theorem dX0_foldBack_29 : decode cX0_foldBack 29 = .ok (.iconst 1, 1) := by decide +kernel
theorem dX0_foldBack_30 : decode cX0_foldBack 30 = .ok (.isub, 1) := by decide +kernel
theorem dX0_foldBack_31 : decode cX0_foldBack 31 = .ok (.iaload, 1) := by decide +kernel
theorem dX0_foldBack_32 : decode cX0_foldBack 32 = .ok (.istore_n 3, 1) := by decide +kernel
theorem dX0_foldBack_33 : decode cX0_foldBack 33 = .ok (.aload_n 0, 1) := by decide +kernel
theorem dX0_foldBack_34 : decode cX0_foldBack 34 = .ok (.getfield 69, 3) := by decide +kernel
theorem dX0_foldBack_37 : decode cX0_foldBack 37 = .ok (.iconst 1, 1) := by decide +kernel
theorem dX0_foldBack_38 : decode cX0_foldBack 38 = .ok (.isub, 1) := by decide +kernel
theorem dX0_foldBack_39 : decode cX0_foldBack 39 = .ok (.istore 4, 2) := by decide +kernel
theorem dX0_foldBack_41 : decode cX0_foldBack 41 = .ok (.iload 4, 2) := by decide +kernel
theorem dX0_foldBack_43 : decode cX0_foldBack 43 = .ok (.ifCond .lt 80, 3) := by decide +kernel
theorem dX0_foldBack_46 : decode cX0_foldBack 46 = .ok (.aload_n 0, 1) := by decide +kernel
theorem dX0_foldBack_47 : decode cX0_foldBack 47 = .ok (.getfield 21, 3) := by decide +kernel
theorem dX0_foldBack_50 : decode cX0_foldBack 50 = .ok (.iload 4, 2) := by decide +kernel
theorem dX0_foldBack_52 : decode cX0_foldBack 52 = .ok (.iconst 1, 1) := by decide +kernel
theorem dX0_foldBack_53 : decode cX0_foldBack 53 = .ok (.iadd, 1) := by decide +kernel
theorem dX0_foldBack_54 : decode cX0_foldBack 54 = .ok (.iaload, 1) := by decide +kernel
theorem dX0_foldBack_55 : decode cX0_foldBack 55 = .ok (.iconst 1, 1) := by decide +kernel
theorem dX0_foldBack_56 : decode cX0_foldBack 56 = .ok (.isub, 1) := by decide +kernel
theorem dX0_foldBack_57 : decode cX0_foldBack 57 = .ok (.istore 5, 2) := by decide +kernel
theorem dX0_foldBack_59 : decode cX0_foldBack 59 = .ok (.iload 5, 2) := by decide +kernel
theorem dX0_foldBack_61 : decode cX0_foldBack 61 = .ok (.aload_n 0, 1) := by decide +kernel
theorem dX0_foldBack_62 : decode cX0_foldBack 62 = .ok (.getfield 21, 3) := by decide +kernel
theorem dX0_foldBack_65 : decode cX0_foldBack 65 = .ok (.iload 4, 2) := by decide +kernel
theorem dX0_foldBack_67 : decode cX0_foldBack 67 = .ok (.iaload, 1) := by decide +kernel
theorem dX0_foldBack_68 : decode cX0_foldBack 68 = .ok (.if_icmp .lt 49, 3) := by decide +kernel
theorem dX0_foldBack_71 : decode cX0_foldBack 71 = .ok (.aload_n 0, 1) := by decide +kernel
theorem dX0_foldBack_72 : decode cX0_foldBack 72 = .ok (.iload_n 2, 1) := by decide +kernel
theorem dX0_foldBack_73 : decode cX0_foldBack 73 = .ok (.iload_n 3, 1) := by decide +kernel
theorem dX0_foldBack_74 : decode cX0_foldBack 74 = .ok (.iload 4, 2) := by decide +kernel
theorem dX0_foldBack_76 : decode cX0_foldBack 76 = .ok (.iload 5, 2) := by decide +kernel
theorem dX0_foldBack_78 : decode cX0_foldBack 78 = .ok (.invokevirtual 109, 3) := by decide +kernel
theorem dX0_foldBack_81 : decode cX0_foldBack 81 = .ok (.istore 6, 2) := by decide +kernel
theorem dX0_foldBack_83 : decode cX0_foldBack 83 = .ok (.iconst 5, 1) := by decide +kernel
theorem dX0_foldBack_84 : decode cX0_foldBack 84 = .ok (.istore 7, 2) := by decide +kernel
theorem dX0_foldBack_86 : decode cX0_foldBack 86 = .ok (.iload 7, 2) := by decide +kernel
theorem dX0_foldBack_88 : decode cX0_foldBack 88 = .ok (.iload 6, 2) := by decide +kernel
theorem dX0_foldBack_90 : decode cX0_foldBack 90 = .ok (.if_icmp .lt 21, 3) := by decide +kernel
theorem dX0_foldBack_93 : decode cX0_foldBack 93 = .ok (.aload_n 0, 1) := by decide +kernel
theorem dX0_foldBack_94 : decode cX0_foldBack 94 = .ok (.iload 7, 2) := by decide +kernel
theorem dX0_foldBack_96 : decode cX0_foldBack 96 = .ok (.iload 5, 2) := by decide +kernel
theorem dX0_foldBack_98 : decode cX0_foldBack 98 = .ok (.aload_n 0, 1) := by decide +kernel
theorem dX0_foldBack_99 : decode cX0_foldBack 99 = .ok (.getfield 69, 3) := by decide +kernel
theorem dX0_foldBack_102 : decode cX0_foldBack 102 = .ok (.invokevirtual 113, 3) := by decide +kernel
theorem dX0_foldBack_105 : decode cX0_foldBack 105 = .ok (.iinc 7 (-1), 3) := by decide +kernel
theorem dX0_foldBack_108 : decode cX0_foldBack 108 = .ok (.goto (-22), 3) := by decide +kernel
theorem dX0_foldBack_111 : decode cX0_foldBack 111 = .ok (.iinc 5 (-1), 3) := by decide +kernel
theorem dX0_foldBack_114 : decode cX0_foldBack 114 = .ok (.goto (-55), 3) := by decide +kernel
theorem dX0_foldBack_117 : decode cX0_foldBack 117 = .ok (.iinc 4 (-1), 3) := by decide +kernel
theorem dX0_foldBack_120 : decode cX0_foldBack 120 = .ok (.goto (-79), 3) := by decide +kernel
theorem dX0_foldBack_123 : decode cX0_foldBack 123 = .ok (.iload_n 3, 1) := by decide +kernel
theorem dX0_foldBack_124 : decode cX0_foldBack 124 = .ok (.iconst 1, 1) := by decide +kernel
theorem dX0_foldBack_125 : decode cX0_foldBack 125 = .ok (.isub, 1) := by decide +kernel
theorem dX0_foldBack_126 : decode cX0_foldBack 126 = .ok (.istore 4, 2) := by decide +kernel
theorem dX0_foldBack_128 : decode cX0_foldBack 128 = .ok (.iload 4, 2) := by decide +kernel
theorem dX0_foldBack_130 : decode cX0_foldBack 130 = .ok (.ifCond .lt 16, 3) := by decide +kernel
theorem dX0_foldBack_133 : decode cX0_foldBack 133 = .ok (.aload_n 0, 1) := by decide +kernel
theorem dX0_foldBack_134 : decode cX0_foldBack 134 = .ok (.iload 4, 2) := by decide +kernel
theorem dX0_foldBack_136 : decode cX0_foldBack 136 = .ok (.iload_n 2, 1) := by decide +kernel
theorem dX0_foldBack_137 : decode cX0_foldBack 137 = .ok (.invokevirtual 117, 3) := by decide +kernel
theorem dX0_foldBack_140 : decode cX0_foldBack 140 = .ok (.iinc 4 (-1), 3) := by decide +kernel
theorem dX0_foldBack_143 : decode cX0_foldBack 143 = .ok (.goto (-15), 3) := by decide +kernel
theorem dX0_foldBack_146 : decode cX0_foldBack 146 = .ok (.aload_n 0, 1) := by decide +kernel
theorem dX0_foldBack_147 : decode cX0_foldBack 147 = .ok (.getfield 36, 3) := by decide +kernel
theorem dX0_foldBack_150 : decode cX0_foldBack 150 = .ok (.iload_n 2, 1) := by decide +kernel
theorem dX0_foldBack_151 : decode cX0_foldBack 151 = .ok (.bipush 25, 2) := by decide +kernel
theorem dX0_foldBack_153 : decode cX0_foldBack 153 = .ok (.imul, 1) := by decide +kernel
theorem dX0_foldBack_154 : decode cX0_foldBack 154 = .ok (.iaload, 1) := by decide +kernel
theorem dX0_foldBack_155 : decode cX0_foldBack 155 = .ok (.ireturn, 1) := by decide +kernel
theorem dX0_tellForces_0 : decode cX0_tellForces 0 = .ok (.iconst 0, 1) := by decide +kernel
theorem dX0_tellForces_1 : decode cX0_tellForces 1 = .ok (.istore_n 2, 1) := by decide +kernel
theorem dX0_tellForces_2 : decode cX0_tellForces 2 = .ok (.iconst 0, 1) := by decide +kernel
theorem dX0_tellForces_3 : decode cX0_tellForces 3 = .ok (.istore_n 3, 1) := by decide +kernel
theorem dX0_tellForces_4 : decode cX0_tellForces 4 = .ok (.iload_n 3, 1) := by decide +kernel
theorem dX0_tellForces_5 : decode cX0_tellForces 5 = .ok (.aload_n 0, 1) := by decide +kernel
theorem dX0_tellForces_6 : decode cX0_tellForces 6 = .ok (.getfield 69, 3) := by decide +kernel
theorem dX0_tellForces_9 : decode cX0_tellForces 9 = .ok (.if_icmp .ge 81, 3) := by decide +kernel
theorem dX0_tellForces_12 : decode cX0_tellForces 12 = .ok (.aload_n 0, 1) := by decide +kernel
theorem dX0_tellForces_13 : decode cX0_tellForces 13 = .ok (.getfield 11, 3) := by decide +kernel
theorem dX0_tellForces_16 : decode cX0_tellForces 16 = .ok (.iload_n 3, 1) := by decide +kernel
theorem dX0_tellForces_17 : decode cX0_tellForces 17 = .ok (.iaload, 1) := by decide +kernel
theorem dX0_tellForces_18 : decode cX0_tellForces 18 = .ok (.istore 4, 2) := by decide +kernel
theorem dX0_tellForces_20 : decode cX0_tellForces 20 = .ok (.aload_n 0, 1) := by decide +kernel
theorem dX0_tellForces_21 : decode cX0_tellForces 21 = .ok (.getfield 21, 3) := by decide +kernel
theorem dX0_tellForces_24 : decode cX0_tellForces 24 = .ok (.iload_n 3, 1) := by decide +kernel
theorem dX0_tellForces_25 : decode cX0_tellForces 25 = .ok (.iload_n 2, 1) := by decide +kernel
theorem dX0_tellForces_26 : decode cX0_tellForces 26 = .ok (.iastore, 1) := by decide +kernel
theorem dX0_tellForces_27 : decode cX0_tellForces 27 = .ok (.aload_n 1, 1) := by decide +kernel
theorem dX0_tellForces_28 : decode cX0_tellForces 28 = .ok (.getfield 103, 3) := by decide +kernel
theorem dX0_tellForces_31 : decode cX0_tellForces 31 = .ok (.iload 4, 2) := by decide +kernel
theorem dX0_tellForces_33 : decode cX0_tellForces 33 = .ok (.iaload, 1) := by decide +kernel
theorem dX0_tellForces_34 : decode cX0_tellForces 34 = .ok (.istore 5, 2) := by decide +kernel
theorem dX0_tellForces_36 : decode cX0_tellForces 36 = .ok (.iload 5, 2) := by decide +kernel
theorem dX0_tellForces_38 : decode cX0_tellForces 38 = .ok (.bipush 6, 2) := by decide +kernel
theorem dX0_tellForces_40 : decode cX0_tellForces 40 = .ok (.if_icmp .ge 44, 3) := by decide +kernel
theorem dX0_tellForces_43 : decode cX0_tellForces 43 = .ok (.aload_n 0, 1) := by decide +kernel
theorem dX0_tellForces_44 : decode cX0_tellForces 44 = .ok (.getfield 27, 3) := by decide +kernel
theorem dX0_tellForces_47 : decode cX0_tellForces 47 = .ok (.iload_n 2, 1) := by decide +kernel
theorem dX0_tellForces_48 : decode cX0_tellForces 48 = .ok (.iload_n 3, 1) := by decide +kernel
theorem dX0_tellForces_49 : decode cX0_tellForces 49 = .ok (.iastore, 1) := by decide +kernel
theorem dX0_tellForces_50 : decode cX0_tellForces 50 = .ok (.aload_n 0, 1) := by decide +kernel
theorem dX0_tellForces_51 : decode cX0_tellForces 51 = .ok (.getfield 30, 3) := by decide +kernel
theorem dX0_tellForces_54 : decode cX0_tellForces 54 = .ok (.iload_n 2, 1) := by decide +kernel
theorem dX0_tellForces_55 : decode cX0_tellForces 55 = .ok (.aload_n 1, 1) := by decide +kernel
theorem dX0_tellForces_56 : decode cX0_tellForces 56 = .ok (.getfield 121, 3) := by decide +kernel
theorem dX0_tellForces_59 : decode cX0_tellForces 59 = .ok (.iload 4, 2) := by decide +kernel
theorem dX0_tellForces_61 : decode cX0_tellForces 61 = .ok (.iaload, 1) := by decide +kernel
theorem dX0_tellForces_62 : decode cX0_tellForces 62 = .ok (.aload_n 1, 1) := by decide +kernel
theorem dX0_tellForces_63 : decode cX0_tellForces 63 = .ok (.getfield 124, 3) := by decide +kernel
theorem dX0_tellForces_66 : decode cX0_tellForces 66 = .ok (.iload 4, 2) := by decide +kernel
theorem dX0_tellForces_68 : decode cX0_tellForces 68 = .ok (.iaload, 1) := by decide +kernel
theorem dX0_tellForces_69 : decode cX0_tellForces 69 = .ok (.iload 5, 2) := by decide +kernel
theorem dX0_tellForces_71 : decode cX0_tellForces 71 = .ok (.invokestatic 127, 3) := by decide +kernel
theorem dX0_tellForces_74 : decode cX0_tellForces 74 = .ok (.iastore, 1) := by decide +kernel
theorem dX0_tellForces_75 : decode cX0_tellForces 75 = .ok (.iinc 2 1, 3) := by decide +kernel
theorem dX0_tellForces_78 : decode cX0_tellForces 78 = .ok (.iinc 5 1, 3) := by decide +kernel
theorem dX0_tellForces_81 : decode cX0_tellForces 81 = .ok (.goto (-45), 3) := by decide +kernel
theorem dX0_tellForces_84 : decode cX0_tellForces 84 = .ok (.iinc 3 1, 3) := by decide +kernel
theorem dX0_tellForces_87 : decode cX0_tellForces 87 = .ok (.goto (-83), 3) := by decide +kernel
theorem dX0_tellForces_90 : decode cX0_tellForces 90 = .ok (.aload_n 0, 1) := by decide +kernel
theorem dX0_tellForces_91 : decode cX0_tellForces 91 = .ok (.getfield 21, 3) := by decide +kernel
theorem dX0_tellForces_94 : decode cX0_tellForces 94 = .ok (.aload_n 0, 1) := by decide +kernel
theorem dX0_tellForces_95 : decode cX0_tellForces 95 = .ok (.getfield 69, 3) := by decide +kernel
theorem dX0_tellForces_98 : decode cX0_tellForces 98 = .ok (.iload_n 2, 1) := by decide +kernel
theorem dX0_tellForces_99 : decode cX0_tellForces 99 = .ok (.iastore, 1) := by decide +kernel
theorem dX0_tellForces_100 : decode cX0_tellForces 100 = .ok (.aload_n 1, 1) := by decide +kernel
theorem dX0_tellForces_101 : decode cX0_tellForces 101 = .ok (.getfield 103, 3) := by decide +kernel
theorem dX0_tellForces_104 : decode cX0_tellForces 104 = .ok (.iconst 0, 1) := by decide +kernel
theorem dX0_tellForces_105 : decode cX0_tellForces 105 = .ok (.iaload, 1) := by decide +kernel
theorem dX0_tellForces_106 : decode cX0_tellForces 106 = .ok (.istore_n 3, 1) := by decide +kernel
theorem dX0_tellForces_107 : decode cX0_tellForces 107 = .ok (.iload_n 3, 1) := by decide +kernel
theorem dX0_tellForces_108 : decode cX0_tellForces 108 = .ok (.bipush 6, 2) := by decide +kernel
theorem dX0_tellForces_110 : decode cX0_tellForces 110 = .ok (.if_icmp .ge 31, 3) := by decide +kernel
theorem dX0_tellForces_113 : decode cX0_tellForces 113 = .ok (.aload_n 0, 1) := by decide +kernel
theorem dX0_tellForces_114 : decode cX0_tellForces 114 = .ok (.getfield 33, 3) := by decide +kernel
theorem dX0_tellForces_117 : decode cX0_tellForces 117 = .ok (.iload_n 3, 1) := by decide +kernel
theorem dX0_tellForces_118 : decode cX0_tellForces 118 = .ok (.aload_n 1, 1) := by decide +kernel
theorem dX0_tellForces_119 : decode cX0_tellForces 119 = .ok (.getfield 121, 3) := by decide +kernel
theorem dX0_tellForces_122 : decode cX0_tellForces 122 = .ok (.iconst 0, 1) := by decide +kernel
theorem dX0_tellForces_123 : decode cX0_tellForces 123 = .ok (.iaload, 1) := by decide +kernel
theorem dX0_tellForces_124 : decode cX0_tellForces 124 = .ok (.aload_n 1, 1) := by decide +kernel
theorem dX0_tellForces_125 : decode cX0_tellForces 125 = .ok (.getfield 124, 3) := by decide +kernel
theorem dX0_tellForces_128 : decode cX0_tellForces 128 = .ok (.iconst 0, 1) := by decide +kernel
theorem dX0_tellForces_129 : decode cX0_tellForces 129 = .ok (.iaload, 1) := by decide +kernel
theorem dX0_tellForces_130 : decode cX0_tellForces 130 = .ok (.iload_n 3, 1) := by decide +kernel
theorem dX0_tellForces_131 : decode cX0_tellForces 131 = .ok (.invokestatic 127, 3) := by decide +kernel
theorem dX0_tellForces_134 : decode cX0_tellForces 134 = .ok (.iastore, 1) := by decide +kernel
theorem dX0_tellForces_135 : decode cX0_tellForces 135 = .ok (.iinc 3 1, 3) := by decide +kernel
theorem dX0_tellForces_138 : decode cX0_tellForces 138 = .ok (.goto (-31), 3) := by decide +kernel
theorem dX0_tellForces_141 : decode cX0_tellForces 141 = .ok (.return_, 1) := by decide +kernel
theorem dX0_tellIdle_0 : decode cX0_tellIdle 0 = .ok (.iconst 0, 1) := by decide +kernel
theorem dX0_tellIdle_1 : decode cX0_tellIdle 1 = .ok (.istore_n 1, 1) := by decide +kernel
theorem dX0_tellIdle_2 : decode cX0_tellIdle 2 = .ok (.iconst 0, 1) := by decide +kernel
theorem dX0_tellIdle_3 : decode cX0_tellIdle 3 = .ok (.istore_n 2, 1) := by decide +kernel
theorem dX0_tellIdle_4 : decode cX0_tellIdle 4 = .ok (.iload_n 2, 1) := by decide +kernel
theorem dX0_tellIdle_5 : decode cX0_tellIdle 5 = .ok (.aload_n 0, 1) := by decide +kernel
theorem dX0_tellIdle_6 : decode cX0_tellIdle 6 = .ok (.getfield 69, 3) := by decide +kernel
theorem dX0_tellIdle_9 : decode cX0_tellIdle 9 = .ok (.if_icmp .ge 34, 3) := by decide +kernel
theorem dX0_tellIdle_12 : decode cX0_tellIdle 12 = .ok (.iload_n 1, 1) := by decide +kernel
theorem dX0_tellIdle_13 : decode cX0_tellIdle 13 = .ok (.aload_n 0, 1) := by decide +kernel
theorem dX0_tellIdle_14 : decode cX0_tellIdle 14 = .ok (.getfield 18, 3) := by decide +kernel
theorem dX0_tellIdle_17 : decode cX0_tellIdle 17 = .ok (.iload_n 2, 1) := by decide +kernel
theorem dX0_tellIdle_18 : decode cX0_tellIdle 18 = .ok (.iaload, 1) := by decide +kernel
theorem dX0_tellIdle_19 : decode cX0_tellIdle 19 = .ok (.aload_n 0, 1) := by decide +kernel
theorem dX0_tellIdle_20 : decode cX0_tellIdle 20 = .ok (.getfield 21, 3) := by decide +kernel
theorem dX0_tellIdle_23 : decode cX0_tellIdle 23 = .ok (.iload_n 2, 1) := by decide +kernel
theorem dX0_tellIdle_24 : decode cX0_tellIdle 24 = .ok (.iaload, 1) := by decide +kernel
theorem dX0_tellIdle_25 : decode cX0_tellIdle 25 = .ok (.isub, 1) := by decide +kernel
theorem dX0_tellIdle_26 : decode cX0_tellIdle 26 = .ok (.invokestatic 89, 3) := by decide +kernel
theorem dX0_tellIdle_29 : decode cX0_tellIdle 29 = .ok (.istore_n 1, 1) := by decide +kernel
theorem dX0_tellIdle_30 : decode cX0_tellIdle 30 = .ok (.aload_n 0, 1) := by decide +kernel
theorem dX0_tellIdle_31 : decode cX0_tellIdle 31 = .ok (.getfield 24, 3) := by decide +kernel
theorem dX0_tellIdle_34 : decode cX0_tellIdle 34 = .ok (.iload_n 2, 1) := by decide +kernel
theorem dX0_tellIdle_35 : decode cX0_tellIdle 35 = .ok (.iload_n 1, 1) := by decide +kernel
theorem dX0_tellIdle_36 : decode cX0_tellIdle 36 = .ok (.iastore, 1) := by decide +kernel
theorem dX0_tellIdle_37 : decode cX0_tellIdle 37 = .ok (.iinc 2 1, 3) := by decide +kernel
theorem dX0_tellIdle_40 : decode cX0_tellIdle 40 = .ok (.goto (-36), 3) := by decide +kernel
theorem dX0_tellIdle_43 : decode cX0_tellIdle 43 = .ok (.return_, 1) := by decide +kernel
theorem dX0_settleEnds_0 : decode cX0_settleEnds 0 = .ok (.aload_n 0, 1) := by decide +kernel
theorem dX0_settleEnds_1 : decode cX0_settleEnds 1 = .ok (.getfield 21, 3) := by decide +kernel
theorem dX0_settleEnds_4 : decode cX0_settleEnds 4 = .ok (.aload_n 0, 1) := by decide +kernel
theorem dX0_settleEnds_5 : decode cX0_settleEnds 5 = .ok (.getfield 69, 3) := by decide +kernel
theorem dX0_settleEnds_8 : decode cX0_settleEnds 8 = .ok (.iaload, 1) := by decide +kernel
theorem dX0_settleEnds_9 : decode cX0_settleEnds 9 = .ok (.istore_n 2, 1) := by decide +kernel
theorem dX0_settleEnds_10 : decode cX0_settleEnds 10 = .ok (.iconst 0, 1) := by decide +kernel
theorem dX0_settleEnds_11 : decode cX0_settleEnds 11 = .ok (.istore_n 3, 1) := by decide +kernel
theorem dX0_settleEnds_12 : decode cX0_settleEnds 12 = .ok (.iload_n 3, 1) := by decide +kernel
theorem dX0_settleEnds_13 : decode cX0_settleEnds 13 = .ok (.iload_n 2, 1) := by decide +kernel
theorem dX0_settleEnds_14 : decode cX0_settleEnds 14 = .ok (.if_icmp .ge 20, 3) := by decide +kernel
theorem dX0_settleEnds_17 : decode cX0_settleEnds 17 = .ok (.aload_n 0, 1) := by decide +kernel
theorem dX0_settleEnds_18 : decode cX0_settleEnds 18 = .ok (.getfield 36, 3) := by decide +kernel
theorem dX0_settleEnds_21 : decode cX0_settleEnds 21 = .ok (.sipush 150, 3) := by decide +kernel
theorem dX0_settleEnds_24 : decode cX0_settleEnds 24 = .ok (.iload_n 3, 1) := by decide +kernel
theorem dX0_settleEnds_25 : decode cX0_settleEnds 25 = .ok (.iadd, 1) := by decide +kernel
theorem dX0_settleEnds_26 : decode cX0_settleEnds 26 = .ok (.iconst 0, 1) := by decide +kernel
theorem dX0_settleEnds_27 : decode cX0_settleEnds 27 = .ok (.iastore, 1) := by decide +kernel
theorem dX0_settleEnds_28 : decode cX0_settleEnds 28 = .ok (.iinc 3 1, 3) := by decide +kernel
theorem dX0_settleEnds_31 : decode cX0_settleEnds 31 = .ok (.goto (-19), 3) := by decide +kernel
theorem dX0_settleEnds_34 : decode cX0_settleEnds 34 = .ok (.iload_n 1, 1) := by decide +kernel
theorem dX0_settleEnds_35 : decode cX0_settleEnds 35 = .ok (.istore_n 3, 1) := by decide +kernel
theorem dX0_settleEnds_36 : decode cX0_settleEnds 36 = .ok (.iload_n 3, 1) := by decide +kernel
theorem dX0_settleEnds_37 : decode cX0_settleEnds 37 = .ok (.bipush 6, 2) := by decide +kernel
theorem dX0_settleEnds_39 : decode cX0_settleEnds 39 = .ok (.if_icmp .ge 22, 3) := by decide +kernel
theorem dX0_settleEnds_42 : decode cX0_settleEnds 42 = .ok (.aload_n 0, 1) := by decide +kernel
theorem dX0_settleEnds_43 : decode cX0_settleEnds 43 = .ok (.getfield 36, 3) := by decide +kernel
theorem dX0_settleEnds_46 : decode cX0_settleEnds 46 = .ok (.iload_n 3, 1) := by decide +kernel
theorem dX0_settleEnds_47 : decode cX0_settleEnds 47 = .ok (.bipush 25, 2) := by decide +kernel
theorem dX0_settleEnds_49 : decode cX0_settleEnds 49 = .ok (.imul, 1) := by decide +kernel
theorem dX0_settleEnds_50 : decode cX0_settleEnds 50 = .ok (.iload_n 2, 1) := by decide +kernel
theorem dX0_settleEnds_51 : decode cX0_settleEnds 51 = .ok (.iadd, 1) := by decide +kernel
theorem dX0_settleEnds_52 : decode cX0_settleEnds 52 = .ok (.ldc 72, 2) := by decide +kernel
theorem dX0_settleEnds_54 : decode cX0_settleEnds 54 = .ok (.iastore, 1) := by decide +kernel
theorem dX0_settleEnds_55 : decode cX0_settleEnds 55 = .ok (.iinc 3 1, 3) := by decide +kernel
theorem dX0_settleEnds_58 : decode cX0_settleEnds 58 = .ok (.goto (-22), 3) := by decide +kernel
theorem dX0_settleEnds_61 : decode cX0_settleEnds 61 = .ok (.return_, 1) := by decide +kernel
theorem dX0_leastHurt_0 : decode cX0_leastHurt 0 = .ok (.iload_n 1, 1) := by decide +kernel
theorem dX0_leastHurt_1 : decode cX0_leastHurt 1 = .ok (.iload_n 1, 1) := by decide +kernel
theorem dX0_leastHurt_2 : decode cX0_leastHurt 2 = .ok (.iload_n 2, 1) := by decide +kernel
theorem dX0_leastHurt_3 : decode cX0_leastHurt 3 = .ok (.iadd, 1) := by decide +kernel
theorem dX0_leastHurt_4 : decode cX0_leastHurt 4 = .ok (.aload_n 0, 1) := by decide +kernel
theorem dX0_leastHurt_5 : decode cX0_leastHurt 5 = .ok (.getfield 24, 3) := by decide +kernel
theorem dX0_leastHurt_8 : decode cX0_leastHurt 8 = .ok (.iload_n 3, 1) := by decide +kernel
theorem dX0_leastHurt_9 : decode cX0_leastHurt 9 = .ok (.iaload, 1) := by decide +kernel
theorem dX0_leastHurt_10 : decode cX0_leastHurt 10 = .ok (.isub, 1) := by decide +kernel
theorem dX0_leastHurt_11 : decode cX0_leastHurt 11 = .ok (.iload 4, 2) := by decide +kernel
theorem dX0_leastHurt_13 : decode cX0_leastHurt 13 = .ok (.isub, 1) := by decide +kernel
theorem dX0_leastHurt_14 : decode cX0_leastHurt 14 = .ok (.invokestatic 89, 3) := by decide +kernel
theorem dX0_leastHurt_17 : decode cX0_leastHurt 17 = .ok (.ireturn, 1) := by decide +kernel
theorem dX0_foldMoment_0 : decode cX0_foldMoment 0 = .ok (.aload_n 0, 1) := by decide +kernel
theorem dX0_foldMoment_1 : decode cX0_foldMoment 1 = .ok (.iload_n 1, 1) := by decide +kernel
theorem dX0_foldMoment_2 : decode cX0_foldMoment 2 = .ok (.invokevirtual 133, 3) := by decide +kernel
theorem dX0_foldMoment_5 : decode cX0_foldMoment 5 = .ok (.istore_n 3, 1) := by decide +kernel
theorem dX0_foldMoment_6 : decode cX0_foldMoment 6 = .ok (.iconst 0, 1) := by decide +kernel
theorem dX0_foldMoment_7 : decode cX0_foldMoment 7 = .ok (.istore 4, 2) := by decide +kernel
theorem dX0_foldMoment_9 : decode cX0_foldMoment 9 = .ok (.iload 4, 2) := by decide +kernel
theorem dX0_foldMoment_11 : decode cX0_foldMoment 11 = .ok (.iload_n 3, 1) := by decide +kernel
theorem dX0_foldMoment_12 : decode cX0_foldMoment 12 = .ok (.if_icmp .ge 114, 3) := by decide +kernel
theorem dX0_foldMoment_15 : decode cX0_foldMoment 15 = .ok (.aload_n 0, 1) := by decide +kernel
theorem dX0_foldMoment_16 : decode cX0_foldMoment 16 = .ok (.getfield 21, 3) := by decide +kernel
theorem dX0_foldMoment_19 : decode cX0_foldMoment 19 = .ok (.iload 4, 2) := by decide +kernel
theorem dX0_foldMoment_21 : decode cX0_foldMoment 21 = .ok (.iaload, 1) := by decide +kernel
theorem dX0_foldMoment_22 : decode cX0_foldMoment 22 = .ok (.iload_n 1, 1) := by decide +kernel
theorem dX0_foldMoment_23 : decode cX0_foldMoment 23 = .ok (.aload_n 0, 1) := by decide +kernel
theorem dX0_foldMoment_24 : decode cX0_foldMoment 24 = .ok (.getfield 24, 3) := by decide +kernel
theorem dX0_foldMoment_27 : decode cX0_foldMoment 27 = .ok (.iload 4, 2) := by decide +kernel
theorem dX0_foldMoment_29 : decode cX0_foldMoment 29 = .ok (.iaload, 1) := by decide +kernel
theorem dX0_foldMoment_30 : decode cX0_foldMoment 30 = .ok (.isub, 1) := by decide +kernel
theorem dX0_foldMoment_31 : decode cX0_foldMoment 31 = .ok (.iconst 5, 1) := by decide +kernel
theorem dX0_foldMoment_32 : decode cX0_foldMoment 32 = .ok (.iload_n 2, 1) := by decide +kernel
theorem dX0_foldMoment_33 : decode cX0_foldMoment 33 = .ok (.isub, 1) := by decide +kernel
theorem dX0_foldMoment_34 : decode cX0_foldMoment 34 = .ok (.isub, 1) := by decide +kernel
theorem dX0_foldMoment_35 : decode cX0_foldMoment 35 = .ok (.invokestatic 89, 3) := by decide +kernel
theorem dX0_foldMoment_38 : decode cX0_foldMoment 38 = .ok (.istore 5, 2) := by decide +kernel
theorem dX0_foldMoment_40 : decode cX0_foldMoment 40 = .ok (.aload_n 0, 1) := by decide +kernel
theorem dX0_foldMoment_41 : decode cX0_foldMoment 41 = .ok (.getfield 21, 3) := by decide +kernel
theorem dX0_foldMoment_44 : decode cX0_foldMoment 44 = .ok (.iload 4, 2) := by decide +kernel
theorem dX0_foldMoment_46 : decode cX0_foldMoment 46 = .ok (.iconst 1, 1) := by decide +kernel
theorem dX0_foldMoment_47 : decode cX0_foldMoment 47 = .ok (.iadd, 1) := by decide +kernel
theorem dX0_foldMoment_48 : decode cX0_foldMoment 48 = .ok (.iaload, 1) := by decide +kernel
theorem dX0_foldMoment_49 : decode cX0_foldMoment 49 = .ok (.iconst 1, 1) := by decide +kernel
theorem dX0_foldMoment_50 : decode cX0_foldMoment 50 = .ok (.isub, 1) := by decide +kernel
theorem dX0_foldMoment_51 : decode cX0_foldMoment 51 = .ok (.iload_n 1, 1) := by decide +kernel
theorem dX0_foldMoment_52 : decode cX0_foldMoment 52 = .ok (.invokestatic 94, 3) := by decide +kernel
theorem dX0_foldMoment_55 : decode cX0_foldMoment 55 = .ok (.istore 6, 2) := by decide +kernel
theorem dX0_foldMoment_57 : decode cX0_foldMoment 57 = .ok (.iload 5, 2) := by decide +kernel
theorem dX0_foldMoment_59 : decode cX0_foldMoment 59 = .ok (.istore 7, 2) := by decide +kernel
theorem dX0_foldMoment_61 : decode cX0_foldMoment 61 = .ok (.iload 7, 2) := by decide +kernel
theorem dX0_foldMoment_63 : decode cX0_foldMoment 63 = .ok (.iload 6, 2) := by decide +kernel
theorem dX0_foldMoment_65 : decode cX0_foldMoment 65 = .ok (.if_icmp .gt 55, 3) := by decide +kernel
theorem dX0_foldMoment_68 : decode cX0_foldMoment 68 = .ok (.iconst 5, 1) := by decide +kernel
theorem dX0_foldMoment_69 : decode cX0_foldMoment 69 = .ok (.iload_n 2, 1) := by decide +kernel
theorem dX0_foldMoment_70 : decode cX0_foldMoment 70 = .ok (.iload_n 1, 1) := by decide +kernel
theorem dX0_foldMoment_71 : decode cX0_foldMoment 71 = .ok (.iadd, 1) := by decide +kernel
theorem dX0_foldMoment_72 : decode cX0_foldMoment 72 = .ok (.iload 7, 2) := by decide +kernel
theorem dX0_foldMoment_74 : decode cX0_foldMoment 74 = .ok (.isub, 1) := by decide +kernel
theorem dX0_foldMoment_75 : decode cX0_foldMoment 75 = .ok (.invokestatic 94, 3) := by decide +kernel
theorem dX0_foldMoment_78 : decode cX0_foldMoment 78 = .ok (.istore 8, 2) := by decide +kernel
theorem dX0_foldMoment_80 : decode cX0_foldMoment 80 = .ok (.aload_n 0, 1) := by decide +kernel
theorem dX0_foldMoment_81 : decode cX0_foldMoment 81 = .ok (.iload_n 2, 1) := by decide +kernel
theorem dX0_foldMoment_82 : decode cX0_foldMoment 82 = .ok (.iload_n 1, 1) := by decide +kernel
theorem dX0_foldMoment_83 : decode cX0_foldMoment 83 = .ok (.iload 4, 2) := by decide +kernel
theorem dX0_foldMoment_85 : decode cX0_foldMoment 85 = .ok (.iload 7, 2) := by decide +kernel
theorem dX0_foldMoment_87 : decode cX0_foldMoment 87 = .ok (.invokevirtual 109, 3) := by decide +kernel
theorem dX0_foldMoment_90 : decode cX0_foldMoment 90 = .ok (.istore 9, 2) := by decide +kernel
theorem dX0_foldMoment_92 : decode cX0_foldMoment 92 = .ok (.iload 9, 2) := by decide +kernel
theorem dX0_foldMoment_94 : decode cX0_foldMoment 94 = .ok (.iload 8, 2) := by decide +kernel
theorem dX0_foldMoment_96 : decode cX0_foldMoment 96 = .ok (.if_icmp .gt 18, 3) := by decide +kernel
theorem dX0_foldMoment_99 : decode cX0_foldMoment 99 = .ok (.aload_n 0, 1) := by decide +kernel
theorem dX0_foldMoment_100 : decode cX0_foldMoment 100 = .ok (.iload 9, 2) := by decide +kernel
theorem dX0_foldMoment_102 : decode cX0_foldMoment 102 = .ok (.iload 7, 2) := by decide +kernel
theorem dX0_foldMoment_104 : decode cX0_foldMoment 104 = .ok (.iload_n 3, 1) := by decide +kernel
theorem dX0_foldMoment_105 : decode cX0_foldMoment 105 = .ok (.invokevirtual 113, 3) := by decide +kernel
theorem dX0_foldMoment_108 : decode cX0_foldMoment 108 = .ok (.iinc 9 1, 3) := by decide +kernel
theorem dX0_foldMoment_111 : decode cX0_foldMoment 111 = .ok (.goto (-19), 3) := by decide +kernel
theorem dX0_foldMoment_114 : decode cX0_foldMoment 114 = .ok (.iinc 7 1, 3) := by decide +kernel
theorem dX0_foldMoment_117 : decode cX0_foldMoment 117 = .ok (.goto (-56), 3) := by decide +kernel
theorem dX0_foldMoment_120 : decode cX0_foldMoment 120 = .ok (.iinc 4 1, 3) := by decide +kernel
theorem dX0_foldMoment_123 : decode cX0_foldMoment 123 = .ok (.goto (-114), 3) := by decide +kernel
theorem dX0_foldMoment_126 : decode cX0_foldMoment 126 = .ok (.return_, 1) := by decide +kernel
theorem dX0_countThere_0 : decode cX0_countThere 0 = .ok (.iconst 1, 1) := by decide +kernel
theorem dX0_countThere_1 : decode cX0_countThere 1 = .ok (.istore_n 2, 1) := by decide +kernel
theorem dX0_countThere_2 : decode cX0_countThere 2 = .ok (.iload_n 2, 1) := by decide +kernel
theorem dX0_countThere_3 : decode cX0_countThere 3 = .ok (.aload_n 0, 1) := by decide +kernel
theorem dX0_countThere_4 : decode cX0_countThere 4 = .ok (.getfield 69, 3) := by decide +kernel
theorem dX0_countThere_7 : decode cX0_countThere 7 = .ok (.if_icmp .ge 19, 3) := by decide +kernel
theorem dX0_countThere_10 : decode cX0_countThere 10 = .ok (.aload_n 0, 1) := by decide +kernel
theorem dX0_countThere_11 : decode cX0_countThere 11 = .ok (.getfield 18, 3) := by decide +kernel
theorem dX0_countThere_14 : decode cX0_countThere 14 = .ok (.iload_n 2, 1) := by decide +kernel
theorem dX0_countThere_15 : decode cX0_countThere 15 = .ok (.iaload, 1) := by decide +kernel
theorem dX0_countThere_16 : decode cX0_countThere 16 = .ok (.iload_n 1, 1) := by decide +kernel
theorem dX0_countThere_17 : decode cX0_countThere 17 = .ok (.if_icmp .gt 9, 3) := by decide +kernel
theorem dX0_countThere_20 : decode cX0_countThere 20 = .ok (.iinc 2 1, 3) := by decide +kernel
theorem dX0_countThere_23 : decode cX0_countThere 23 = .ok (.goto (-21), 3) := by decide +kernel
theorem dX0_countThere_26 : decode cX0_countThere 26 = .ok (.iload_n 2, 1) := by decide +kernel
theorem dX0_countThere_27 : decode cX0_countThere 27 = .ok (.ireturn, 1) := by decide +kernel
theorem dX0_fold_0 : decode cX0_fold 0 = .ok (.aload_n 0, 1) := by decide +kernel
theorem dX0_fold_1 : decode cX0_fold 1 = .ok (.getfield 33, 3) := by decide +kernel
theorem dX0_fold_4 : decode cX0_fold 4 = .ok (.iload_n 1, 1) := by decide +kernel
theorem dX0_fold_5 : decode cX0_fold 5 = .ok (.iaload, 1) := by decide +kernel
theorem dX0_fold_6 : decode cX0_fold 6 = .ok (.aload_n 0, 1) := by decide +kernel
theorem dX0_fold_7 : decode cX0_fold 7 = .ok (.getfield 30, 3) := by decide +kernel
theorem dX0_fold_10 : decode cX0_fold 10 = .ok (.iload_n 2, 1) := by decide +kernel
theorem dX0_fold_11 : decode cX0_fold 11 = .ok (.iaload, 1) := by decide +kernel
theorem dX0_fold_12 : decode cX0_fold 12 = .ok (.iload_n 3, 1) := by decide +kernel
theorem dX0_fold_13 : decode cX0_fold 13 = .ok (.iconst 1, 1) := by decide +kernel
theorem dX0_fold_14 : decode cX0_fold 14 = .ok (.isub, 1) := by decide +kernel
theorem dX0_fold_15 : decode cX0_fold 15 = .ok (.aload_n 0, 1) := by decide +kernel
theorem dX0_fold_16 : decode cX0_fold 16 = .ok (.getfield 27, 3) := by decide +kernel
theorem dX0_fold_19 : decode cX0_fold 19 = .ok (.iload_n 2, 1) := by decide +kernel
theorem dX0_fold_20 : decode cX0_fold 20 = .ok (.iaload, 1) := by decide +kernel
theorem dX0_fold_21 : decode cX0_fold 21 = .ok (.isub, 1) := by decide +kernel
theorem dX0_fold_22 : decode cX0_fold 22 = .ok (.invokestatic 137, 3) := by decide +kernel
theorem dX0_fold_25 : decode cX0_fold 25 = .ok (.istore 4, 2) := by decide +kernel
theorem dX0_fold_27 : decode cX0_fold 27 = .ok (.iload_n 1, 1) := by decide +kernel
theorem dX0_fold_28 : decode cX0_fold 28 = .ok (.bipush 25, 2) := by decide +kernel
theorem dX0_fold_30 : decode cX0_fold 30 = .ok (.imul, 1) := by decide +kernel
theorem dX0_fold_31 : decode cX0_fold 31 = .ok (.iload_n 2, 1) := by decide +kernel
theorem dX0_fold_32 : decode cX0_fold 32 = .ok (.iadd, 1) := by decide +kernel
theorem dX0_fold_33 : decode cX0_fold 33 = .ok (.istore 5, 2) := by decide +kernel
theorem dX0_fold_35 : decode cX0_fold 35 = .ok (.aload_n 0, 1) := by decide +kernel
theorem dX0_fold_36 : decode cX0_fold 36 = .ok (.getfield 36, 3) := by decide +kernel
theorem dX0_fold_39 : decode cX0_fold 39 = .ok (.iload 5, 2) := by decide +kernel
theorem dX0_fold_41 : decode cX0_fold 41 = .ok (.iload 4, 2) := by decide +kernel
theorem dX0_fold_43 : decode cX0_fold 43 = .ok (.aload_n 0, 1) := by decide +kernel
theorem dX0_fold_44 : decode cX0_fold 44 = .ok (.getfield 36, 3) := by decide +kernel
theorem dX0_fold_47 : decode cX0_fold 47 = .ok (.iload 5, 2) := by decide +kernel
theorem dX0_fold_49 : decode cX0_fold 49 = .ok (.iconst 1, 1) := by decide +kernel
theorem dX0_fold_50 : decode cX0_fold 50 = .ok (.iadd, 1) := by decide +kernel
theorem dX0_fold_51 : decode cX0_fold 51 = .ok (.iaload, 1) := by decide +kernel
theorem dX0_fold_52 : decode cX0_fold 52 = .ok (.imul, 1) := by decide +kernel
theorem dX0_fold_53 : decode cX0_fold 53 = .ok (.bipush 16, 2) := by decide +kernel
theorem dX0_fold_55 : decode cX0_fold 55 = .ok (.iload 4, 2) := by decide +kernel
theorem dX0_fold_57 : decode cX0_fold 57 = .ok (.isub, 1) := by decide +kernel
theorem dX0_fold_58 : decode cX0_fold 58 = .ok (.aload_n 0, 1) := by decide +kernel
theorem dX0_fold_59 : decode cX0_fold 59 = .ok (.getfield 36, 3) := by decide +kernel
theorem dX0_fold_62 : decode cX0_fold 62 = .ok (.iload 5, 2) := by decide +kernel
theorem dX0_fold_64 : decode cX0_fold 64 = .ok (.bipush 25, 2) := by decide +kernel
theorem dX0_fold_66 : decode cX0_fold 66 = .ok (.iadd, 1) := by decide +kernel
theorem dX0_fold_67 : decode cX0_fold 67 = .ok (.iaload, 1) := by decide +kernel
theorem dX0_fold_68 : decode cX0_fold 68 = .ok (.imul, 1) := by decide +kernel
theorem dX0_fold_69 : decode cX0_fold 69 = .ok (.iadd, 1) := by decide +kernel
theorem dX0_fold_70 : decode cX0_fold 70 = .ok (.bipush 16, 2) := by decide +kernel
theorem dX0_fold_72 : decode cX0_fold 72 = .ok (.idiv, 1) := by decide +kernel
theorem dX0_fold_73 : decode cX0_fold 73 = .ok (.iastore, 1) := by decide +kernel
theorem dX0_fold_74 : decode cX0_fold 74 = .ok (.return_, 1) := by decide +kernel
theorem dX1_init_0 : decode cX1_init 0 = .ok (.aload_n 0, 1) := by decide +kernel
theorem dX1_init_1 : decode cX1_init 1 = .ok (.invokespecial 3, 3) := by decide +kernel
theorem dX1_init_4 : decode cX1_init 4 = .ok (.aload_n 0, 1) := by decide +kernel
theorem dX1_init_5 : decode cX1_init 5 = .ok (.bipush 100, 2) := by decide +kernel
theorem dX1_init_7 : decode cX1_init 7 = .ok (.newarray .int, 2) := by decide +kernel
theorem dX1_init_9 : decode cX1_init 9 = .ok (.putfield 9, 3) := by decide +kernel
theorem dX1_init_12 : decode cX1_init 12 = .ok (.aload_n 0, 1) := by decide +kernel
theorem dX1_init_13 : decode cX1_init 13 = .ok (.new 15, 3) := by decide +kernel
theorem dX1_init_16 : decode cX1_init 16 = .ok (.dup, 1) := by decide +kernel
theorem dX1_init_17 : decode cX1_init 17 = .ok (.invokespecial 17, 3) := by decide +kernel
theorem dX1_init_20 : decode cX1_init 20 = .ok (.putfield 18, 3) := by decide +kernel
theorem dX1_init_23 : decode cX1_init 23 = .ok (.return_, 1) := by decide +kernel
theorem dX1_add_0 : decode cX1_add 0 = .ok (.aload_n 0, 1) := by decide +kernel
theorem dX1_add_1 : decode cX1_add 1 = .ok (.getfield 22, 3) := by decide +kernel
theorem dX1_add_4 : decode cX1_add 4 = .ok (.bipush 100, 2) := by decide +kernel
theorem dX1_add_6 : decode cX1_add 6 = .ok (.if_icmp .lt 5, 3) := by decide +kernel
theorem dX1_add_9 : decode cX1_add 9 = .ok (.iconst 0, 1) := by decide +kernel
theorem dX1_add_10 : decode cX1_add 10 = .ok (.ireturn, 1) := by decide +kernel
theorem dX1_add_11 : decode cX1_add 11 = .ok (.aload_n 0, 1) := by decide +kernel
theorem dX1_add_12 : decode cX1_add 12 = .ok (.getfield 9, 3) := by decide +kernel
theorem dX1_add_15 : decode cX1_add 15 = .ok (.aload_n 0, 1) := by decide +kernel
theorem dX1_add_16 : decode cX1_add 16 = .ok (.getfield 22, 3) := by decide +kernel
theorem dX1_add_19 : decode cX1_add 19 = .ok (.iload_n 1, 1) := by decide +kernel
theorem dX1_add_20 : decode cX1_add 20 = .ok (.iastore, 1) := by decide +kernel
theorem dX1_add_21 : decode cX1_add 21 = .ok (.aload_n 0, 1) := by decide +kernel
theorem dX1_add_22 : decode cX1_add 22 = .ok (.dup, 1) := by decide +kernel
theorem dX1_add_23 : decode cX1_add 23 = .ok (.getfield 22, 3) := by decide +kernel
theorem dX1_add_26 : decode cX1_add 26 = .ok (.iconst 1, 1) := by decide +kernel
theorem dX1_add_27 : decode cX1_add 27 = .ok (.iadd, 1) := by decide +kernel
theorem dX1_add_28 : decode cX1_add 28 = .ok (.putfield 22, 3) := by decide +kernel
theorem dX1_add_31 : decode cX1_add 31 = .ok (.iconst 1, 1) := by decide +kernel
theorem dX1_add_32 : decode cX1_add 32 = .ok (.ireturn, 1) := by decide +kernel
theorem dX1_setUp_0 : decode cX1_setUp 0 = .ok (.aload_n 0, 1) := by decide +kernel
theorem dX1_setUp_1 : decode cX1_setUp 1 = .ok (.getfield 18, 3) := by decide +kernel
theorem dX1_setUp_4 : decode cX1_setUp 4 = .ok (.aload_n 1, 1) := by decide +kernel
theorem dX1_setUp_5 : decode cX1_setUp 5 = .ok (.getfield 26, 3) := by decide +kernel
theorem dX1_setUp_8 : decode cX1_setUp 8 = .ok (.putfield 26, 3) := by decide +kernel
theorem dX1_setUp_11 : decode cX1_setUp 11 = .ok (.aload_n 0, 1) := by decide +kernel
theorem dX1_setUp_12 : decode cX1_setUp 12 = .ok (.getfield 18, 3) := by decide +kernel
theorem dX1_setUp_15 : decode cX1_setUp 15 = .ok (.aload_n 1, 1) := by decide +kernel
theorem dX1_setUp_16 : decode cX1_setUp 16 = .ok (.getfield 29, 3) := by decide +kernel
theorem dX1_setUp_19 : decode cX1_setUp 19 = .ok (.putfield 29, 3) := by decide +kernel
theorem dX1_setUp_22 : decode cX1_setUp 22 = .ok (.aload_n 1, 1) := by decide +kernel
theorem dX1_setUp_23 : decode cX1_setUp 23 = .ok (.aload_n 0, 1) := by decide +kernel
theorem dX1_setUp_24 : decode cX1_setUp 24 = .ok (.getfield 18, 3) := by decide +kernel
theorem dX1_setUp_27 : decode cX1_setUp 27 = .ok (.invokevirtual 32, 3) := by decide +kernel
theorem dX1_setUp_30 : decode cX1_setUp 30 = .ok (.return_, 1) := by decide +kernel
theorem dX1_read_0 : decode cX1_read 0 = .ok (.aload_n 0, 1) := by decide +kernel
theorem dX1_read_1 : decode cX1_read 1 = .ok (.iconst 0, 1) := by decide +kernel
theorem dX1_read_2 : decode cX1_read 2 = .ok (.putfield 36, 3) := by decide +kernel
theorem dX1_read_5 : decode cX1_read 5 = .ok (.aload_n 0, 1) := by decide +kernel
theorem dX1_read_6 : decode cX1_read 6 = .ok (.getfield 18, 3) := by decide +kernel
theorem dX1_read_9 : decode cX1_read 9 = .ok (.invokevirtual 39, 3) := by decide +kernel
theorem dX1_read_12 : decode cX1_read 12 = .ok (.aload_n 0, 1) := by decide +kernel
theorem dX1_read_13 : decode cX1_read 13 = .ok (.invokevirtual 42, 3) := by decide +kernel
theorem dX1_read_16 : decode cX1_read 16 = .ok (.ifCond .ne 5, 3) := by decide +kernel
theorem dX1_read_19 : decode cX1_read 19 = .ok (.iconst 0, 1) := by decide +kernel
theorem dX1_read_20 : decode cX1_read 20 = .ok (.ireturn, 1) := by decide +kernel
theorem dX1_read_21 : decode cX1_read 21 = .ok (.aload_n 0, 1) := by decide +kernel
theorem dX1_read_22 : decode cX1_read 22 = .ok (.invokevirtual 46, 3) := by decide +kernel
theorem dX1_read_25 : decode cX1_read 25 = .ok (.ifCond .eq 19, 3) := by decide +kernel
theorem dX1_read_28 : decode cX1_read 28 = .ok (.aload_n 0, 1) := by decide +kernel
theorem dX1_read_29 : decode cX1_read 29 = .ok (.bipush 59, 2) := by decide +kernel
theorem dX1_read_31 : decode cX1_read 31 = .ok (.invokevirtual 50, 3) := by decide +kernel
theorem dX1_read_34 : decode cX1_read 34 = .ok (.ifCond .eq 14, 3) := by decide +kernel
theorem dX1_read_37 : decode cX1_read 37 = .ok (.aload_n 0, 1) := by decide +kernel
theorem dX1_read_38 : decode cX1_read 38 = .ok (.invokevirtual 54, 3) := by decide +kernel
theorem dX1_read_41 : decode cX1_read 41 = .ok (.ifCond .eq 7, 3) := by decide +kernel
theorem dX1_read_44 : decode cX1_read 44 = .ok (.iconst 1, 1) := by decide +kernel
theorem dX1_read_45 : decode cX1_read 45 = .ok (.goto 4, 3) := by decide +kernel
theorem dX1_read_48 : decode cX1_read 48 = .ok (.iconst 0, 1) := by decide +kernel
theorem dX1_read_49 : decode cX1_read 49 = .ok (.ireturn, 1) := by decide +kernel
theorem dX1_readGround_0 : decode cX1_readGround 0 = .ok (.aload_n 0, 1) := by decide +kernel
theorem dX1_readGround_1 : decode cX1_readGround 1 = .ok (.getfield 18, 3) := by decide +kernel
theorem dX1_readGround_4 : decode cX1_readGround 4 = .ok (.getfield 57, 3) := by decide +kernel
theorem dX1_readGround_7 : decode cX1_readGround 7 = .ok (.bipush 40, 2) := by decide +kernel
theorem dX1_readGround_9 : decode cX1_readGround 9 = .ok (.if_icmp .ge 56, 3) := by decide +kernel
theorem dX1_readGround_12 : decode cX1_readGround 12 = .ok (.ldc 60, 2) := by decide +kernel
theorem dX1_readGround_14 : decode cX1_readGround 14 = .ok (.aload_n 0, 1) := by decide +kernel
theorem dX1_readGround_15 : decode cX1_readGround 15 = .ok (.invokevirtual 46, 3) := by decide +kernel
theorem dX1_readGround_18 : decode cX1_readGround 18 = .ok (.i2c, 1) := by decide +kernel
theorem dX1_readGround_19 : decode cX1_readGround 19 = .ok (.invokevirtual 62, 3) := by decide +kernel
theorem dX1_readGround_22 : decode cX1_readGround 22 = .ok (.istore_n 1, 1) := by decide +kernel
theorem dX1_readGround_23 : decode cX1_readGround 23 = .ok (.iload_n 1, 1) := by decide +kernel
theorem dX1_readGround_24 : decode cX1_readGround 24 = .ok (.ifCond .lt 41, 3) := by decide +kernel
theorem dX1_readGround_27 : decode cX1_readGround 27 = .ok (.aload_n 0, 1) := by decide +kernel
theorem dX1_readGround_28 : decode cX1_readGround 28 = .ok (.getfield 18, 3) := by decide +kernel
theorem dX1_readGround_31 : decode cX1_readGround 31 = .ok (.getfield 57, 3) := by decide +kernel
theorem dX1_readGround_34 : decode cX1_readGround 34 = .ok (.ifCond .ne 10, 3) := by decide +kernel
theorem dX1_readGround_37 : decode cX1_readGround 37 = .ok (.iload_n 1, 1) := by decide +kernel
theorem dX1_readGround_38 : decode cX1_readGround 38 = .ok (.ifCond .eq 6, 3) := by decide +kernel
theorem dX1_readGround_41 : decode cX1_readGround 41 = .ok (.goto 24, 3) := by decide +kernel
theorem dX1_readGround_44 : decode cX1_readGround 44 = .ok (.aload_n 0, 1) := by decide +kernel
theorem dX1_readGround_45 : decode cX1_readGround 45 = .ok (.getfield 18, 3) := by decide +kernel
theorem dX1_readGround_48 : decode cX1_readGround 48 = .ok (.iload_n 1, 1) := by decide +kernel
theorem dX1_readGround_49 : decode cX1_readGround 49 = .ok (.invokevirtual 68, 3) := by decide +kernel
theorem dX1_readGround_52 : decode cX1_readGround 52 = .ok (.aload_n 0, 1) := by decide +kernel
theorem dX1_readGround_53 : decode cX1_readGround 53 = .ok (.dup, 1) := by decide +kernel
theorem dX1_readGround_54 : decode cX1_readGround 54 = .ok (.getfield 36, 3) := by decide +kernel
theorem dX1_readGround_57 : decode cX1_readGround 57 = .ok (.iconst 1, 1) := by decide +kernel
theorem dX1_readGround_58 : decode cX1_readGround 58 = .ok (.iadd, 1) := by decide +kernel
theorem dX1_readGround_59 : decode cX1_readGround 59 = .ok (.putfield 36, 3) := by decide +kernel
theorem dX1_readGround_62 : decode cX1_readGround 62 = .ok (.goto (-62), 3) := by decide +kernel
theorem dX1_readGround_65 : decode cX1_readGround 65 = .ok (.aload_n 0, 1) := by decide +kernel
theorem dX1_readGround_66 : decode cX1_readGround 66 = .ok (.getfield 18, 3) := by decide +kernel
theorem dX1_readGround_69 : decode cX1_readGround 69 = .ok (.getfield 57, 3) := by decide +kernel
theorem dX1_readGround_72 : decode cX1_readGround 72 = .ok (.ifCond .le 7, 3) := by decide +kernel
theorem dX1_readGround_75 : decode cX1_readGround 75 = .ok (.iconst 1, 1) := by decide +kernel
theorem dX1_readGround_76 : decode cX1_readGround 76 = .ok (.goto 4, 3) := by decide +kernel
theorem dX1_readGround_79 : decode cX1_readGround 79 = .ok (.iconst 0, 1) := by decide +kernel
theorem dX1_readGround_80 : decode cX1_readGround 80 = .ok (.ireturn, 1) := by decide +kernel
theorem dX1_readFighters_0 : decode cX1_readFighters 0 = .ok (.aload_n 0, 1) := by decide +kernel
theorem dX1_readFighters_1 : decode cX1_readFighters 1 = .ok (.getfield 18, 3) := by decide +kernel
theorem dX1_readFighters_4 : decode cX1_readFighters 4 = .ok (.getfield 72, 3) := by decide +kernel
theorem dX1_readFighters_7 : decode cX1_readFighters 7 = .ok (.iconst 5, 1) := by decide +kernel
theorem dX1_readFighters_8 : decode cX1_readFighters 8 = .ok (.if_icmp .ge 43, 3) := by decide +kernel
theorem dX1_readFighters_11 : decode cX1_readFighters 11 = .ok (.aload_n 0, 1) := by decide +kernel
theorem dX1_readFighters_12 : decode cX1_readFighters 12 = .ok (.invokevirtual 75, 3) := by decide +kernel
theorem dX1_readFighters_15 : decode cX1_readFighters 15 = .ok (.ifCond .ne 5, 3) := by decide +kernel
theorem dX1_readFighters_18 : decode cX1_readFighters 18 = .ok (.iconst 0, 1) := by decide +kernel
theorem dX1_readFighters_19 : decode cX1_readFighters 19 = .ok (.ireturn, 1) := by decide +kernel
theorem dX1_readFighters_20 : decode cX1_readFighters 20 = .ok (.aload_n 0, 1) := by decide +kernel
theorem dX1_readFighters_21 : decode cX1_readFighters 21 = .ok (.invokevirtual 46, 3) := by decide +kernel
theorem dX1_readFighters_24 : decode cX1_readFighters 24 = .ok (.ifCond .ne 5, 3) := by decide +kernel
theorem dX1_readFighters_27 : decode cX1_readFighters 27 = .ok (.iconst 1, 1) := by decide +kernel
theorem dX1_readFighters_28 : decode cX1_readFighters 28 = .ok (.ireturn, 1) := by decide +kernel
theorem dX1_readFighters_29 : decode cX1_readFighters 29 = .ok (.aload_n 0, 1) := by decide +kernel
theorem dX1_readFighters_30 : decode cX1_readFighters 30 = .ok (.getfield 18, 3) := by decide +kernel
theorem dX1_readFighters_33 : decode cX1_readFighters 33 = .ok (.getfield 72, 3) := by decide +kernel
theorem dX1_readFighters_36 : decode cX1_readFighters 36 = .ok (.iconst 5, 1) := by decide +kernel
theorem dX1_readFighters_37 : decode cX1_readFighters 37 = .ok (.if_icmp .eq 12, 3) := by decide +kernel
theorem dX1_readFighters_40 : decode cX1_readFighters 40 = .ok (.aload_n 0, 1) := by decide +kernel
theorem dX1_readFighters_41 : decode cX1_readFighters 41 = .ok (.bipush 44, 2) := by decide +kernel
theorem dX1_readFighters_43 : decode cX1_readFighters 43 = .ok (.invokevirtual 50, 3) := by decide +kernel
theorem dX1_readFighters_46 : decode cX1_readFighters 46 = .ok (.ifCond .ne (-46), 3) := by decide +kernel
theorem dX1_readFighters_49 : decode cX1_readFighters 49 = .ok (.iconst 0, 1) := by decide +kernel
theorem dX1_readFighters_50 : decode cX1_readFighters 50 = .ok (.ireturn, 1) := by decide +kernel
theorem dX1_readFighters_51 : decode cX1_readFighters 51 = .ok (.iconst 0, 1) := by decide +kernel
theorem dX1_readFighters_52 : decode cX1_readFighters 52 = .ok (.ireturn, 1) := by decide +kernel
theorem dX1_readFighter_0 : decode cX1_readFighter 0 = .ok (.ldc 78, 2) := by decide +kernel
theorem dX1_readFighter_2 : decode cX1_readFighter 2 = .ok (.aload_n 0, 1) := by decide +kernel
theorem dX1_readFighter_3 : decode cX1_readFighter 3 = .ok (.invokevirtual 46, 3) := by decide +kernel
theorem dX1_readFighter_6 : decode cX1_readFighter 6 = .ok (.i2c, 1) := by decide +kernel
theorem dX1_readFighter_7 : decode cX1_readFighter 7 = .ok (.invokevirtual 62, 3) := by decide +kernel
theorem dX1_readFighter_10 : decode cX1_readFighter 10 = .ok (.istore_n 1, 1) := by decide +kernel
theorem dX1_readFighter_11 : decode cX1_readFighter 11 = .ok (.iload_n 1, 1) := by decide +kernel
theorem dX1_readFighter_12 : decode cX1_readFighter 12 = .ok (.ifCond .ge 5, 3) := by decide +kernel
theorem dX1_readFighter_15 : decode cX1_readFighter 15 = .ok (.iconst 0, 1) := by decide +kernel
theorem dX1_readFighter_16 : decode cX1_readFighter 16 = .ok (.ireturn, 1) := by decide +kernel
theorem dX1_readFighter_17 : decode cX1_readFighter 17 = .ok (.aload_n 0, 1) := by decide +kernel
theorem dX1_readFighter_18 : decode cX1_readFighter 18 = .ok (.dup, 1) := by decide +kernel
theorem dX1_readFighter_19 : decode cX1_readFighter 19 = .ok (.getfield 36, 3) := by decide +kernel
theorem dX1_readFighter_22 : decode cX1_readFighter 22 = .ok (.iconst 1, 1) := by decide +kernel
theorem dX1_readFighter_23 : decode cX1_readFighter 23 = .ok (.iadd, 1) := by decide +kernel
theorem dX1_readFighter_24 : decode cX1_readFighter 24 = .ok (.putfield 36, 3) := by decide +kernel
theorem dX1_readFighter_27 : decode cX1_readFighter 27 = .ok (.aload_n 0, 1) := by decide +kernel
theorem dX1_readFighter_28 : decode cX1_readFighter 28 = .ok (.iconst 1, 1) := by decide +kernel
theorem dX1_readFighter_29 : decode cX1_readFighter 29 = .ok (.bipush 9, 2) := by decide +kernel
theorem dX1_readFighter_31 : decode cX1_readFighter 31 = .ok (.invokevirtual 80, 3) := by decide +kernel
theorem dX1_readFighter_34 : decode cX1_readFighter 34 = .ok (.istore_n 2, 1) := by decide +kernel
theorem dX1_readFighter_35 : decode cX1_readFighter 35 = .ok (.iload_n 2, 1) := by decide +kernel
theorem dX1_readFighter_36 : decode cX1_readFighter 36 = .ok (.ifCond .ge 5, 3) := by decide +kernel
theorem dX1_readFighter_39 : decode cX1_readFighter 39 = .ok (.iconst 0, 1) := by decide +kernel
theorem dX1_readFighter_40 : decode cX1_readFighter 40 = .ok (.ireturn, 1) := by decide +kernel
theorem dX1_readFighter_41 : decode cX1_readFighter 41 = .ok (.aload_n 0, 1) := by decide +kernel
theorem dX1_readFighter_42 : decode cX1_readFighter 42 = .ok (.iconst 1, 1) := by decide +kernel
theorem dX1_readFighter_43 : decode cX1_readFighter 43 = .ok (.bipush 6, 2) := by decide +kernel
theorem dX1_readFighter_45 : decode cX1_readFighter 45 = .ok (.invokevirtual 80, 3) := by decide +kernel
theorem dX1_readFighter_48 : decode cX1_readFighter 48 = .ok (.istore_n 3, 1) := by decide +kernel
theorem dX1_readFighter_49 : decode cX1_readFighter 49 = .ok (.iload_n 3, 1) := by decide +kernel
theorem dX1_readFighter_50 : decode cX1_readFighter 50 = .ok (.ifCond .ge 5, 3) := by decide +kernel
theorem dX1_readFighter_53 : decode cX1_readFighter 53 = .ok (.iconst 0, 1) := by decide +kernel
theorem dX1_readFighter_54 : decode cX1_readFighter 54 = .ok (.ireturn, 1) := by decide +kernel
theorem dX1_readFighter_55 : decode cX1_readFighter 55 = .ok (.aload_n 0, 1) := by decide +kernel
theorem dX1_readFighter_56 : decode cX1_readFighter 56 = .ok (.bipush 45, 2) := by decide +kernel
theorem dX1_readFighter_58 : decode cX1_readFighter 58 = .ok (.invokevirtual 50, 3) := by decide +kernel
theorem dX1_readFighter_61 : decode cX1_readFighter 61 = .ok (.ifCond .eq 13, 3) := by decide +kernel
theorem dX1_readFighter_64 : decode cX1_readFighter 64 = .ok (.aload_n 0, 1) := by decide +kernel
theorem dX1_readFighter_65 : decode cX1_readFighter 65 = .ok (.iconst 0, 1) := by decide +kernel
theorem dX1_readFighter_66 : decode cX1_readFighter 66 = .ok (.bipush 6, 2) := by decide +kernel
theorem dX1_readFighter_68 : decode cX1_readFighter 68 = .ok (.invokevirtual 80, 3) := by decide +kernel
theorem dX1_readFighter_71 : decode cX1_readFighter 71 = .ok (.goto 4, 3) := by decide +kernel
theorem dX1_readFighter_74 : decode cX1_readFighter 74 = .ok (.iconst 0, 1) := by decide +kernel
theorem dX1_readFighter_75 : decode cX1_readFighter 75 = .ok (.istore 4, 2) := by decide +kernel
theorem dX1_readFighter_77 : decode cX1_readFighter 77 = .ok (.iload 4, 2) := by decide +kernel
theorem dX1_readFighter_79 : decode cX1_readFighter 79 = .ok (.ifCond .ge 5, 3) := by decide +kernel
theorem dX1_readFighter_82 : decode cX1_readFighter 82 = .ok (.iconst 0, 1) := by decide +kernel
theorem dX1_readFighter_83 : decode cX1_readFighter 83 = .ok (.ireturn, 1) := by decide +kernel
theorem dX1_readFighter_84 : decode cX1_readFighter 84 = .ok (.aload_n 0, 1) := by decide +kernel
theorem dX1_readFighter_85 : decode cX1_readFighter 85 = .ok (.getfield 18, 3) := by decide +kernel
theorem dX1_readFighter_88 : decode cX1_readFighter 88 = .ok (.iload_n 1, 1) := by decide +kernel
theorem dX1_readFighter_89 : decode cX1_readFighter 89 = .ok (.iload_n 2, 1) := by decide +kernel
theorem dX1_readFighter_90 : decode cX1_readFighter 90 = .ok (.iload_n 3, 1) := by decide +kernel
theorem dX1_readFighter_91 : decode cX1_readFighter 91 = .ok (.iload 4, 2) := by decide +kernel
theorem dX1_readFighter_93 : decode cX1_readFighter 93 = .ok (.invokevirtual 84, 3) := by decide +kernel
theorem dX1_readFighter_96 : decode cX1_readFighter 96 = .ok (.pop, 1) := by decide +kernel
theorem dX1_readFighter_97 : decode cX1_readFighter 97 = .ok (.iconst 1, 1) := by decide +kernel
theorem dX1_readFighter_98 : decode cX1_readFighter 98 = .ok (.ireturn, 1) := by decide +kernel
theorem dX1_peek_0 : decode cX1_peek 0 = .ok (.aload_n 0, 1) := by decide +kernel
theorem dX1_peek_1 : decode cX1_peek 1 = .ok (.getfield 36, 3) := by decide +kernel
theorem dX1_peek_4 : decode cX1_peek 4 = .ok (.aload_n 0, 1) := by decide +kernel
theorem dX1_peek_5 : decode cX1_peek 5 = .ok (.getfield 22, 3) := by decide +kernel
theorem dX1_peek_8 : decode cX1_peek 8 = .ok (.if_icmp .ge 30, 3) := by decide +kernel
theorem dX1_peek_11 : decode cX1_peek 11 = .ok (.aload_n 0, 1) := by decide +kernel
theorem dX1_peek_12 : decode cX1_peek 12 = .ok (.getfield 9, 3) := by decide +kernel
theorem dX1_peek_15 : decode cX1_peek 15 = .ok (.aload_n 0, 1) := by decide +kernel
theorem dX1_peek_16 : decode cX1_peek 16 = .ok (.getfield 36, 3) := by decide +kernel
theorem dX1_peek_19 : decode cX1_peek 19 = .ok (.iaload, 1) := by decide +kernel
theorem dX1_peek_20 : decode cX1_peek 20 = .ok (.bipush 32, 2) := by decide +kernel
theorem dX1_peek_22 : decode cX1_peek 22 = .ok (.if_icmp .ne 16, 3) := by decide +kernel
theorem dX1_peek_25 : decode cX1_peek 25 = .ok (.aload_n 0, 1) := by decide +kernel
theorem dX1_peek_26 : decode cX1_peek 26 = .ok (.dup, 1) := by decide +kernel
theorem dX1_peek_27 : decode cX1_peek 27 = .ok (.getfield 36, 3) := by decide +kernel
