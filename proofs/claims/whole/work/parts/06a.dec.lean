theorem dX8_in_0 : decode cX8_in 0 = .ok (.lload_n 0, 1) := by decide +kernel
theorem dX8_in_1 : decode cX8_in 1 = .ok (.lload_n 2, 1) := by decide +kernel
theorem dX8_in_2 : decode cX8_in 2 = .ok (.lcmp, 1) := by decide +kernel
theorem dX8_in_3 : decode cX8_in 3 = .ok (.ifCond .lt 14, 3) := by decide +kernel
theorem dX8_in_6 : decode cX8_in 6 = .ok (.lload_n 0, 1) := by decide +kernel
theorem dX8_in_7 : decode cX8_in 7 = .ok (.lload 4, 2) := by decide +kernel
theorem dX8_in_9 : decode cX8_in 9 = .ok (.lcmp, 1) := by decide +kernel
theorem dX8_in_10 : decode cX8_in 10 = .ok (.ifCond .gt 7, 3) := by decide +kernel
theorem dX8_in_13 : decode cX8_in 13 = .ok (.iconst 1, 1) := by decide +kernel
theorem dX8_in_14 : decode cX8_in 14 = .ok (.goto 4, 3) := by decide +kernel
theorem dX8_in_17 : decode cX8_in 17 = .ok (.iconst 0, 1) := by decide +kernel
theorem dX8_in_18 : decode cX8_in 18 = .ok (.ireturn, 1) := by decide +kernel
theorem dX8_init_0 : decode cX8_init 0 = .ok (.aload_n 0, 1) := by decide +kernel
theorem dX8_init_1 : decode cX8_init 1 = .ok (.invokespecial 1, 3) := by decide +kernel
theorem dX8_init_4 : decode cX8_init 4 = .ok (.aload_n 0, 1) := by decide +kernel
theorem dX8_init_5 : decode cX8_init 5 = .ok (.bipush 40, 2) := by decide +kernel
theorem dX8_init_7 : decode cX8_init 7 = .ok (.newarray .int, 2) := by decide +kernel
theorem dX8_init_9 : decode cX8_init 9 = .ok (.putfield 7, 3) := by decide +kernel
theorem dX8_init_12 : decode cX8_init 12 = .ok (.aload_n 0, 1) := by decide +kernel
theorem dX8_init_13 : decode cX8_init 13 = .ok (.bipush 15, 2) := by decide +kernel
theorem dX8_init_15 : decode cX8_init 15 = .ok (.newarray .int, 2) := by decide +kernel
theorem dX8_init_17 : decode cX8_init 17 = .ok (.putfield 13, 3) := by decide +kernel
theorem dX8_init_20 : decode cX8_init 20 = .ok (.aload_n 0, 1) := by decide +kernel
theorem dX8_init_21 : decode cX8_init 21 = .ok (.bipush 13, 2) := by decide +kernel
theorem dX8_init_23 : decode cX8_init 23 = .ok (.newarray .int, 2) := by decide +kernel
theorem dX8_init_25 : decode cX8_init 25 = .ok (.putfield 16, 3) := by decide +kernel
theorem dX8_init_28 : decode cX8_init 28 = .ok (.aload_n 0, 1) := by decide +kernel
theorem dX8_init_29 : decode cX8_init 29 = .ok (.bipush 100, 2) := by decide +kernel
theorem dX8_init_31 : decode cX8_init 31 = .ok (.newarray .int, 2) := by decide +kernel
theorem dX8_init_33 : decode cX8_init 33 = .ok (.putfield 19, 3) := by decide +kernel
theorem dX8_init_36 : decode cX8_init 36 = .ok (.aload_n 0, 1) := by decide +kernel
theorem dX8_init_37 : decode cX8_init 37 = .ok (.bipush 40, 2) := by decide +kernel
theorem dX8_init_39 : decode cX8_init 39 = .ok (.newarray .int, 2) := by decide +kernel
theorem dX8_init_41 : decode cX8_init 41 = .ok (.putfield 22, 3) := by decide +kernel
theorem dX8_init_44 : decode cX8_init 44 = .ok (.aload_n 0, 1) := by decide +kernel
theorem dX8_init_45 : decode cX8_init 45 = .ok (.bipush 20, 2) := by decide +kernel
theorem dX8_init_47 : decode cX8_init 47 = .ok (.newarray .int, 2) := by decide +kernel
theorem dX8_init_49 : decode cX8_init 49 = .ok (.putfield 25, 3) := by decide +kernel
theorem dX8_init_52 : decode cX8_init 52 = .ok (.aload_n 0, 1) := by decide +kernel
theorem dX8_init_53 : decode cX8_init 53 = .ok (.bipush 104, 2) := by decide +kernel
theorem dX8_init_55 : decode cX8_init 55 = .ok (.newarray .int, 2) := by decide +kernel
theorem dX8_init_57 : decode cX8_init 57 = .ok (.putfield 28, 3) := by decide +kernel
theorem dX8_init_60 : decode cX8_init 60 = .ok (.aload_n 0, 1) := by decide +kernel
theorem dX8_init_61 : decode cX8_init 61 = .ok (.bipush 13, 2) := by decide +kernel
theorem dX8_init_63 : decode cX8_init 63 = .ok (.newarray .int, 2) := by decide +kernel
theorem dX8_init_65 : decode cX8_init 65 = .ok (.putfield 31, 3) := by decide +kernel
theorem dX8_init_68 : decode cX8_init 68 = .ok (.aload_n 0, 1) := by decide +kernel
theorem dX8_init_69 : decode cX8_init 69 = .ok (.iconst 4, 1) := by decide +kernel
theorem dX8_init_70 : decode cX8_init 70 = .ok (.newarray .int, 2) := by decide +kernel
theorem dX8_init_72 : decode cX8_init 72 = .ok (.putfield 34, 3) := by decide +kernel
theorem dX8_init_75 : decode cX8_init 75 = .ok (.aload_n 0, 1) := by decide +kernel
theorem dX8_init_76 : decode cX8_init 76 = .ok (.sipush 180, 3) := by decide +kernel
theorem dX8_init_79 : decode cX8_init 79 = .ok (.newarray .int, 2) := by decide +kernel
theorem dX8_init_81 : decode cX8_init 81 = .ok (.putfield 37, 3) := by decide +kernel
theorem dX8_init_84 : decode cX8_init 84 = .ok (.aload_n 0, 1) := by decide +kernel
theorem dX8_init_85 : decode cX8_init 85 = .ok (.sipush 180, 3) := by decide +kernel
theorem dX8_init_88 : decode cX8_init 88 = .ok (.newarray .int, 2) := by decide +kernel
theorem dX8_init_90 : decode cX8_init 90 = .ok (.putfield 40, 3) := by decide +kernel
theorem dX8_init_93 : decode cX8_init 93 = .ok (.aload_n 0, 1) := by decide +kernel
theorem dX8_init_94 : decode cX8_init 94 = .ok (.bipush 61, 2) := by decide +kernel
theorem dX8_init_96 : decode cX8_init 96 = .ok (.newarray .int, 2) := by decide +kernel
theorem dX8_init_98 : decode cX8_init 98 = .ok (.putfield 43, 3) := by decide +kernel
theorem dX8_init_101 : decode cX8_init 101 = .ok (.aload_n 0, 1) := by decide +kernel
theorem dX8_init_102 : decode cX8_init 102 = .ok (.sipush 177, 3) := by decide +kernel
theorem dX8_init_105 : decode cX8_init 105 = .ok (.newarray .int, 2) := by decide +kernel
theorem dX8_init_107 : decode cX8_init 107 = .ok (.putfield 46, 3) := by decide +kernel
theorem dX8_init_110 : decode cX8_init 110 = .ok (.aload_n 0, 1) := by decide +kernel
theorem dX8_init_111 : decode cX8_init 111 = .ok (.iconst 4, 1) := by decide +kernel
theorem dX8_init_112 : decode cX8_init 112 = .ok (.newarray .int, 2) := by decide +kernel
theorem dX8_init_114 : decode cX8_init 114 = .ok (.putfield 49, 3) := by decide +kernel
theorem dX8_init_117 : decode cX8_init 117 = .ok (.aload_n 0, 1) := by decide +kernel
theorem dX8_init_118 : decode cX8_init 118 = .ok (.iconst 4, 1) := by decide +kernel
theorem dX8_init_119 : decode cX8_init 119 = .ok (.newarray .int, 2) := by decide +kernel
theorem dX8_init_121 : decode cX8_init 121 = .ok (.putfield 52, 3) := by decide +kernel
theorem dX8_init_124 : decode cX8_init 124 = .ok (.aload_n 0, 1) := by decide +kernel
theorem dX8_init_125 : decode cX8_init 125 = .ok (.bipush 96, 2) := by decide +kernel
theorem dX8_init_127 : decode cX8_init 127 = .ok (.newarray .long, 2) := by decide +kernel
theorem dX8_init_129 : decode cX8_init 129 = .ok (.putfield 55, 3) := by decide +kernel
theorem dX8_init_132 : decode cX8_init 132 = .ok (.aload_n 0, 1) := by decide +kernel
theorem dX8_init_133 : decode cX8_init 133 = .ok (.bipush 24, 2) := by decide +kernel
theorem dX8_init_135 : decode cX8_init 135 = .ok (.newarray .long, 2) := by decide +kernel
theorem dX8_init_137 : decode cX8_init 137 = .ok (.putfield 59, 3) := by decide +kernel
theorem dX8_init_140 : decode cX8_init 140 = .ok (.iconst 0, 1) := by decide +kernel
theorem dX8_init_141 : decode cX8_init 141 = .ok (.istore_n 1, 1) := by decide +kernel
theorem dX8_init_142 : decode cX8_init 142 = .ok (.iload_n 1, 1) := by decide +kernel
theorem dX8_init_143 : decode cX8_init 143 = .ok (.iconst 4, 1) := by decide +kernel
theorem dX8_init_144 : decode cX8_init 144 = .ok (.if_icmp .ge 16, 3) := by decide +kernel
theorem dX8_init_147 : decode cX8_init 147 = .ok (.aload_n 0, 1) := by decide +kernel
theorem dX8_init_148 : decode cX8_init 148 = .ok (.getfield 49, 3) := by decide +kernel
theorem dX8_init_151 : decode cX8_init 151 = .ok (.iload_n 1, 1) := by decide +kernel
theorem dX8_init_152 : decode cX8_init 152 = .ok (.iconst (-1), 1) := by decide +kernel
theorem dX8_init_153 : decode cX8_init 153 = .ok (.iastore, 1) := by decide +kernel
theorem dX8_init_154 : decode cX8_init 154 = .ok (.iinc 1 1, 3) := by decide +kernel
theorem dX8_init_157 : decode cX8_init 157 = .ok (.goto (-15), 3) := by decide +kernel
theorem dX8_init_160 : decode cX8_init 160 = .ok (.aload_n 0, 1) := by decide +kernel
theorem dX8_init_161 : decode cX8_init 161 = .ok (.iconst 1, 1) := by decide +kernel
theorem dX8_init_162 : decode cX8_init 162 = .ok (.putfield 62, 3) := by decide +kernel
theorem dX8_init_165 : decode cX8_init 165 = .ok (.aload_n 0, 1) := by decide +kernel
theorem dX8_init_166 : decode cX8_init 166 = .ok (.getfield 16, 3) := by decide +kernel
theorem dX8_init_169 : decode cX8_init 169 = .ok (.iconst 1, 1) := by decide +kernel
theorem dX8_init_170 : decode cX8_init 170 = .ok (.bipush (-4), 2) := by decide +kernel
theorem dX8_init_172 : decode cX8_init 172 = .ok (.iastore, 1) := by decide +kernel
theorem dX8_init_173 : decode cX8_init 173 = .ok (.aload_n 0, 1) := by decide +kernel
theorem dX8_init_174 : decode cX8_init 174 = .ok (.getfield 16, 3) := by decide +kernel
theorem dX8_init_177 : decode cX8_init 177 = .ok (.iconst 2, 1) := by decide +kernel
theorem dX8_init_178 : decode cX8_init 178 = .ok (.iconst 1, 1) := by decide +kernel
theorem dX8_init_179 : decode cX8_init 179 = .ok (.iastore, 1) := by decide +kernel
theorem dX8_init_180 : decode cX8_init 180 = .ok (.return_, 1) := by decide +kernel
theorem dX8_isFighter_0 : decode cX8_isFighter 0 = .ok (.iload_n 1, 1) := by decide +kernel
theorem dX8_isFighter_1 : decode cX8_isFighter 1 = .ok (.i2l, 1) := by decide +kernel
theorem dX8_isFighter_2 : decode cX8_isFighter 2 = .ok (.lconst 0, 1) := by decide +kernel
theorem dX8_isFighter_3 : decode cX8_isFighter 3 = .ok (.aload_n 0, 1) := by decide +kernel
theorem dX8_isFighter_4 : decode cX8_isFighter 4 = .ok (.getfield 66, 3) := by decide +kernel
theorem dX8_isFighter_7 : decode cX8_isFighter 7 = .ok (.iconst 1, 1) := by decide +kernel
theorem dX8_isFighter_8 : decode cX8_isFighter 8 = .ok (.isub, 1) := by decide +kernel
theorem dX8_isFighter_9 : decode cX8_isFighter 9 = .ok (.i2l, 1) := by decide +kernel
theorem dX8_isFighter_10 : decode cX8_isFighter 10 = .ok (.invokestatic 69, 3) := by decide +kernel
theorem dX8_isFighter_13 : decode cX8_isFighter 13 = .ok (.ireturn, 1) := by decide +kernel
theorem dX8_isTurned_0 : decode cX8_isTurned 0 = .ok (.aload_n 0, 1) := by decide +kernel
theorem dX8_isTurned_1 : decode cX8_isTurned 1 = .ok (.getfield 16, 3) := by decide +kernel
theorem dX8_isTurned_4 : decode cX8_isTurned 4 = .ok (.iconst 1, 1) := by decide +kernel
theorem dX8_isTurned_5 : decode cX8_isTurned 5 = .ok (.iaload, 1) := by decide +kernel
theorem dX8_isTurned_6 : decode cX8_isTurned 6 = .ok (.bipush (-4), 2) := by decide +kernel
theorem dX8_isTurned_8 : decode cX8_isTurned 8 = .ok (.if_icmp .eq 7, 3) := by decide +kernel
theorem dX8_isTurned_11 : decode cX8_isTurned 11 = .ok (.iconst 1, 1) := by decide +kernel
theorem dX8_isTurned_12 : decode cX8_isTurned 12 = .ok (.goto 4, 3) := by decide +kernel
theorem dX8_isTurned_15 : decode cX8_isTurned 15 = .ok (.iconst 0, 1) := by decide +kernel
theorem dX8_isTurned_16 : decode cX8_isTurned 16 = .ok (.ireturn, 1) := by decide +kernel
theorem dX8_fighterComes_0 : decode cX8_fighterComes 0 = .ok (.aload_n 0, 1) := by decide +kernel
theorem dX8_fighterComes_1 : decode cX8_fighterComes 1 = .ok (.getfield 13, 3) := by decide +kernel
theorem dX8_fighterComes_4 : decode cX8_fighterComes 4 = .ok (.iconst 3, 1) := by decide +kernel
theorem dX8_fighterComes_5 : decode cX8_fighterComes 5 = .ok (.aload_n 0, 1) := by decide +kernel
theorem dX8_fighterComes_6 : decode cX8_fighterComes 6 = .ok (.getfield 66, 3) := by decide +kernel
theorem dX8_fighterComes_9 : decode cX8_fighterComes 9 = .ok (.imul, 1) := by decide +kernel
theorem dX8_fighterComes_10 : decode cX8_fighterComes 10 = .ok (.iload_n 1, 1) := by decide +kernel
theorem dX8_fighterComes_11 : decode cX8_fighterComes 11 = .ok (.iastore, 1) := by decide +kernel
theorem dX8_fighterComes_12 : decode cX8_fighterComes 12 = .ok (.aload_n 0, 1) := by decide +kernel
theorem dX8_fighterComes_13 : decode cX8_fighterComes 13 = .ok (.getfield 13, 3) := by decide +kernel
theorem dX8_fighterComes_16 : decode cX8_fighterComes 16 = .ok (.iconst 3, 1) := by decide +kernel
theorem dX8_fighterComes_17 : decode cX8_fighterComes 17 = .ok (.aload_n 0, 1) := by decide +kernel
theorem dX8_fighterComes_18 : decode cX8_fighterComes 18 = .ok (.getfield 66, 3) := by decide +kernel
theorem dX8_fighterComes_21 : decode cX8_fighterComes 21 = .ok (.imul, 1) := by decide +kernel
theorem dX8_fighterComes_22 : decode cX8_fighterComes 22 = .ok (.iconst 1, 1) := by decide +kernel
theorem dX8_fighterComes_23 : decode cX8_fighterComes 23 = .ok (.iadd, 1) := by decide +kernel
theorem dX8_fighterComes_24 : decode cX8_fighterComes 24 = .ok (.iload_n 2, 1) := by decide +kernel
theorem dX8_fighterComes_25 : decode cX8_fighterComes 25 = .ok (.iastore, 1) := by decide +kernel
theorem dX8_fighterComes_26 : decode cX8_fighterComes 26 = .ok (.aload_n 0, 1) := by decide +kernel
theorem dX8_fighterComes_27 : decode cX8_fighterComes 27 = .ok (.getfield 13, 3) := by decide +kernel
theorem dX8_fighterComes_30 : decode cX8_fighterComes 30 = .ok (.iconst 3, 1) := by decide +kernel
theorem dX8_fighterComes_31 : decode cX8_fighterComes 31 = .ok (.aload_n 0, 1) := by decide +kernel
theorem dX8_fighterComes_32 : decode cX8_fighterComes 32 = .ok (.getfield 66, 3) := by decide +kernel
theorem dX8_fighterComes_35 : decode cX8_fighterComes 35 = .ok (.imul, 1) := by decide +kernel
theorem dX8_fighterComes_36 : decode cX8_fighterComes 36 = .ok (.iconst 2, 1) := by decide +kernel
theorem dX8_fighterComes_37 : decode cX8_fighterComes 37 = .ok (.iadd, 1) := by decide +kernel
theorem dX8_fighterComes_38 : decode cX8_fighterComes 38 = .ok (.iload_n 3, 1) := by decide +kernel
theorem dX8_fighterComes_39 : decode cX8_fighterComes 39 = .ok (.iastore, 1) := by decide +kernel
theorem dX8_fighterComes_40 : decode cX8_fighterComes 40 = .ok (.aload_n 0, 1) := by decide +kernel
theorem dX8_fighterComes_41 : decode cX8_fighterComes 41 = .ok (.getfield 16, 3) := by decide +kernel
theorem dX8_fighterComes_44 : decode cX8_fighterComes 44 = .ok (.iconst 3, 1) := by decide +kernel
theorem dX8_fighterComes_45 : decode cX8_fighterComes 45 = .ok (.aload_n 0, 1) := by decide +kernel
theorem dX8_fighterComes_46 : decode cX8_fighterComes 46 = .ok (.getfield 66, 3) := by decide +kernel
theorem dX8_fighterComes_49 : decode cX8_fighterComes 49 = .ok (.iadd, 1) := by decide +kernel
theorem dX8_fighterComes_50 : decode cX8_fighterComes 50 = .ok (.iload 4, 2) := by decide +kernel
theorem dX8_fighterComes_52 : decode cX8_fighterComes 52 = .ok (.iastore, 1) := by decide +kernel
theorem dX8_fighterComes_53 : decode cX8_fighterComes 53 = .ok (.aload_n 0, 1) := by decide +kernel
theorem dX8_fighterComes_54 : decode cX8_fighterComes 54 = .ok (.getfield 16, 3) := by decide +kernel
theorem dX8_fighterComes_57 : decode cX8_fighterComes 57 = .ok (.bipush 8, 2) := by decide +kernel
theorem dX8_fighterComes_59 : decode cX8_fighterComes 59 = .ok (.aload_n 0, 1) := by decide +kernel
theorem dX8_fighterComes_60 : decode cX8_fighterComes 60 = .ok (.getfield 66, 3) := by decide +kernel
theorem dX8_fighterComes_63 : decode cX8_fighterComes 63 = .ok (.iadd, 1) := by decide +kernel
theorem dX8_fighterComes_64 : decode cX8_fighterComes 64 = .ok (.ldc 73, 2) := by decide +kernel
theorem dX8_fighterComes_66 : decode cX8_fighterComes 66 = .ok (.iastore, 1) := by decide +kernel
theorem dX8_fighterComes_67 : decode cX8_fighterComes 67 = .ok (.aload_n 0, 1) := by decide +kernel
theorem dX8_fighterComes_68 : decode cX8_fighterComes 68 = .ok (.dup, 1) := by decide +kernel
theorem dX8_fighterComes_69 : decode cX8_fighterComes 69 = .ok (.getfield 66, 3) := by decide +kernel
theorem dX8_fighterComes_72 : decode cX8_fighterComes 72 = .ok (.iconst 1, 1) := by decide +kernel
theorem dX8_fighterComes_73 : decode cX8_fighterComes 73 = .ok (.iadd, 1) := by decide +kernel
theorem dX8_fighterComes_74 : decode cX8_fighterComes 74 = .ok (.putfield 66, 3) := by decide +kernel
theorem dX8_fighterComes_77 : decode cX8_fighterComes 77 = .ok (.return_, 1) := by decide +kernel
theorem dX8_fighter_0 : decode cX8_fighter 0 = .ok (.iload_n 1, 1) := by decide +kernel
theorem dX8_fighter_1 : decode cX8_fighter 1 = .ok (.i2l, 1) := by decide +kernel
theorem dX8_fighter_2 : decode cX8_fighter 2 = .ok (.lconst 0, 1) := by decide +kernel
theorem dX8_fighter_3 : decode cX8_fighter 3 = .ok (.ldc2_w 74, 3) := by decide +kernel
theorem dX8_fighter_6 : decode cX8_fighter 6 = .ok (.invokestatic 69, 3) := by decide +kernel
theorem dX8_fighter_9 : decode cX8_fighter 9 = .ok (.ifCond .eq 27, 3) := by decide +kernel
theorem dX8_fighter_12 : decode cX8_fighter 12 = .ok (.iload_n 2, 1) := by decide +kernel
theorem dX8_fighter_13 : decode cX8_fighter 13 = .ok (.i2l, 1) := by decide +kernel
theorem dX8_fighter_14 : decode cX8_fighter 14 = .ok (.lconst 1, 1) := by decide +kernel
theorem dX8_fighter_15 : decode cX8_fighter 15 = .ok (.ldc2_w 76, 3) := by decide +kernel
theorem dX8_fighter_18 : decode cX8_fighter 18 = .ok (.invokestatic 69, 3) := by decide +kernel
theorem dX8_fighter_21 : decode cX8_fighter 21 = .ok (.ifCond .eq 15, 3) := by decide +kernel
theorem dX8_fighter_24 : decode cX8_fighter 24 = .ok (.iload_n 3, 1) := by decide +kernel
theorem dX8_fighter_25 : decode cX8_fighter 25 = .ok (.i2l, 1) := by decide +kernel
theorem dX8_fighter_26 : decode cX8_fighter 26 = .ok (.lconst 1, 1) := by decide +kernel
theorem dX8_fighter_27 : decode cX8_fighter 27 = .ok (.ldc2_w 78, 3) := by decide +kernel
theorem dX8_fighter_30 : decode cX8_fighter 30 = .ok (.invokestatic 69, 3) := by decide +kernel
theorem dX8_fighter_33 : decode cX8_fighter 33 = .ok (.ifCond .ne 5, 3) := by decide +kernel
theorem dX8_fighter_36 : decode cX8_fighter 36 = .ok (.iconst (-1), 1) := by decide +kernel
theorem dX8_fighter_37 : decode cX8_fighter 37 = .ok (.ireturn, 1) := by decide +kernel
theorem dX8_fighter_38 : decode cX8_fighter 38 = .ok (.aload_n 0, 1) := by decide +kernel
theorem dX8_fighter_39 : decode cX8_fighter 39 = .ok (.invokevirtual 80, 3) := by decide +kernel
theorem dX8_fighter_42 : decode cX8_fighter 42 = .ok (.ifCond .eq 6, 3) := by decide +kernel
theorem dX8_fighter_45 : decode cX8_fighter 45 = .ok (.bipush (-2), 2) := by decide +kernel
theorem dX8_fighter_47 : decode cX8_fighter 47 = .ok (.ireturn, 1) := by decide +kernel
theorem dX8_fighter_48 : decode cX8_fighter 48 = .ok (.aload_n 0, 1) := by decide +kernel
theorem dX8_fighter_49 : decode cX8_fighter 49 = .ok (.getfield 66, 3) := by decide +kernel
theorem dX8_fighter_52 : decode cX8_fighter 52 = .ok (.iconst 5, 1) := by decide +kernel
theorem dX8_fighter_53 : decode cX8_fighter 53 = .ok (.if_icmp .ne 6, 3) := by decide +kernel
theorem dX8_fighter_56 : decode cX8_fighter 56 = .ok (.bipush (-3), 2) := by decide +kernel
theorem dX8_fighter_58 : decode cX8_fighter 58 = .ok (.ireturn, 1) := by decide +kernel
theorem dX8_fighter_59 : decode cX8_fighter 59 = .ok (.aload_n 0, 1) := by decide +kernel
theorem dX8_fighter_60 : decode cX8_fighter 60 = .ok (.iload_n 1, 1) := by decide +kernel
theorem dX8_fighter_61 : decode cX8_fighter 61 = .ok (.iload_n 2, 1) := by decide +kernel
theorem dX8_fighter_62 : decode cX8_fighter 62 = .ok (.iload_n 3, 1) := by decide +kernel
theorem dX8_fighter_63 : decode cX8_fighter 63 = .ok (.iconst 0, 1) := by decide +kernel
theorem dX8_fighter_64 : decode cX8_fighter 64 = .ok (.invokevirtual 84, 3) := by decide +kernel
theorem dX8_fighter_67 : decode cX8_fighter 67 = .ok (.aload_n 0, 1) := by decide +kernel
theorem dX8_fighter_68 : decode cX8_fighter 68 = .ok (.iconst 0, 1) := by decide +kernel
theorem dX8_fighter_69 : decode cX8_fighter 69 = .ok (.putfield 88, 3) := by decide +kernel
theorem dX8_fighter_72 : decode cX8_fighter 72 = .ok (.aload_n 0, 1) := by decide +kernel
theorem dX8_fighter_73 : decode cX8_fighter 73 = .ok (.getfield 66, 3) := by decide +kernel
theorem dX8_fighter_76 : decode cX8_fighter 76 = .ok (.iconst 1, 1) := by decide +kernel
theorem dX8_fighter_77 : decode cX8_fighter 77 = .ok (.isub, 1) := by decide +kernel
theorem dX8_fighter_78 : decode cX8_fighter 78 = .ok (.ireturn, 1) := by decide +kernel
theorem dX8_force_0 : decode cX8_force 0 = .ok (.aload_n 0, 1) := by decide +kernel
theorem dX8_force_1 : decode cX8_force 1 = .ok (.getfield 13, 3) := by decide +kernel
theorem dX8_force_4 : decode cX8_force 4 = .ok (.iconst 3, 1) := by decide +kernel
theorem dX8_force_5 : decode cX8_force 5 = .ok (.iload_n 1, 1) := by decide +kernel
theorem dX8_force_6 : decode cX8_force 6 = .ok (.imul, 1) := by decide +kernel
theorem dX8_force_7 : decode cX8_force 7 = .ok (.iconst 1, 1) := by decide +kernel
theorem dX8_force_8 : decode cX8_force 8 = .ok (.iadd, 1) := by decide +kernel
theorem dX8_force_9 : decode cX8_force 9 = .ok (.iaload, 1) := by decide +kernel
theorem dX8_force_10 : decode cX8_force 10 = .ok (.iload_n 2, 1) := by decide +kernel
theorem dX8_force_11 : decode cX8_force 11 = .ok (.iconst 2, 1) := by decide +kernel
theorem dX8_force_12 : decode cX8_force 12 = .ok (.idiv, 1) := by decide +kernel
theorem dX8_force_13 : decode cX8_force 13 = .ok (.isub, 1) := by decide +kernel
theorem dX8_force_14 : decode cX8_force 14 = .ok (.istore_n 3, 1) := by decide +kernel
theorem dX8_force_15 : decode cX8_force 15 = .ok (.iload_n 3, 1) := by decide +kernel
theorem dX8_force_16 : decode cX8_force 16 = .ok (.iconst 1, 1) := by decide +kernel
theorem dX8_force_17 : decode cX8_force 17 = .ok (.if_icmp .le 7, 3) := by decide +kernel
theorem dX8_force_20 : decode cX8_force 20 = .ok (.iload_n 3, 1) := by decide +kernel
theorem dX8_force_21 : decode cX8_force 21 = .ok (.goto 4, 3) := by decide +kernel
theorem dX8_force_24 : decode cX8_force 24 = .ok (.iconst 1, 1) := by decide +kernel
theorem dX8_force_25 : decode cX8_force 25 = .ok (.aload_n 0, 1) := by decide +kernel
theorem dX8_force_26 : decode cX8_force 26 = .ok (.getfield 13, 3) := by decide +kernel
theorem dX8_force_29 : decode cX8_force 29 = .ok (.iconst 3, 1) := by decide +kernel
theorem dX8_force_30 : decode cX8_force 30 = .ok (.iload_n 1, 1) := by decide +kernel
theorem dX8_force_31 : decode cX8_force 31 = .ok (.imul, 1) := by decide +kernel
theorem dX8_force_32 : decode cX8_force 32 = .ok (.iaload, 1) := by decide +kernel
theorem dX8_force_33 : decode cX8_force 33 = .ok (.iconst 1, 1) := by decide +kernel
theorem dX8_force_34 : decode cX8_force 34 = .ok (.if_icmp .ne 7, 3) := by decide +kernel
theorem dX8_force_37 : decode cX8_force 37 = .ok (.iconst 2, 1) := by decide +kernel
theorem dX8_force_38 : decode cX8_force 38 = .ok (.goto 4, 3) := by decide +kernel
theorem dX8_force_41 : decode cX8_force 41 = .ok (.iconst 0, 1) := by decide +kernel
theorem dX8_force_42 : decode cX8_force 42 = .ok (.iadd, 1) := by decide +kernel
theorem dX8_force_43 : decode cX8_force 43 = .ok (.ireturn, 1) := by decide +kernel
theorem dX8_pointsOf_0 : decode cX8_pointsOf 0 = .ok (.aload_n 0, 1) := by decide +kernel
theorem dX8_pointsOf_1 : decode cX8_pointsOf 1 = .ok (.getfield 13, 3) := by decide +kernel
theorem dX8_pointsOf_4 : decode cX8_pointsOf 4 = .ok (.iconst 3, 1) := by decide +kernel
theorem dX8_pointsOf_5 : decode cX8_pointsOf 5 = .ok (.iload_n 1, 1) := by decide +kernel
theorem dX8_pointsOf_6 : decode cX8_pointsOf 6 = .ok (.imul, 1) := by decide +kernel
theorem dX8_pointsOf_7 : decode cX8_pointsOf 7 = .ok (.iaload, 1) := by decide +kernel
theorem dX8_pointsOf_8 : decode cX8_pointsOf 8 = .ok (.istore 4, 2) := by decide +kernel
theorem dX8_pointsOf_10 : decode cX8_pointsOf 10 = .ok (.aload_n 0, 1) := by decide +kernel
theorem dX8_pointsOf_11 : decode cX8_pointsOf 11 = .ok (.getfield 13, 3) := by decide +kernel
theorem dX8_pointsOf_14 : decode cX8_pointsOf 14 = .ok (.iconst 3, 1) := by decide +kernel
theorem dX8_pointsOf_15 : decode cX8_pointsOf 15 = .ok (.iload_n 1, 1) := by decide +kernel
theorem dX8_pointsOf_16 : decode cX8_pointsOf 16 = .ok (.imul, 1) := by decide +kernel
theorem dX8_pointsOf_17 : decode cX8_pointsOf 17 = .ok (.iconst 2, 1) := by decide +kernel
theorem dX8_pointsOf_18 : decode cX8_pointsOf 18 = .ok (.iadd, 1) := by decide +kernel
theorem dX8_pointsOf_19 : decode cX8_pointsOf 19 = .ok (.iaload, 1) := by decide +kernel
theorem dX8_pointsOf_20 : decode cX8_pointsOf 20 = .ok (.iload 4, 2) := by decide +kernel
theorem dX8_pointsOf_22 : decode cX8_pointsOf 22 = .ok (.iconst 1, 1) := by decide +kernel
theorem dX8_pointsOf_23 : decode cX8_pointsOf 23 = .ok (.if_icmp .ne 7, 3) := by decide +kernel
theorem dX8_pointsOf_26 : decode cX8_pointsOf 26 = .ok (.iconst 1, 1) := by decide +kernel
theorem dX8_pointsOf_27 : decode cX8_pointsOf 27 = .ok (.goto 4, 3) := by decide +kernel
theorem dX8_pointsOf_30 : decode cX8_pointsOf 30 = .ok (.iconst 0, 1) := by decide +kernel
theorem dX8_pointsOf_31 : decode cX8_pointsOf 31 = .ok (.isub, 1) := by decide +kernel
theorem dX8_pointsOf_32 : decode cX8_pointsOf 32 = .ok (.iload_n 2, 1) := by decide +kernel
theorem dX8_pointsOf_33 : decode cX8_pointsOf 33 = .ok (.iconst 2, 1) := by decide +kernel
theorem dX8_pointsOf_34 : decode cX8_pointsOf 34 = .ok (.idiv, 1) := by decide +kernel
theorem dX8_pointsOf_35 : decode cX8_pointsOf 35 = .ok (.isub, 1) := by decide +kernel
theorem dX8_pointsOf_36 : decode cX8_pointsOf 36 = .ok (.istore 5, 2) := by decide +kernel
theorem dX8_pointsOf_38 : decode cX8_pointsOf 38 = .ok (.iload 5, 2) := by decide +kernel
theorem dX8_pointsOf_40 : decode cX8_pointsOf 40 = .ok (.iconst 1, 1) := by decide +kernel
theorem dX8_pointsOf_41 : decode cX8_pointsOf 41 = .ok (.if_icmp .le 8, 3) := by decide +kernel
theorem dX8_pointsOf_44 : decode cX8_pointsOf 44 = .ok (.iload 5, 2) := by decide +kernel
theorem dX8_pointsOf_46 : decode cX8_pointsOf 46 = .ok (.goto 4, 3) := by decide +kernel
theorem dX8_pointsOf_49 : decode cX8_pointsOf 49 = .ok (.iconst 1, 1) := by decide +kernel
theorem dX8_pointsOf_50 : decode cX8_pointsOf 50 = .ok (.istore 5, 2) := by decide +kernel
theorem dX8_pointsOf_52 : decode cX8_pointsOf 52 = .ok (.iload 4, 2) := by decide +kernel
theorem dX8_pointsOf_54 : decode cX8_pointsOf 54 = .ok (.iconst 2, 1) := by decide +kernel
theorem dX8_pointsOf_55 : decode cX8_pointsOf 55 = .ok (.if_icmp .ge 8, 3) := by decide +kernel
theorem dX8_pointsOf_58 : decode cX8_pointsOf 58 = .ok (.iload_n 3, 1) := by decide +kernel
theorem dX8_pointsOf_59 : decode cX8_pointsOf 59 = .ok (.iload 5, 2) := by decide +kernel
theorem dX8_pointsOf_61 : decode cX8_pointsOf 61 = .ok (.imul, 1) := by decide +kernel
theorem dX8_pointsOf_62 : decode cX8_pointsOf 62 = .ok (.ireturn, 1) := by decide +kernel
theorem dX8_pointsOf_63 : decode cX8_pointsOf 63 = .ok (.iload 4, 2) := by decide +kernel
theorem dX8_pointsOf_65 : decode cX8_pointsOf 65 = .ok (.iconst 2, 1) := by decide +kernel
theorem dX8_pointsOf_66 : decode cX8_pointsOf 66 = .ok (.if_icmp .eq 9, 3) := by decide +kernel
theorem dX8_pointsOf_69 : decode cX8_pointsOf 69 = .ok (.iload_n 3, 1) := by decide +kernel
theorem dX8_pointsOf_70 : decode cX8_pointsOf 70 = .ok (.bipush 7, 2) := by decide +kernel
theorem dX8_pointsOf_72 : decode cX8_pointsOf 72 = .ok (.if_icmp .ge 12, 3) := by decide +kernel
theorem dX8_pointsOf_75 : decode cX8_pointsOf 75 = .ok (.iload_n 3, 1) := by decide +kernel
theorem dX8_pointsOf_76 : decode cX8_pointsOf 76 = .ok (.iload 5, 2) := by decide +kernel
theorem dX8_pointsOf_78 : decode cX8_pointsOf 78 = .ok (.imul, 1) := by decide +kernel
theorem dX8_pointsOf_79 : decode cX8_pointsOf 79 = .ok (.iconst 2, 1) := by decide +kernel
theorem dX8_pointsOf_80 : decode cX8_pointsOf 80 = .ok (.idiv, 1) := by decide +kernel
theorem dX8_pointsOf_81 : decode cX8_pointsOf 81 = .ok (.goto 18, 3) := by decide +kernel
theorem dX8_pointsOf_84 : decode cX8_pointsOf 84 = .ok (.bipush 6, 2) := by decide +kernel
theorem dX8_pointsOf_86 : decode cX8_pointsOf 86 = .ok (.iload 5, 2) := by decide +kernel
theorem dX8_pointsOf_88 : decode cX8_pointsOf 88 = .ok (.imul, 1) := by decide +kernel
theorem dX8_pointsOf_89 : decode cX8_pointsOf 89 = .ok (.iconst 2, 1) := by decide +kernel
theorem dX8_pointsOf_90 : decode cX8_pointsOf 90 = .ok (.idiv, 1) := by decide +kernel
theorem dX8_pointsOf_91 : decode cX8_pointsOf 91 = .ok (.iload_n 3, 1) := by decide +kernel
theorem dX8_pointsOf_92 : decode cX8_pointsOf 92 = .ok (.bipush 6, 2) := by decide +kernel
theorem dX8_pointsOf_94 : decode cX8_pointsOf 94 = .ok (.isub, 1) := by decide +kernel
theorem dX8_pointsOf_95 : decode cX8_pointsOf 95 = .ok (.iload 5, 2) := by decide +kernel
theorem dX8_pointsOf_97 : decode cX8_pointsOf 97 = .ok (.imul, 1) := by decide +kernel
theorem dX8_pointsOf_98 : decode cX8_pointsOf 98 = .ok (.iadd, 1) := by decide +kernel
theorem dX8_pointsOf_99 : decode cX8_pointsOf 99 = .ok (.ireturn, 1) := by decide +kernel
theorem dX8_hurtOf_0 : decode cX8_hurtOf 0 = .ok (.aload_n 0, 1) := by decide +kernel
theorem dX8_hurtOf_1 : decode cX8_hurtOf 1 = .ok (.getfield 16, 3) := by decide +kernel
theorem dX8_hurtOf_4 : decode cX8_hurtOf 4 = .ok (.iconst 3, 1) := by decide +kernel
theorem dX8_hurtOf_5 : decode cX8_hurtOf 5 = .ok (.iload_n 1, 1) := by decide +kernel
theorem dX8_hurtOf_6 : decode cX8_hurtOf 6 = .ok (.iadd, 1) := by decide +kernel
theorem dX8_hurtOf_7 : decode cX8_hurtOf 7 = .ok (.iaload, 1) := by decide +kernel
theorem dX8_hurtOf_8 : decode cX8_hurtOf 8 = .ok (.ireturn, 1) := by decide +kernel
theorem dX8_isDown_0 : decode cX8_isDown 0 = .ok (.aload_n 0, 1) := by decide +kernel
theorem dX8_isDown_1 : decode cX8_isDown 1 = .ok (.iload_n 1, 1) := by decide +kernel
theorem dX8_isDown_2 : decode cX8_isDown 2 = .ok (.invokevirtual 91, 3) := by decide +kernel
theorem dX8_isDown_5 : decode cX8_isDown 5 = .ok (.bipush 6, 2) := by decide +kernel
theorem dX8_isDown_7 : decode cX8_isDown 7 = .ok (.if_icmp .ne 7, 3) := by decide +kernel
theorem dX8_isDown_10 : decode cX8_isDown 10 = .ok (.iconst 1, 1) := by decide +kernel
theorem dX8_isDown_11 : decode cX8_isDown 11 = .ok (.goto 4, 3) := by decide +kernel
theorem dX8_isDown_14 : decode cX8_isDown 14 = .ok (.iconst 0, 1) := by decide +kernel
theorem dX8_isDown_15 : decode cX8_isDown 15 = .ok (.ireturn, 1) := by decide +kernel
theorem dX8_costOf_0 : decode cX8_costOf 0 = .ok (.iconst 0, 1) := by decide +kernel
theorem dX8_costOf_1 : decode cX8_costOf 1 = .ok (.istore_n 2, 1) := by decide +kernel
theorem dX8_costOf_2 : decode cX8_costOf 2 = .ok (.iconst 1, 1) := by decide +kernel
theorem dX8_costOf_3 : decode cX8_costOf 3 = .ok (.istore_n 3, 1) := by decide +kernel
theorem dX8_costOf_4 : decode cX8_costOf 4 = .ok (.iload_n 3, 1) := by decide +kernel
theorem dX8_costOf_5 : decode cX8_costOf 5 = .ok (.iload_n 1, 1) := by decide +kernel
theorem dX8_costOf_6 : decode cX8_costOf 6 = .ok (.if_icmp .gt 20, 3) := by decide +kernel
theorem dX8_costOf_9 : decode cX8_costOf 9 = .ok (.iload_n 2, 1) := by decide +kernel
theorem dX8_costOf_10 : decode cX8_costOf 10 = .ok (.aload_n 0, 1) := by decide +kernel
theorem dX8_costOf_11 : decode cX8_costOf 11 = .ok (.getfield 7, 3) := by decide +kernel
theorem dX8_costOf_14 : decode cX8_costOf 14 = .ok (.iload_n 3, 1) := by decide +kernel
theorem dX8_costOf_15 : decode cX8_costOf 15 = .ok (.iaload, 1) := by decide +kernel
theorem dX8_costOf_16 : decode cX8_costOf 16 = .ok (.iconst 1, 1) := by decide +kernel
theorem dX8_costOf_17 : decode cX8_costOf 17 = .ok (.iadd, 1) := by decide +kernel
theorem dX8_costOf_18 : decode cX8_costOf 18 = .ok (.iadd, 1) := by decide +kernel
theorem dX8_costOf_19 : decode cX8_costOf 19 = .ok (.istore_n 2, 1) := by decide +kernel
theorem dX8_costOf_20 : decode cX8_costOf 20 = .ok (.iinc 3 1, 3) := by decide +kernel
theorem dX8_costOf_23 : decode cX8_costOf 23 = .ok (.goto (-19), 3) := by decide +kernel
theorem dX8_costOf_26 : decode cX8_costOf 26 = .ok (.iload_n 2, 1) := by decide +kernel
theorem dX8_costOf_27 : decode cX8_costOf 27 = .ok (.ireturn, 1) := by decide +kernel
theorem dX8_farthest_0 : decode cX8_farthest 0 = .ok (.iconst 0, 1) := by decide +kernel
theorem dX8_farthest_1 : decode cX8_farthest 1 = .ok (.istore_n 2, 1) := by decide +kernel
theorem dX8_farthest_2 : decode cX8_farthest 2 = .ok (.iconst 0, 1) := by decide +kernel
theorem dX8_farthest_3 : decode cX8_farthest 3 = .ok (.istore_n 3, 1) := by decide +kernel
theorem dX8_farthest_4 : decode cX8_farthest 4 = .ok (.iconst 1, 1) := by decide +kernel
theorem dX8_farthest_5 : decode cX8_farthest 5 = .ok (.istore 4, 2) := by decide +kernel
theorem dX8_farthest_7 : decode cX8_farthest 7 = .ok (.iload 4, 2) := by decide +kernel
theorem dX8_farthest_9 : decode cX8_farthest 9 = .ok (.aload_n 0, 1) := by decide +kernel
theorem dX8_farthest_10 : decode cX8_farthest 10 = .ok (.getfield 62, 3) := by decide +kernel
theorem dX8_farthest_13 : decode cX8_farthest 13 = .ok (.if_icmp .ge 33, 3) := by decide +kernel
theorem dX8_farthest_16 : decode cX8_farthest 16 = .ok (.iload_n 3, 1) := by decide +kernel
theorem dX8_farthest_17 : decode cX8_farthest 17 = .ok (.aload_n 0, 1) := by decide +kernel
theorem dX8_farthest_18 : decode cX8_farthest 18 = .ok (.getfield 7, 3) := by decide +kernel
theorem dX8_farthest_21 : decode cX8_farthest 21 = .ok (.iload 4, 2) := by decide +kernel
theorem dX8_farthest_23 : decode cX8_farthest 23 = .ok (.iaload, 1) := by decide +kernel
theorem dX8_farthest_24 : decode cX8_farthest 24 = .ok (.iconst 1, 1) := by decide +kernel
theorem dX8_farthest_25 : decode cX8_farthest 25 = .ok (.iadd, 1) := by decide +kernel
theorem dX8_farthest_26 : decode cX8_farthest 26 = .ok (.iadd, 1) := by decide +kernel
theorem dX8_farthest_27 : decode cX8_farthest 27 = .ok (.istore_n 3, 1) := by decide +kernel
theorem dX8_farthest_28 : decode cX8_farthest 28 = .ok (.iload_n 3, 1) := by decide +kernel
theorem dX8_farthest_29 : decode cX8_farthest 29 = .ok (.iload_n 1, 1) := by decide +kernel
theorem dX8_farthest_30 : decode cX8_farthest 30 = .ok (.if_icmp .gt 8, 3) := by decide +kernel
theorem dX8_farthest_33 : decode cX8_farthest 33 = .ok (.iload 4, 2) := by decide +kernel
theorem dX8_farthest_35 : decode cX8_farthest 35 = .ok (.goto 4, 3) := by decide +kernel
theorem dX8_farthest_38 : decode cX8_farthest 38 = .ok (.iload_n 2, 1) := by decide +kernel
theorem dX8_farthest_39 : decode cX8_farthest 39 = .ok (.istore_n 2, 1) := by decide +kernel
theorem dX8_farthest_40 : decode cX8_farthest 40 = .ok (.iinc 4 1, 3) := by decide +kernel
theorem dX8_farthest_43 : decode cX8_farthest 43 = .ok (.goto (-36), 3) := by decide +kernel
theorem dX8_farthest_46 : decode cX8_farthest 46 = .ok (.iload_n 2, 1) := by decide +kernel
theorem dX8_farthest_47 : decode cX8_farthest 47 = .ok (.ireturn, 1) := by decide +kernel
theorem dX8_pursues_0 : decode cX8_pursues 0 = .ok (.aload_n 0, 1) := by decide +kernel
theorem dX8_pursues_1 : decode cX8_pursues 1 = .ok (.iload_n 1, 1) := by decide +kernel
theorem dX8_pursues_2 : decode cX8_pursues 2 = .ok (.aload_n 0, 1) := by decide +kernel
theorem dX8_pursues_3 : decode cX8_pursues 3 = .ok (.iload_n 1, 1) := by decide +kernel
theorem dX8_pursues_4 : decode cX8_pursues 4 = .ok (.invokevirtual 91, 3) := by decide +kernel
theorem dX8_pursues_7 : decode cX8_pursues 7 = .ok (.iload_n 2, 1) := by decide +kernel
theorem dX8_pursues_8 : decode cX8_pursues 8 = .ok (.invokevirtual 95, 3) := by decide +kernel
theorem dX8_pursues_11 : decode cX8_pursues 11 = .ok (.istore_n 3, 1) := by decide +kernel
theorem dX8_pursues_12 : decode cX8_pursues 12 = .ok (.iconst 1, 1) := by decide +kernel
theorem dX8_pursues_13 : decode cX8_pursues 13 = .ok (.istore 4, 2) := by decide +kernel
theorem dX8_pursues_15 : decode cX8_pursues 15 = .ok (.iload 4, 2) := by decide +kernel
theorem dX8_pursues_17 : decode cX8_pursues 17 = .ok (.aload_n 0, 1) := by decide +kernel
theorem dX8_pursues_18 : decode cX8_pursues 18 = .ok (.getfield 66, 3) := by decide +kernel
theorem dX8_pursues_21 : decode cX8_pursues 21 = .ok (.if_icmp .ge 53, 3) := by decide +kernel
theorem dX8_pursues_24 : decode cX8_pursues 24 = .ok (.aload_n 0, 1) := by decide +kernel
theorem dX8_pursues_25 : decode cX8_pursues 25 = .ok (.getfield 99, 3) := by decide +kernel
theorem dX8_pursues_28 : decode cX8_pursues 28 = .ok (.ifCond .eq 46, 3) := by decide +kernel
theorem dX8_pursues_31 : decode cX8_pursues 31 = .ok (.aload_n 0, 1) := by decide +kernel
theorem dX8_pursues_32 : decode cX8_pursues 32 = .ok (.iload 4, 2) := by decide +kernel
theorem dX8_pursues_34 : decode cX8_pursues 34 = .ok (.aload_n 0, 1) := by decide +kernel
theorem dX8_pursues_35 : decode cX8_pursues 35 = .ok (.iload 4, 2) := by decide +kernel
theorem dX8_pursues_37 : decode cX8_pursues 37 = .ok (.invokevirtual 91, 3) := by decide +kernel
theorem dX8_pursues_40 : decode cX8_pursues 40 = .ok (.iload_n 2, 1) := by decide +kernel
theorem dX8_pursues_41 : decode cX8_pursues 41 = .ok (.invokevirtual 95, 3) := by decide +kernel
theorem dX8_pursues_44 : decode cX8_pursues 44 = .ok (.istore 5, 2) := by decide +kernel
theorem dX8_pursues_46 : decode cX8_pursues 46 = .ok (.aload_n 0, 1) := by decide +kernel
theorem dX8_pursues_47 : decode cX8_pursues 47 = .ok (.iload 4, 2) := by decide +kernel
theorem dX8_pursues_49 : decode cX8_pursues 49 = .ok (.invokevirtual 103, 3) := by decide +kernel
theorem dX8_pursues_52 : decode cX8_pursues 52 = .ok (.ifCond .ne 14, 3) := by decide +kernel
theorem dX8_pursues_55 : decode cX8_pursues 55 = .ok (.iload 5, 2) := by decide +kernel
theorem dX8_pursues_57 : decode cX8_pursues 57 = .ok (.iload_n 3, 1) := by decide +kernel
theorem dX8_pursues_58 : decode cX8_pursues 58 = .ok (.if_icmp .ge 8, 3) := by decide +kernel
theorem dX8_pursues_61 : decode cX8_pursues 61 = .ok (.iload 5, 2) := by decide +kernel
theorem dX8_pursues_63 : decode cX8_pursues 63 = .ok (.goto 4, 3) := by decide +kernel
theorem dX8_pursues_66 : decode cX8_pursues 66 = .ok (.iload_n 3, 1) := by decide +kernel
theorem dX8_pursues_67 : decode cX8_pursues 67 = .ok (.istore_n 3, 1) := by decide +kernel
theorem dX8_pursues_68 : decode cX8_pursues 68 = .ok (.iinc 4 1, 3) := by decide +kernel
theorem dX8_pursues_71 : decode cX8_pursues 71 = .ok (.goto (-56), 3) := by decide +kernel
theorem dX8_pursues_74 : decode cX8_pursues 74 = .ok (.iload_n 3, 1) := by decide +kernel
theorem dX8_pursues_75 : decode cX8_pursues 75 = .ok (.ireturn, 1) := by decide +kernel
theorem dX8_runs_0 : decode cX8_runs 0 = .ok (.aload_n 0, 1) := by decide +kernel
theorem dX8_runs_1 : decode cX8_runs 1 = .ok (.iconst 0, 1) := by decide +kernel
theorem dX8_runs_2 : decode cX8_runs 2 = .ok (.invokevirtual 103, 3) := by decide +kernel
theorem dX8_runs_5 : decode cX8_runs 5 = .ok (.ifCond .eq 7, 3) := by decide +kernel
theorem dX8_runs_8 : decode cX8_runs 8 = .ok (.iconst 0, 1) := by decide +kernel
theorem dX8_runs_9 : decode cX8_runs 9 = .ok (.goto 18, 3) := by decide +kernel
theorem dX8_runs_12 : decode cX8_runs 12 = .ok (.aload_n 0, 1) := by decide +kernel
theorem dX8_runs_13 : decode cX8_runs 13 = .ok (.aload_n 0, 1) := by decide +kernel
theorem dX8_runs_14 : decode cX8_runs 14 = .ok (.iconst 0, 1) := by decide +kernel
theorem dX8_runs_15 : decode cX8_runs 15 = .ok (.aload_n 0, 1) := by decide +kernel
theorem dX8_runs_16 : decode cX8_runs 16 = .ok (.iconst 0, 1) := by decide +kernel
theorem dX8_runs_17 : decode cX8_runs 17 = .ok (.invokevirtual 91, 3) := by decide +kernel
theorem dX8_runs_20 : decode cX8_runs 20 = .ok (.iload_n 1, 1) := by decide +kernel
theorem dX8_runs_21 : decode cX8_runs 21 = .ok (.invokevirtual 95, 3) := by decide +kernel
theorem dX8_runs_24 : decode cX8_runs 24 = .ok (.invokevirtual 107, 3) := by decide +kernel
theorem dX8_runs_27 : decode cX8_runs 27 = .ok (.ireturn, 1) := by decide +kernel
theorem dX8_comesTo_0 : decode cX8_comesTo 0 = .ok (.aload_n 0, 1) := by decide +kernel
theorem dX8_comesTo_1 : decode cX8_comesTo 1 = .ok (.iload_n 2, 1) := by decide +kernel
theorem dX8_comesTo_2 : decode cX8_comesTo 2 = .ok (.invokevirtual 110, 3) := by decide +kernel
theorem dX8_comesTo_5 : decode cX8_comesTo 5 = .ok (.istore_n 3, 1) := by decide +kernel
theorem dX8_comesTo_6 : decode cX8_comesTo 6 = .ok (.iload_n 3, 1) := by decide +kernel
theorem dX8_comesTo_7 : decode cX8_comesTo 7 = .ok (.ifCond .ne 5, 3) := by decide +kernel
theorem dX8_comesTo_10 : decode cX8_comesTo 10 = .ok (.iconst 0, 1) := by decide +kernel
theorem dX8_comesTo_11 : decode cX8_comesTo 11 = .ok (.ireturn, 1) := by decide +kernel
theorem dX8_comesTo_12 : decode cX8_comesTo 12 = .ok (.iconst 0, 1) := by decide +kernel
theorem dX8_comesTo_13 : decode cX8_comesTo 13 = .ok (.istore 4, 2) := by decide +kernel
theorem dX8_comesTo_15 : decode cX8_comesTo 15 = .ok (.aload_n 0, 1) := by decide +kernel
theorem dX8_comesTo_16 : decode cX8_comesTo 16 = .ok (.iload_n 1, 1) := by decide +kernel
theorem dX8_comesTo_17 : decode cX8_comesTo 17 = .ok (.iload 4, 2) := by decide +kernel
theorem dX8_comesTo_19 : decode cX8_comesTo 19 = .ok (.invokevirtual 113, 3) := by decide +kernel
theorem dX8_comesTo_22 : decode cX8_comesTo 22 = .ok (.iload_n 3, 1) := by decide +kernel
theorem dX8_comesTo_23 : decode cX8_comesTo 23 = .ok (.if_icmp .ge 9, 3) := by decide +kernel
theorem dX8_comesTo_26 : decode cX8_comesTo 26 = .ok (.iinc 4 1, 3) := by decide +kernel
theorem dX8_comesTo_29 : decode cX8_comesTo 29 = .ok (.goto (-14), 3) := by decide +kernel
theorem dX8_comesTo_32 : decode cX8_comesTo 32 = .ok (.aload_n 0, 1) := by decide +kernel
theorem dX8_comesTo_33 : decode cX8_comesTo 33 = .ok (.getfield 117, 3) := by decide +kernel
theorem dX8_comesTo_36 : decode cX8_comesTo 36 = .ok (.iload 4, 2) := by decide +kernel
theorem dX8_comesTo_38 : decode cX8_comesTo 38 = .ok (.iadd, 1) := by decide +kernel
theorem dX8_comesTo_39 : decode cX8_comesTo 39 = .ok (.ireturn, 1) := by decide +kernel
theorem dX8_isCaught_0 : decode cX8_isCaught 0 = .ok (.aload_n 0, 1) := by decide +kernel
theorem dX8_isCaught_1 : decode cX8_isCaught 1 = .ok (.iload_n 1, 1) := by decide +kernel
theorem dX8_isCaught_2 : decode cX8_isCaught 2 = .ok (.invokevirtual 120, 3) := by decide +kernel
theorem dX8_isCaught_5 : decode cX8_isCaught 5 = .ok (.istore_n 2, 1) := by decide +kernel
theorem dX8_isCaught_6 : decode cX8_isCaught 6 = .ok (.iload_n 2, 1) := by decide +kernel
theorem dX8_isCaught_7 : decode cX8_isCaught 7 = .ok (.aload_n 0, 1) := by decide +kernel
theorem dX8_isCaught_8 : decode cX8_isCaught 8 = .ok (.getfield 62, 3) := by decide +kernel
theorem dX8_isCaught_11 : decode cX8_isCaught 11 = .ok (.iconst 1, 1) := by decide +kernel
theorem dX8_isCaught_12 : decode cX8_isCaught 12 = .ok (.isub, 1) := by decide +kernel
theorem dX8_isCaught_13 : decode cX8_isCaught 13 = .ok (.if_icmp .ne 7, 3) := by decide +kernel
theorem dX8_isCaught_16 : decode cX8_isCaught 16 = .ok (.iconst 1, 1) := by decide +kernel
theorem dX8_isCaught_17 : decode cX8_isCaught 17 = .ok (.goto 4, 3) := by decide +kernel
theorem dX8_isCaught_20 : decode cX8_isCaught 20 = .ok (.iconst 0, 1) := by decide +kernel
theorem dX8_isCaught_21 : decode cX8_isCaught 21 = .ok (.istore_n 3, 1) := by decide +kernel
theorem dX8_isCaught_22 : decode cX8_isCaught 22 = .ok (.aload_n 0, 1) := by decide +kernel
theorem dX8_isCaught_23 : decode cX8_isCaught 23 = .ok (.iload_n 2, 1) := by decide +kernel
theorem dX8_isCaught_24 : decode cX8_isCaught 24 = .ok (.invokevirtual 110, 3) := by decide +kernel
theorem dX8_isCaught_27 : decode cX8_isCaught 27 = .ok (.istore 4, 2) := by decide +kernel
theorem dX8_isCaught_29 : decode cX8_isCaught 29 = .ok (.iconst 1, 1) := by decide +kernel
theorem dX8_isCaught_30 : decode cX8_isCaught 30 = .ok (.istore 5, 2) := by decide +kernel
theorem dX8_isCaught_32 : decode cX8_isCaught 32 = .ok (.iload 5, 2) := by decide +kernel
theorem dX8_isCaught_34 : decode cX8_isCaught 34 = .ok (.aload_n 0, 1) := by decide +kernel
theorem dX8_isCaught_35 : decode cX8_isCaught 35 = .ok (.getfield 66, 3) := by decide +kernel
theorem dX8_isCaught_38 : decode cX8_isCaught 38 = .ok (.if_icmp .ge 58, 3) := by decide +kernel
theorem dX8_isCaught_41 : decode cX8_isCaught 41 = .ok (.iload_n 3, 1) := by decide +kernel
theorem dX8_isCaught_42 : decode cX8_isCaught 42 = .ok (.ifCond .ne 42, 3) := by decide +kernel
theorem dX8_isCaught_45 : decode cX8_isCaught 45 = .ok (.aload_n 0, 1) := by decide +kernel
theorem dX8_isCaught_46 : decode cX8_isCaught 46 = .ok (.iload 5, 2) := by decide +kernel
theorem dX8_isCaught_48 : decode cX8_isCaught 48 = .ok (.invokevirtual 103, 3) := by decide +kernel
theorem dX8_isCaught_51 : decode cX8_isCaught 51 = .ok (.ifCond .ne 37, 3) := by decide +kernel
theorem dX8_isCaught_54 : decode cX8_isCaught 54 = .ok (.iload 4, 2) := by decide +kernel
theorem dX8_isCaught_56 : decode cX8_isCaught 56 = .ok (.ifCond .eq 28, 3) := by decide +kernel
theorem dX8_isCaught_59 : decode cX8_isCaught 59 = .ok (.iload_n 1, 1) := by decide +kernel
theorem dX8_isCaught_60 : decode cX8_isCaught 60 = .ok (.aload_n 0, 1) := by decide +kernel
theorem dX8_isCaught_61 : decode cX8_isCaught 61 = .ok (.getfield 117, 3) := by decide +kernel
theorem dX8_isCaught_64 : decode cX8_isCaught 64 = .ok (.if_icmp .lt 24, 3) := by decide +kernel
theorem dX8_isCaught_67 : decode cX8_isCaught 67 = .ok (.aload_n 0, 1) := by decide +kernel
theorem dX8_isCaught_68 : decode cX8_isCaught 68 = .ok (.iload 5, 2) := by decide +kernel
theorem dX8_isCaught_70 : decode cX8_isCaught 70 = .ok (.iload_n 1, 1) := by decide +kernel
theorem dX8_isCaught_71 : decode cX8_isCaught 71 = .ok (.aload_n 0, 1) := by decide +kernel
theorem dX8_isCaught_72 : decode cX8_isCaught 72 = .ok (.getfield 117, 3) := by decide +kernel
theorem dX8_isCaught_75 : decode cX8_isCaught 75 = .ok (.isub, 1) := by decide +kernel
theorem dX8_isCaught_76 : decode cX8_isCaught 76 = .ok (.invokevirtual 113, 3) := by decide +kernel
theorem dX8_isCaught_79 : decode cX8_isCaught 79 = .ok (.iload 4, 2) := by decide +kernel
theorem dX8_isCaught_81 : decode cX8_isCaught 81 = .ok (.if_icmp .lt 7, 3) := by decide +kernel
theorem dX8_isCaught_84 : decode cX8_isCaught 84 = .ok (.iconst 1, 1) := by decide +kernel
theorem dX8_isCaught_85 : decode cX8_isCaught 85 = .ok (.goto 4, 3) := by decide +kernel
theorem dX8_isCaught_88 : decode cX8_isCaught 88 = .ok (.iconst 0, 1) := by decide +kernel
theorem dX8_isCaught_89 : decode cX8_isCaught 89 = .ok (.istore_n 3, 1) := by decide +kernel
theorem dX8_isCaught_90 : decode cX8_isCaught 90 = .ok (.iinc 5 1, 3) := by decide +kernel
theorem dX8_isCaught_93 : decode cX8_isCaught 93 = .ok (.goto (-61), 3) := by decide +kernel
theorem dX8_isCaught_96 : decode cX8_isCaught 96 = .ok (.iload_n 3, 1) := by decide +kernel
theorem dX8_isCaught_97 : decode cX8_isCaught 97 = .ok (.ireturn, 1) := by decide +kernel
theorem dX8_place_0 : decode cX8_place 0 = .ok (.aload_n 0, 1) := by decide +kernel
theorem dX8_place_1 : decode cX8_place 1 = .ok (.getfield 16, 3) := by decide +kernel
theorem dX8_place_4 : decode cX8_place 4 = .ok (.iconst 0, 1) := by decide +kernel
theorem dX8_place_5 : decode cX8_place 5 = .ok (.iaload, 1) := by decide +kernel
theorem dX8_place_6 : decode cX8_place 6 = .ok (.istore_n 2, 1) := by decide +kernel
theorem dX8_place_7 : decode cX8_place 7 = .ok (.iload_n 1, 1) := by decide +kernel
theorem dX8_place_8 : decode cX8_place 8 = .ok (.ifCond .ne 25, 3) := by decide +kernel
theorem dX8_place_11 : decode cX8_place 11 = .ok (.aload_n 0, 1) := by decide +kernel
theorem dX8_place_12 : decode cX8_place 12 = .ok (.invokevirtual 80, 3) := by decide +kernel
theorem dX8_place_15 : decode cX8_place 15 = .ok (.ifCond .eq 12, 3) := by decide +kernel
theorem dX8_place_18 : decode cX8_place 18 = .ok (.aload_n 0, 1) := by decide +kernel
theorem dX8_place_19 : decode cX8_place 19 = .ok (.getfield 16, 3) := by decide +kernel
theorem dX8_place_22 : decode cX8_place 22 = .ok (.iconst 1, 1) := by decide +kernel
theorem dX8_place_23 : decode cX8_place 23 = .ok (.iaload, 1) := by decide +kernel
theorem dX8_place_24 : decode cX8_place 24 = .ok (.goto 8, 3) := by decide +kernel
theorem dX8_place_27 : decode cX8_place 27 = .ok (.aload_n 0, 1) := by decide +kernel
theorem dX8_place_28 : decode cX8_place 28 = .ok (.iload_n 2, 1) := by decide +kernel
theorem dX8_place_29 : decode cX8_place 29 = .ok (.invokevirtual 120, 3) := by decide +kernel
theorem dX8_place_32 : decode cX8_place 32 = .ok (.ireturn, 1) := by decide +kernel
theorem dX8_place_33 : decode cX8_place 33 = .ok (.aload_n 0, 1) := by decide +kernel
theorem dX8_place_34 : decode cX8_place 34 = .ok (.invokevirtual 80, 3) := by decide +kernel
theorem dX8_place_37 : decode cX8_place 37 = .ok (.ifCond .eq 23, 3) := by decide +kernel
theorem dX8_place_40 : decode cX8_place 40 = .ok (.aload_n 0, 1) := by decide +kernel
theorem dX8_place_41 : decode cX8_place 41 = .ok (.getfield 16, 3) := by decide +kernel
theorem dX8_place_44 : decode cX8_place 44 = .ok (.bipush 8, 2) := by decide +kernel
theorem dX8_place_46 : decode cX8_place 46 = .ok (.iload_n 1, 1) := by decide +kernel
theorem dX8_place_47 : decode cX8_place 47 = .ok (.iadd, 1) := by decide +kernel
theorem dX8_place_48 : decode cX8_place 48 = .ok (.iaload, 1) := by decide +kernel
theorem dX8_place_49 : decode cX8_place 49 = .ok (.iload_n 2, 1) := by decide +kernel
theorem dX8_place_50 : decode cX8_place 50 = .ok (.if_icmp .gt 10, 3) := by decide +kernel
theorem dX8_place_53 : decode cX8_place 53 = .ok (.aload_n 0, 1) := by decide +kernel
theorem dX8_place_54 : decode cX8_place 54 = .ok (.getfield 16, 3) := by decide +kernel
theorem dX8_place_57 : decode cX8_place 57 = .ok (.iconst 1, 1) := by decide +kernel
theorem dX8_place_58 : decode cX8_place 58 = .ok (.iaload, 1) := by decide +kernel
theorem dX8_place_59 : decode cX8_place 59 = .ok (.ireturn, 1) := by decide +kernel
theorem dX8_place_60 : decode cX8_place 60 = .ok (.aload_n 0, 1) := by decide +kernel
theorem dX8_place_61 : decode cX8_place 61 = .ok (.iload_n 1, 1) := by decide +kernel
theorem dX8_place_62 : decode cX8_place 62 = .ok (.invokevirtual 103, 3) := by decide +kernel
theorem dX8_place_65 : decode cX8_place 65 = .ok (.ifCond .ne 11, 3) := by decide +kernel
theorem dX8_place_68 : decode cX8_place 68 = .ok (.iload_n 2, 1) := by decide +kernel
theorem dX8_place_69 : decode cX8_place 69 = .ok (.aload_n 0, 1) := by decide +kernel
theorem dX8_place_70 : decode cX8_place 70 = .ok (.getfield 117, 3) := by decide +kernel
theorem dX8_place_73 : decode cX8_place 73 = .ok (.if_icmp .ge 7, 3) := by decide +kernel
theorem dX8_place_76 : decode cX8_place 76 = .ok (.iconst 0, 1) := by decide +kernel
theorem dX8_place_77 : decode cX8_place 77 = .ok (.goto 23, 3) := by decide +kernel
theorem dX8_place_80 : decode cX8_place 80 = .ok (.aload_n 0, 1) := by decide +kernel
theorem dX8_place_81 : decode cX8_place 81 = .ok (.aload_n 0, 1) := by decide +kernel
theorem dX8_place_82 : decode cX8_place 82 = .ok (.iload_n 1, 1) := by decide +kernel
theorem dX8_place_83 : decode cX8_place 83 = .ok (.aload_n 0, 1) := by decide +kernel
theorem dX8_place_84 : decode cX8_place 84 = .ok (.iload_n 1, 1) := by decide +kernel
theorem dX8_place_85 : decode cX8_place 85 = .ok (.invokevirtual 91, 3) := by decide +kernel
theorem dX8_place_88 : decode cX8_place 88 = .ok (.iload_n 2, 1) := by decide +kernel
theorem dX8_place_89 : decode cX8_place 89 = .ok (.aload_n 0, 1) := by decide +kernel
theorem dX8_place_90 : decode cX8_place 90 = .ok (.getfield 117, 3) := by decide +kernel
theorem dX8_place_93 : decode cX8_place 93 = .ok (.isub, 1) := by decide +kernel
theorem dX8_place_94 : decode cX8_place 94 = .ok (.invokevirtual 95, 3) := by decide +kernel
theorem dX8_place_97 : decode cX8_place 97 = .ok (.invokevirtual 107, 3) := by decide +kernel
theorem dX8_place_100 : decode cX8_place 100 = .ok (.istore_n 3, 1) := by decide +kernel
theorem dX8_place_101 : decode cX8_place 101 = .ok (.aload_n 0, 1) := by decide +kernel
theorem dX8_place_102 : decode cX8_place 102 = .ok (.invokevirtual 80, 3) := by decide +kernel
theorem dX8_place_105 : decode cX8_place 105 = .ok (.ifCond .eq 22, 3) := by decide +kernel
theorem dX8_place_108 : decode cX8_place 108 = .ok (.iload_n 3, 1) := by decide +kernel
theorem dX8_place_109 : decode cX8_place 109 = .ok (.aload_n 0, 1) := by decide +kernel
theorem dX8_place_110 : decode cX8_place 110 = .ok (.getfield 16, 3) := by decide +kernel
theorem dX8_place_113 : decode cX8_place 113 = .ok (.iconst 1, 1) := by decide +kernel
theorem dX8_place_114 : decode cX8_place 114 = .ok (.iaload, 1) := by decide +kernel
theorem dX8_place_115 : decode cX8_place 115 = .ok (.if_icmp .le 12, 3) := by decide +kernel
theorem dX8_place_118 : decode cX8_place 118 = .ok (.aload_n 0, 1) := by decide +kernel
theorem dX8_place_119 : decode cX8_place 119 = .ok (.getfield 16, 3) := by decide +kernel
theorem dX8_place_122 : decode cX8_place 122 = .ok (.iconst 1, 1) := by decide +kernel
theorem dX8_place_123 : decode cX8_place 123 = .ok (.iaload, 1) := by decide +kernel
theorem dX8_place_124 : decode cX8_place 124 = .ok (.goto 4, 3) := by decide +kernel
theorem dX8_place_127 : decode cX8_place 127 = .ok (.iload_n 3, 1) := by decide +kernel
theorem dX8_place_128 : decode cX8_place 128 = .ok (.ireturn, 1) := by decide +kernel
theorem dX8_of_0 : decode cX8_of 0 = .ok (.aload_n 0, 1) := by decide +kernel
theorem dX8_of_1 : decode cX8_of 1 = .ok (.iload_n 1, 1) := by decide +kernel
theorem dX8_of_2 : decode cX8_of 2 = .ok (.invokevirtual 123, 3) := by decide +kernel
theorem dX8_of_5 : decode cX8_of 5 = .ok (.ifCond .eq 15, 3) := by decide +kernel
theorem dX8_of_8 : decode cX8_of 8 = .ok (.iload_n 2, 1) := by decide +kernel
theorem dX8_of_9 : decode cX8_of 9 = .ok (.i2l, 1) := by decide +kernel
theorem dX8_of_10 : decode cX8_of 10 = .ok (.lconst 0, 1) := by decide +kernel
theorem dX8_of_11 : decode cX8_of 11 = .ok (.ldc2_w 78, 3) := by decide +kernel
theorem dX8_of_14 : decode cX8_of 14 = .ok (.invokestatic 69, 3) := by decide +kernel
theorem dX8_of_17 : decode cX8_of 17 = .ok (.ifCond .ne 5, 3) := by decide +kernel
theorem dX8_of_20 : decode cX8_of 20 = .ok (.iconst (-1), 1) := by decide +kernel
theorem dX8_of_21 : decode cX8_of 21 = .ok (.ireturn, 1) := by decide +kernel
theorem dX8_of_22 : decode cX8_of 22 = .ok (.iload_n 2, 1) := by decide +kernel
theorem dX8_of_23 : decode cX8_of 23 = .ok (.tableswitch 86 3 6 #[29, 35, 46, 52], 29) := by decide +kernel
theorem dX8_of_52 : decode cX8_of 52 = .ok (.aload_n 0, 1) := by decide +kernel
theorem dX8_of_53 : decode cX8_of 53 = .ok (.iload_n 1, 1) := by decide +kernel
theorem dX8_of_54 : decode cX8_of 54 = .ok (.invokevirtual 91, 3) := by decide +kernel
theorem dX8_of_57 : decode cX8_of 57 = .ok (.ireturn, 1) := by decide +kernel
theorem dX8_of_58 : decode cX8_of 58 = .ok (.aload_n 0, 1) := by decide +kernel
theorem dX8_of_59 : decode cX8_of 59 = .ok (.iload_n 1, 1) := by decide +kernel
theorem dX8_of_60 : decode cX8_of 60 = .ok (.aload_n 0, 1) := by decide +kernel
theorem dX8_of_61 : decode cX8_of 61 = .ok (.iload_n 1, 1) := by decide +kernel
theorem dX8_of_62 : decode cX8_of 62 = .ok (.invokevirtual 91, 3) := by decide +kernel
theorem dX8_of_65 : decode cX8_of 65 = .ok (.invokevirtual 126, 3) := by decide +kernel
theorem dX8_of_68 : decode cX8_of 68 = .ok (.ireturn, 1) := by decide +kernel
theorem dX8_of_69 : decode cX8_of 69 = .ok (.aload_n 0, 1) := by decide +kernel
theorem dX8_of_70 : decode cX8_of 70 = .ok (.iload_n 1, 1) := by decide +kernel
theorem dX8_of_71 : decode cX8_of 71 = .ok (.invokevirtual 129, 3) := by decide +kernel
theorem dX8_of_74 : decode cX8_of 74 = .ok (.ireturn, 1) := by decide +kernel
theorem dX8_of_75 : decode cX8_of 75 = .ok (.iload_n 1, 1) := by decide +kernel
theorem dX8_of_76 : decode cX8_of 76 = .ok (.ifCond .eq 18, 3) := by decide +kernel
theorem dX8_of_79 : decode cX8_of 79 = .ok (.aload_n 0, 1) := by decide +kernel
theorem dX8_of_80 : decode cX8_of 80 = .ok (.invokevirtual 80, 3) := by decide +kernel
theorem dX8_of_83 : decode cX8_of 83 = .ok (.ifCond .eq 11, 3) := by decide +kernel
theorem dX8_of_86 : decode cX8_of 86 = .ok (.aload_n 0, 1) := by decide +kernel
theorem dX8_of_87 : decode cX8_of 87 = .ok (.iload_n 1, 1) := by decide +kernel
theorem dX8_of_88 : decode cX8_of 88 = .ok (.invokevirtual 103, 3) := by decide +kernel
theorem dX8_of_91 : decode cX8_of 91 = .ok (.ifCond .eq 8, 3) := by decide +kernel
theorem dX8_of_94 : decode cX8_of 94 = .ok (.bipush (-4), 2) := by decide +kernel
theorem dX8_of_96 : decode cX8_of 96 = .ok (.goto 12, 3) := by decide +kernel
theorem dX8_of_99 : decode cX8_of 99 = .ok (.aload_n 0, 1) := by decide +kernel
theorem dX8_of_100 : decode cX8_of 100 = .ok (.getfield 16, 3) := by decide +kernel
theorem dX8_of_103 : decode cX8_of 103 = .ok (.bipush 8, 2) := by decide +kernel
theorem dX8_of_105 : decode cX8_of 105 = .ok (.iload_n 1, 1) := by decide +kernel
theorem dX8_of_106 : decode cX8_of 106 = .ok (.iadd, 1) := by decide +kernel
theorem dX8_of_107 : decode cX8_of 107 = .ok (.iaload, 1) := by decide +kernel
theorem dX8_of_108 : decode cX8_of 108 = .ok (.ireturn, 1) := by decide +kernel
theorem dX8_of_109 : decode cX8_of 109 = .ok (.aload_n 0, 1) := by decide +kernel
theorem dX8_of_110 : decode cX8_of 110 = .ok (.getfield 13, 3) := by decide +kernel
theorem dX8_of_113 : decode cX8_of 113 = .ok (.iconst 3, 1) := by decide +kernel
theorem dX8_of_114 : decode cX8_of 114 = .ok (.iload_n 1, 1) := by decide +kernel
theorem dX8_of_115 : decode cX8_of 115 = .ok (.imul, 1) := by decide +kernel
theorem dX8_of_116 : decode cX8_of 116 = .ok (.iload_n 2, 1) := by decide +kernel
theorem dX8_of_117 : decode cX8_of 117 = .ok (.iadd, 1) := by decide +kernel
theorem dX8_of_118 : decode cX8_of 118 = .ok (.iaload, 1) := by decide +kernel
theorem dX8_of_119 : decode cX8_of 119 = .ok (.ireturn, 1) := by decide +kernel
theorem dX8_hurt_0 : decode cX8_hurt 0 = .ok (.aload_n 0, 1) := by decide +kernel
theorem dX8_hurt_1 : decode cX8_hurt 1 = .ok (.iload_n 1, 1) := by decide +kernel
theorem dX8_hurt_2 : decode cX8_hurt 2 = .ok (.invokevirtual 123, 3) := by decide +kernel
theorem dX8_hurt_5 : decode cX8_hurt 5 = .ok (.ifCond .eq 15, 3) := by decide +kernel
theorem dX8_hurt_8 : decode cX8_hurt 8 = .ok (.iload_n 2, 1) := by decide +kernel
theorem dX8_hurt_9 : decode cX8_hurt 9 = .ok (.i2l, 1) := by decide +kernel
theorem dX8_hurt_10 : decode cX8_hurt 10 = .ok (.lconst 0, 1) := by decide +kernel
theorem dX8_hurt_11 : decode cX8_hurt 11 = .ok (.ldc2_w 78, 3) := by decide +kernel
theorem dX8_hurt_14 : decode cX8_hurt 14 = .ok (.invokestatic 69, 3) := by decide +kernel
theorem dX8_hurt_17 : decode cX8_hurt 17 = .ok (.ifCond .ne 5, 3) := by decide +kernel
theorem dX8_hurt_20 : decode cX8_hurt 20 = .ok (.iconst (-1), 1) := by decide +kernel
theorem dX8_hurt_21 : decode cX8_hurt 21 = .ok (.ireturn, 1) := by decide +kernel
theorem dX8_hurt_22 : decode cX8_hurt 22 = .ok (.aload_n 0, 1) := by decide +kernel
theorem dX8_hurt_23 : decode cX8_hurt 23 = .ok (.invokevirtual 80, 3) := by decide +kernel
theorem dX8_hurt_26 : decode cX8_hurt 26 = .ok (.ifCond .eq 6, 3) := by decide +kernel
theorem dX8_hurt_29 : decode cX8_hurt 29 = .ok (.bipush (-2), 2) := by decide +kernel
theorem dX8_hurt_31 : decode cX8_hurt 31 = .ok (.ireturn, 1) := by decide +kernel
theorem dX8_hurt_32 : decode cX8_hurt 32 = .ok (.aload_n 0, 1) := by decide +kernel
theorem dX8_hurt_33 : decode cX8_hurt 33 = .ok (.iload_n 1, 1) := by decide +kernel
theorem dX8_hurt_34 : decode cX8_hurt 34 = .ok (.invokevirtual 91, 3) := by decide +kernel
theorem dX8_hurt_37 : decode cX8_hurt 37 = .ok (.istore_n 3, 1) := by decide +kernel
theorem dX8_hurt_38 : decode cX8_hurt 38 = .ok (.aload_n 0, 1) := by decide +kernel
theorem dX8_hurt_39 : decode cX8_hurt 39 = .ok (.getfield 16, 3) := by decide +kernel
theorem dX8_hurt_42 : decode cX8_hurt 42 = .ok (.iconst 3, 1) := by decide +kernel
theorem dX8_hurt_43 : decode cX8_hurt 43 = .ok (.iload_n 1, 1) := by decide +kernel
theorem dX8_hurt_44 : decode cX8_hurt 44 = .ok (.iadd, 1) := by decide +kernel
theorem dX8_hurt_45 : decode cX8_hurt 45 = .ok (.iload_n 2, 1) := by decide +kernel
theorem dX8_hurt_46 : decode cX8_hurt 46 = .ok (.iastore, 1) := by decide +kernel
theorem dX8_hurt_47 : decode cX8_hurt 47 = .ok (.iload_n 3, 1) := by decide +kernel
theorem dX8_hurt_48 : decode cX8_hurt 48 = .ok (.ireturn, 1) := by decide +kernel
theorem dX8_start_0 : decode cX8_start 0 = .ok (.iload_n 1, 1) := by decide +kernel
theorem dX8_start_1 : decode cX8_start 1 = .ok (.i2l, 1) := by decide +kernel
theorem dX8_start_2 : decode cX8_start 2 = .ok (.lconst 0, 1) := by decide +kernel
theorem dX8_start_3 : decode cX8_start 3 = .ok (.ldc2_w 132, 3) := by decide +kernel
theorem dX8_start_6 : decode cX8_start 6 = .ok (.invokestatic 69, 3) := by decide +kernel
theorem dX8_start_9 : decode cX8_start 9 = .ok (.ifCond .ne 5, 3) := by decide +kernel
theorem dX8_start_12 : decode cX8_start 12 = .ok (.iconst (-1), 1) := by decide +kernel
theorem dX8_start_13 : decode cX8_start 13 = .ok (.ireturn, 1) := by decide +kernel
theorem dX8_start_14 : decode cX8_start 14 = .ok (.aload_n 0, 1) := by decide +kernel
theorem dX8_start_15 : decode cX8_start 15 = .ok (.getfield 16, 3) := by decide +kernel
theorem dX8_start_18 : decode cX8_start 18 = .ok (.iconst 0, 1) := by decide +kernel
theorem dX8_start_19 : decode cX8_start 19 = .ok (.iaload, 1) := by decide +kernel
theorem dX8_start_20 : decode cX8_start 20 = .ok (.ifCond .eq 6, 3) := by decide +kernel
theorem dX8_start_23 : decode cX8_start 23 = .ok (.bipush (-2), 2) := by decide +kernel
theorem dX8_start_25 : decode cX8_start 25 = .ok (.ireturn, 1) := by decide +kernel
theorem dX8_start_26 : decode cX8_start 26 = .ok (.aload_n 0, 1) := by decide +kernel
theorem dX8_start_27 : decode cX8_start 27 = .ok (.getfield 117, 3) := by decide +kernel
theorem dX8_start_30 : decode cX8_start 30 = .ok (.istore_n 2, 1) := by decide +kernel
theorem dX8_start_31 : decode cX8_start 31 = .ok (.aload_n 0, 1) := by decide +kernel
theorem dX8_start_32 : decode cX8_start 32 = .ok (.iload_n 1, 1) := by decide +kernel
theorem dX8_start_33 : decode cX8_start 33 = .ok (.putfield 117, 3) := by decide +kernel
theorem dX8_start_36 : decode cX8_start 36 = .ok (.iload_n 2, 1) := by decide +kernel
theorem dX8_start_37 : decode cX8_start 37 = .ok (.ireturn, 1) := by decide +kernel
theorem dX8_sort_0 : decode cX8_sort 0 = .ok (.iload_n 1, 1) := by decide +kernel
theorem dX8_sort_1 : decode cX8_sort 1 = .ok (.i2l, 1) := by decide +kernel
theorem dX8_sort_2 : decode cX8_sort 2 = .ok (.lconst 0, 1) := by decide +kernel
theorem dX8_sort_3 : decode cX8_sort 3 = .ok (.aload_n 0, 1) := by decide +kernel
theorem dX8_sort_4 : decode cX8_sort 4 = .ok (.getfield 62, 3) := by decide +kernel
theorem dX8_sort_7 : decode cX8_sort 7 = .ok (.iconst 1, 1) := by decide +kernel
theorem dX8_sort_8 : decode cX8_sort 8 = .ok (.isub, 1) := by decide +kernel
theorem dX8_sort_9 : decode cX8_sort 9 = .ok (.i2l, 1) := by decide +kernel
theorem dX8_sort_10 : decode cX8_sort 10 = .ok (.invokestatic 69, 3) := by decide +kernel
theorem dX8_sort_13 : decode cX8_sort 13 = .ok (.ifCond .eq 12, 3) := by decide +kernel
theorem dX8_sort_16 : decode cX8_sort 16 = .ok (.aload_n 0, 1) := by decide +kernel
theorem dX8_sort_17 : decode cX8_sort 17 = .ok (.getfield 7, 3) := by decide +kernel
theorem dX8_sort_20 : decode cX8_sort 20 = .ok (.iload_n 1, 1) := by decide +kernel
theorem dX8_sort_21 : decode cX8_sort 21 = .ok (.iaload, 1) := by decide +kernel
theorem dX8_sort_22 : decode cX8_sort 22 = .ok (.goto 4, 3) := by decide +kernel
theorem dX8_sort_25 : decode cX8_sort 25 = .ok (.iconst (-1), 1) := by decide +kernel
theorem dX8_sort_26 : decode cX8_sort 26 = .ok (.ireturn, 1) := by decide +kernel
theorem dX8_cost_0 : decode cX8_cost 0 = .ok (.iload_n 1, 1) := by decide +kernel
theorem dX8_cost_1 : decode cX8_cost 1 = .ok (.i2l, 1) := by decide +kernel
theorem dX8_cost_2 : decode cX8_cost 2 = .ok (.lconst 0, 1) := by decide +kernel
theorem dX8_cost_3 : decode cX8_cost 3 = .ok (.aload_n 0, 1) := by decide +kernel
theorem dX8_cost_4 : decode cX8_cost 4 = .ok (.getfield 62, 3) := by decide +kernel
theorem dX8_cost_7 : decode cX8_cost 7 = .ok (.iconst 1, 1) := by decide +kernel
theorem dX8_cost_8 : decode cX8_cost 8 = .ok (.isub, 1) := by decide +kernel
theorem dX8_cost_9 : decode cX8_cost 9 = .ok (.i2l, 1) := by decide +kernel
theorem dX8_cost_10 : decode cX8_cost 10 = .ok (.invokestatic 69, 3) := by decide +kernel
theorem dX8_cost_13 : decode cX8_cost 13 = .ok (.ifCond .eq 11, 3) := by decide +kernel
theorem dX8_cost_16 : decode cX8_cost 16 = .ok (.aload_n 0, 1) := by decide +kernel
theorem dX8_cost_17 : decode cX8_cost 17 = .ok (.iload_n 1, 1) := by decide +kernel
theorem dX8_cost_18 : decode cX8_cost 18 = .ok (.invokevirtual 110, 3) := by decide +kernel
theorem dX8_cost_21 : decode cX8_cost 21 = .ok (.goto 4, 3) := by decide +kernel
theorem dX8_cost_24 : decode cX8_cost 24 = .ok (.iconst (-1), 1) := by decide +kernel
theorem dX8_cost_25 : decode cX8_cost 25 = .ok (.ireturn, 1) := by decide +kernel
theorem dX8_points_0 : decode cX8_points 0 = .ok (.aload_n 0, 1) := by decide +kernel
theorem dX8_points_1 : decode cX8_points 1 = .ok (.iload_n 1, 1) := by decide +kernel
theorem dX8_points_2 : decode cX8_points 2 = .ok (.invokevirtual 123, 3) := by decide +kernel
theorem dX8_points_5 : decode cX8_points 5 = .ok (.ifCond .eq 29, 3) := by decide +kernel
theorem dX8_points_8 : decode cX8_points 8 = .ok (.iload_n 2, 1) := by decide +kernel
theorem dX8_points_9 : decode cX8_points 9 = .ok (.i2l, 1) := by decide +kernel
theorem dX8_points_10 : decode cX8_points 10 = .ok (.lconst 0, 1) := by decide +kernel
theorem dX8_points_11 : decode cX8_points 11 = .ok (.ldc2_w 134, 3) := by decide +kernel
theorem dX8_points_14 : decode cX8_points 14 = .ok (.invokestatic 69, 3) := by decide +kernel
theorem dX8_points_17 : decode cX8_points 17 = .ok (.ifCond .eq 17, 3) := by decide +kernel
theorem dX8_points_20 : decode cX8_points 20 = .ok (.aload_n 0, 1) := by decide +kernel
theorem dX8_points_21 : decode cX8_points 21 = .ok (.iload_n 1, 1) := by decide +kernel
theorem dX8_points_22 : decode cX8_points 22 = .ok (.aload_n 0, 1) := by decide +kernel
theorem dX8_points_23 : decode cX8_points 23 = .ok (.iload_n 1, 1) := by decide +kernel
theorem dX8_points_24 : decode cX8_points 24 = .ok (.invokevirtual 91, 3) := by decide +kernel
theorem dX8_points_27 : decode cX8_points 27 = .ok (.iload_n 2, 1) := by decide +kernel
theorem dX8_points_28 : decode cX8_points 28 = .ok (.invokevirtual 95, 3) := by decide +kernel
theorem dX8_points_31 : decode cX8_points 31 = .ok (.goto 4, 3) := by decide +kernel
theorem dX8_points_34 : decode cX8_points 34 = .ok (.iconst (-1), 1) := by decide +kernel
theorem dX8_points_35 : decode cX8_points 35 = .ok (.ireturn, 1) := by decide +kernel
theorem dX8_type_0 : decode cX8_type 0 = .ok (.iload_n 1, 1) := by decide +kernel
theorem dX8_type_1 : decode cX8_type 1 = .ok (.i2l, 1) := by decide +kernel
theorem dX8_type_2 : decode cX8_type 2 = .ok (.ldc2_w 136, 3) := by decide +kernel
theorem dX8_type_5 : decode cX8_type 5 = .ok (.ldc2_w 138, 3) := by decide +kernel
theorem dX8_type_8 : decode cX8_type 8 = .ok (.invokestatic 69, 3) := by decide +kernel
theorem dX8_type_11 : decode cX8_type 11 = .ok (.ifCond .ne 5, 3) := by decide +kernel
theorem dX8_type_14 : decode cX8_type 14 = .ok (.iconst (-1), 1) := by decide +kernel
theorem dX8_type_15 : decode cX8_type 15 = .ok (.ireturn, 1) := by decide +kernel
theorem dX8_type_16 : decode cX8_type 16 = .ok (.aload_n 0, 1) := by decide +kernel
theorem dX8_type_17 : decode cX8_type 17 = .ok (.getfield 140, 3) := by decide +kernel
theorem dX8_type_20 : decode cX8_type 20 = .ok (.bipush 100, 2) := by decide +kernel
theorem dX8_type_22 : decode cX8_type 22 = .ok (.if_icmp .ne 6, 3) := by decide +kernel
theorem dX8_type_25 : decode cX8_type 25 = .ok (.bipush (-3), 2) := by decide +kernel
theorem dX8_type_27 : decode cX8_type 27 = .ok (.ireturn, 1) := by decide +kernel
theorem dX8_type_28 : decode cX8_type 28 = .ok (.aload_n 0, 1) := by decide +kernel
theorem dX8_type_29 : decode cX8_type 29 = .ok (.getfield 19, 3) := by decide +kernel
theorem dX8_type_32 : decode cX8_type 32 = .ok (.aload_n 0, 1) := by decide +kernel
theorem dX8_type_33 : decode cX8_type 33 = .ok (.getfield 140, 3) := by decide +kernel
theorem dX8_type_36 : decode cX8_type 36 = .ok (.iload_n 1, 1) := by decide +kernel
theorem dX8_type_37 : decode cX8_type 37 = .ok (.iastore, 1) := by decide +kernel
theorem dX8_type_38 : decode cX8_type 38 = .ok (.aload_n 0, 1) := by decide +kernel
theorem dX8_type_39 : decode cX8_type 39 = .ok (.dup, 1) := by decide +kernel
theorem dX8_type_40 : decode cX8_type 40 = .ok (.getfield 140, 3) := by decide +kernel
theorem dX8_type_43 : decode cX8_type 43 = .ok (.iconst 1, 1) := by decide +kernel
theorem dX8_type_44 : decode cX8_type 44 = .ok (.iadd, 1) := by decide +kernel
theorem dX8_type_45 : decode cX8_type 45 = .ok (.putfield 140, 3) := by decide +kernel
theorem dX8_type_48 : decode cX8_type 48 = .ok (.aload_n 0, 1) := by decide +kernel
theorem dX8_type_49 : decode cX8_type 49 = .ok (.getfield 140, 3) := by decide +kernel
theorem dX8_type_52 : decode cX8_type 52 = .ok (.ireturn, 1) := by decide +kernel
theorem dX8_here_0 : decode cX8_here 0 = .ok (.aload_n 0, 1) := by decide +kernel
theorem dX8_here_1 : decode cX8_here 1 = .ok (.getfield 143, 3) := by decide +kernel
theorem dX8_here_4 : decode cX8_here 4 = .ok (.aload_n 0, 1) := by decide +kernel
theorem dX8_here_5 : decode cX8_here 5 = .ok (.getfield 140, 3) := by decide +kernel
theorem dX8_here_8 : decode cX8_here 8 = .ok (.if_icmp .ge 30, 3) := by decide +kernel
theorem dX8_here_11 : decode cX8_here 11 = .ok (.aload_n 0, 1) := by decide +kernel
theorem dX8_here_12 : decode cX8_here 12 = .ok (.getfield 19, 3) := by decide +kernel
theorem dX8_here_15 : decode cX8_here 15 = .ok (.aload_n 0, 1) := by decide +kernel
theorem dX8_here_16 : decode cX8_here 16 = .ok (.getfield 143, 3) := by decide +kernel
theorem dX8_here_19 : decode cX8_here 19 = .ok (.iaload, 1) := by decide +kernel
theorem dX8_here_20 : decode cX8_here 20 = .ok (.bipush 32, 2) := by decide +kernel
theorem dX8_here_22 : decode cX8_here 22 = .ok (.if_icmp .ne 16, 3) := by decide +kernel
theorem dX8_here_25 : decode cX8_here 25 = .ok (.aload_n 0, 1) := by decide +kernel
theorem dX8_here_26 : decode cX8_here 26 = .ok (.dup, 1) := by decide +kernel
theorem dX8_here_27 : decode cX8_here 27 = .ok (.getfield 143, 3) := by decide +kernel
theorem dX8_here_30 : decode cX8_here 30 = .ok (.iconst 1, 1) := by decide +kernel
theorem dX8_here_31 : decode cX8_here 31 = .ok (.iadd, 1) := by decide +kernel
theorem dX8_here_32 : decode cX8_here 32 = .ok (.putfield 143, 3) := by decide +kernel
theorem dX8_here_35 : decode cX8_here 35 = .ok (.goto (-35), 3) := by decide +kernel
theorem dX8_here_38 : decode cX8_here 38 = .ok (.aload_n 0, 1) := by decide +kernel
theorem dX8_here_39 : decode cX8_here 39 = .ok (.getfield 143, 3) := by decide +kernel
theorem dX8_here_42 : decode cX8_here 42 = .ok (.aload_n 0, 1) := by decide +kernel
theorem dX8_here_43 : decode cX8_here 43 = .ok (.getfield 140, 3) := by decide +kernel
theorem dX8_here_46 : decode cX8_here 46 = .ok (.if_icmp .ge 15, 3) := by decide +kernel
theorem dX8_here_49 : decode cX8_here 49 = .ok (.aload_n 0, 1) := by decide +kernel
theorem dX8_here_50 : decode cX8_here 50 = .ok (.getfield 19, 3) := by decide +kernel
theorem dX8_here_53 : decode cX8_here 53 = .ok (.aload_n 0, 1) := by decide +kernel
theorem dX8_here_54 : decode cX8_here 54 = .ok (.getfield 143, 3) := by decide +kernel
theorem dX8_here_57 : decode cX8_here 57 = .ok (.iaload, 1) := by decide +kernel
theorem dX8_here_58 : decode cX8_here 58 = .ok (.goto 4, 3) := by decide +kernel
theorem dX8_here_61 : decode cX8_here 61 = .ok (.iconst 0, 1) := by decide +kernel
theorem dX8_here_62 : decode cX8_here 62 = .ok (.ireturn, 1) := by decide +kernel
theorem dX8_has_0 : decode cX8_has 0 = .ok (.aload_n 0, 1) := by decide +kernel
theorem dX8_has_1 : decode cX8_has 1 = .ok (.getfield 146, 3) := by decide +kernel
theorem dX8_has_4 : decode cX8_has 4 = .ok (.ifCond .ne 15, 3) := by decide +kernel
theorem dX8_has_7 : decode cX8_has 7 = .ok (.aload_n 0, 1) := by decide +kernel
theorem dX8_has_8 : decode cX8_has 8 = .ok (.invokevirtual 149, 3) := by decide +kernel
theorem dX8_has_11 : decode cX8_has 11 = .ok (.iload_n 1, 1) := by decide +kernel
theorem dX8_has_12 : decode cX8_has 12 = .ok (.if_icmp .ne 7, 3) := by decide +kernel
theorem dX8_has_15 : decode cX8_has 15 = .ok (.iconst 1, 1) := by decide +kernel
theorem dX8_has_16 : decode cX8_has 16 = .ok (.goto 4, 3) := by decide +kernel
theorem dX8_has_19 : decode cX8_has 19 = .ok (.iconst 0, 1) := by decide +kernel
theorem dX8_has_20 : decode cX8_has 20 = .ok (.istore_n 2, 1) := by decide +kernel
theorem dX8_has_21 : decode cX8_has 21 = .ok (.aload_n 0, 1) := by decide +kernel
theorem dX8_has_22 : decode cX8_has 22 = .ok (.dup, 1) := by decide +kernel
theorem dX8_has_23 : decode cX8_has 23 = .ok (.getfield 143, 3) := by decide +kernel
theorem dX8_has_26 : decode cX8_has 26 = .ok (.iload_n 2, 1) := by decide +kernel
theorem dX8_has_27 : decode cX8_has 27 = .ok (.ifCond .eq 7, 3) := by decide +kernel
theorem dX8_has_30 : decode cX8_has 30 = .ok (.iconst 1, 1) := by decide +kernel
theorem dX8_has_31 : decode cX8_has 31 = .ok (.goto 4, 3) := by decide +kernel
theorem dX8_has_34 : decode cX8_has 34 = .ok (.iconst 0, 1) := by decide +kernel
theorem dX8_has_35 : decode cX8_has 35 = .ok (.iadd, 1) := by decide +kernel
theorem dX8_has_36 : decode cX8_has 36 = .ok (.putfield 143, 3) := by decide +kernel
theorem dX8_has_39 : decode cX8_has 39 = .ok (.iload_n 2, 1) := by decide +kernel
theorem dX8_has_40 : decode cX8_has 40 = .ok (.ireturn, 1) := by decide +kernel
theorem dX8_sign_0 : decode cX8_sign 0 = .ok (.aload_n 0, 1) := by decide +kernel
theorem dX8_sign_1 : decode cX8_sign 1 = .ok (.invokevirtual 149, 3) := by decide +kernel
theorem dX8_sign_4 : decode cX8_sign 4 = .ok (.istore_n 1, 1) := by decide +kernel
theorem dX8_sign_5 : decode cX8_sign 5 = .ok (.iload_n 1, 1) := by decide +kernel
theorem dX8_sign_6 : decode cX8_sign 6 = .ok (.bipush 46, 2) := by decide +kernel
theorem dX8_sign_8 : decode cX8_sign 8 = .ok (.if_icmp .ne 7, 3) := by decide +kernel
theorem dX8_sign_11 : decode cX8_sign 11 = .ok (.iconst 0, 1) := by decide +kernel
theorem dX8_sign_12 : decode cX8_sign 12 = .ok (.goto 25, 3) := by decide +kernel
theorem dX8_sign_15 : decode cX8_sign 15 = .ok (.iload_n 1, 1) := by decide +kernel
theorem dX8_sign_16 : decode cX8_sign 16 = .ok (.bipush 47, 2) := by decide +kernel
theorem dX8_sign_18 : decode cX8_sign 18 = .ok (.if_icmp .ne 7, 3) := by decide +kernel
theorem dX8_sign_21 : decode cX8_sign 21 = .ok (.iconst 1, 1) := by decide +kernel
theorem dX8_sign_22 : decode cX8_sign 22 = .ok (.goto 15, 3) := by decide +kernel
theorem dX8_sign_25 : decode cX8_sign 25 = .ok (.iload_n 1, 1) := by decide +kernel
theorem dX8_sign_26 : decode cX8_sign 26 = .ok (.bipush 118, 2) := by decide +kernel
theorem dX8_sign_28 : decode cX8_sign 28 = .ok (.if_icmp .ne 7, 3) := by decide +kernel
theorem dX8_sign_31 : decode cX8_sign 31 = .ok (.iconst 2, 1) := by decide +kernel
theorem dX8_sign_32 : decode cX8_sign 32 = .ok (.goto 5, 3) := by decide +kernel
theorem dX8_sign_35 : decode cX8_sign 35 = .ok (.bipush (-4), 2) := by decide +kernel
theorem dX8_sign_37 : decode cX8_sign 37 = .ok (.ireturn, 1) := by decide +kernel
theorem dX8_digit_0 : decode cX8_digit 0 = .ok (.aload_n 0, 1) := by decide +kernel
theorem dX8_digit_1 : decode cX8_digit 1 = .ok (.getfield 146, 3) := by decide +kernel
theorem dX8_digit_4 : decode cX8_digit 4 = .ok (.ifCond .eq 7, 3) := by decide +kernel
theorem dX8_digit_7 : decode cX8_digit 7 = .ok (.iload_n 1, 1) := by decide +kernel
theorem dX8_digit_8 : decode cX8_digit 8 = .ok (.goto 10, 3) := by decide +kernel
theorem dX8_digit_11 : decode cX8_digit 11 = .ok (.aload_n 0, 1) := by decide +kernel
theorem dX8_digit_12 : decode cX8_digit 12 = .ok (.invokevirtual 149, 3) := by decide +kernel
theorem dX8_digit_15 : decode cX8_digit 15 = .ok (.bipush 48, 2) := by decide +kernel
theorem dX8_digit_17 : decode cX8_digit 17 = .ok (.isub, 1) := by decide +kernel
theorem dX8_digit_18 : decode cX8_digit 18 = .ok (.istore_n 3, 1) := by decide +kernel
theorem dX8_digit_19 : decode cX8_digit 19 = .ok (.aload_n 0, 1) := by decide +kernel
theorem dX8_digit_20 : decode cX8_digit 20 = .ok (.aload_n 0, 1) := by decide +kernel
theorem dX8_digit_21 : decode cX8_digit 21 = .ok (.getfield 146, 3) := by decide +kernel
theorem dX8_digit_24 : decode cX8_digit 24 = .ok (.ifCond .ne 15, 3) := by decide +kernel
theorem dX8_digit_27 : decode cX8_digit 27 = .ok (.iload_n 3, 1) := by decide +kernel
theorem dX8_digit_28 : decode cX8_digit 28 = .ok (.i2l, 1) := by decide +kernel
theorem dX8_digit_29 : decode cX8_digit 29 = .ok (.iload_n 1, 1) := by decide +kernel
theorem dX8_digit_30 : decode cX8_digit 30 = .ok (.i2l, 1) := by decide +kernel
theorem dX8_digit_31 : decode cX8_digit 31 = .ok (.iload_n 2, 1) := by decide +kernel
theorem dX8_digit_32 : decode cX8_digit 32 = .ok (.i2l, 1) := by decide +kernel
theorem dX8_digit_33 : decode cX8_digit 33 = .ok (.invokestatic 69, 3) := by decide +kernel
theorem dX8_digit_36 : decode cX8_digit 36 = .ok (.ifCond .ne 7, 3) := by decide +kernel
theorem dX8_digit_39 : decode cX8_digit 39 = .ok (.iconst 1, 1) := by decide +kernel
theorem dX8_digit_40 : decode cX8_digit 40 = .ok (.goto 4, 3) := by decide +kernel
theorem dX8_digit_43 : decode cX8_digit 43 = .ok (.iconst 0, 1) := by decide +kernel
theorem dX8_digit_44 : decode cX8_digit 44 = .ok (.putfield 146, 3) := by decide +kernel
theorem dX8_digit_47 : decode cX8_digit 47 = .ok (.aload_n 0, 1) := by decide +kernel
theorem dX8_digit_48 : decode cX8_digit 48 = .ok (.dup, 1) := by decide +kernel
theorem dX8_digit_49 : decode cX8_digit 49 = .ok (.getfield 143, 3) := by decide +kernel
theorem dX8_digit_52 : decode cX8_digit 52 = .ok (.aload_n 0, 1) := by decide +kernel
theorem dX8_digit_53 : decode cX8_digit 53 = .ok (.getfield 146, 3) := by decide +kernel
theorem dX8_digit_56 : decode cX8_digit 56 = .ok (.ifCond .eq 7, 3) := by decide +kernel
theorem dX8_digit_59 : decode cX8_digit 59 = .ok (.iconst 0, 1) := by decide +kernel
theorem dX8_digit_60 : decode cX8_digit 60 = .ok (.goto 4, 3) := by decide +kernel
theorem dX8_digit_63 : decode cX8_digit 63 = .ok (.iconst 1, 1) := by decide +kernel
theorem dX8_digit_64 : decode cX8_digit 64 = .ok (.iadd, 1) := by decide +kernel
theorem dX8_digit_65 : decode cX8_digit 65 = .ok (.putfield 143, 3) := by decide +kernel
theorem dX8_digit_68 : decode cX8_digit 68 = .ok (.iload_n 3, 1) := by decide +kernel
theorem dX8_digit_69 : decode cX8_digit 69 = .ok (.ireturn, 1) := by decide +kernel
theorem dX8_readFighter_0 : decode cX8_readFighter 0 = .ok (.iconst 4, 1) := by decide +kernel
theorem dX8_readFighter_1 : decode cX8_readFighter 1 = .ok (.aload_n 0, 1) := by decide +kernel
theorem dX8_readFighter_2 : decode cX8_readFighter 2 = .ok (.getfield 153, 3) := by decide +kernel
theorem dX8_readFighter_5 : decode cX8_readFighter 5 = .ok (.imul, 1) := by decide +kernel
theorem dX8_readFighter_6 : decode cX8_readFighter 6 = .ok (.istore_n 1, 1) := by decide +kernel
theorem dX8_readFighter_7 : decode cX8_readFighter 7 = .ok (.aload_n 0, 1) := by decide +kernel
theorem dX8_readFighter_8 : decode cX8_readFighter 8 = .ok (.getfield 146, 3) := by decide +kernel
theorem dX8_readFighter_11 : decode cX8_readFighter 11 = .ok (.ifCond .eq 7, 3) := by decide +kernel
theorem dX8_readFighter_14 : decode cX8_readFighter 14 = .ok (.iconst 0, 1) := by decide +kernel
theorem dX8_readFighter_15 : decode cX8_readFighter 15 = .ok (.goto 7, 3) := by decide +kernel
theorem dX8_readFighter_18 : decode cX8_readFighter 18 = .ok (.aload_n 0, 1) := by decide +kernel
theorem dX8_readFighter_19 : decode cX8_readFighter 19 = .ok (.invokevirtual 149, 3) := by decide +kernel
theorem dX8_readFighter_22 : decode cX8_readFighter 22 = .ok (.istore_n 2, 1) := by decide +kernel
theorem dX8_readFighter_23 : decode cX8_readFighter 23 = .ok (.aload_n 0, 1) := by decide +kernel
theorem dX8_readFighter_24 : decode cX8_readFighter 24 = .ok (.getfield 25, 3) := by decide +kernel
theorem dX8_readFighter_27 : decode cX8_readFighter 27 = .ok (.iload_n 1, 1) := by decide +kernel
theorem dX8_readFighter_28 : decode cX8_readFighter 28 = .ok (.iload_n 2, 1) := by decide +kernel
theorem dX8_readFighter_29 : decode cX8_readFighter 29 = .ok (.bipush 112, 2) := by decide +kernel
theorem dX8_readFighter_31 : decode cX8_readFighter 31 = .ok (.if_icmp .ne 7, 3) := by decide +kernel
theorem dX8_readFighter_34 : decode cX8_readFighter 34 = .ok (.iconst 0, 1) := by decide +kernel
theorem dX8_readFighter_35 : decode cX8_readFighter 35 = .ok (.goto 24, 3) := by decide +kernel
theorem dX8_readFighter_38 : decode cX8_readFighter 38 = .ok (.iload_n 2, 1) := by decide +kernel
theorem dX8_readFighter_39 : decode cX8_readFighter 39 = .ok (.bipush 115, 2) := by decide +kernel
theorem dX8_readFighter_41 : decode cX8_readFighter 41 = .ok (.if_icmp .ne 7, 3) := by decide +kernel
theorem dX8_readFighter_44 : decode cX8_readFighter 44 = .ok (.iconst 1, 1) := by decide +kernel
theorem dX8_readFighter_45 : decode cX8_readFighter 45 = .ok (.goto 14, 3) := by decide +kernel
theorem dX8_readFighter_48 : decode cX8_readFighter 48 = .ok (.iload_n 2, 1) := by decide +kernel
theorem dX8_readFighter_49 : decode cX8_readFighter 49 = .ok (.bipush 108, 2) := by decide +kernel
theorem dX8_readFighter_51 : decode cX8_readFighter 51 = .ok (.if_icmp .ne 7, 3) := by decide +kernel
theorem dX8_readFighter_54 : decode cX8_readFighter 54 = .ok (.iconst 2, 1) := by decide +kernel
theorem dX8_readFighter_55 : decode cX8_readFighter 55 = .ok (.goto 4, 3) := by decide +kernel
theorem dX8_readFighter_58 : decode cX8_readFighter 58 = .ok (.iconst 3, 1) := by decide +kernel
theorem dX8_readFighter_59 : decode cX8_readFighter 59 = .ok (.iastore, 1) := by decide +kernel
theorem dX8_readFighter_60 : decode cX8_readFighter 60 = .ok (.aload_n 0, 1) := by decide +kernel
theorem dX8_readFighter_61 : decode cX8_readFighter 61 = .ok (.aload_n 0, 1) := by decide +kernel
theorem dX8_readFighter_62 : decode cX8_readFighter 62 = .ok (.getfield 146, 3) := by decide +kernel
theorem dX8_readFighter_65 : decode cX8_readFighter 65 = .ok (.ifCond .ne 27, 3) := by decide +kernel
theorem dX8_readFighter_68 : decode cX8_readFighter 68 = .ok (.iload_n 2, 1) := by decide +kernel
theorem dX8_readFighter_69 : decode cX8_readFighter 69 = .ok (.bipush 112, 2) := by decide +kernel
theorem dX8_readFighter_71 : decode cX8_readFighter 71 = .ok (.if_icmp .eq 25, 3) := by decide +kernel
theorem dX8_readFighter_74 : decode cX8_readFighter 74 = .ok (.iload_n 2, 1) := by decide +kernel
theorem dX8_readFighter_75 : decode cX8_readFighter 75 = .ok (.bipush 115, 2) := by decide +kernel
theorem dX8_readFighter_77 : decode cX8_readFighter 77 = .ok (.if_icmp .eq 19, 3) := by decide +kernel
theorem dX8_readFighter_80 : decode cX8_readFighter 80 = .ok (.iload_n 2, 1) := by decide +kernel
theorem dX8_readFighter_81 : decode cX8_readFighter 81 = .ok (.bipush 108, 2) := by decide +kernel
theorem dX8_readFighter_83 : decode cX8_readFighter 83 = .ok (.if_icmp .eq 13, 3) := by decide +kernel
theorem dX8_readFighter_86 : decode cX8_readFighter 86 = .ok (.iload_n 2, 1) := by decide +kernel
theorem dX8_readFighter_87 : decode cX8_readFighter 87 = .ok (.bipush 102, 2) := by decide +kernel
theorem dX8_readFighter_89 : decode cX8_readFighter 89 = .ok (.if_icmp .eq 7, 3) := by decide +kernel
theorem dX8_readFighter_92 : decode cX8_readFighter 92 = .ok (.iconst 1, 1) := by decide +kernel
theorem dX8_readFighter_93 : decode cX8_readFighter 93 = .ok (.goto 4, 3) := by decide +kernel
theorem dX8_readFighter_96 : decode cX8_readFighter 96 = .ok (.iconst 0, 1) := by decide +kernel
theorem dX8_readFighter_97 : decode cX8_readFighter 97 = .ok (.putfield 146, 3) := by decide +kernel
theorem dX8_readFighter_100 : decode cX8_readFighter 100 = .ok (.aload_n 0, 1) := by decide +kernel
theorem dX8_readFighter_101 : decode cX8_readFighter 101 = .ok (.dup, 1) := by decide +kernel
theorem dX8_readFighter_102 : decode cX8_readFighter 102 = .ok (.getfield 143, 3) := by decide +kernel
theorem dX8_readFighter_105 : decode cX8_readFighter 105 = .ok (.aload_n 0, 1) := by decide +kernel
theorem dX8_readFighter_106 : decode cX8_readFighter 106 = .ok (.getfield 146, 3) := by decide +kernel
theorem dX8_readFighter_109 : decode cX8_readFighter 109 = .ok (.ifCond .eq 7, 3) := by decide +kernel
theorem dX8_readFighter_112 : decode cX8_readFighter 112 = .ok (.iconst 0, 1) := by decide +kernel
theorem dX8_readFighter_113 : decode cX8_readFighter 113 = .ok (.goto 4, 3) := by decide +kernel
theorem dX8_readFighter_116 : decode cX8_readFighter 116 = .ok (.iconst 1, 1) := by decide +kernel
theorem dX8_readFighter_117 : decode cX8_readFighter 117 = .ok (.iadd, 1) := by decide +kernel
theorem dX8_readFighter_118 : decode cX8_readFighter 118 = .ok (.putfield 143, 3) := by decide +kernel
theorem dX8_readFighter_121 : decode cX8_readFighter 121 = .ok (.aload_n 0, 1) := by decide +kernel
theorem dX8_readFighter_122 : decode cX8_readFighter 122 = .ok (.getfield 25, 3) := by decide +kernel
theorem dX8_readFighter_125 : decode cX8_readFighter 125 = .ok (.iload_n 1, 1) := by decide +kernel
theorem dX8_readFighter_126 : decode cX8_readFighter 126 = .ok (.iconst 1, 1) := by decide +kernel
theorem dX8_readFighter_127 : decode cX8_readFighter 127 = .ok (.iadd, 1) := by decide +kernel
theorem dX8_readFighter_128 : decode cX8_readFighter 128 = .ok (.aload_n 0, 1) := by decide +kernel
theorem dX8_readFighter_129 : decode cX8_readFighter 129 = .ok (.iconst 1, 1) := by decide +kernel
theorem dX8_readFighter_130 : decode cX8_readFighter 130 = .ok (.bipush 9, 2) := by decide +kernel
theorem dX8_readFighter_132 : decode cX8_readFighter 132 = .ok (.invokevirtual 156, 3) := by decide +kernel
theorem dX8_readFighter_135 : decode cX8_readFighter 135 = .ok (.iastore, 1) := by decide +kernel
theorem dX8_readFighter_136 : decode cX8_readFighter 136 = .ok (.aload_n 0, 1) := by decide +kernel
theorem dX8_readFighter_137 : decode cX8_readFighter 137 = .ok (.getfield 25, 3) := by decide +kernel
theorem dX8_readFighter_140 : decode cX8_readFighter 140 = .ok (.iload_n 1, 1) := by decide +kernel
theorem dX8_readFighter_141 : decode cX8_readFighter 141 = .ok (.iconst 2, 1) := by decide +kernel
theorem dX8_readFighter_142 : decode cX8_readFighter 142 = .ok (.iadd, 1) := by decide +kernel
theorem dX8_readFighter_143 : decode cX8_readFighter 143 = .ok (.aload_n 0, 1) := by decide +kernel
theorem dX8_readFighter_144 : decode cX8_readFighter 144 = .ok (.iconst 1, 1) := by decide +kernel
theorem dX8_readFighter_145 : decode cX8_readFighter 145 = .ok (.bipush 6, 2) := by decide +kernel
theorem dX8_readFighter_147 : decode cX8_readFighter 147 = .ok (.invokevirtual 156, 3) := by decide +kernel
theorem dX8_readFighter_150 : decode cX8_readFighter 150 = .ok (.iastore, 1) := by decide +kernel
theorem dX8_readFighter_151 : decode cX8_readFighter 151 = .ok (.aload_n 0, 1) := by decide +kernel
theorem dX8_readFighter_152 : decode cX8_readFighter 152 = .ok (.getfield 25, 3) := by decide +kernel
theorem dX8_readFighter_155 : decode cX8_readFighter 155 = .ok (.iload_n 1, 1) := by decide +kernel
theorem dX8_readFighter_156 : decode cX8_readFighter 156 = .ok (.iconst 3, 1) := by decide +kernel
theorem dX8_readFighter_157 : decode cX8_readFighter 157 = .ok (.iadd, 1) := by decide +kernel
theorem dX8_readFighter_158 : decode cX8_readFighter 158 = .ok (.aload_n 0, 1) := by decide +kernel
theorem dX8_readFighter_159 : decode cX8_readFighter 159 = .ok (.bipush 45, 2) := by decide +kernel
theorem dX8_readFighter_161 : decode cX8_readFighter 161 = .ok (.invokevirtual 159, 3) := by decide +kernel
theorem dX8_readFighter_164 : decode cX8_readFighter 164 = .ok (.ifCond .eq 13, 3) := by decide +kernel
theorem dX8_readFighter_167 : decode cX8_readFighter 167 = .ok (.aload_n 0, 1) := by decide +kernel
theorem dX8_readFighter_168 : decode cX8_readFighter 168 = .ok (.iconst 0, 1) := by decide +kernel
theorem dX8_readFighter_169 : decode cX8_readFighter 169 = .ok (.bipush 6, 2) := by decide +kernel
theorem dX8_readFighter_171 : decode cX8_readFighter 171 = .ok (.invokevirtual 156, 3) := by decide +kernel
theorem dX8_readFighter_174 : decode cX8_readFighter 174 = .ok (.goto 4, 3) := by decide +kernel
theorem dX8_readFighter_177 : decode cX8_readFighter 177 = .ok (.iconst 0, 1) := by decide +kernel
theorem dX8_readFighter_178 : decode cX8_readFighter 178 = .ok (.iastore, 1) := by decide +kernel
theorem dX8_readFighter_179 : decode cX8_readFighter 179 = .ok (.aload_n 0, 1) := by decide +kernel
theorem dX8_readFighter_180 : decode cX8_readFighter 180 = .ok (.dup, 1) := by decide +kernel
theorem dX8_readFighter_181 : decode cX8_readFighter 181 = .ok (.getfield 153, 3) := by decide +kernel
theorem dX8_readFighter_184 : decode cX8_readFighter 184 = .ok (.iconst 1, 1) := by decide +kernel
theorem dX8_readFighter_185 : decode cX8_readFighter 185 = .ok (.iadd, 1) := by decide +kernel
theorem dX8_readFighter_186 : decode cX8_readFighter 186 = .ok (.putfield 153, 3) := by decide +kernel
theorem dX8_readFighter_189 : decode cX8_readFighter 189 = .ok (.return_, 1) := by decide +kernel
theorem dX8_field_0 : decode cX8_field 0 = .ok (.aload_n 0, 1) := by decide +kernel
theorem dX8_field_1 : decode cX8_field 1 = .ok (.iconst 0, 1) := by decide +kernel
theorem dX8_field_2 : decode cX8_field 2 = .ok (.putfield 143, 3) := by decide +kernel
theorem dX8_field_5 : decode cX8_field 5 = .ok (.aload_n 0, 1) := by decide +kernel
theorem dX8_field_6 : decode cX8_field 6 = .ok (.aload_n 0, 1) := by decide +kernel
theorem dX8_field_7 : decode cX8_field 7 = .ok (.invokevirtual 149, 3) := by decide +kernel
theorem dX8_field_10 : decode cX8_field 10 = .ok (.bipush 46, 2) := by decide +kernel
theorem dX8_field_12 : decode cX8_field 12 = .ok (.if_icmp .eq 7, 3) := by decide +kernel
theorem dX8_field_15 : decode cX8_field 15 = .ok (.iconst 1, 1) := by decide +kernel
theorem dX8_field_16 : decode cX8_field 16 = .ok (.goto 4, 3) := by decide +kernel
theorem dX8_field_19 : decode cX8_field 19 = .ok (.iconst 0, 1) := by decide +kernel
theorem dX8_field_20 : decode cX8_field 20 = .ok (.putfield 146, 3) := by decide +kernel
theorem dX8_field_23 : decode cX8_field 23 = .ok (.aload_n 0, 1) := by decide +kernel
theorem dX8_field_24 : decode cX8_field 24 = .ok (.iconst 0, 1) := by decide +kernel
theorem dX8_field_25 : decode cX8_field 25 = .ok (.putfield 162, 3) := by decide +kernel
theorem dX8_field_28 : decode cX8_field 28 = .ok (.aload_n 0, 1) := by decide +kernel
theorem dX8_field_29 : decode cX8_field 29 = .ok (.iconst 0, 1) := by decide +kernel
theorem dX8_field_30 : decode cX8_field 30 = .ok (.putfield 153, 3) := by decide +kernel
theorem dX8_field_33 : decode cX8_field 33 = .ok (.aload_n 0, 1) := by decide +kernel
theorem dX8_field_34 : decode cX8_field 34 = .ok (.getfield 146, 3) := by decide +kernel
theorem dX8_field_37 : decode cX8_field 37 = .ok (.ifCond .ne 55, 3) := by decide +kernel
theorem dX8_field_40 : decode cX8_field 40 = .ok (.aload_n 0, 1) := by decide +kernel
theorem dX8_field_41 : decode cX8_field 41 = .ok (.getfield 162, 3) := by decide +kernel
theorem dX8_field_44 : decode cX8_field 44 = .ok (.bipush 40, 2) := by decide +kernel
theorem dX8_field_46 : decode cX8_field 46 = .ok (.if_icmp .ge 46, 3) := by decide +kernel
theorem dX8_field_49 : decode cX8_field 49 = .ok (.aload_n 0, 1) := by decide +kernel
theorem dX8_field_50 : decode cX8_field 50 = .ok (.invokevirtual 165, 3) := by decide +kernel
theorem dX8_field_53 : decode cX8_field 53 = .ok (.ifCond .lt 39, 3) := by decide +kernel
theorem dX8_field_56 : decode cX8_field 56 = .ok (.aload_n 0, 1) := by decide +kernel
theorem dX8_field_57 : decode cX8_field 57 = .ok (.getfield 22, 3) := by decide +kernel
theorem dX8_field_60 : decode cX8_field 60 = .ok (.aload_n 0, 1) := by decide +kernel
theorem dX8_field_61 : decode cX8_field 61 = .ok (.getfield 162, 3) := by decide +kernel
theorem dX8_field_64 : decode cX8_field 64 = .ok (.aload_n 0, 1) := by decide +kernel
theorem dX8_field_65 : decode cX8_field 65 = .ok (.invokevirtual 165, 3) := by decide +kernel
theorem dX8_field_68 : decode cX8_field 68 = .ok (.iastore, 1) := by decide +kernel
theorem dX8_field_69 : decode cX8_field 69 = .ok (.aload_n 0, 1) := by decide +kernel
theorem dX8_field_70 : decode cX8_field 70 = .ok (.dup, 1) := by decide +kernel
theorem dX8_field_71 : decode cX8_field 71 = .ok (.getfield 162, 3) := by decide +kernel
theorem dX8_field_74 : decode cX8_field 74 = .ok (.iconst 1, 1) := by decide +kernel
theorem dX8_field_75 : decode cX8_field 75 = .ok (.iadd, 1) := by decide +kernel
theorem dX8_field_76 : decode cX8_field 76 = .ok (.putfield 162, 3) := by decide +kernel
theorem dX8_field_79 : decode cX8_field 79 = .ok (.aload_n 0, 1) := by decide +kernel
theorem dX8_field_80 : decode cX8_field 80 = .ok (.dup, 1) := by decide +kernel
theorem dX8_field_81 : decode cX8_field 81 = .ok (.getfield 143, 3) := by decide +kernel
theorem dX8_field_84 : decode cX8_field 84 = .ok (.iconst 1, 1) := by decide +kernel
theorem dX8_field_85 : decode cX8_field 85 = .ok (.iadd, 1) := by decide +kernel
theorem dX8_field_86 : decode cX8_field 86 = .ok (.putfield 143, 3) := by decide +kernel
theorem dX8_field_89 : decode cX8_field 89 = .ok (.goto (-56), 3) := by decide +kernel
theorem dX8_field_92 : decode cX8_field 92 = .ok (.aload_n 0, 1) := by decide +kernel
theorem dX8_field_93 : decode cX8_field 93 = .ok (.bipush 59, 2) := by decide +kernel
theorem dX8_field_95 : decode cX8_field 95 = .ok (.invokevirtual 159, 3) := by decide +kernel
theorem dX8_field_98 : decode cX8_field 98 = .ok (.istore_n 1, 1) := by decide +kernel
theorem dX8_field_99 : decode cX8_field 99 = .ok (.iload_n 1, 1) := by decide +kernel
theorem dX8_field_100 : decode cX8_field 100 = .ok (.ifCond .eq 33, 3) := by decide +kernel
theorem dX8_field_103 : decode cX8_field 103 = .ok (.aload_n 0, 1) := by decide +kernel
theorem dX8_field_104 : decode cX8_field 104 = .ok (.invokevirtual 168, 3) := by decide +kernel
theorem dX8_field_107 : decode cX8_field 107 = .ok (.aload_n 0, 1) := by decide +kernel
theorem dX8_field_108 : decode cX8_field 108 = .ok (.getfield 153, 3) := by decide +kernel
theorem dX8_field_111 : decode cX8_field 111 = .ok (.iconst 5, 1) := by decide +kernel
theorem dX8_field_112 : decode cX8_field 112 = .ok (.if_icmp .ge 16, 3) := by decide +kernel
theorem dX8_field_115 : decode cX8_field 115 = .ok (.aload_n 0, 1) := by decide +kernel
theorem dX8_field_116 : decode cX8_field 116 = .ok (.bipush 44, 2) := by decide +kernel
theorem dX8_field_118 : decode cX8_field 118 = .ok (.invokevirtual 159, 3) := by decide +kernel
theorem dX8_field_121 : decode cX8_field 121 = .ok (.ifCond .eq 7, 3) := by decide +kernel
theorem dX8_field_124 : decode cX8_field 124 = .ok (.iconst 1, 1) := by decide +kernel
theorem dX8_field_125 : decode cX8_field 125 = .ok (.goto 4, 3) := by decide +kernel
theorem dX8_field_128 : decode cX8_field 128 = .ok (.iconst 0, 1) := by decide +kernel
theorem dX8_field_129 : decode cX8_field 129 = .ok (.istore_n 1, 1) := by decide +kernel
theorem dX8_field_130 : decode cX8_field 130 = .ok (.goto (-31), 3) := by decide +kernel
theorem dX8_field_133 : decode cX8_field 133 = .ok (.aload_n 0, 1) := by decide +kernel
theorem dX8_field_134 : decode cX8_field 134 = .ok (.aload_n 0, 1) := by decide +kernel
theorem dX8_field_135 : decode cX8_field 135 = .ok (.getfield 146, 3) := by decide +kernel
theorem dX8_field_138 : decode cX8_field 138 = .ok (.ifCond .ne 10, 3) := by decide +kernel
theorem dX8_field_141 : decode cX8_field 141 = .ok (.aload_n 0, 1) := by decide +kernel
theorem dX8_field_142 : decode cX8_field 142 = .ok (.invokevirtual 149, 3) := by decide +kernel
theorem dX8_field_145 : decode cX8_field 145 = .ok (.ifCond .eq 7, 3) := by decide +kernel
theorem dX8_field_148 : decode cX8_field 148 = .ok (.iconst 1, 1) := by decide +kernel
theorem dX8_field_149 : decode cX8_field 149 = .ok (.goto 4, 3) := by decide +kernel
theorem dX8_field_152 : decode cX8_field 152 = .ok (.iconst 0, 1) := by decide +kernel
theorem dX8_field_153 : decode cX8_field 153 = .ok (.putfield 146, 3) := by decide +kernel
theorem dX8_field_156 : decode cX8_field 156 = .ok (.aload_n 0, 1) := by decide +kernel
theorem dX8_field_157 : decode cX8_field 157 = .ok (.iconst 0, 1) := by decide +kernel
theorem dX8_field_158 : decode cX8_field 158 = .ok (.putfield 140, 3) := by decide +kernel
theorem dX8_field_161 : decode cX8_field 161 = .ok (.aload_n 0, 1) := by decide +kernel
theorem dX8_field_162 : decode cX8_field 162 = .ok (.getfield 146, 3) := by decide +kernel
theorem dX8_field_165 : decode cX8_field 165 = .ok (.ifCond .eq 11, 3) := by decide +kernel
theorem dX8_field_168 : decode cX8_field 168 = .ok (.bipush (-20), 2) := by decide +kernel
theorem dX8_field_170 : decode cX8_field 170 = .ok (.aload_n 0, 1) := by decide +kernel
theorem dX8_field_171 : decode cX8_field 171 = .ok (.getfield 143, 3) := by decide +kernel
theorem dX8_field_174 : decode cX8_field 174 = .ok (.isub, 1) := by decide +kernel
theorem dX8_field_175 : decode cX8_field 175 = .ok (.ireturn, 1) := by decide +kernel
theorem dX8_field_176 : decode cX8_field 176 = .ok (.aload_n 0, 1) := by decide +kernel
theorem dX8_field_177 : decode cX8_field 177 = .ok (.aload_n 0, 1) := by decide +kernel
theorem dX8_field_178 : decode cX8_field 178 = .ok (.getfield 162, 3) := by decide +kernel
theorem dX8_field_181 : decode cX8_field 181 = .ok (.putfield 62, 3) := by decide +kernel
theorem dX8_field_184 : decode cX8_field 184 = .ok (.iconst 0, 1) := by decide +kernel
theorem dX8_field_185 : decode cX8_field 185 = .ok (.istore_n 2, 1) := by decide +kernel
theorem dX8_field_186 : decode cX8_field 186 = .ok (.iload_n 2, 1) := by decide +kernel
theorem dX8_field_187 : decode cX8_field 187 = .ok (.aload_n 0, 1) := by decide +kernel
theorem dX8_field_188 : decode cX8_field 188 = .ok (.getfield 62, 3) := by decide +kernel
theorem dX8_field_191 : decode cX8_field 191 = .ok (.if_icmp .ge 21, 3) := by decide +kernel
theorem dX8_field_194 : decode cX8_field 194 = .ok (.aload_n 0, 1) := by decide +kernel
theorem dX8_field_195 : decode cX8_field 195 = .ok (.getfield 7, 3) := by decide +kernel
theorem dX8_field_198 : decode cX8_field 198 = .ok (.iload_n 2, 1) := by decide +kernel
theorem dX8_field_199 : decode cX8_field 199 = .ok (.aload_n 0, 1) := by decide +kernel
theorem dX8_field_200 : decode cX8_field 200 = .ok (.getfield 22, 3) := by decide +kernel
theorem dX8_field_203 : decode cX8_field 203 = .ok (.iload_n 2, 1) := by decide +kernel
theorem dX8_field_204 : decode cX8_field 204 = .ok (.iaload, 1) := by decide +kernel
