theorem dX8_field_205 : decode cX8_field 205 = .ok (.iastore, 1) := by decide +kernel
theorem dX8_field_206 : decode cX8_field 206 = .ok (.iinc 2 1, 3) := by decide +kernel
theorem dX8_field_209 : decode cX8_field 209 = .ok (.goto (-23), 3) := by decide +kernel
theorem dX8_field_212 : decode cX8_field 212 = .ok (.aload_n 0, 1) := by decide +kernel
theorem dX8_field_213 : decode cX8_field 213 = .ok (.iconst 0, 1) := by decide +kernel
theorem dX8_field_214 : decode cX8_field 214 = .ok (.putfield 66, 3) := by decide +kernel
theorem dX8_field_217 : decode cX8_field 217 = .ok (.aload_n 0, 1) := by decide +kernel
theorem dX8_field_218 : decode cX8_field 218 = .ok (.getfield 16, 3) := by decide +kernel
theorem dX8_field_221 : decode cX8_field 221 = .ok (.iconst 0, 1) := by decide +kernel
theorem dX8_field_222 : decode cX8_field 222 = .ok (.iconst 0, 1) := by decide +kernel
theorem dX8_field_223 : decode cX8_field 223 = .ok (.iastore, 1) := by decide +kernel
theorem dX8_field_224 : decode cX8_field 224 = .ok (.aload_n 0, 1) := by decide +kernel
theorem dX8_field_225 : decode cX8_field 225 = .ok (.getfield 16, 3) := by decide +kernel
theorem dX8_field_228 : decode cX8_field 228 = .ok (.iconst 1, 1) := by decide +kernel
theorem dX8_field_229 : decode cX8_field 229 = .ok (.bipush (-4), 2) := by decide +kernel
theorem dX8_field_231 : decode cX8_field 231 = .ok (.iastore, 1) := by decide +kernel
theorem dX8_field_232 : decode cX8_field 232 = .ok (.aload_n 0, 1) := by decide +kernel
theorem dX8_field_233 : decode cX8_field 233 = .ok (.iconst 0, 1) := by decide +kernel
theorem dX8_field_234 : decode cX8_field 234 = .ok (.putfield 88, 3) := by decide +kernel
theorem dX8_field_237 : decode cX8_field 237 = .ok (.iconst 0, 1) := by decide +kernel
theorem dX8_field_238 : decode cX8_field 238 = .ok (.istore_n 2, 1) := by decide +kernel
theorem dX8_field_239 : decode cX8_field 239 = .ok (.iload_n 2, 1) := by decide +kernel
theorem dX8_field_240 : decode cX8_field 240 = .ok (.aload_n 0, 1) := by decide +kernel
theorem dX8_field_241 : decode cX8_field 241 = .ok (.getfield 153, 3) := by decide +kernel
theorem dX8_field_244 : decode cX8_field 244 = .ok (.if_icmp .ge 51, 3) := by decide +kernel
theorem dX8_field_247 : decode cX8_field 247 = .ok (.aload_n 0, 1) := by decide +kernel
theorem dX8_field_248 : decode cX8_field 248 = .ok (.aload_n 0, 1) := by decide +kernel
theorem dX8_field_249 : decode cX8_field 249 = .ok (.getfield 25, 3) := by decide +kernel
theorem dX8_field_252 : decode cX8_field 252 = .ok (.iconst 4, 1) := by decide +kernel
theorem dX8_field_253 : decode cX8_field 253 = .ok (.iload_n 2, 1) := by decide +kernel
theorem dX8_field_254 : decode cX8_field 254 = .ok (.imul, 1) := by decide +kernel
theorem dX8_field_255 : decode cX8_field 255 = .ok (.iaload, 1) := by decide +kernel
theorem dX8_field_256 : decode cX8_field 256 = .ok (.aload_n 0, 1) := by decide +kernel
theorem dX8_field_257 : decode cX8_field 257 = .ok (.getfield 25, 3) := by decide +kernel
theorem dX8_field_260 : decode cX8_field 260 = .ok (.iconst 4, 1) := by decide +kernel
theorem dX8_field_261 : decode cX8_field 261 = .ok (.iload_n 2, 1) := by decide +kernel
theorem dX8_field_262 : decode cX8_field 262 = .ok (.imul, 1) := by decide +kernel
theorem dX8_field_263 : decode cX8_field 263 = .ok (.iconst 1, 1) := by decide +kernel
theorem dX8_field_264 : decode cX8_field 264 = .ok (.iadd, 1) := by decide +kernel
theorem dX8_field_265 : decode cX8_field 265 = .ok (.iaload, 1) := by decide +kernel
theorem dX8_field_266 : decode cX8_field 266 = .ok (.aload_n 0, 1) := by decide +kernel
theorem dX8_field_267 : decode cX8_field 267 = .ok (.getfield 25, 3) := by decide +kernel
theorem dX8_field_270 : decode cX8_field 270 = .ok (.iconst 4, 1) := by decide +kernel
theorem dX8_field_271 : decode cX8_field 271 = .ok (.iload_n 2, 1) := by decide +kernel
theorem dX8_field_272 : decode cX8_field 272 = .ok (.imul, 1) := by decide +kernel
theorem dX8_field_273 : decode cX8_field 273 = .ok (.iconst 2, 1) := by decide +kernel
theorem dX8_field_274 : decode cX8_field 274 = .ok (.iadd, 1) := by decide +kernel
theorem dX8_field_275 : decode cX8_field 275 = .ok (.iaload, 1) := by decide +kernel
theorem dX8_field_276 : decode cX8_field 276 = .ok (.aload_n 0, 1) := by decide +kernel
theorem dX8_field_277 : decode cX8_field 277 = .ok (.getfield 25, 3) := by decide +kernel
theorem dX8_field_280 : decode cX8_field 280 = .ok (.iconst 4, 1) := by decide +kernel
theorem dX8_field_281 : decode cX8_field 281 = .ok (.iload_n 2, 1) := by decide +kernel
theorem dX8_field_282 : decode cX8_field 282 = .ok (.imul, 1) := by decide +kernel
theorem dX8_field_283 : decode cX8_field 283 = .ok (.iconst 3, 1) := by decide +kernel
theorem dX8_field_284 : decode cX8_field 284 = .ok (.iadd, 1) := by decide +kernel
theorem dX8_field_285 : decode cX8_field 285 = .ok (.iaload, 1) := by decide +kernel
theorem dX8_field_286 : decode cX8_field 286 = .ok (.invokevirtual 84, 3) := by decide +kernel
theorem dX8_field_289 : decode cX8_field 289 = .ok (.iinc 2 1, 3) := by decide +kernel
theorem dX8_field_292 : decode cX8_field 292 = .ok (.goto (-53), 3) := by decide +kernel
theorem dX8_field_295 : decode cX8_field 295 = .ok (.aload_n 0, 1) := by decide +kernel
theorem dX8_field_296 : decode cX8_field 296 = .ok (.getfield 66, 3) := by decide +kernel
theorem dX8_field_299 : decode cX8_field 299 = .ok (.ireturn, 1) := by decide +kernel
theorem dX8_down_0 : decode cX8_down 0 = .ok (.iconst 0, 1) := by decide +kernel
theorem dX8_down_1 : decode cX8_down 1 = .ok (.istore_n 1, 1) := by decide +kernel
theorem dX8_down_2 : decode cX8_down 2 = .ok (.iconst 0, 1) := by decide +kernel
theorem dX8_down_3 : decode cX8_down 3 = .ok (.istore_n 2, 1) := by decide +kernel
theorem dX8_down_4 : decode cX8_down 4 = .ok (.iload_n 2, 1) := by decide +kernel
theorem dX8_down_5 : decode cX8_down 5 = .ok (.aload_n 0, 1) := by decide +kernel
theorem dX8_down_6 : decode cX8_down 6 = .ok (.getfield 66, 3) := by decide +kernel
theorem dX8_down_9 : decode cX8_down 9 = .ok (.if_icmp .ge 27, 3) := by decide +kernel
theorem dX8_down_12 : decode cX8_down 12 = .ok (.iload_n 1, 1) := by decide +kernel
theorem dX8_down_13 : decode cX8_down 13 = .ok (.aload_n 0, 1) := by decide +kernel
theorem dX8_down_14 : decode cX8_down 14 = .ok (.iload_n 2, 1) := by decide +kernel
theorem dX8_down_15 : decode cX8_down 15 = .ok (.invokevirtual 103, 3) := by decide +kernel
theorem dX8_down_18 : decode cX8_down 18 = .ok (.ifCond .eq 9, 3) := by decide +kernel
theorem dX8_down_21 : decode cX8_down 21 = .ok (.iconst 1, 1) := by decide +kernel
theorem dX8_down_22 : decode cX8_down 22 = .ok (.iload_n 2, 1) := by decide +kernel
theorem dX8_down_23 : decode cX8_down 23 = .ok (.ishl, 1) := by decide +kernel
theorem dX8_down_24 : decode cX8_down 24 = .ok (.goto 4, 3) := by decide +kernel
theorem dX8_down_27 : decode cX8_down 27 = .ok (.iconst 0, 1) := by decide +kernel
theorem dX8_down_28 : decode cX8_down 28 = .ok (.ior, 1) := by decide +kernel
theorem dX8_down_29 : decode cX8_down 29 = .ok (.istore_n 1, 1) := by decide +kernel
theorem dX8_down_30 : decode cX8_down 30 = .ok (.iinc 2 1, 3) := by decide +kernel
theorem dX8_down_33 : decode cX8_down 33 = .ok (.goto (-29), 3) := by decide +kernel
theorem dX8_down_36 : decode cX8_down 36 = .ok (.iload_n 1, 1) := by decide +kernel
theorem dX8_down_37 : decode cX8_down 37 = .ok (.ireturn, 1) := by decide +kernel
theorem dX8_over_0 : decode cX8_over 0 = .ok (.aload_n 0, 1) := by decide +kernel
theorem dX8_over_1 : decode cX8_over 1 = .ok (.invokevirtual 171, 3) := by decide +kernel
theorem dX8_over_4 : decode cX8_over 4 = .ok (.istore_n 1, 1) := by decide +kernel
theorem dX8_over_5 : decode cX8_over 5 = .ok (.aload_n 0, 1) := by decide +kernel
theorem dX8_over_6 : decode cX8_over 6 = .ok (.getfield 66, 3) := by decide +kernel
theorem dX8_over_9 : decode cX8_over 9 = .ok (.iconst 2, 1) := by decide +kernel
theorem dX8_over_10 : decode cX8_over 10 = .ok (.if_icmp .ge 7, 3) := by decide +kernel
theorem dX8_over_13 : decode cX8_over 13 = .ok (.iconst 3, 1) := by decide +kernel
theorem dX8_over_14 : decode cX8_over 14 = .ok (.goto 31, 3) := by decide +kernel
theorem dX8_over_17 : decode cX8_over 17 = .ok (.iload_n 1, 1) := by decide +kernel
theorem dX8_over_18 : decode cX8_over 18 = .ok (.iconst 1, 1) := by decide +kernel
theorem dX8_over_19 : decode cX8_over 19 = .ok (.iand, 1) := by decide +kernel
theorem dX8_over_20 : decode cX8_over 20 = .ok (.iconst 1, 1) := by decide +kernel
theorem dX8_over_21 : decode cX8_over 21 = .ok (.if_icmp .ne 7, 3) := by decide +kernel
theorem dX8_over_24 : decode cX8_over 24 = .ok (.iconst 2, 1) := by decide +kernel
theorem dX8_over_25 : decode cX8_over 25 = .ok (.goto 20, 3) := by decide +kernel
theorem dX8_over_28 : decode cX8_over 28 = .ok (.iload_n 1, 1) := by decide +kernel
theorem dX8_over_29 : decode cX8_over 29 = .ok (.iconst 1, 1) := by decide +kernel
theorem dX8_over_30 : decode cX8_over 30 = .ok (.aload_n 0, 1) := by decide +kernel
theorem dX8_over_31 : decode cX8_over 31 = .ok (.getfield 66, 3) := by decide +kernel
theorem dX8_over_34 : decode cX8_over 34 = .ok (.ishl, 1) := by decide +kernel
theorem dX8_over_35 : decode cX8_over 35 = .ok (.iconst 2, 1) := by decide +kernel
theorem dX8_over_36 : decode cX8_over 36 = .ok (.isub, 1) := by decide +kernel
theorem dX8_over_37 : decode cX8_over 37 = .ok (.if_icmp .ne 7, 3) := by decide +kernel
theorem dX8_over_40 : decode cX8_over 40 = .ok (.iconst 1, 1) := by decide +kernel
theorem dX8_over_41 : decode cX8_over 41 = .ok (.goto 4, 3) := by decide +kernel
theorem dX8_over_44 : decode cX8_over 44 = .ok (.iconst 0, 1) := by decide +kernel
theorem dX8_over_45 : decode cX8_over 45 = .ok (.ireturn, 1) := by decide +kernel
theorem dX8_count_0 : decode cX8_count 0 = .ok (.iload_n 1, 1) := by decide +kernel
theorem dX8_count_1 : decode cX8_count 1 = .ok (.tableswitch 99 0 7 #[47, 52, 57, 64, 77, 84, 89, 94], 47) := by decide +kernel
theorem dX8_count_48 : decode cX8_count 48 = .ok (.aload_n 0, 1) := by decide +kernel
theorem dX8_count_49 : decode cX8_count 49 = .ok (.getfield 62, 3) := by decide +kernel
theorem dX8_count_52 : decode cX8_count 52 = .ok (.ireturn, 1) := by decide +kernel
theorem dX8_count_53 : decode cX8_count 53 = .ok (.aload_n 0, 1) := by decide +kernel
theorem dX8_count_54 : decode cX8_count 54 = .ok (.getfield 66, 3) := by decide +kernel
theorem dX8_count_57 : decode cX8_count 57 = .ok (.ireturn, 1) := by decide +kernel
theorem dX8_count_58 : decode cX8_count 58 = .ok (.aload_n 0, 1) := by decide +kernel
theorem dX8_count_59 : decode cX8_count 59 = .ok (.getfield 16, 3) := by decide +kernel
theorem dX8_count_62 : decode cX8_count 62 = .ok (.iconst 0, 1) := by decide +kernel
theorem dX8_count_63 : decode cX8_count 63 = .ok (.iaload, 1) := by decide +kernel
theorem dX8_count_64 : decode cX8_count 64 = .ok (.ireturn, 1) := by decide +kernel
theorem dX8_count_65 : decode cX8_count 65 = .ok (.aload_n 0, 1) := by decide +kernel
theorem dX8_count_66 : decode cX8_count 66 = .ok (.invokevirtual 80, 3) := by decide +kernel
theorem dX8_count_69 : decode cX8_count 69 = .ok (.ifCond .eq 7, 3) := by decide +kernel
theorem dX8_count_72 : decode cX8_count 72 = .ok (.iconst 1, 1) := by decide +kernel
theorem dX8_count_73 : decode cX8_count 73 = .ok (.goto 4, 3) := by decide +kernel
theorem dX8_count_76 : decode cX8_count 76 = .ok (.iconst 0, 1) := by decide +kernel
theorem dX8_count_77 : decode cX8_count 77 = .ok (.ireturn, 1) := by decide +kernel
theorem dX8_count_78 : decode cX8_count 78 = .ok (.aload_n 0, 1) := by decide +kernel
theorem dX8_count_79 : decode cX8_count 79 = .ok (.getfield 16, 3) := by decide +kernel
theorem dX8_count_82 : decode cX8_count 82 = .ok (.iconst 1, 1) := by decide +kernel
theorem dX8_count_83 : decode cX8_count 83 = .ok (.iaload, 1) := by decide +kernel
theorem dX8_count_84 : decode cX8_count 84 = .ok (.ireturn, 1) := by decide +kernel
theorem dX8_count_85 : decode cX8_count 85 = .ok (.aload_n 0, 1) := by decide +kernel
theorem dX8_count_86 : decode cX8_count 86 = .ok (.getfield 88, 3) := by decide +kernel
theorem dX8_count_89 : decode cX8_count 89 = .ok (.ireturn, 1) := by decide +kernel
theorem dX8_count_90 : decode cX8_count 90 = .ok (.aload_n 0, 1) := by decide +kernel
theorem dX8_count_91 : decode cX8_count 91 = .ok (.invokevirtual 171, 3) := by decide +kernel
theorem dX8_count_94 : decode cX8_count 94 = .ok (.ireturn, 1) := by decide +kernel
theorem dX8_count_95 : decode cX8_count 95 = .ok (.aload_n 0, 1) := by decide +kernel
theorem dX8_count_96 : decode cX8_count 96 = .ok (.invokevirtual 174, 3) := by decide +kernel
theorem dX8_count_99 : decode cX8_count 99 = .ok (.ireturn, 1) := by decide +kernel
theorem dX8_count_100 : decode cX8_count 100 = .ok (.iconst (-1), 1) := by decide +kernel
theorem dX8_count_101 : decode cX8_count 101 = .ok (.ireturn, 1) := by decide +kernel
theorem dX8_notes_0 : decode cX8_notes 0 = .ok (.aload_n 0, 1) := by decide +kernel
theorem dX8_notes_1 : decode cX8_notes 1 = .ok (.getfield 88, 3) := by decide +kernel
theorem dX8_notes_4 : decode cX8_notes 4 = .ok (.bipush 8, 2) := by decide +kernel
theorem dX8_notes_6 : decode cX8_notes 6 = .ok (.if_icmp .ne 39, 3) := by decide +kernel
theorem dX8_notes_9 : decode cX8_notes 9 = .ok (.bipush 13, 2) := by decide +kernel
theorem dX8_notes_11 : decode cX8_notes 11 = .ok (.istore_n 1, 1) := by decide +kernel
theorem dX8_notes_12 : decode cX8_notes 12 = .ok (.iload_n 1, 1) := by decide +kernel
theorem dX8_notes_13 : decode cX8_notes 13 = .ok (.bipush 104, 2) := by decide +kernel
theorem dX8_notes_15 : decode cX8_notes 15 = .ok (.if_icmp .ge 24, 3) := by decide +kernel
theorem dX8_notes_18 : decode cX8_notes 18 = .ok (.aload_n 0, 1) := by decide +kernel
theorem dX8_notes_19 : decode cX8_notes 19 = .ok (.getfield 28, 3) := by decide +kernel
theorem dX8_notes_22 : decode cX8_notes 22 = .ok (.iload_n 1, 1) := by decide +kernel
theorem dX8_notes_23 : decode cX8_notes 23 = .ok (.bipush 13, 2) := by decide +kernel
theorem dX8_notes_25 : decode cX8_notes 25 = .ok (.isub, 1) := by decide +kernel
theorem dX8_notes_26 : decode cX8_notes 26 = .ok (.aload_n 0, 1) := by decide +kernel
theorem dX8_notes_27 : decode cX8_notes 27 = .ok (.getfield 28, 3) := by decide +kernel
theorem dX8_notes_30 : decode cX8_notes 30 = .ok (.iload_n 1, 1) := by decide +kernel
theorem dX8_notes_31 : decode cX8_notes 31 = .ok (.iaload, 1) := by decide +kernel
theorem dX8_notes_32 : decode cX8_notes 32 = .ok (.iastore, 1) := by decide +kernel
theorem dX8_notes_33 : decode cX8_notes 33 = .ok (.iinc 1 1, 3) := by decide +kernel
theorem dX8_notes_36 : decode cX8_notes 36 = .ok (.goto (-24), 3) := by decide +kernel
theorem dX8_notes_39 : decode cX8_notes 39 = .ok (.aload_n 0, 1) := by decide +kernel
theorem dX8_notes_40 : decode cX8_notes 40 = .ok (.bipush 7, 2) := by decide +kernel
theorem dX8_notes_42 : decode cX8_notes 42 = .ok (.putfield 88, 3) := by decide +kernel
theorem dX8_notes_45 : decode cX8_notes 45 = .ok (.iconst 0, 1) := by decide +kernel
theorem dX8_notes_46 : decode cX8_notes 46 = .ok (.istore_n 1, 1) := by decide +kernel
theorem dX8_notes_47 : decode cX8_notes 47 = .ok (.iload_n 1, 1) := by decide +kernel
theorem dX8_notes_48 : decode cX8_notes 48 = .ok (.bipush 13, 2) := by decide +kernel
theorem dX8_notes_50 : decode cX8_notes 50 = .ok (.if_icmp .ge 29, 3) := by decide +kernel
theorem dX8_notes_53 : decode cX8_notes 53 = .ok (.aload_n 0, 1) := by decide +kernel
theorem dX8_notes_54 : decode cX8_notes 54 = .ok (.getfield 28, 3) := by decide +kernel
theorem dX8_notes_57 : decode cX8_notes 57 = .ok (.bipush 13, 2) := by decide +kernel
theorem dX8_notes_59 : decode cX8_notes 59 = .ok (.aload_n 0, 1) := by decide +kernel
theorem dX8_notes_60 : decode cX8_notes 60 = .ok (.getfield 88, 3) := by decide +kernel
theorem dX8_notes_63 : decode cX8_notes 63 = .ok (.imul, 1) := by decide +kernel
theorem dX8_notes_64 : decode cX8_notes 64 = .ok (.iload_n 1, 1) := by decide +kernel
theorem dX8_notes_65 : decode cX8_notes 65 = .ok (.iadd, 1) := by decide +kernel
theorem dX8_notes_66 : decode cX8_notes 66 = .ok (.aload_n 0, 1) := by decide +kernel
theorem dX8_notes_67 : decode cX8_notes 67 = .ok (.getfield 16, 3) := by decide +kernel
theorem dX8_notes_70 : decode cX8_notes 70 = .ok (.iload_n 1, 1) := by decide +kernel
theorem dX8_notes_71 : decode cX8_notes 71 = .ok (.iaload, 1) := by decide +kernel
theorem dX8_notes_72 : decode cX8_notes 72 = .ok (.iastore, 1) := by decide +kernel
theorem dX8_notes_73 : decode cX8_notes 73 = .ok (.iinc 1 1, 3) := by decide +kernel
theorem dX8_notes_76 : decode cX8_notes 76 = .ok (.goto (-29), 3) := by decide +kernel
theorem dX8_notes_79 : decode cX8_notes 79 = .ok (.aload_n 0, 1) := by decide +kernel
theorem dX8_notes_80 : decode cX8_notes 80 = .ok (.dup, 1) := by decide +kernel
theorem dX8_notes_81 : decode cX8_notes 81 = .ok (.getfield 88, 3) := by decide +kernel
theorem dX8_notes_84 : decode cX8_notes 84 = .ok (.iconst 1, 1) := by decide +kernel
theorem dX8_notes_85 : decode cX8_notes 85 = .ok (.iadd, 1) := by decide +kernel
theorem dX8_notes_86 : decode cX8_notes 86 = .ok (.putfield 88, 3) := by decide +kernel
theorem dX8_notes_89 : decode cX8_notes 89 = .ok (.return_, 1) := by decide +kernel
theorem dX8_turns_0 : decode cX8_turns 0 = .ok (.aload_n 0, 1) := by decide +kernel
theorem dX8_turns_1 : decode cX8_turns 1 = .ok (.getfield 16, 3) := by decide +kernel
theorem dX8_turns_4 : decode cX8_turns 4 = .ok (.iconst 0, 1) := by decide +kernel
theorem dX8_turns_5 : decode cX8_turns 5 = .ok (.iload_n 1, 1) := by decide +kernel
theorem dX8_turns_6 : decode cX8_turns 6 = .ok (.iastore, 1) := by decide +kernel
theorem dX8_turns_7 : decode cX8_turns 7 = .ok (.aload_n 0, 1) := by decide +kernel
theorem dX8_turns_8 : decode cX8_turns 8 = .ok (.getfield 16, 3) := by decide +kernel
theorem dX8_turns_11 : decode cX8_turns 11 = .ok (.iconst 1, 1) := by decide +kernel
theorem dX8_turns_12 : decode cX8_turns 12 = .ok (.aload_n 0, 1) := by decide +kernel
theorem dX8_turns_13 : decode cX8_turns 13 = .ok (.iload_n 1, 1) := by decide +kernel
theorem dX8_turns_14 : decode cX8_turns 14 = .ok (.invokevirtual 120, 3) := by decide +kernel
theorem dX8_turns_17 : decode cX8_turns 17 = .ok (.iastore, 1) := by decide +kernel
theorem dX8_turns_18 : decode cX8_turns 18 = .ok (.iconst 0, 1) := by decide +kernel
theorem dX8_turns_19 : decode cX8_turns 19 = .ok (.istore_n 2, 1) := by decide +kernel
theorem dX8_turns_20 : decode cX8_turns 20 = .ok (.iload_n 2, 1) := by decide +kernel
theorem dX8_turns_21 : decode cX8_turns 21 = .ok (.iconst 5, 1) := by decide +kernel
theorem dX8_turns_22 : decode cX8_turns 22 = .ok (.if_icmp .ge 54, 3) := by decide +kernel
theorem dX8_turns_25 : decode cX8_turns 25 = .ok (.aload_n 0, 1) := by decide +kernel
theorem dX8_turns_26 : decode cX8_turns 26 = .ok (.getfield 16, 3) := by decide +kernel
theorem dX8_turns_29 : decode cX8_turns 29 = .ok (.bipush 8, 2) := by decide +kernel
theorem dX8_turns_31 : decode cX8_turns 31 = .ok (.iload_n 2, 1) := by decide +kernel
theorem dX8_turns_32 : decode cX8_turns 32 = .ok (.iadd, 1) := by decide +kernel
theorem dX8_turns_33 : decode cX8_turns 33 = .ok (.iload_n 2, 1) := by decide +kernel
theorem dX8_turns_34 : decode cX8_turns 34 = .ok (.ifCond .eq 19, 3) := by decide +kernel
theorem dX8_turns_37 : decode cX8_turns 37 = .ok (.iload_n 2, 1) := by decide +kernel
theorem dX8_turns_38 : decode cX8_turns 38 = .ok (.aload_n 0, 1) := by decide +kernel
theorem dX8_turns_39 : decode cX8_turns 39 = .ok (.getfield 66, 3) := by decide +kernel
theorem dX8_turns_42 : decode cX8_turns 42 = .ok (.if_icmp .ge 11, 3) := by decide +kernel
theorem dX8_turns_45 : decode cX8_turns 45 = .ok (.aload_n 0, 1) := by decide +kernel
theorem dX8_turns_46 : decode cX8_turns 46 = .ok (.iload_n 2, 1) := by decide +kernel
theorem dX8_turns_47 : decode cX8_turns 47 = .ok (.invokevirtual 103, 3) := by decide +kernel
theorem dX8_turns_50 : decode cX8_turns 50 = .ok (.ifCond .eq 8, 3) := by decide +kernel
theorem dX8_turns_53 : decode cX8_turns 53 = .ok (.ldc 73, 2) := by decide +kernel
theorem dX8_turns_55 : decode cX8_turns 55 = .ok (.goto 14, 3) := by decide +kernel
theorem dX8_turns_58 : decode cX8_turns 58 = .ok (.aload_n 0, 1) := by decide +kernel
theorem dX8_turns_59 : decode cX8_turns 59 = .ok (.iload_n 2, 1) := by decide +kernel
theorem dX8_turns_60 : decode cX8_turns 60 = .ok (.aload_n 0, 1) := by decide +kernel
theorem dX8_turns_61 : decode cX8_turns 61 = .ok (.getfield 16, 3) := by decide +kernel
theorem dX8_turns_64 : decode cX8_turns 64 = .ok (.iconst 1, 1) := by decide +kernel
theorem dX8_turns_65 : decode cX8_turns 65 = .ok (.iaload, 1) := by decide +kernel
theorem dX8_turns_66 : decode cX8_turns 66 = .ok (.invokevirtual 177, 3) := by decide +kernel
theorem dX8_turns_69 : decode cX8_turns 69 = .ok (.iastore, 1) := by decide +kernel
theorem dX8_turns_70 : decode cX8_turns 70 = .ok (.iinc 2 1, 3) := by decide +kernel
theorem dX8_turns_73 : decode cX8_turns 73 = .ok (.goto (-53), 3) := by decide +kernel
theorem dX8_turns_76 : decode cX8_turns 76 = .ok (.return_, 1) := by decide +kernel
theorem dX8_meets_0 : decode cX8_meets 0 = .ok (.bipush (-4), 2) := by decide +kernel
theorem dX8_meets_2 : decode cX8_meets 2 = .ok (.istore_n 2, 1) := by decide +kernel
theorem dX8_meets_3 : decode cX8_meets 3 = .ok (.iconst 1, 1) := by decide +kernel
theorem dX8_meets_4 : decode cX8_meets 4 = .ok (.istore_n 3, 1) := by decide +kernel
theorem dX8_meets_5 : decode cX8_meets 5 = .ok (.iload_n 3, 1) := by decide +kernel
theorem dX8_meets_6 : decode cX8_meets 6 = .ok (.aload_n 0, 1) := by decide +kernel
theorem dX8_meets_7 : decode cX8_meets 7 = .ok (.getfield 66, 3) := by decide +kernel
theorem dX8_meets_10 : decode cX8_meets 10 = .ok (.if_icmp .ge 75, 3) := by decide +kernel
theorem dX8_meets_13 : decode cX8_meets 13 = .ok (.aload_n 0, 1) := by decide +kernel
theorem dX8_meets_14 : decode cX8_meets 14 = .ok (.iload_n 3, 1) := by decide +kernel
theorem dX8_meets_15 : decode cX8_meets 15 = .ok (.invokevirtual 103, 3) := by decide +kernel
theorem dX8_meets_18 : decode cX8_meets 18 = .ok (.ifCond .ne 47, 3) := by decide +kernel
theorem dX8_meets_21 : decode cX8_meets 21 = .ok (.aload_n 0, 1) := by decide +kernel
theorem dX8_meets_22 : decode cX8_meets 22 = .ok (.getfield 16, 3) := by decide +kernel
theorem dX8_meets_25 : decode cX8_meets 25 = .ok (.bipush 8, 2) := by decide +kernel
theorem dX8_meets_27 : decode cX8_meets 27 = .ok (.iload_n 3, 1) := by decide +kernel
theorem dX8_meets_28 : decode cX8_meets 28 = .ok (.iadd, 1) := by decide +kernel
theorem dX8_meets_29 : decode cX8_meets 29 = .ok (.iaload, 1) := by decide +kernel
theorem dX8_meets_30 : decode cX8_meets 30 = .ok (.iload_n 1, 1) := by decide +kernel
theorem dX8_meets_31 : decode cX8_meets 31 = .ok (.if_icmp .gt 34, 3) := by decide +kernel
theorem dX8_meets_34 : decode cX8_meets 34 = .ok (.iload_n 2, 1) := by decide +kernel
theorem dX8_meets_35 : decode cX8_meets 35 = .ok (.bipush (-4), 2) := by decide +kernel
theorem dX8_meets_37 : decode cX8_meets 37 = .ok (.if_icmp .eq 24, 3) := by decide +kernel
theorem dX8_meets_40 : decode cX8_meets 40 = .ok (.aload_n 0, 1) := by decide +kernel
theorem dX8_meets_41 : decode cX8_meets 41 = .ok (.getfield 16, 3) := by decide +kernel
theorem dX8_meets_44 : decode cX8_meets 44 = .ok (.bipush 8, 2) := by decide +kernel
theorem dX8_meets_46 : decode cX8_meets 46 = .ok (.iload_n 3, 1) := by decide +kernel
theorem dX8_meets_47 : decode cX8_meets 47 = .ok (.iadd, 1) := by decide +kernel
theorem dX8_meets_48 : decode cX8_meets 48 = .ok (.iaload, 1) := by decide +kernel
theorem dX8_meets_49 : decode cX8_meets 49 = .ok (.aload_n 0, 1) := by decide +kernel
theorem dX8_meets_50 : decode cX8_meets 50 = .ok (.getfield 16, 3) := by decide +kernel
theorem dX8_meets_53 : decode cX8_meets 53 = .ok (.bipush 8, 2) := by decide +kernel
theorem dX8_meets_55 : decode cX8_meets 55 = .ok (.iload_n 2, 1) := by decide +kernel
theorem dX8_meets_56 : decode cX8_meets 56 = .ok (.iadd, 1) := by decide +kernel
theorem dX8_meets_57 : decode cX8_meets 57 = .ok (.iaload, 1) := by decide +kernel
theorem dX8_meets_58 : decode cX8_meets 58 = .ok (.if_icmp .ge 7, 3) := by decide +kernel
theorem dX8_meets_61 : decode cX8_meets 61 = .ok (.iconst 1, 1) := by decide +kernel
theorem dX8_meets_62 : decode cX8_meets 62 = .ok (.goto 4, 3) := by decide +kernel
theorem dX8_meets_65 : decode cX8_meets 65 = .ok (.iconst 0, 1) := by decide +kernel
theorem dX8_meets_66 : decode cX8_meets 66 = .ok (.istore 4, 2) := by decide +kernel
theorem dX8_meets_68 : decode cX8_meets 68 = .ok (.iload 4, 2) := by decide +kernel
theorem dX8_meets_70 : decode cX8_meets 70 = .ok (.ifCond .eq 7, 3) := by decide +kernel
theorem dX8_meets_73 : decode cX8_meets 73 = .ok (.iload_n 3, 1) := by decide +kernel
theorem dX8_meets_74 : decode cX8_meets 74 = .ok (.goto 4, 3) := by decide +kernel
theorem dX8_meets_77 : decode cX8_meets 77 = .ok (.iload_n 2, 1) := by decide +kernel
theorem dX8_meets_78 : decode cX8_meets 78 = .ok (.istore_n 2, 1) := by decide +kernel
theorem dX8_meets_79 : decode cX8_meets 79 = .ok (.iinc 3 1, 3) := by decide +kernel
theorem dX8_meets_82 : decode cX8_meets 82 = .ok (.goto (-77), 3) := by decide +kernel
theorem dX8_meets_85 : decode cX8_meets 85 = .ok (.iload_n 2, 1) := by decide +kernel
theorem dX8_meets_86 : decode cX8_meets 86 = .ok (.ireturn, 1) := by decide +kernel
theorem dX8_between_0 : decode cX8_between 0 = .ok (.iload_n 0, 1) := by decide +kernel
theorem dX8_between_1 : decode cX8_between 1 = .ok (.iconst 1, 1) := by decide +kernel
theorem dX8_between_2 : decode cX8_between 2 = .ok (.if_icmp .ge 7, 3) := by decide +kernel
theorem dX8_between_5 : decode cX8_between 5 = .ok (.iconst 1, 1) := by decide +kernel
theorem dX8_between_6 : decode cX8_between 6 = .ok (.goto 15, 3) := by decide +kernel
theorem dX8_between_9 : decode cX8_between 9 = .ok (.iload_n 0, 1) := by decide +kernel
theorem dX8_between_10 : decode cX8_between 10 = .ok (.bipush 15, 2) := by decide +kernel
theorem dX8_between_12 : decode cX8_between 12 = .ok (.if_icmp .le 8, 3) := by decide +kernel
theorem dX8_between_15 : decode cX8_between 15 = .ok (.bipush 15, 2) := by decide +kernel
theorem dX8_between_17 : decode cX8_between 17 = .ok (.goto 4, 3) := by decide +kernel
theorem dX8_between_20 : decode cX8_between 20 = .ok (.iload_n 0, 1) := by decide +kernel
theorem dX8_between_21 : decode cX8_between 21 = .ok (.ireturn, 1) := by decide +kernel
theorem dX8_fights_0 : decode cX8_fights 0 = .ok (.aload_n 0, 1) := by decide +kernel
theorem dX8_fights_1 : decode cX8_fights 1 = .ok (.getfield 16, 3) := by decide +kernel
theorem dX8_fights_4 : decode cX8_fights 4 = .ok (.iconst 0, 1) := by decide +kernel
theorem dX8_fights_5 : decode cX8_fights 5 = .ok (.dup2, 1) := by decide +kernel
theorem dX8_fights_6 : decode cX8_fights 6 = .ok (.iaload, 1) := by decide +kernel
theorem dX8_fights_7 : decode cX8_fights 7 = .ok (.iconst 1, 1) := by decide +kernel
theorem dX8_fights_8 : decode cX8_fights 8 = .ok (.iadd, 1) := by decide +kernel
theorem dX8_fights_9 : decode cX8_fights 9 = .ok (.iastore, 1) := by decide +kernel
theorem dX8_fights_10 : decode cX8_fights 10 = .ok (.aload_n 0, 1) := by decide +kernel
theorem dX8_fights_11 : decode cX8_fights 11 = .ok (.aload_n 0, 1) := by decide +kernel
theorem dX8_fights_12 : decode cX8_fights 12 = .ok (.getfield 16, 3) := by decide +kernel
theorem dX8_fights_15 : decode cX8_fights 15 = .ok (.iconst 0, 1) := by decide +kernel
theorem dX8_fights_16 : decode cX8_fights 16 = .ok (.iaload, 1) := by decide +kernel
theorem dX8_fights_17 : decode cX8_fights 17 = .ok (.invokevirtual 180, 3) := by decide +kernel
theorem dX8_fights_20 : decode cX8_fights 20 = .ok (.istore_n 1, 1) := by decide +kernel
theorem dX8_fights_21 : decode cX8_fights 21 = .ok (.iload_n 1, 1) := by decide +kernel
theorem dX8_fights_22 : decode cX8_fights 22 = .ok (.bipush (-4), 2) := by decide +kernel
theorem dX8_fights_24 : decode cX8_fights 24 = .ok (.if_icmp .ne 6, 3) := by decide +kernel
theorem dX8_fights_27 : decode cX8_fights 27 = .ok (.bipush (-4), 2) := by decide +kernel
theorem dX8_fights_29 : decode cX8_fights 29 = .ok (.ireturn, 1) := by decide +kernel
theorem dX8_fights_30 : decode cX8_fights 30 = .ok (.iconst 0, 1) := by decide +kernel
theorem dX8_fights_31 : decode cX8_fights 31 = .ok (.istore_n 2, 1) := by decide +kernel
theorem dX8_fights_32 : decode cX8_fights 32 = .ok (.iconst 1, 1) := by decide +kernel
theorem dX8_fights_33 : decode cX8_fights 33 = .ok (.istore_n 3, 1) := by decide +kernel
theorem dX8_fights_34 : decode cX8_fights 34 = .ok (.iload_n 3, 1) := by decide +kernel
theorem dX8_fights_35 : decode cX8_fights 35 = .ok (.aload_n 0, 1) := by decide +kernel
theorem dX8_fights_36 : decode cX8_fights 36 = .ok (.getfield 66, 3) := by decide +kernel
theorem dX8_fights_39 : decode cX8_fights 39 = .ok (.if_icmp .ge 48, 3) := by decide +kernel
theorem dX8_fights_42 : decode cX8_fights 42 = .ok (.iload_n 2, 1) := by decide +kernel
theorem dX8_fights_43 : decode cX8_fights 43 = .ok (.iload_n 3, 1) := by decide +kernel
theorem dX8_fights_44 : decode cX8_fights 44 = .ok (.iload_n 1, 1) := by decide +kernel
theorem dX8_fights_45 : decode cX8_fights 45 = .ok (.if_icmp .eq 33, 3) := by decide +kernel
theorem dX8_fights_48 : decode cX8_fights 48 = .ok (.aload_n 0, 1) := by decide +kernel
theorem dX8_fights_49 : decode cX8_fights 49 = .ok (.iload_n 3, 1) := by decide +kernel
theorem dX8_fights_50 : decode cX8_fights 50 = .ok (.invokevirtual 103, 3) := by decide +kernel
theorem dX8_fights_53 : decode cX8_fights 53 = .ok (.ifCond .ne 25, 3) := by decide +kernel
theorem dX8_fights_56 : decode cX8_fights 56 = .ok (.aload_n 0, 1) := by decide +kernel
theorem dX8_fights_57 : decode cX8_fights 57 = .ok (.getfield 16, 3) := by decide +kernel
theorem dX8_fights_60 : decode cX8_fights 60 = .ok (.bipush 8, 2) := by decide +kernel
theorem dX8_fights_62 : decode cX8_fights 62 = .ok (.iload_n 3, 1) := by decide +kernel
theorem dX8_fights_63 : decode cX8_fights 63 = .ok (.iadd, 1) := by decide +kernel
theorem dX8_fights_64 : decode cX8_fights 64 = .ok (.iaload, 1) := by decide +kernel
theorem dX8_fights_65 : decode cX8_fights 65 = .ok (.aload_n 0, 1) := by decide +kernel
theorem dX8_fights_66 : decode cX8_fights 66 = .ok (.getfield 16, 3) := by decide +kernel
theorem dX8_fights_69 : decode cX8_fights 69 = .ok (.iconst 0, 1) := by decide +kernel
theorem dX8_fights_70 : decode cX8_fights 70 = .ok (.iaload, 1) := by decide +kernel
theorem dX8_fights_71 : decode cX8_fights 71 = .ok (.if_icmp .gt 7, 3) := by decide +kernel
theorem dX8_fights_74 : decode cX8_fights 74 = .ok (.iconst 1, 1) := by decide +kernel
theorem dX8_fights_75 : decode cX8_fights 75 = .ok (.goto 4, 3) := by decide +kernel
theorem dX8_fights_78 : decode cX8_fights 78 = .ok (.iconst 0, 1) := by decide +kernel
theorem dX8_fights_79 : decode cX8_fights 79 = .ok (.iadd, 1) := by decide +kernel
theorem dX8_fights_80 : decode cX8_fights 80 = .ok (.istore_n 2, 1) := by decide +kernel
theorem dX8_fights_81 : decode cX8_fights 81 = .ok (.iinc 3 1, 3) := by decide +kernel
theorem dX8_fights_84 : decode cX8_fights 84 = .ok (.goto (-50), 3) := by decide +kernel
theorem dX8_fights_87 : decode cX8_fights 87 = .ok (.bipush 8, 2) := by decide +kernel
theorem dX8_fights_89 : decode cX8_fights 89 = .ok (.aload_n 0, 1) := by decide +kernel
theorem dX8_fights_90 : decode cX8_fights 90 = .ok (.iconst 0, 1) := by decide +kernel
theorem dX8_fights_91 : decode cX8_fights 91 = .ok (.aload_n 0, 1) := by decide +kernel
theorem dX8_fights_92 : decode cX8_fights 92 = .ok (.iconst 0, 1) := by decide +kernel
theorem dX8_fights_93 : decode cX8_fights 93 = .ok (.invokevirtual 91, 3) := by decide +kernel
theorem dX8_fights_96 : decode cX8_fights 96 = .ok (.invokevirtual 126, 3) := by decide +kernel
theorem dX8_fights_99 : decode cX8_fights 99 = .ok (.iadd, 1) := by decide +kernel
theorem dX8_fights_100 : decode cX8_fights 100 = .ok (.aload_n 0, 1) := by decide +kernel
theorem dX8_fights_101 : decode cX8_fights 101 = .ok (.iload_n 1, 1) := by decide +kernel
theorem dX8_fights_102 : decode cX8_fights 102 = .ok (.aload_n 0, 1) := by decide +kernel
theorem dX8_fights_103 : decode cX8_fights 103 = .ok (.iload_n 1, 1) := by decide +kernel
theorem dX8_fights_104 : decode cX8_fights 104 = .ok (.invokevirtual 91, 3) := by decide +kernel
theorem dX8_fights_107 : decode cX8_fights 107 = .ok (.invokevirtual 126, 3) := by decide +kernel
theorem dX8_fights_110 : decode cX8_fights 110 = .ok (.isub, 1) := by decide +kernel
theorem dX8_fights_111 : decode cX8_fights 111 = .ok (.iconst 2, 1) := by decide +kernel
theorem dX8_fights_112 : decode cX8_fights 112 = .ok (.iload_n 2, 1) := by decide +kernel
theorem dX8_fights_113 : decode cX8_fights 113 = .ok (.imul, 1) := by decide +kernel
theorem dX8_fights_114 : decode cX8_fights 114 = .ok (.isub, 1) := by decide +kernel
theorem dX8_fights_115 : decode cX8_fights 115 = .ok (.invokestatic 183, 3) := by decide +kernel
theorem dX8_fights_118 : decode cX8_fights 118 = .ok (.istore_n 3, 1) := by decide +kernel
theorem dX8_fights_119 : decode cX8_fights 119 = .ok (.aload_n 0, 1) := by decide +kernel
theorem dX8_fights_120 : decode cX8_fights 120 = .ok (.getfield 16, 3) := by decide +kernel
theorem dX8_fights_123 : decode cX8_fights 123 = .ok (.iconst 2, 1) := by decide +kernel
theorem dX8_fights_124 : decode cX8_fights 124 = .ok (.aload_n 0, 1) := by decide +kernel
theorem dX8_fights_125 : decode cX8_fights 125 = .ok (.getfield 16, 3) := by decide +kernel
theorem dX8_fights_128 : decode cX8_fights 128 = .ok (.iconst 2, 1) := by decide +kernel
theorem dX8_fights_129 : decode cX8_fights 129 = .ok (.iaload, 1) := by decide +kernel
theorem dX8_fights_130 : decode cX8_fights 130 = .ok (.ldc 186, 2) := by decide +kernel
theorem dX8_fights_132 : decode cX8_fights 132 = .ok (.imul, 1) := by decide +kernel
theorem dX8_fights_133 : decode cX8_fights 133 = .ok (.sipush 12345, 3) := by decide +kernel
theorem dX8_fights_136 : decode cX8_fights 136 = .ok (.iadd, 1) := by decide +kernel
theorem dX8_fights_137 : decode cX8_fights 137 = .ok (.ldc 187, 2) := by decide +kernel
theorem dX8_fights_139 : decode cX8_fights 139 = .ok (.iand, 1) := by decide +kernel
theorem dX8_fights_140 : decode cX8_fights 140 = .ok (.iastore, 1) := by decide +kernel
theorem dX8_fights_141 : decode cX8_fights 141 = .ok (.iload_n 3, 1) := by decide +kernel
theorem dX8_fights_142 : decode cX8_fights 142 = .ok (.aload_n 0, 1) := by decide +kernel
theorem dX8_fights_143 : decode cX8_fights 143 = .ok (.getfield 16, 3) := by decide +kernel
theorem dX8_fights_146 : decode cX8_fights 146 = .ok (.iconst 2, 1) := by decide +kernel
theorem dX8_fights_147 : decode cX8_fights 147 = .ok (.iaload, 1) := by decide +kernel
theorem dX8_fights_148 : decode cX8_fights 148 = .ok (.ldc 188, 2) := by decide +kernel
theorem dX8_fights_150 : decode cX8_fights 150 = .ok (.idiv, 1) := by decide +kernel
theorem dX8_fights_151 : decode cX8_fights 151 = .ok (.bipush 16, 2) := by decide +kernel
theorem dX8_fights_153 : decode cX8_fights 153 = .ok (.irem, 1) := by decide +kernel
theorem dX8_fights_154 : decode cX8_fights 154 = .ok (.if_icmp .le 7, 3) := by decide +kernel
theorem dX8_fights_157 : decode cX8_fights 157 = .ok (.iload_n 1, 1) := by decide +kernel
theorem dX8_fights_158 : decode cX8_fights 158 = .ok (.goto 4, 3) := by decide +kernel
theorem dX8_fights_161 : decode cX8_fights 161 = .ok (.iconst 0, 1) := by decide +kernel
theorem dX8_fights_162 : decode cX8_fights 162 = .ok (.istore 4, 2) := by decide +kernel
theorem dX8_fights_164 : decode cX8_fights 164 = .ok (.aload_n 0, 1) := by decide +kernel
theorem dX8_fights_165 : decode cX8_fights 165 = .ok (.getfield 16, 3) := by decide +kernel
theorem dX8_fights_168 : decode cX8_fights 168 = .ok (.iconst 3, 1) := by decide +kernel
theorem dX8_fights_169 : decode cX8_fights 169 = .ok (.iload 4, 2) := by decide +kernel
theorem dX8_fights_171 : decode cX8_fights 171 = .ok (.iadd, 1) := by decide +kernel
theorem dX8_fights_172 : decode cX8_fights 172 = .ok (.dup2, 1) := by decide +kernel
theorem dX8_fights_173 : decode cX8_fights 173 = .ok (.iaload, 1) := by decide +kernel
theorem dX8_fights_174 : decode cX8_fights 174 = .ok (.iconst 1, 1) := by decide +kernel
theorem dX8_fights_175 : decode cX8_fights 175 = .ok (.iadd, 1) := by decide +kernel
theorem dX8_fights_176 : decode cX8_fights 176 = .ok (.iastore, 1) := by decide +kernel
theorem dX8_fights_177 : decode cX8_fights 177 = .ok (.iload 4, 2) := by decide +kernel
theorem dX8_fights_179 : decode cX8_fights 179 = .ok (.ireturn, 1) := by decide +kernel
theorem dX8_moment_0 : decode cX8_moment 0 = .ok (.aload_n 0, 1) := by decide +kernel
theorem dX8_moment_1 : decode cX8_moment 1 = .ok (.invokevirtual 174, 3) := by decide +kernel
theorem dX8_moment_4 : decode cX8_moment 4 = .ok (.ifCond .eq 6, 3) := by decide +kernel
theorem dX8_moment_7 : decode cX8_moment 7 = .ok (.bipush (-2), 2) := by decide +kernel
theorem dX8_moment_9 : decode cX8_moment 9 = .ok (.ireturn, 1) := by decide +kernel
theorem dX8_moment_10 : decode cX8_moment 10 = .ok (.aload_n 0, 1) := by decide +kernel
theorem dX8_moment_11 : decode cX8_moment 11 = .ok (.getfield 16, 3) := by decide +kernel
theorem dX8_moment_14 : decode cX8_moment 14 = .ok (.iconst 0, 1) := by decide +kernel
theorem dX8_moment_15 : decode cX8_moment 15 = .ok (.iaload, 1) := by decide +kernel
theorem dX8_moment_16 : decode cX8_moment 16 = .ok (.sipush 400, 3) := by decide +kernel
theorem dX8_moment_19 : decode cX8_moment 19 = .ok (.if_icmp .ne 6, 3) := by decide +kernel
theorem dX8_moment_22 : decode cX8_moment 22 = .ok (.bipush (-3), 2) := by decide +kernel
theorem dX8_moment_24 : decode cX8_moment 24 = .ok (.ireturn, 1) := by decide +kernel
theorem dX8_moment_25 : decode cX8_moment 25 = .ok (.aload_n 0, 1) := by decide +kernel
theorem dX8_moment_26 : decode cX8_moment 26 = .ok (.invokevirtual 189, 3) := by decide +kernel
theorem dX8_moment_29 : decode cX8_moment 29 = .ok (.aload_n 0, 1) := by decide +kernel
theorem dX8_moment_30 : decode cX8_moment 30 = .ok (.invokevirtual 80, 3) := by decide +kernel
theorem dX8_moment_33 : decode cX8_moment 33 = .ok (.ifCond .eq 8, 3) := by decide +kernel
theorem dX8_moment_36 : decode cX8_moment 36 = .ok (.aload_n 0, 1) := by decide +kernel
theorem dX8_moment_37 : decode cX8_moment 37 = .ok (.invokevirtual 192, 3) := by decide +kernel
theorem dX8_moment_40 : decode cX8_moment 40 = .ok (.ireturn, 1) := by decide +kernel
theorem dX8_moment_41 : decode cX8_moment 41 = .ok (.aload_n 0, 1) := by decide +kernel
theorem dX8_moment_42 : decode cX8_moment 42 = .ok (.getfield 16, 3) := by decide +kernel
theorem dX8_moment_45 : decode cX8_moment 45 = .ok (.iconst 0, 1) := by decide +kernel
theorem dX8_moment_46 : decode cX8_moment 46 = .ok (.dup2, 1) := by decide +kernel
theorem dX8_moment_47 : decode cX8_moment 47 = .ok (.iaload, 1) := by decide +kernel
theorem dX8_moment_48 : decode cX8_moment 48 = .ok (.iconst 1, 1) := by decide +kernel
theorem dX8_moment_49 : decode cX8_moment 49 = .ok (.iadd, 1) := by decide +kernel
theorem dX8_moment_50 : decode cX8_moment 50 = .ok (.iastore, 1) := by decide +kernel
theorem dX8_moment_51 : decode cX8_moment 51 = .ok (.aload_n 0, 1) := by decide +kernel
theorem dX8_moment_52 : decode cX8_moment 52 = .ok (.aload_n 0, 1) := by decide +kernel
theorem dX8_moment_53 : decode cX8_moment 53 = .ok (.getfield 16, 3) := by decide +kernel
theorem dX8_moment_56 : decode cX8_moment 56 = .ok (.iconst 0, 1) := by decide +kernel
theorem dX8_moment_57 : decode cX8_moment 57 = .ok (.iaload, 1) := by decide +kernel
theorem dX8_moment_58 : decode cX8_moment 58 = .ok (.invokevirtual 195, 3) := by decide +kernel
theorem dX8_moment_61 : decode cX8_moment 61 = .ok (.ifCond .eq 13, 3) := by decide +kernel
theorem dX8_moment_64 : decode cX8_moment 64 = .ok (.aload_n 0, 1) := by decide +kernel
theorem dX8_moment_65 : decode cX8_moment 65 = .ok (.aload_n 0, 1) := by decide +kernel
theorem dX8_moment_66 : decode cX8_moment 66 = .ok (.getfield 16, 3) := by decide +kernel
theorem dX8_moment_69 : decode cX8_moment 69 = .ok (.iconst 0, 1) := by decide +kernel
theorem dX8_moment_70 : decode cX8_moment 70 = .ok (.iaload, 1) := by decide +kernel
theorem dX8_moment_71 : decode cX8_moment 71 = .ok (.invokevirtual 198, 3) := by decide +kernel
theorem dX8_moment_74 : decode cX8_moment 74 = .ok (.bipush (-4), 2) := by decide +kernel
theorem dX8_moment_76 : decode cX8_moment 76 = .ok (.ireturn, 1) := by decide +kernel
theorem dX8_turn_0 : decode cX8_turn 0 = .ok (.aload_n 0, 1) := by decide +kernel
theorem dX8_turn_1 : decode cX8_turn 1 = .ok (.invokevirtual 174, 3) := by decide +kernel
theorem dX8_turn_4 : decode cX8_turn 4 = .ok (.ifCond .ne 10, 3) := by decide +kernel
theorem dX8_turn_7 : decode cX8_turn 7 = .ok (.aload_n 0, 1) := by decide +kernel
theorem dX8_turn_8 : decode cX8_turn 8 = .ok (.invokevirtual 80, 3) := by decide +kernel
theorem dX8_turn_11 : decode cX8_turn 11 = .ok (.ifCond .eq 6, 3) := by decide +kernel
theorem dX8_turn_14 : decode cX8_turn 14 = .ok (.bipush (-2), 2) := by decide +kernel
theorem dX8_turn_16 : decode cX8_turn 16 = .ok (.ireturn, 1) := by decide +kernel
theorem dX8_turn_17 : decode cX8_turn 17 = .ok (.aload_n 0, 1) := by decide +kernel
theorem dX8_turn_18 : decode cX8_turn 18 = .ok (.aload_n 0, 1) := by decide +kernel
theorem dX8_turn_19 : decode cX8_turn 19 = .ok (.getfield 16, 3) := by decide +kernel
theorem dX8_turn_22 : decode cX8_turn 22 = .ok (.iconst 0, 1) := by decide +kernel
theorem dX8_turn_23 : decode cX8_turn 23 = .ok (.iaload, 1) := by decide +kernel
theorem dX8_turn_24 : decode cX8_turn 24 = .ok (.invokevirtual 198, 3) := by decide +kernel
theorem dX8_turn_27 : decode cX8_turn 27 = .ok (.aload_n 0, 1) := by decide +kernel
theorem dX8_turn_28 : decode cX8_turn 28 = .ok (.getfield 16, 3) := by decide +kernel
theorem dX8_turn_31 : decode cX8_turn 31 = .ok (.iconst 1, 1) := by decide +kernel
theorem dX8_turn_32 : decode cX8_turn 32 = .ok (.iaload, 1) := by decide +kernel
theorem dX8_turn_33 : decode cX8_turn 33 = .ok (.ireturn, 1) := by decide +kernel
theorem dX8_undo_0 : decode cX8_undo 0 = .ok (.aload_n 0, 1) := by decide +kernel
theorem dX8_undo_1 : decode cX8_undo 1 = .ok (.getfield 88, 3) := by decide +kernel
theorem dX8_undo_4 : decode cX8_undo 4 = .ok (.ifCond .ne 6, 3) := by decide +kernel
theorem dX8_undo_7 : decode cX8_undo 7 = .ok (.bipush (-4), 2) := by decide +kernel
theorem dX8_undo_9 : decode cX8_undo 9 = .ok (.ireturn, 1) := by decide +kernel
theorem dX8_undo_10 : decode cX8_undo 10 = .ok (.aload_n 0, 1) := by decide +kernel
theorem dX8_undo_11 : decode cX8_undo 11 = .ok (.dup, 1) := by decide +kernel
theorem dX8_undo_12 : decode cX8_undo 12 = .ok (.getfield 88, 3) := by decide +kernel
theorem dX8_undo_15 : decode cX8_undo 15 = .ok (.iconst 1, 1) := by decide +kernel
theorem dX8_undo_16 : decode cX8_undo 16 = .ok (.isub, 1) := by decide +kernel
theorem dX8_undo_17 : decode cX8_undo 17 = .ok (.putfield 88, 3) := by decide +kernel
theorem dX8_undo_20 : decode cX8_undo 20 = .ok (.iconst 0, 1) := by decide +kernel
theorem dX8_undo_21 : decode cX8_undo 21 = .ok (.istore_n 1, 1) := by decide +kernel
theorem dX8_undo_22 : decode cX8_undo 22 = .ok (.iload_n 1, 1) := by decide +kernel
theorem dX8_undo_23 : decode cX8_undo 23 = .ok (.bipush 13, 2) := by decide +kernel
theorem dX8_undo_25 : decode cX8_undo 25 = .ok (.if_icmp .ge 29, 3) := by decide +kernel
theorem dX8_undo_28 : decode cX8_undo 28 = .ok (.aload_n 0, 1) := by decide +kernel
theorem dX8_undo_29 : decode cX8_undo 29 = .ok (.getfield 16, 3) := by decide +kernel
theorem dX8_undo_32 : decode cX8_undo 32 = .ok (.iload_n 1, 1) := by decide +kernel
theorem dX8_undo_33 : decode cX8_undo 33 = .ok (.aload_n 0, 1) := by decide +kernel
theorem dX8_undo_34 : decode cX8_undo 34 = .ok (.getfield 28, 3) := by decide +kernel
theorem dX8_undo_37 : decode cX8_undo 37 = .ok (.bipush 13, 2) := by decide +kernel
theorem dX8_undo_39 : decode cX8_undo 39 = .ok (.aload_n 0, 1) := by decide +kernel
theorem dX8_undo_40 : decode cX8_undo 40 = .ok (.getfield 88, 3) := by decide +kernel
theorem dX8_undo_43 : decode cX8_undo 43 = .ok (.imul, 1) := by decide +kernel
theorem dX8_undo_44 : decode cX8_undo 44 = .ok (.iload_n 1, 1) := by decide +kernel
theorem dX8_undo_45 : decode cX8_undo 45 = .ok (.iadd, 1) := by decide +kernel
theorem dX8_undo_46 : decode cX8_undo 46 = .ok (.iaload, 1) := by decide +kernel
theorem dX8_undo_47 : decode cX8_undo 47 = .ok (.iastore, 1) := by decide +kernel
theorem dX8_undo_48 : decode cX8_undo 48 = .ok (.iinc 1 1, 3) := by decide +kernel
theorem dX8_undo_51 : decode cX8_undo 51 = .ok (.goto (-29), 3) := by decide +kernel
theorem dX8_undo_54 : decode cX8_undo 54 = .ok (.aload_n 0, 1) := by decide +kernel
theorem dX8_undo_55 : decode cX8_undo 55 = .ok (.getfield 88, 3) := by decide +kernel
theorem dX8_undo_58 : decode cX8_undo 58 = .ok (.ireturn, 1) := by decide +kernel
theorem dX8_seed_0 : decode cX8_seed 0 = .ok (.iload_n 1, 1) := by decide +kernel
theorem dX8_seed_1 : decode cX8_seed 1 = .ok (.ifCond .ge 5, 3) := by decide +kernel
theorem dX8_seed_4 : decode cX8_seed 4 = .ok (.iconst (-1), 1) := by decide +kernel
theorem dX8_seed_5 : decode cX8_seed 5 = .ok (.ireturn, 1) := by decide +kernel
theorem dX8_seed_6 : decode cX8_seed 6 = .ok (.aload_n 0, 1) := by decide +kernel
theorem dX8_seed_7 : decode cX8_seed 7 = .ok (.getfield 16, 3) := by decide +kernel
theorem dX8_seed_10 : decode cX8_seed 10 = .ok (.iconst 2, 1) := by decide +kernel
theorem dX8_seed_11 : decode cX8_seed 11 = .ok (.iaload, 1) := by decide +kernel
theorem dX8_seed_12 : decode cX8_seed 12 = .ok (.istore_n 2, 1) := by decide +kernel
theorem dX8_seed_13 : decode cX8_seed 13 = .ok (.aload_n 0, 1) := by decide +kernel
theorem dX8_seed_14 : decode cX8_seed 14 = .ok (.getfield 16, 3) := by decide +kernel
theorem dX8_seed_17 : decode cX8_seed 17 = .ok (.iconst 2, 1) := by decide +kernel
theorem dX8_seed_18 : decode cX8_seed 18 = .ok (.iload_n 1, 1) := by decide +kernel
theorem dX8_seed_19 : decode cX8_seed 19 = .ok (.iastore, 1) := by decide +kernel
theorem dX8_seed_20 : decode cX8_seed 20 = .ok (.iload_n 2, 1) := by decide +kernel
theorem dX8_seed_21 : decode cX8_seed 21 = .ok (.ireturn, 1) := by decide +kernel
theorem dX8_asides_0 : decode cX8_asides 0 = .ok (.iconst 0, 1) := by decide +kernel
theorem dX8_asides_1 : decode cX8_asides 1 = .ok (.istore_n 1, 1) := by decide +kernel
theorem dX8_asides_2 : decode cX8_asides 2 = .ok (.iload_n 1, 1) := by decide +kernel
theorem dX8_asides_3 : decode cX8_asides 3 = .ok (.bipush 13, 2) := by decide +kernel
theorem dX8_asides_5 : decode cX8_asides 5 = .ok (.if_icmp .ge 21, 3) := by decide +kernel
theorem dX8_asides_8 : decode cX8_asides 8 = .ok (.aload_n 0, 1) := by decide +kernel
theorem dX8_asides_9 : decode cX8_asides 9 = .ok (.getfield 31, 3) := by decide +kernel
theorem dX8_asides_12 : decode cX8_asides 12 = .ok (.iload_n 1, 1) := by decide +kernel
theorem dX8_asides_13 : decode cX8_asides 13 = .ok (.aload_n 0, 1) := by decide +kernel
theorem dX8_asides_14 : decode cX8_asides 14 = .ok (.getfield 16, 3) := by decide +kernel
theorem dX8_asides_17 : decode cX8_asides 17 = .ok (.iload_n 1, 1) := by decide +kernel
theorem dX8_asides_18 : decode cX8_asides 18 = .ok (.iaload, 1) := by decide +kernel
theorem dX8_asides_19 : decode cX8_asides 19 = .ok (.iastore, 1) := by decide +kernel
theorem dX8_asides_20 : decode cX8_asides 20 = .ok (.iinc 1 1, 3) := by decide +kernel
theorem dX8_asides_23 : decode cX8_asides 23 = .ok (.goto (-21), 3) := by decide +kernel
theorem dX8_asides_26 : decode cX8_asides 26 = .ok (.return_, 1) := by decide +kernel
theorem dX8_backs_0 : decode cX8_backs 0 = .ok (.iconst 0, 1) := by decide +kernel
theorem dX8_backs_1 : decode cX8_backs 1 = .ok (.istore_n 1, 1) := by decide +kernel
theorem dX8_backs_2 : decode cX8_backs 2 = .ok (.iload_n 1, 1) := by decide +kernel
theorem dX8_backs_3 : decode cX8_backs 3 = .ok (.bipush 13, 2) := by decide +kernel
theorem dX8_backs_5 : decode cX8_backs 5 = .ok (.if_icmp .ge 21, 3) := by decide +kernel
theorem dX8_backs_8 : decode cX8_backs 8 = .ok (.aload_n 0, 1) := by decide +kernel
theorem dX8_backs_9 : decode cX8_backs 9 = .ok (.getfield 16, 3) := by decide +kernel
theorem dX8_backs_12 : decode cX8_backs 12 = .ok (.iload_n 1, 1) := by decide +kernel
theorem dX8_backs_13 : decode cX8_backs 13 = .ok (.aload_n 0, 1) := by decide +kernel
theorem dX8_backs_14 : decode cX8_backs 14 = .ok (.getfield 31, 3) := by decide +kernel
theorem dX8_backs_17 : decode cX8_backs 17 = .ok (.iload_n 1, 1) := by decide +kernel
theorem dX8_backs_18 : decode cX8_backs 18 = .ok (.iaload, 1) := by decide +kernel
theorem dX8_backs_19 : decode cX8_backs 19 = .ok (.iastore, 1) := by decide +kernel
theorem dX8_backs_20 : decode cX8_backs 20 = .ok (.iinc 1 1, 3) := by decide +kernel
theorem dX8_backs_23 : decode cX8_backs 23 = .ok (.goto (-21), 3) := by decide +kernel
theorem dX8_backs_26 : decode cX8_backs 26 = .ok (.return_, 1) := by decide +kernel
theorem dX8_lines_0 : decode cX8_lines 0 = .ok (.iconst 0, 1) := by decide +kernel
theorem dX8_lines_1 : decode cX8_lines 1 = .ok (.istore_n 1, 1) := by decide +kernel
theorem dX8_lines_2 : decode cX8_lines 2 = .ok (.iconst (-1), 1) := by decide +kernel
theorem dX8_lines_3 : decode cX8_lines 3 = .ok (.istore_n 2, 1) := by decide +kernel
theorem dX8_lines_4 : decode cX8_lines 4 = .ok (.iconst (-1), 1) := by decide +kernel
theorem dX8_lines_5 : decode cX8_lines 5 = .ok (.istore_n 3, 1) := by decide +kernel
theorem dX8_lines_6 : decode cX8_lines 6 = .ok (.iconst 1, 1) := by decide +kernel
theorem dX8_lines_7 : decode cX8_lines 7 = .ok (.istore 4, 2) := by decide +kernel
theorem dX8_lines_9 : decode cX8_lines 9 = .ok (.iload 4, 2) := by decide +kernel
theorem dX8_lines_11 : decode cX8_lines 11 = .ok (.ifCond .eq 166, 3) := by decide +kernel
theorem dX8_lines_14 : decode cX8_lines 14 = .ok (.bipush (-4), 2) := by decide +kernel
theorem dX8_lines_16 : decode cX8_lines 16 = .ok (.istore 5, 2) := by decide +kernel
theorem dX8_lines_18 : decode cX8_lines 18 = .ok (.iconst 1, 1) := by decide +kernel
theorem dX8_lines_19 : decode cX8_lines 19 = .ok (.istore 6, 2) := by decide +kernel
theorem dX8_lines_21 : decode cX8_lines 21 = .ok (.iload 6, 2) := by decide +kernel
theorem dX8_lines_23 : decode cX8_lines 23 = .ok (.aload_n 0, 1) := by decide +kernel
theorem dX8_lines_24 : decode cX8_lines 24 = .ok (.getfield 66, 3) := by decide +kernel
theorem dX8_lines_27 : decode cX8_lines 27 = .ok (.if_icmp .ge 103, 3) := by decide +kernel
theorem dX8_lines_30 : decode cX8_lines 30 = .ok (.aload_n 0, 1) := by decide +kernel
theorem dX8_lines_31 : decode cX8_lines 31 = .ok (.iload 6, 2) := by decide +kernel
theorem dX8_lines_33 : decode cX8_lines 33 = .ok (.invokevirtual 103, 3) := by decide +kernel
theorem dX8_lines_36 : decode cX8_lines 36 = .ok (.ifCond .ne 41, 3) := by decide +kernel
theorem dX8_lines_39 : decode cX8_lines 39 = .ok (.aload_n 0, 1) := by decide +kernel
theorem dX8_lines_40 : decode cX8_lines 40 = .ok (.getfield 16, 3) := by decide +kernel
theorem dX8_lines_43 : decode cX8_lines 43 = .ok (.bipush 8, 2) := by decide +kernel
theorem dX8_lines_45 : decode cX8_lines 45 = .ok (.iload 6, 2) := by decide +kernel
theorem dX8_lines_47 : decode cX8_lines 47 = .ok (.iadd, 1) := by decide +kernel
theorem dX8_lines_48 : decode cX8_lines 48 = .ok (.iaload, 1) := by decide +kernel
theorem dX8_lines_49 : decode cX8_lines 49 = .ok (.iload_n 2, 1) := by decide +kernel
theorem dX8_lines_50 : decode cX8_lines 50 = .ok (.if_icmp .gt 23, 3) := by decide +kernel
theorem dX8_lines_53 : decode cX8_lines 53 = .ok (.aload_n 0, 1) := by decide +kernel
theorem dX8_lines_54 : decode cX8_lines 54 = .ok (.getfield 16, 3) := by decide +kernel
theorem dX8_lines_57 : decode cX8_lines 57 = .ok (.bipush 8, 2) := by decide +kernel
theorem dX8_lines_59 : decode cX8_lines 59 = .ok (.iload 6, 2) := by decide +kernel
theorem dX8_lines_61 : decode cX8_lines 61 = .ok (.iadd, 1) := by decide +kernel
theorem dX8_lines_62 : decode cX8_lines 62 = .ok (.iaload, 1) := by decide +kernel
theorem dX8_lines_63 : decode cX8_lines 63 = .ok (.iload_n 2, 1) := by decide +kernel
theorem dX8_lines_64 : decode cX8_lines 64 = .ok (.if_icmp .ne 13, 3) := by decide +kernel
theorem dX8_lines_67 : decode cX8_lines 67 = .ok (.iload 6, 2) := by decide +kernel
theorem dX8_lines_69 : decode cX8_lines 69 = .ok (.iload_n 3, 1) := by decide +kernel
theorem dX8_lines_70 : decode cX8_lines 70 = .ok (.if_icmp .le 7, 3) := by decide +kernel
theorem dX8_lines_73 : decode cX8_lines 73 = .ok (.iconst 1, 1) := by decide +kernel
theorem dX8_lines_74 : decode cX8_lines 74 = .ok (.goto 4, 3) := by decide +kernel
theorem dX8_lines_77 : decode cX8_lines 77 = .ok (.iconst 0, 1) := by decide +kernel
theorem dX8_lines_78 : decode cX8_lines 78 = .ok (.istore 7, 2) := by decide +kernel
theorem dX8_lines_80 : decode cX8_lines 80 = .ok (.iload 7, 2) := by decide +kernel
theorem dX8_lines_82 : decode cX8_lines 82 = .ok (.ifCond .eq 38, 3) := by decide +kernel
theorem dX8_lines_85 : decode cX8_lines 85 = .ok (.iload 5, 2) := by decide +kernel
theorem dX8_lines_87 : decode cX8_lines 87 = .ok (.bipush (-4), 2) := by decide +kernel
theorem dX8_lines_89 : decode cX8_lines 89 = .ok (.if_icmp .eq 26, 3) := by decide +kernel
theorem dX8_lines_92 : decode cX8_lines 92 = .ok (.aload_n 0, 1) := by decide +kernel
theorem dX8_lines_93 : decode cX8_lines 93 = .ok (.getfield 16, 3) := by decide +kernel
theorem dX8_lines_96 : decode cX8_lines 96 = .ok (.bipush 8, 2) := by decide +kernel
theorem dX8_lines_98 : decode cX8_lines 98 = .ok (.iload 6, 2) := by decide +kernel
theorem dX8_lines_100 : decode cX8_lines 100 = .ok (.iadd, 1) := by decide +kernel
theorem dX8_lines_101 : decode cX8_lines 101 = .ok (.iaload, 1) := by decide +kernel
theorem dX8_lines_102 : decode cX8_lines 102 = .ok (.aload_n 0, 1) := by decide +kernel
theorem dX8_lines_103 : decode cX8_lines 103 = .ok (.getfield 16, 3) := by decide +kernel
theorem dX8_lines_106 : decode cX8_lines 106 = .ok (.bipush 8, 2) := by decide +kernel
theorem dX8_lines_108 : decode cX8_lines 108 = .ok (.iload 5, 2) := by decide +kernel
theorem dX8_lines_110 : decode cX8_lines 110 = .ok (.iadd, 1) := by decide +kernel
theorem dX8_lines_111 : decode cX8_lines 111 = .ok (.iaload, 1) := by decide +kernel
theorem dX8_lines_112 : decode cX8_lines 112 = .ok (.if_icmp .ge 8, 3) := by decide +kernel
theorem dX8_lines_115 : decode cX8_lines 115 = .ok (.iload 6, 2) := by decide +kernel
theorem dX8_lines_117 : decode cX8_lines 117 = .ok (.goto 5, 3) := by decide +kernel
theorem dX8_lines_120 : decode cX8_lines 120 = .ok (.iload 5, 2) := by decide +kernel
theorem dX8_lines_122 : decode cX8_lines 122 = .ok (.istore 5, 2) := by decide +kernel
theorem dX8_lines_124 : decode cX8_lines 124 = .ok (.iinc 6 1, 3) := by decide +kernel
theorem dX8_lines_127 : decode cX8_lines 127 = .ok (.goto (-106), 3) := by decide +kernel
theorem dX8_lines_130 : decode cX8_lines 130 = .ok (.iload 5, 2) := by decide +kernel
theorem dX8_lines_132 : decode cX8_lines 132 = .ok (.bipush (-4), 2) := by decide +kernel
theorem dX8_lines_134 : decode cX8_lines 134 = .ok (.if_icmp .eq 7, 3) := by decide +kernel
theorem dX8_lines_137 : decode cX8_lines 137 = .ok (.iconst 1, 1) := by decide +kernel
theorem dX8_lines_138 : decode cX8_lines 138 = .ok (.goto 4, 3) := by decide +kernel
theorem dX8_lines_141 : decode cX8_lines 141 = .ok (.iconst 0, 1) := by decide +kernel
theorem dX8_lines_142 : decode cX8_lines 142 = .ok (.istore 4, 2) := by decide +kernel
theorem dX8_lines_144 : decode cX8_lines 144 = .ok (.iload 4, 2) := by decide +kernel
theorem dX8_lines_146 : decode cX8_lines 146 = .ok (.ifCond .eq 28, 3) := by decide +kernel
theorem dX8_lines_149 : decode cX8_lines 149 = .ok (.aload_n 0, 1) := by decide +kernel
theorem dX8_lines_150 : decode cX8_lines 150 = .ok (.getfield 34, 3) := by decide +kernel
theorem dX8_lines_153 : decode cX8_lines 153 = .ok (.iload_n 1, 1) := by decide +kernel
theorem dX8_lines_154 : decode cX8_lines 154 = .ok (.iload 5, 2) := by decide +kernel
theorem dX8_lines_156 : decode cX8_lines 156 = .ok (.iastore, 1) := by decide +kernel
theorem dX8_lines_157 : decode cX8_lines 157 = .ok (.iinc 1 1, 3) := by decide +kernel
theorem dX8_lines_160 : decode cX8_lines 160 = .ok (.aload_n 0, 1) := by decide +kernel
theorem dX8_lines_161 : decode cX8_lines 161 = .ok (.getfield 16, 3) := by decide +kernel
theorem dX8_lines_164 : decode cX8_lines 164 = .ok (.bipush 8, 2) := by decide +kernel
theorem dX8_lines_166 : decode cX8_lines 166 = .ok (.iload 5, 2) := by decide +kernel
theorem dX8_lines_168 : decode cX8_lines 168 = .ok (.iadd, 1) := by decide +kernel
theorem dX8_lines_169 : decode cX8_lines 169 = .ok (.iaload, 1) := by decide +kernel
theorem dX8_lines_170 : decode cX8_lines 170 = .ok (.istore_n 2, 1) := by decide +kernel
theorem dX8_lines_171 : decode cX8_lines 171 = .ok (.iload 5, 2) := by decide +kernel
theorem dX8_lines_173 : decode cX8_lines 173 = .ok (.istore_n 3, 1) := by decide +kernel
theorem dX8_lines_174 : decode cX8_lines 174 = .ok (.goto (-165), 3) := by decide +kernel
theorem dX8_lines_177 : decode cX8_lines 177 = .ok (.iload_n 1, 1) := by decide +kernel
theorem dX8_lines_178 : decode cX8_lines 178 = .ok (.ireturn, 1) := by decide +kernel
theorem dX8_fought_0 : decode cX8_fought 0 = .ok (.aload_n 0, 1) := by decide +kernel
theorem dX8_fought_1 : decode cX8_fought 1 = .ok (.getfield 34, 3) := by decide +kernel
theorem dX8_fought_4 : decode cX8_fought 4 = .ok (.iload_n 1, 1) := by decide +kernel
theorem dX8_fought_5 : decode cX8_fought 5 = .ok (.iaload, 1) := by decide +kernel
theorem dX8_fought_6 : decode cX8_fought 6 = .ok (.istore 7, 2) := by decide +kernel
theorem dX8_fought_8 : decode cX8_fought 8 = .ok (.bipush 8, 2) := by decide +kernel
theorem dX8_fought_10 : decode cX8_fought 10 = .ok (.aload_n 0, 1) := by decide +kernel
theorem dX8_fought_11 : decode cX8_fought 11 = .ok (.iconst 0, 1) := by decide +kernel
theorem dX8_fought_12 : decode cX8_fought 12 = .ok (.iload_n 3, 1) := by decide +kernel
theorem dX8_fought_13 : decode cX8_fought 13 = .ok (.invokevirtual 126, 3) := by decide +kernel
theorem dX8_fought_16 : decode cX8_fought 16 = .ok (.iadd, 1) := by decide +kernel
theorem dX8_fought_17 : decode cX8_fought 17 = .ok (.aload_n 0, 1) := by decide +kernel
theorem dX8_fought_18 : decode cX8_fought 18 = .ok (.iload 7, 2) := by decide +kernel
theorem dX8_fought_20 : decode cX8_fought 20 = .ok (.iload 4, 2) := by decide +kernel
theorem dX8_fought_22 : decode cX8_fought 22 = .ok (.invokevirtual 126, 3) := by decide +kernel
theorem dX8_fought_25 : decode cX8_fought 25 = .ok (.isub, 1) := by decide +kernel
theorem dX8_fought_26 : decode cX8_fought 26 = .ok (.iconst 2, 1) := by decide +kernel
theorem dX8_fought_27 : decode cX8_fought 27 = .ok (.iload 5, 2) := by decide +kernel
theorem dX8_fought_29 : decode cX8_fought 29 = .ok (.imul, 1) := by decide +kernel
theorem dX8_fought_30 : decode cX8_fought 30 = .ok (.isub, 1) := by decide +kernel
theorem dX8_fought_31 : decode cX8_fought 31 = .ok (.invokestatic 183, 3) := by decide +kernel
theorem dX8_fought_34 : decode cX8_fought 34 = .ok (.istore 8, 2) := by decide +kernel
theorem dX8_fought_36 : decode cX8_fought 36 = .ok (.iload 4, 2) := by decide +kernel
theorem dX8_fought_38 : decode cX8_fought 38 = .ok (.iconst 5, 1) := by decide +kernel
theorem dX8_fought_39 : decode cX8_fought 39 = .ok (.if_icmp .ge 23, 3) := by decide +kernel
theorem dX8_fought_42 : decode cX8_fought 42 = .ok (.aload 6, 2) := by decide +kernel
theorem dX8_fought_44 : decode cX8_fought 44 = .ok (.bipush 36, 2) := by decide +kernel
theorem dX8_fought_46 : decode cX8_fought 46 = .ok (.iload_n 1, 1) := by decide +kernel
theorem dX8_fought_47 : decode cX8_fought 47 = .ok (.imul, 1) := by decide +kernel
theorem dX8_fought_48 : decode cX8_fought 48 = .ok (.bipush 6, 2) := by decide +kernel
theorem dX8_fought_50 : decode cX8_fought 50 = .ok (.iload 4, 2) := by decide +kernel
theorem dX8_fought_52 : decode cX8_fought 52 = .ok (.iconst 1, 1) := by decide +kernel
theorem dX8_fought_53 : decode cX8_fought 53 = .ok (.iadd, 1) := by decide +kernel
theorem dX8_fought_54 : decode cX8_fought 54 = .ok (.imul, 1) := by decide +kernel
theorem dX8_fought_55 : decode cX8_fought 55 = .ok (.iadd, 1) := by decide +kernel
theorem dX8_fought_56 : decode cX8_fought 56 = .ok (.iload_n 3, 1) := by decide +kernel
theorem dX8_fought_57 : decode cX8_fought 57 = .ok (.iadd, 1) := by decide +kernel
theorem dX8_fought_58 : decode cX8_fought 58 = .ok (.iaload, 1) := by decide +kernel
theorem dX8_fought_59 : decode cX8_fought 59 = .ok (.goto 42, 3) := by decide +kernel
theorem dX8_fought_62 : decode cX8_fought 62 = .ok (.iload_n 1, 1) := by decide +kernel
theorem dX8_fought_63 : decode cX8_fought 63 = .ok (.iconst 1, 1) := by decide +kernel
theorem dX8_fought_64 : decode cX8_fought 64 = .ok (.iadd, 1) := by decide +kernel
theorem dX8_fought_65 : decode cX8_fought 65 = .ok (.iload_n 2, 1) := by decide +kernel
theorem dX8_fought_66 : decode cX8_fought 66 = .ok (.if_icmp .ne 8, 3) := by decide +kernel
theorem dX8_fought_69 : decode cX8_fought 69 = .ok (.ldc 202, 2) := by decide +kernel
theorem dX8_fought_71 : decode cX8_fought 71 = .ok (.goto 30, 3) := by decide +kernel
theorem dX8_fought_74 : decode cX8_fought 74 = .ok (.aload 6, 2) := by decide +kernel
theorem dX8_fought_76 : decode cX8_fought 76 = .ok (.bipush 36, 2) := by decide +kernel
theorem dX8_fought_78 : decode cX8_fought 78 = .ok (.iload_n 1, 1) := by decide +kernel
theorem dX8_fought_79 : decode cX8_fought 79 = .ok (.iconst 1, 1) := by decide +kernel
theorem dX8_fought_80 : decode cX8_fought 80 = .ok (.iadd, 1) := by decide +kernel
theorem dX8_fought_81 : decode cX8_fought 81 = .ok (.imul, 1) := by decide +kernel
theorem dX8_fought_82 : decode cX8_fought 82 = .ok (.bipush 6, 2) := by decide +kernel
theorem dX8_fought_84 : decode cX8_fought 84 = .ok (.aload_n 0, 1) := by decide +kernel
theorem dX8_fought_85 : decode cX8_fought 85 = .ok (.aload_n 0, 1) := by decide +kernel
theorem dX8_fought_86 : decode cX8_fought 86 = .ok (.getfield 34, 3) := by decide +kernel
theorem dX8_fought_89 : decode cX8_fought 89 = .ok (.iload_n 1, 1) := by decide +kernel
theorem dX8_fought_90 : decode cX8_fought 90 = .ok (.iconst 1, 1) := by decide +kernel
theorem dX8_fought_91 : decode cX8_fought 91 = .ok (.iadd, 1) := by decide +kernel
theorem dX8_fought_92 : decode cX8_fought 92 = .ok (.iaload, 1) := by decide +kernel
theorem dX8_fought_93 : decode cX8_fought 93 = .ok (.invokevirtual 91, 3) := by decide +kernel
theorem dX8_fought_96 : decode cX8_fought 96 = .ok (.imul, 1) := by decide +kernel
theorem dX8_fought_97 : decode cX8_fought 97 = .ok (.iadd, 1) := by decide +kernel
theorem dX8_fought_98 : decode cX8_fought 98 = .ok (.iload_n 3, 1) := by decide +kernel
theorem dX8_fought_99 : decode cX8_fought 99 = .ok (.iadd, 1) := by decide +kernel
theorem dX8_fought_100 : decode cX8_fought 100 = .ok (.iaload, 1) := by decide +kernel
theorem dX8_fought_101 : decode cX8_fought 101 = .ok (.istore 9, 2) := by decide +kernel
theorem dX8_fought_103 : decode cX8_fought 103 = .ok (.iload_n 3, 1) := by decide +kernel
theorem dX8_fought_104 : decode cX8_fought 104 = .ok (.iconst 5, 1) := by decide +kernel
theorem dX8_fought_105 : decode cX8_fought 105 = .ok (.if_icmp .ge 23, 3) := by decide +kernel
theorem dX8_fought_108 : decode cX8_fought 108 = .ok (.aload 6, 2) := by decide +kernel
theorem dX8_fought_110 : decode cX8_fought 110 = .ok (.bipush 36, 2) := by decide +kernel
theorem dX8_fought_112 : decode cX8_fought 112 = .ok (.iload_n 1, 1) := by decide +kernel
theorem dX8_fought_113 : decode cX8_fought 113 = .ok (.imul, 1) := by decide +kernel
theorem dX8_fought_114 : decode cX8_fought 114 = .ok (.bipush 6, 2) := by decide +kernel
theorem dX8_fought_116 : decode cX8_fought 116 = .ok (.iload 4, 2) := by decide +kernel
theorem dX8_fought_118 : decode cX8_fought 118 = .ok (.imul, 1) := by decide +kernel
theorem dX8_fought_119 : decode cX8_fought 119 = .ok (.iadd, 1) := by decide +kernel
theorem dX8_fought_120 : decode cX8_fought 120 = .ok (.iload_n 3, 1) := by decide +kernel
theorem dX8_fought_121 : decode cX8_fought 121 = .ok (.iadd, 1) := by decide +kernel
theorem dX8_fought_122 : decode cX8_fought 122 = .ok (.iconst 1, 1) := by decide +kernel
theorem dX8_fought_123 : decode cX8_fought 123 = .ok (.iadd, 1) := by decide +kernel
theorem dX8_fought_124 : decode cX8_fought 124 = .ok (.iaload, 1) := by decide +kernel
theorem dX8_fought_125 : decode cX8_fought 125 = .ok (.goto 4, 3) := by decide +kernel
theorem dX8_fought_128 : decode cX8_fought 128 = .ok (.iconst 0, 1) := by decide +kernel
theorem dX8_fought_129 : decode cX8_fought 129 = .ok (.istore 10, 2) := by decide +kernel
theorem dX8_fought_131 : decode cX8_fought 131 = .ok (.iload 8, 2) := by decide +kernel
theorem dX8_fought_133 : decode cX8_fought 133 = .ok (.iload 9, 2) := by decide +kernel
theorem dX8_fought_135 : decode cX8_fought 135 = .ok (.imul, 1) := by decide +kernel
theorem dX8_fought_136 : decode cX8_fought 136 = .ok (.bipush 16, 2) := by decide +kernel
theorem dX8_fought_138 : decode cX8_fought 138 = .ok (.iload 8, 2) := by decide +kernel
theorem dX8_fought_140 : decode cX8_fought 140 = .ok (.isub, 1) := by decide +kernel
theorem dX8_fought_141 : decode cX8_fought 141 = .ok (.iload 10, 2) := by decide +kernel
theorem dX8_fought_143 : decode cX8_fought 143 = .ok (.imul, 1) := by decide +kernel
theorem dX8_fought_144 : decode cX8_fought 144 = .ok (.iadd, 1) := by decide +kernel
theorem dX8_fought_145 : decode cX8_fought 145 = .ok (.bipush 16, 2) := by decide +kernel
theorem dX8_fought_147 : decode cX8_fought 147 = .ok (.idiv, 1) := by decide +kernel
theorem dX8_fought_148 : decode cX8_fought 148 = .ok (.ireturn, 1) := by decide +kernel
theorem dX8_likely_0 : decode cX8_likely 0 = .ok (.aload_n 0, 1) := by decide +kernel
theorem dX8_likely_1 : decode cX8_likely 1 = .ok (.invokevirtual 203, 3) := by decide +kernel
theorem dX8_likely_4 : decode cX8_likely 4 = .ok (.istore_n 1, 1) := by decide +kernel
theorem dX8_likely_5 : decode cX8_likely 5 = .ok (.iload_n 1, 1) := by decide +kernel
theorem dX8_likely_6 : decode cX8_likely 6 = .ok (.ifCond .ne 6, 3) := by decide +kernel
theorem dX8_likely_9 : decode cX8_likely 9 = .ok (.ldc 202, 2) := by decide +kernel
theorem dX8_likely_11 : decode cX8_likely 11 = .ok (.ireturn, 1) := by decide +kernel
theorem dX8_likely_12 : decode cX8_likely 12 = .ok (.iload_n 1, 1) := by decide +kernel
theorem dX8_likely_13 : decode cX8_likely 13 = .ok (.iconst 1, 1) := by decide +kernel
theorem dX8_likely_14 : decode cX8_likely 14 = .ok (.isub, 1) := by decide +kernel
theorem dX8_likely_15 : decode cX8_likely 15 = .ok (.istore_n 2, 1) := by decide +kernel
theorem dX8_likely_16 : decode cX8_likely 16 = .ok (.iload_n 2, 1) := by decide +kernel
theorem dX8_likely_17 : decode cX8_likely 17 = .ok (.ifCond .lt 70, 3) := by decide +kernel
theorem dX8_likely_20 : decode cX8_likely 20 = .ok (.iconst 5, 1) := by decide +kernel
theorem dX8_likely_21 : decode cX8_likely 21 = .ok (.istore_n 3, 1) := by decide +kernel
theorem dX8_likely_22 : decode cX8_likely 22 = .ok (.iload_n 3, 1) := by decide +kernel
theorem dX8_likely_23 : decode cX8_likely 23 = .ok (.ifCond .lt 58, 3) := by decide +kernel
theorem dX8_likely_26 : decode cX8_likely 26 = .ok (.iconst 5, 1) := by decide +kernel
theorem dX8_likely_27 : decode cX8_likely 27 = .ok (.istore 4, 2) := by decide +kernel
theorem dX8_likely_29 : decode cX8_likely 29 = .ok (.iload 4, 2) := by decide +kernel
theorem dX8_likely_31 : decode cX8_likely 31 = .ok (.ifCond .lt 44, 3) := by decide +kernel
theorem dX8_likely_34 : decode cX8_likely 34 = .ok (.aload_n 0, 1) := by decide +kernel
theorem dX8_likely_35 : decode cX8_likely 35 = .ok (.getfield 37, 3) := by decide +kernel
theorem dX8_likely_38 : decode cX8_likely 38 = .ok (.bipush 36, 2) := by decide +kernel
theorem dX8_likely_40 : decode cX8_likely 40 = .ok (.iload_n 2, 1) := by decide +kernel
theorem dX8_likely_41 : decode cX8_likely 41 = .ok (.imul, 1) := by decide +kernel
theorem dX8_likely_42 : decode cX8_likely 42 = .ok (.bipush 6, 2) := by decide +kernel
theorem dX8_likely_44 : decode cX8_likely 44 = .ok (.iload_n 3, 1) := by decide +kernel
theorem dX8_likely_45 : decode cX8_likely 45 = .ok (.imul, 1) := by decide +kernel
theorem dX8_likely_46 : decode cX8_likely 46 = .ok (.iadd, 1) := by decide +kernel
theorem dX8_likely_47 : decode cX8_likely 47 = .ok (.iload 4, 2) := by decide +kernel
theorem dX8_likely_49 : decode cX8_likely 49 = .ok (.iadd, 1) := by decide +kernel
theorem dX8_likely_50 : decode cX8_likely 50 = .ok (.aload_n 0, 1) := by decide +kernel
theorem dX8_likely_51 : decode cX8_likely 51 = .ok (.iload_n 2, 1) := by decide +kernel
theorem dX8_likely_52 : decode cX8_likely 52 = .ok (.iload_n 1, 1) := by decide +kernel
theorem dX8_likely_53 : decode cX8_likely 53 = .ok (.iload 4, 2) := by decide +kernel
theorem dX8_likely_55 : decode cX8_likely 55 = .ok (.iload_n 3, 1) := by decide +kernel
theorem dX8_likely_56 : decode cX8_likely 56 = .ok (.iload_n 1, 1) := by decide +kernel
theorem dX8_likely_57 : decode cX8_likely 57 = .ok (.iconst 1, 1) := by decide +kernel
theorem dX8_likely_58 : decode cX8_likely 58 = .ok (.isub, 1) := by decide +kernel
theorem dX8_likely_59 : decode cX8_likely 59 = .ok (.iload_n 2, 1) := by decide +kernel
theorem dX8_likely_60 : decode cX8_likely 60 = .ok (.isub, 1) := by decide +kernel
theorem dX8_likely_61 : decode cX8_likely 61 = .ok (.aload_n 0, 1) := by decide +kernel
theorem dX8_likely_62 : decode cX8_likely 62 = .ok (.getfield 37, 3) := by decide +kernel
theorem dX8_likely_65 : decode cX8_likely 65 = .ok (.invokevirtual 206, 3) := by decide +kernel
theorem dX8_likely_68 : decode cX8_likely 68 = .ok (.iastore, 1) := by decide +kernel
theorem dX8_likely_69 : decode cX8_likely 69 = .ok (.iinc 4 (-1), 3) := by decide +kernel
theorem dX8_likely_72 : decode cX8_likely 72 = .ok (.goto (-43), 3) := by decide +kernel
theorem dX8_likely_75 : decode cX8_likely 75 = .ok (.iinc 3 (-1), 3) := by decide +kernel
theorem dX8_likely_78 : decode cX8_likely 78 = .ok (.goto (-56), 3) := by decide +kernel
theorem dX8_likely_81 : decode cX8_likely 81 = .ok (.iinc 2 (-1), 3) := by decide +kernel
theorem dX8_likely_84 : decode cX8_likely 84 = .ok (.goto (-68), 3) := by decide +kernel
theorem dX8_likely_87 : decode cX8_likely 87 = .ok (.aload_n 0, 1) := by decide +kernel
theorem dX8_likely_88 : decode cX8_likely 88 = .ok (.getfield 16, 3) := by decide +kernel
theorem dX8_likely_91 : decode cX8_likely 91 = .ok (.bipush 8, 2) := by decide +kernel
theorem dX8_likely_93 : decode cX8_likely 93 = .ok (.aload_n 0, 1) := by decide +kernel
theorem dX8_likely_94 : decode cX8_likely 94 = .ok (.getfield 34, 3) := by decide +kernel
theorem dX8_likely_97 : decode cX8_likely 97 = .ok (.iload_n 1, 1) := by decide +kernel
theorem dX8_likely_98 : decode cX8_likely 98 = .ok (.iconst 1, 1) := by decide +kernel
theorem dX8_likely_99 : decode cX8_likely 99 = .ok (.isub, 1) := by decide +kernel
theorem dX8_likely_100 : decode cX8_likely 100 = .ok (.iaload, 1) := by decide +kernel
theorem dX8_likely_101 : decode cX8_likely 101 = .ok (.iadd, 1) := by decide +kernel
theorem dX8_likely_102 : decode cX8_likely 102 = .ok (.iaload, 1) := by decide +kernel
theorem dX8_likely_103 : decode cX8_likely 103 = .ok (.iconst 2, 1) := by decide +kernel
theorem dX8_likely_104 : decode cX8_likely 104 = .ok (.isub, 1) := by decide +kernel
theorem dX8_likely_105 : decode cX8_likely 105 = .ok (.istore_n 2, 1) := by decide +kernel
theorem dX8_likely_106 : decode cX8_likely 106 = .ok (.iload_n 2, 1) := by decide +kernel
theorem dX8_likely_107 : decode cX8_likely 107 = .ok (.aload_n 0, 1) := by decide +kernel
theorem dX8_likely_108 : decode cX8_likely 108 = .ok (.getfield 16, 3) := by decide +kernel
theorem dX8_likely_111 : decode cX8_likely 111 = .ok (.iconst 0, 1) := by decide +kernel
theorem dX8_likely_112 : decode cX8_likely 112 = .ok (.iaload, 1) := by decide +kernel
theorem dX8_likely_113 : decode cX8_likely 113 = .ok (.if_icmp .lt 17, 3) := by decide +kernel
theorem dX8_likely_116 : decode cX8_likely 116 = .ok (.aload_n 0, 1) := by decide +kernel
theorem dX8_likely_117 : decode cX8_likely 117 = .ok (.iload_n 1, 1) := by decide +kernel
theorem dX8_likely_118 : decode cX8_likely 118 = .ok (.iload_n 2, 1) := by decide +kernel
theorem dX8_likely_119 : decode cX8_likely 119 = .ok (.iconst 1, 1) := by decide +kernel
theorem dX8_likely_120 : decode cX8_likely 120 = .ok (.iadd, 1) := by decide +kernel
theorem dX8_likely_121 : decode cX8_likely 121 = .ok (.invokevirtual 210, 3) := by decide +kernel
theorem dX8_likely_124 : decode cX8_likely 124 = .ok (.iinc 2 (-1), 3) := by decide +kernel
theorem dX8_likely_127 : decode cX8_likely 127 = .ok (.goto (-21), 3) := by decide +kernel
theorem dX8_likely_130 : decode cX8_likely 130 = .ok (.aload_n 0, 1) := by decide +kernel
theorem dX8_likely_131 : decode cX8_likely 131 = .ok (.getfield 37, 3) := by decide +kernel
theorem dX8_likely_134 : decode cX8_likely 134 = .ok (.bipush 6, 2) := by decide +kernel
theorem dX8_likely_136 : decode cX8_likely 136 = .ok (.aload_n 0, 1) := by decide +kernel
theorem dX8_likely_137 : decode cX8_likely 137 = .ok (.aload_n 0, 1) := by decide +kernel
theorem dX8_likely_138 : decode cX8_likely 138 = .ok (.getfield 34, 3) := by decide +kernel
theorem dX8_likely_141 : decode cX8_likely 141 = .ok (.iconst 0, 1) := by decide +kernel
theorem dX8_likely_142 : decode cX8_likely 142 = .ok (.iaload, 1) := by decide +kernel
theorem dX8_likely_143 : decode cX8_likely 143 = .ok (.invokevirtual 91, 3) := by decide +kernel
theorem dX8_likely_146 : decode cX8_likely 146 = .ok (.imul, 1) := by decide +kernel
theorem dX8_likely_147 : decode cX8_likely 147 = .ok (.aload_n 0, 1) := by decide +kernel
theorem dX8_likely_148 : decode cX8_likely 148 = .ok (.iconst 0, 1) := by decide +kernel
theorem dX8_likely_149 : decode cX8_likely 149 = .ok (.invokevirtual 91, 3) := by decide +kernel
theorem dX8_likely_152 : decode cX8_likely 152 = .ok (.iadd, 1) := by decide +kernel
theorem dX8_likely_153 : decode cX8_likely 153 = .ok (.iaload, 1) := by decide +kernel
theorem dX8_likely_154 : decode cX8_likely 154 = .ok (.ireturn, 1) := by decide +kernel
theorem dX8_aheadOf_0 : decode cX8_aheadOf 0 = .ok (.iconst 0, 1) := by decide +kernel
theorem dX8_aheadOf_1 : decode cX8_aheadOf 1 = .ok (.istore_n 3, 1) := by decide +kernel
theorem dX8_aheadOf_2 : decode cX8_aheadOf 2 = .ok (.iload_n 3, 1) := by decide +kernel
theorem dX8_aheadOf_3 : decode cX8_aheadOf 3 = .ok (.iload_n 1, 1) := by decide +kernel
theorem dX8_aheadOf_4 : decode cX8_aheadOf 4 = .ok (.if_icmp .ge 156, 3) := by decide +kernel
theorem dX8_aheadOf_7 : decode cX8_aheadOf 7 = .ok (.iconst 0, 1) := by decide +kernel
theorem dX8_aheadOf_8 : decode cX8_aheadOf 8 = .ok (.istore 4, 2) := by decide +kernel
theorem dX8_aheadOf_10 : decode cX8_aheadOf 10 = .ok (.iload_n 3, 1) := by decide +kernel
theorem dX8_aheadOf_11 : decode cX8_aheadOf 11 = .ok (.iconst 1, 1) := by decide +kernel
theorem dX8_aheadOf_12 : decode cX8_aheadOf 12 = .ok (.iadd, 1) := by decide +kernel
theorem dX8_aheadOf_13 : decode cX8_aheadOf 13 = .ok (.istore 5, 2) := by decide +kernel
theorem dX8_aheadOf_15 : decode cX8_aheadOf 15 = .ok (.iload 5, 2) := by decide +kernel
theorem dX8_aheadOf_17 : decode cX8_aheadOf 17 = .ok (.iload_n 1, 1) := by decide +kernel
theorem dX8_aheadOf_18 : decode cX8_aheadOf 18 = .ok (.if_icmp .ge 38, 3) := by decide +kernel
theorem dX8_aheadOf_21 : decode cX8_aheadOf 21 = .ok (.iload 4, 2) := by decide +kernel
theorem dX8_aheadOf_23 : decode cX8_aheadOf 23 = .ok (.aload_n 0, 1) := by decide +kernel
theorem dX8_aheadOf_24 : decode cX8_aheadOf 24 = .ok (.getfield 16, 3) := by decide +kernel
theorem dX8_aheadOf_27 : decode cX8_aheadOf 27 = .ok (.bipush 8, 2) := by decide +kernel
theorem dX8_aheadOf_29 : decode cX8_aheadOf 29 = .ok (.aload_n 0, 1) := by decide +kernel
theorem dX8_aheadOf_30 : decode cX8_aheadOf 30 = .ok (.getfield 34, 3) := by decide +kernel
theorem dX8_aheadOf_33 : decode cX8_aheadOf 33 = .ok (.iload 5, 2) := by decide +kernel
theorem dX8_aheadOf_35 : decode cX8_aheadOf 35 = .ok (.iaload, 1) := by decide +kernel
theorem dX8_aheadOf_36 : decode cX8_aheadOf 36 = .ok (.iadd, 1) := by decide +kernel
theorem dX8_aheadOf_37 : decode cX8_aheadOf 37 = .ok (.iaload, 1) := by decide +kernel
theorem dX8_aheadOf_38 : decode cX8_aheadOf 38 = .ok (.iload_n 2, 1) := by decide +kernel
theorem dX8_aheadOf_39 : decode cX8_aheadOf 39 = .ok (.if_icmp .gt 7, 3) := by decide +kernel
theorem dX8_aheadOf_42 : decode cX8_aheadOf 42 = .ok (.iconst 1, 1) := by decide +kernel
theorem dX8_aheadOf_43 : decode cX8_aheadOf 43 = .ok (.goto 4, 3) := by decide +kernel
theorem dX8_aheadOf_46 : decode cX8_aheadOf 46 = .ok (.iconst 0, 1) := by decide +kernel
theorem dX8_aheadOf_47 : decode cX8_aheadOf 47 = .ok (.iadd, 1) := by decide +kernel
theorem dX8_aheadOf_48 : decode cX8_aheadOf 48 = .ok (.istore 4, 2) := by decide +kernel
theorem dX8_aheadOf_50 : decode cX8_aheadOf 50 = .ok (.iinc 5 1, 3) := by decide +kernel
theorem dX8_aheadOf_53 : decode cX8_aheadOf 53 = .ok (.goto (-38), 3) := by decide +kernel
theorem dX8_aheadOf_56 : decode cX8_aheadOf 56 = .ok (.iconst 0, 1) := by decide +kernel
theorem dX8_aheadOf_57 : decode cX8_aheadOf 57 = .ok (.istore 5, 2) := by decide +kernel
theorem dX8_aheadOf_59 : decode cX8_aheadOf 59 = .ok (.iload 5, 2) := by decide +kernel
theorem dX8_aheadOf_61 : decode cX8_aheadOf 61 = .ok (.bipush 6, 2) := by decide +kernel
theorem dX8_aheadOf_63 : decode cX8_aheadOf 63 = .ok (.if_icmp .ge 91, 3) := by decide +kernel
theorem dX8_aheadOf_66 : decode cX8_aheadOf 66 = .ok (.iconst 0, 1) := by decide +kernel
theorem dX8_aheadOf_67 : decode cX8_aheadOf 67 = .ok (.istore 6, 2) := by decide +kernel
theorem dX8_aheadOf_69 : decode cX8_aheadOf 69 = .ok (.iload 6, 2) := by decide +kernel
theorem dX8_aheadOf_71 : decode cX8_aheadOf 71 = .ok (.bipush 6, 2) := by decide +kernel
theorem dX8_aheadOf_73 : decode cX8_aheadOf 73 = .ok (.if_icmp .ge 75, 3) := by decide +kernel
theorem dX8_aheadOf_76 : decode cX8_aheadOf 76 = .ok (.bipush 36, 2) := by decide +kernel
theorem dX8_aheadOf_78 : decode cX8_aheadOf 78 = .ok (.iload_n 3, 1) := by decide +kernel
theorem dX8_aheadOf_79 : decode cX8_aheadOf 79 = .ok (.imul, 1) := by decide +kernel
theorem dX8_aheadOf_80 : decode cX8_aheadOf 80 = .ok (.bipush 6, 2) := by decide +kernel
theorem dX8_aheadOf_82 : decode cX8_aheadOf 82 = .ok (.iload 5, 2) := by decide +kernel
theorem dX8_aheadOf_84 : decode cX8_aheadOf 84 = .ok (.imul, 1) := by decide +kernel
theorem dX8_aheadOf_85 : decode cX8_aheadOf 85 = .ok (.iadd, 1) := by decide +kernel
theorem dX8_aheadOf_86 : decode cX8_aheadOf 86 = .ok (.iload 6, 2) := by decide +kernel
theorem dX8_aheadOf_88 : decode cX8_aheadOf 88 = .ok (.iadd, 1) := by decide +kernel
theorem dX8_aheadOf_89 : decode cX8_aheadOf 89 = .ok (.istore 7, 2) := by decide +kernel
theorem dX8_aheadOf_91 : decode cX8_aheadOf 91 = .ok (.aload_n 0, 1) := by decide +kernel
theorem dX8_aheadOf_92 : decode cX8_aheadOf 92 = .ok (.getfield 40, 3) := by decide +kernel
theorem dX8_aheadOf_95 : decode cX8_aheadOf 95 = .ok (.iload 7, 2) := by decide +kernel
theorem dX8_aheadOf_97 : decode cX8_aheadOf 97 = .ok (.aload_n 0, 1) := by decide +kernel
theorem dX8_aheadOf_98 : decode cX8_aheadOf 98 = .ok (.getfield 16, 3) := by decide +kernel
theorem dX8_aheadOf_101 : decode cX8_aheadOf 101 = .ok (.bipush 8, 2) := by decide +kernel
theorem dX8_aheadOf_103 : decode cX8_aheadOf 103 = .ok (.aload_n 0, 1) := by decide +kernel
theorem dX8_aheadOf_104 : decode cX8_aheadOf 104 = .ok (.getfield 34, 3) := by decide +kernel
theorem dX8_aheadOf_107 : decode cX8_aheadOf 107 = .ok (.iload_n 3, 1) := by decide +kernel
theorem dX8_aheadOf_108 : decode cX8_aheadOf 108 = .ok (.iaload, 1) := by decide +kernel
theorem dX8_aheadOf_109 : decode cX8_aheadOf 109 = .ok (.iadd, 1) := by decide +kernel
theorem dX8_aheadOf_110 : decode cX8_aheadOf 110 = .ok (.iaload, 1) := by decide +kernel
theorem dX8_aheadOf_111 : decode cX8_aheadOf 111 = .ok (.iload_n 2, 1) := by decide +kernel
theorem dX8_aheadOf_112 : decode cX8_aheadOf 112 = .ok (.if_icmp .le 13, 3) := by decide +kernel
theorem dX8_aheadOf_115 : decode cX8_aheadOf 115 = .ok (.aload_n 0, 1) := by decide +kernel
theorem dX8_aheadOf_116 : decode cX8_aheadOf 116 = .ok (.getfield 37, 3) := by decide +kernel
theorem dX8_aheadOf_119 : decode cX8_aheadOf 119 = .ok (.iload 7, 2) := by decide +kernel
theorem dX8_aheadOf_121 : decode cX8_aheadOf 121 = .ok (.iaload, 1) := by decide +kernel
theorem dX8_aheadOf_122 : decode cX8_aheadOf 122 = .ok (.goto 19, 3) := by decide +kernel
theorem dX8_aheadOf_125 : decode cX8_aheadOf 125 = .ok (.aload_n 0, 1) := by decide +kernel
theorem dX8_aheadOf_126 : decode cX8_aheadOf 126 = .ok (.iload_n 3, 1) := by decide +kernel
theorem dX8_aheadOf_127 : decode cX8_aheadOf 127 = .ok (.iload_n 1, 1) := by decide +kernel
theorem dX8_aheadOf_128 : decode cX8_aheadOf 128 = .ok (.iload 6, 2) := by decide +kernel
theorem dX8_aheadOf_130 : decode cX8_aheadOf 130 = .ok (.iload 5, 2) := by decide +kernel
theorem dX8_aheadOf_132 : decode cX8_aheadOf 132 = .ok (.iload 4, 2) := by decide +kernel
theorem dX8_aheadOf_134 : decode cX8_aheadOf 134 = .ok (.aload_n 0, 1) := by decide +kernel
theorem dX8_aheadOf_135 : decode cX8_aheadOf 135 = .ok (.getfield 37, 3) := by decide +kernel
theorem dX8_aheadOf_138 : decode cX8_aheadOf 138 = .ok (.invokevirtual 206, 3) := by decide +kernel
theorem dX8_aheadOf_141 : decode cX8_aheadOf 141 = .ok (.iastore, 1) := by decide +kernel
theorem dX8_aheadOf_142 : decode cX8_aheadOf 142 = .ok (.iinc 6 1, 3) := by decide +kernel
theorem dX8_aheadOf_145 : decode cX8_aheadOf 145 = .ok (.goto (-76), 3) := by decide +kernel
theorem dX8_aheadOf_148 : decode cX8_aheadOf 148 = .ok (.iinc 5 1, 3) := by decide +kernel
theorem dX8_aheadOf_151 : decode cX8_aheadOf 151 = .ok (.goto (-92), 3) := by decide +kernel
theorem dX8_aheadOf_154 : decode cX8_aheadOf 154 = .ok (.iinc 3 1, 3) := by decide +kernel
theorem dX8_aheadOf_157 : decode cX8_aheadOf 157 = .ok (.goto (-155), 3) := by decide +kernel
theorem dX8_aheadOf_160 : decode cX8_aheadOf 160 = .ok (.iconst 0, 1) := by decide +kernel
theorem dX8_aheadOf_161 : decode cX8_aheadOf 161 = .ok (.istore_n 3, 1) := by decide +kernel
theorem dX8_aheadOf_162 : decode cX8_aheadOf 162 = .ok (.iload_n 3, 1) := by decide +kernel
theorem dX8_aheadOf_163 : decode cX8_aheadOf 163 = .ok (.bipush 36, 2) := by decide +kernel
theorem dX8_aheadOf_165 : decode cX8_aheadOf 165 = .ok (.iload_n 1, 1) := by decide +kernel
theorem dX8_aheadOf_166 : decode cX8_aheadOf 166 = .ok (.imul, 1) := by decide +kernel
theorem dX8_aheadOf_167 : decode cX8_aheadOf 167 = .ok (.if_icmp .ge 21, 3) := by decide +kernel
theorem dX8_aheadOf_170 : decode cX8_aheadOf 170 = .ok (.aload_n 0, 1) := by decide +kernel
theorem dX8_aheadOf_171 : decode cX8_aheadOf 171 = .ok (.getfield 37, 3) := by decide +kernel
theorem dX8_aheadOf_174 : decode cX8_aheadOf 174 = .ok (.iload_n 3, 1) := by decide +kernel
theorem dX8_aheadOf_175 : decode cX8_aheadOf 175 = .ok (.aload_n 0, 1) := by decide +kernel
theorem dX8_aheadOf_176 : decode cX8_aheadOf 176 = .ok (.getfield 40, 3) := by decide +kernel
theorem dX8_aheadOf_179 : decode cX8_aheadOf 179 = .ok (.iload_n 3, 1) := by decide +kernel
theorem dX8_aheadOf_180 : decode cX8_aheadOf 180 = .ok (.iaload, 1) := by decide +kernel
theorem dX8_aheadOf_181 : decode cX8_aheadOf 181 = .ok (.iastore, 1) := by decide +kernel
theorem dX8_aheadOf_182 : decode cX8_aheadOf 182 = .ok (.iinc 3 1, 3) := by decide +kernel
theorem dX8_aheadOf_185 : decode cX8_aheadOf 185 = .ok (.goto (-23), 3) := by decide +kernel
theorem dX8_aheadOf_188 : decode cX8_aheadOf 188 = .ok (.return_, 1) := by decide +kernel
theorem dX8_reaches_0 : decode cX8_reaches 0 = .ok (.aload_n 0, 1) := by decide +kernel
theorem dX8_reaches_1 : decode cX8_reaches 1 = .ok (.invokevirtual 80, 3) := by decide +kernel
theorem dX8_reaches_4 : decode cX8_reaches 4 = .ok (.ifCond .ne 49, 3) := by decide +kernel
theorem dX8_reaches_7 : decode cX8_reaches 7 = .ok (.aload_n 0, 1) := by decide +kernel
theorem dX8_reaches_8 : decode cX8_reaches 8 = .ok (.getfield 16, 3) := by decide +kernel
theorem dX8_reaches_11 : decode cX8_reaches 11 = .ok (.iconst 0, 1) := by decide +kernel
theorem dX8_reaches_12 : decode cX8_reaches 12 = .ok (.iaload, 1) := by decide +kernel
theorem dX8_reaches_13 : decode cX8_reaches 13 = .ok (.iload_n 1, 1) := by decide +kernel
theorem dX8_reaches_14 : decode cX8_reaches 14 = .ok (.if_icmp .ge 39, 3) := by decide +kernel
theorem dX8_reaches_17 : decode cX8_reaches 17 = .ok (.aload_n 0, 1) := by decide +kernel
theorem dX8_reaches_18 : decode cX8_reaches 18 = .ok (.getfield 16, 3) := by decide +kernel
theorem dX8_reaches_21 : decode cX8_reaches 21 = .ok (.iconst 0, 1) := by decide +kernel
theorem dX8_reaches_22 : decode cX8_reaches 22 = .ok (.dup2, 1) := by decide +kernel
theorem dX8_reaches_23 : decode cX8_reaches 23 = .ok (.iaload, 1) := by decide +kernel
theorem dX8_reaches_24 : decode cX8_reaches 24 = .ok (.iconst 1, 1) := by decide +kernel
theorem dX8_reaches_25 : decode cX8_reaches 25 = .ok (.iadd, 1) := by decide +kernel
theorem dX8_reaches_26 : decode cX8_reaches 26 = .ok (.iastore, 1) := by decide +kernel
theorem dX8_reaches_27 : decode cX8_reaches 27 = .ok (.aload_n 0, 1) := by decide +kernel
theorem dX8_reaches_28 : decode cX8_reaches 28 = .ok (.aload_n 0, 1) := by decide +kernel
theorem dX8_reaches_29 : decode cX8_reaches 29 = .ok (.getfield 16, 3) := by decide +kernel
theorem dX8_reaches_32 : decode cX8_reaches 32 = .ok (.iconst 0, 1) := by decide +kernel
theorem dX8_reaches_33 : decode cX8_reaches 33 = .ok (.iaload, 1) := by decide +kernel
theorem dX8_reaches_34 : decode cX8_reaches 34 = .ok (.invokevirtual 195, 3) := by decide +kernel
theorem dX8_reaches_37 : decode cX8_reaches 37 = .ok (.ifCond .eq (-37), 3) := by decide +kernel
theorem dX8_reaches_40 : decode cX8_reaches 40 = .ok (.aload_n 0, 1) := by decide +kernel
theorem dX8_reaches_41 : decode cX8_reaches 41 = .ok (.aload_n 0, 1) := by decide +kernel
theorem dX8_reaches_42 : decode cX8_reaches 42 = .ok (.getfield 16, 3) := by decide +kernel
theorem dX8_reaches_45 : decode cX8_reaches 45 = .ok (.iconst 0, 1) := by decide +kernel
theorem dX8_reaches_46 : decode cX8_reaches 46 = .ok (.iaload, 1) := by decide +kernel
theorem dX8_reaches_47 : decode cX8_reaches 47 = .ok (.invokevirtual 198, 3) := by decide +kernel
theorem dX8_reaches_50 : decode cX8_reaches 50 = .ok (.goto (-50), 3) := by decide +kernel
theorem dX8_reaches_53 : decode cX8_reaches 53 = .ok (.aload_n 0, 1) := by decide +kernel
theorem dX8_reaches_54 : decode cX8_reaches 54 = .ok (.invokevirtual 80, 3) := by decide +kernel
theorem dX8_reaches_57 : decode cX8_reaches 57 = .ok (.ifCond .ne 13, 3) := by decide +kernel
theorem dX8_reaches_60 : decode cX8_reaches 60 = .ok (.aload_n 0, 1) := by decide +kernel
theorem dX8_reaches_61 : decode cX8_reaches 61 = .ok (.aload_n 0, 1) := by decide +kernel
theorem dX8_reaches_62 : decode cX8_reaches 62 = .ok (.getfield 16, 3) := by decide +kernel
theorem dX8_reaches_65 : decode cX8_reaches 65 = .ok (.iconst 0, 1) := by decide +kernel
theorem dX8_reaches_66 : decode cX8_reaches 66 = .ok (.iaload, 1) := by decide +kernel
theorem dX8_reaches_67 : decode cX8_reaches 67 = .ok (.invokevirtual 198, 3) := by decide +kernel
theorem dX8_reaches_70 : decode cX8_reaches 70 = .ok (.return_, 1) := by decide +kernel
theorem dX8_likelyBy_0 : decode cX8_likelyBy 0 = .ok (.aload_n 0, 1) := by decide +kernel
theorem dX8_likelyBy_1 : decode cX8_likelyBy 1 = .ok (.iload_n 1, 1) := by decide +kernel
theorem dX8_likelyBy_2 : decode cX8_likelyBy 2 = .ok (.invokevirtual 214, 3) := by decide +kernel
theorem dX8_likelyBy_5 : decode cX8_likelyBy 5 = .ok (.aload_n 0, 1) := by decide +kernel
theorem dX8_likelyBy_6 : decode cX8_likelyBy 6 = .ok (.invokevirtual 217, 3) := by decide +kernel
theorem dX8_likelyBy_9 : decode cX8_likelyBy 9 = .ok (.ireturn, 1) := by decide +kernel
theorem dX8_chance_0 : decode cX8_chance 0 = .ok (.iload_n 1, 1) := by decide +kernel
theorem dX8_chance_1 : decode cX8_chance 1 = .ok (.i2l, 1) := by decide +kernel
theorem dX8_chance_2 : decode cX8_chance 2 = .ok (.lconst 0, 1) := by decide +kernel
theorem dX8_chance_3 : decode cX8_chance 3 = .ok (.ldc2_w 134, 3) := by decide +kernel
theorem dX8_chance_6 : decode cX8_chance 6 = .ok (.invokestatic 69, 3) := by decide +kernel
theorem dX8_chance_9 : decode cX8_chance 9 = .ok (.ifCond .ne 5, 3) := by decide +kernel
theorem dX8_chance_12 : decode cX8_chance 12 = .ok (.iconst (-1), 1) := by decide +kernel
theorem dX8_chance_13 : decode cX8_chance 13 = .ok (.ireturn, 1) := by decide +kernel
theorem dX8_chance_14 : decode cX8_chance 14 = .ok (.aload_n 0, 1) := by decide +kernel
theorem dX8_chance_15 : decode cX8_chance 15 = .ok (.invokevirtual 174, 3) := by decide +kernel
theorem dX8_chance_18 : decode cX8_chance 18 = .ok (.ifCond .eq 8, 3) := by decide +kernel
theorem dX8_chance_21 : decode cX8_chance 21 = .ok (.bipush (-2), 2) := by decide +kernel
theorem dX8_chance_23 : decode cX8_chance 23 = .ok (.goto 8, 3) := by decide +kernel
theorem dX8_chance_26 : decode cX8_chance 26 = .ok (.aload_n 0, 1) := by decide +kernel
theorem dX8_chance_27 : decode cX8_chance 27 = .ok (.iload_n 1, 1) := by decide +kernel
theorem dX8_chance_28 : decode cX8_chance 28 = .ok (.invokevirtual 220, 3) := by decide +kernel
theorem dX8_chance_31 : decode cX8_chance 31 = .ok (.ireturn, 1) := by decide +kernel
theorem dX8_chanceOf_0 : decode cX8_chanceOf 0 = .ok (.aload_n 0, 1) := by decide +kernel
theorem dX8_chanceOf_1 : decode cX8_chanceOf 1 = .ok (.invokevirtual 223, 3) := by decide +kernel
theorem dX8_chanceOf_4 : decode cX8_chanceOf 4 = .ok (.aload_n 0, 1) := by decide +kernel
theorem dX8_chanceOf_5 : decode cX8_chanceOf 5 = .ok (.iload_n 1, 1) := by decide +kernel
theorem dX8_chanceOf_6 : decode cX8_chanceOf 6 = .ok (.invokevirtual 226, 3) := by decide +kernel
theorem dX8_chanceOf_9 : decode cX8_chanceOf 9 = .ok (.istore_n 2, 1) := by decide +kernel
theorem dX8_chanceOf_10 : decode cX8_chanceOf 10 = .ok (.aload_n 0, 1) := by decide +kernel
theorem dX8_chanceOf_11 : decode cX8_chanceOf 11 = .ok (.invokevirtual 229, 3) := by decide +kernel
theorem dX8_chanceOf_14 : decode cX8_chanceOf 14 = .ok (.iload_n 2, 1) := by decide +kernel
theorem dX8_chanceOf_15 : decode cX8_chanceOf 15 = .ok (.ireturn, 1) := by decide +kernel
theorem dX8_looks_0 : decode cX8_looks 0 = .ok (.aload_n 0, 1) := by decide +kernel
theorem dX8_looks_1 : decode cX8_looks 1 = .ok (.invokevirtual 223, 3) := by decide +kernel
theorem dX8_looks_4 : decode cX8_looks 4 = .ok (.aload_n 0, 1) := by decide +kernel
theorem dX8_looks_5 : decode cX8_looks 5 = .ok (.iconst (-1), 1) := by decide +kernel
theorem dX8_looks_6 : decode cX8_looks 6 = .ok (.putfield 232, 3) := by decide +kernel
theorem dX8_looks_9 : decode cX8_looks 9 = .ok (.iconst 0, 1) := by decide +kernel
theorem dX8_looks_10 : decode cX8_looks 10 = .ok (.istore_n 1, 1) := by decide +kernel
theorem dX8_looks_11 : decode cX8_looks 11 = .ok (.iconst 0, 1) := by decide +kernel
theorem dX8_looks_12 : decode cX8_looks 12 = .ok (.istore_n 2, 1) := by decide +kernel
theorem dX8_looks_13 : decode cX8_looks 13 = .ok (.iload_n 2, 1) := by decide +kernel
theorem dX8_looks_14 : decode cX8_looks 14 = .ok (.bipush 61, 2) := by decide +kernel
theorem dX8_looks_16 : decode cX8_looks 16 = .ok (.if_icmp .ge 135, 3) := by decide +kernel
theorem dX8_looks_19 : decode cX8_looks 19 = .ok (.iload_n 2, 1) := by decide +kernel
theorem dX8_looks_20 : decode cX8_looks 20 = .ok (.ifCond .le 14, 3) := by decide +kernel
theorem dX8_looks_23 : decode cX8_looks 23 = .ok (.aload_n 0, 1) := by decide +kernel
theorem dX8_looks_24 : decode cX8_looks 24 = .ok (.getfield 43, 3) := by decide +kernel
theorem dX8_looks_27 : decode cX8_looks 27 = .ok (.iload_n 2, 1) := by decide +kernel
theorem dX8_looks_28 : decode cX8_looks 28 = .ok (.iconst 1, 1) := by decide +kernel
theorem dX8_looks_29 : decode cX8_looks 29 = .ok (.isub, 1) := by decide +kernel
theorem dX8_looks_30 : decode cX8_looks 30 = .ok (.iaload, 1) := by decide +kernel
theorem dX8_looks_31 : decode cX8_looks 31 = .ok (.goto 4, 3) := by decide +kernel
theorem dX8_looks_34 : decode cX8_looks 34 = .ok (.iconst 0, 1) := by decide +kernel
theorem dX8_looks_35 : decode cX8_looks 35 = .ok (.istore_n 3, 1) := by decide +kernel
theorem dX8_looks_36 : decode cX8_looks 36 = .ok (.iload_n 1, 1) := by decide +kernel
theorem dX8_looks_37 : decode cX8_looks 37 = .ok (.ifCond .ne 54, 3) := by decide +kernel
theorem dX8_looks_40 : decode cX8_looks 40 = .ok (.aload_n 0, 1) := by decide +kernel
theorem dX8_looks_41 : decode cX8_looks 41 = .ok (.getfield 31, 3) := by decide +kernel
theorem dX8_looks_44 : decode cX8_looks 44 = .ok (.iconst 0, 1) := by decide +kernel
theorem dX8_looks_45 : decode cX8_looks 45 = .ok (.iaload, 1) := by decide +kernel
theorem dX8_looks_46 : decode cX8_looks 46 = .ok (.iload_n 2, 1) := by decide +kernel
theorem dX8_looks_47 : decode cX8_looks 47 = .ok (.iadd, 1) := by decide +kernel
theorem dX8_looks_48 : decode cX8_looks 48 = .ok (.istore 4, 2) := by decide +kernel
theorem dX8_looks_50 : decode cX8_looks 50 = .ok (.aload_n 0, 1) := by decide +kernel
theorem dX8_looks_51 : decode cX8_looks 51 = .ok (.iload 4, 2) := by decide +kernel
theorem dX8_looks_53 : decode cX8_looks 53 = .ok (.invokevirtual 226, 3) := by decide +kernel
theorem dX8_looks_56 : decode cX8_looks 56 = .ok (.istore_n 3, 1) := by decide +kernel
theorem dX8_looks_57 : decode cX8_looks 57 = .ok (.iload_n 2, 1) := by decide +kernel
theorem dX8_looks_58 : decode cX8_looks 58 = .ok (.ifCond .le 27, 3) := by decide +kernel
theorem dX8_looks_61 : decode cX8_looks 61 = .ok (.aload_n 0, 1) := by decide +kernel
theorem dX8_looks_62 : decode cX8_looks 62 = .ok (.getfield 16, 3) := by decide +kernel
theorem dX8_looks_65 : decode cX8_looks 65 = .ok (.iconst 0, 1) := by decide +kernel
theorem dX8_looks_66 : decode cX8_looks 66 = .ok (.iaload, 1) := by decide +kernel
theorem dX8_looks_67 : decode cX8_looks 67 = .ok (.iload 4, 2) := by decide +kernel
theorem dX8_looks_69 : decode cX8_looks 69 = .ok (.if_icmp .lt 12, 3) := by decide +kernel
theorem dX8_looks_72 : decode cX8_looks 72 = .ok (.aload_n 0, 1) := by decide +kernel
theorem dX8_looks_73 : decode cX8_looks 73 = .ok (.iload 4, 2) := by decide +kernel
theorem dX8_looks_75 : decode cX8_looks 75 = .ok (.invokevirtual 235, 3) := by decide +kernel
theorem dX8_looks_78 : decode cX8_looks 78 = .ok (.ifCond .eq 7, 3) := by decide +kernel
theorem dX8_looks_81 : decode cX8_looks 81 = .ok (.iconst 1, 1) := by decide +kernel
theorem dX8_looks_82 : decode cX8_looks 82 = .ok (.goto 4, 3) := by decide +kernel
theorem dX8_looks_85 : decode cX8_looks 85 = .ok (.iconst 0, 1) := by decide +kernel
theorem dX8_looks_86 : decode cX8_looks 86 = .ok (.istore_n 1, 1) := by decide +kernel
theorem dX8_looks_87 : decode cX8_looks 87 = .ok (.aload_n 0, 1) := by decide +kernel
theorem dX8_looks_88 : decode cX8_looks 88 = .ok (.invokevirtual 229, 3) := by decide +kernel
theorem dX8_looks_91 : decode cX8_looks 91 = .ok (.aload_n 0, 1) := by decide +kernel
theorem dX8_looks_92 : decode cX8_looks 92 = .ok (.getfield 43, 3) := by decide +kernel
theorem dX8_looks_95 : decode cX8_looks 95 = .ok (.iload_n 2, 1) := by decide +kernel
theorem dX8_looks_96 : decode cX8_looks 96 = .ok (.iload_n 3, 1) := by decide +kernel
theorem dX8_looks_97 : decode cX8_looks 97 = .ok (.iastore, 1) := by decide +kernel
theorem dX8_looks_98 : decode cX8_looks 98 = .ok (.aload_n 0, 1) := by decide +kernel
theorem dX8_looks_99 : decode cX8_looks 99 = .ok (.iload_n 3, 1) := by decide +kernel
theorem dX8_looks_100 : decode cX8_looks 100 = .ok (.aload_n 0, 1) := by decide +kernel
theorem dX8_looks_101 : decode cX8_looks 101 = .ok (.getfield 232, 3) := by decide +kernel
theorem dX8_looks_104 : decode cX8_looks 104 = .ok (.if_icmp .le 14, 3) := by decide +kernel
theorem dX8_looks_107 : decode cX8_looks 107 = .ok (.aload_n 0, 1) := by decide +kernel
theorem dX8_looks_108 : decode cX8_looks 108 = .ok (.getfield 31, 3) := by decide +kernel
theorem dX8_looks_111 : decode cX8_looks 111 = .ok (.iconst 0, 1) := by decide +kernel
theorem dX8_looks_112 : decode cX8_looks 112 = .ok (.iaload, 1) := by decide +kernel
theorem dX8_looks_113 : decode cX8_looks 113 = .ok (.iload_n 2, 1) := by decide +kernel
theorem dX8_looks_114 : decode cX8_looks 114 = .ok (.iadd, 1) := by decide +kernel
theorem dX8_looks_115 : decode cX8_looks 115 = .ok (.goto 7, 3) := by decide +kernel
theorem dX8_looks_118 : decode cX8_looks 118 = .ok (.aload_n 0, 1) := by decide +kernel
theorem dX8_looks_119 : decode cX8_looks 119 = .ok (.getfield 238, 3) := by decide +kernel
theorem dX8_looks_122 : decode cX8_looks 122 = .ok (.putfield 238, 3) := by decide +kernel
theorem dX8_looks_125 : decode cX8_looks 125 = .ok (.aload_n 0, 1) := by decide +kernel
