/-! indexOf of a String constant: words, rows, walks -/
theorem wJ_nJ0 : Cond.initialized RJ0 ∈ gT := gT_t (i := 11) (by decide +kernel) rfl
theorem wJ_nJ1 : Cond.initialized RJ1 ∈ gT := gT_t (i := 12) (by decide +kernel) rfl
theorem wJ_m62_X1 : Cond.methodLink RX1 62 yJ0_indexOf_0f7a4 ∈ gT := gT_t (i := 392) (by decide +kernel) rfl
theorem wJ_i_J0_indexOf_0f7a4 : Cond.instanceMethod yJ0_indexOf_0f7a4 ∈ gT := gT_t (i := 393) (by decide +kernel) rfl
theorem wJ_s_J0_indexOf_0f7a4 : Cond.selects RJ0 yJ0_indexOf_0f7a4 yJ0_indexOf_0f7a4 ∈ gT := gT_t (i := 394) (by decide +kernel) rfl
theorem wJ_c_J0_indexOf_0f7a4 : Cond.code yJ0_indexOf_0f7a4 cJ0_indexOf_0f7a4 2 (some .int) ∈ gT := gT_t (i := 395) (by decide +kernel) rfl
theorem wJ_m633_J0 : Cond.methodLink RJ0 633 yJ0_indexOf_7cf53 ∈ gT := gT_t (i := 396) (by decide +kernel) rfl
theorem wJ_i_J0_indexOf_7cf53 : Cond.instanceMethod yJ0_indexOf_7cf53 ∈ gT := gT_t (i := 397) (by decide +kernel) rfl
theorem wJ_s_J0_indexOf_7cf53 : Cond.selects RJ0 yJ0_indexOf_7cf53 yJ0_indexOf_7cf53 ∈ gT := gT_t (i := 398) (by decide +kernel) rfl
theorem wJ_c_J0_indexOf_7cf53 : Cond.code yJ0_indexOf_7cf53 cJ0_indexOf_7cf53 3 (some .int) ∈ gT := gT_t (i := 399) (by decide +kernel) rfl
theorem wJ_m492_J0 : Cond.methodLink RJ0 492 yJ0_isLatin1_aae02 ∈ gT := gT_t (i := 400) (by decide +kernel) rfl
theorem wJ_i_J0_isLatin1_aae02 : Cond.instanceMethod yJ0_isLatin1_aae02 ∈ gT := gT_t (i := 401) (by decide +kernel) rfl
theorem wJ_s_J0_isLatin1_aae02 : Cond.selects RJ0 yJ0_isLatin1_aae02 yJ0_isLatin1_aae02 ∈ gT := gT_t (i := 402) (by decide +kernel) rfl
theorem wJ_c_J0_isLatin1_aae02 : Cond.code yJ0_isLatin1_aae02 cJ0_isLatin1_aae02 1 (some .boolean) ∈ gT := gT_t (i := 403) (by decide +kernel) rfl
theorem wJ_f38 : Cond.fieldLink RJ0 38 "java/lang/String" "COMPACT_STRINGS" "Z" ∈ gT := gT_t (i := 404) (by decide +kernel) rfl
theorem wJ_m505_J0 : Cond.methodLink RJ0 505 yJ0_length_8abf5 ∈ gT := gT_t (i := 406) (by decide +kernel) rfl
theorem wJ_i_J0_length_8abf5 : Cond.instanceMethod yJ0_length_8abf5 ∈ gT := gT_t (i := 407) (by decide +kernel) rfl
theorem wJ_s_J0_length_8abf5 : Cond.selects RJ0 yJ0_length_8abf5 yJ0_length_8abf5 ∈ gT := gT_t (i := 408) (by decide +kernel) rfl
theorem wJ_c_J0_length_8abf5 : Cond.code yJ0_length_8abf5 cJ0_length_8abf5 1 (some .int) ∈ gT := gT_t (i := 409) (by decide +kernel) rfl
theorem wJ_m335_J0 : Cond.methodLink RJ0 335 yJ0_coder_7d493 ∈ gT := gT_t (i := 410) (by decide +kernel) rfl
theorem wJ_i_J0_coder_7d493 : Cond.instanceMethod yJ0_coder_7d493 ∈ gT := gT_t (i := 411) (by decide +kernel) rfl
theorem wJ_s_J0_coder_7d493 : Cond.selects RJ0 yJ0_coder_7d493 yJ0_coder_7d493 ∈ gT := gT_t (i := 412) (by decide +kernel) rfl
theorem wJ_c_J0_coder_7d493 : Cond.code yJ0_coder_7d493 cJ0_coder_7d493 1 (some .byte) ∈ gT := gT_t (i := 413) (by decide +kernel) rfl
theorem wJ_m637_J0 : Cond.methodLink RJ0 637 yJ1_indexOf_4cfef ∈ gT := gT_t (i := 414) (by decide +kernel) rfl
theorem wJ_t_J1_indexOf_4cfef : Cond.static yJ1_indexOf_4cfef ∈ gT := gT_t (i := 415) (by decide +kernel) rfl
theorem wJ_c_J1_indexOf_4cfef : Cond.code yJ1_indexOf_4cfef cJ1_indexOf_4cfef 4 (some .int) ∈ gT := gT_t (i := 416) (by decide +kernel) rfl
theorem wJ_m88_J1 : Cond.methodLink RJ1 88 yJ1_canEncode_9a6ad ∈ gT := gT_t (i := 417) (by decide +kernel) rfl
theorem wJ_t_J1_canEncode_9a6ad : Cond.static yJ1_canEncode_9a6ad ∈ gT := gT_t (i := 418) (by decide +kernel) rfl
theorem wJ_c_J1_canEncode_9a6ad : Cond.code yJ1_canEncode_9a6ad cJ1_canEncode_9a6ad 1 (some .boolean) ∈ gT := gT_t (i := 419) (by decide +kernel) rfl
theorem wJ_m92_J1 : Cond.methodLink RJ1 92 Lib.Math.max.name ∈ gT := gT_t (i := 420) (by decide +kernel) rfl
theorem wJ_m38_J1 : Cond.methodLink RJ1 38 Lib.Math.min.name ∈ gT := gT_t (i := 421) (by decide +kernel) rfl
theorem wJ_m95_J1 : Cond.methodLink RJ1 95 yJ1_indexOfChar_4cfef ∈ gT := gT_t (i := 422) (by decide +kernel) rfl
theorem wJ_t_J1_indexOfChar_4cfef : Cond.static yJ1_indexOfChar_4cfef ∈ gT := gT_t (i := 423) (by decide +kernel) rfl
theorem wJ_c_J1_indexOfChar_4cfef : Cond.code yJ1_indexOfChar_4cfef cJ1_indexOfChar_4cfef 6 (some .int) ∈ gT := gT_t (i := 424) (by decide +kernel) rfl
theorem wJ_f15 : Cond.fieldLink RJ0 15 "java/lang/String" "coder" "B" ∈ gT := gT_t (i := 1306) (by decide +kernel) rfl
theorem wJ_f9 : Cond.fieldLink RJ0 9 "java/lang/String" "value" "[B" ∈ gT := gT_t (i := 1307) (by decide +kernel) rfl
theorem dJ0_indexOf_0f7a4_0 : decode cJ0_indexOf_0f7a4 0 = .ok (.aload_n 0, 1) := by decide +kernel
theorem dJ0_indexOf_0f7a4_1 : decode cJ0_indexOf_0f7a4 1 = .ok (.iload_n 1, 1) := by decide +kernel
theorem dJ0_indexOf_0f7a4_2 : decode cJ0_indexOf_0f7a4 2 = .ok (.iconst 0, 1) := by decide +kernel
theorem dJ0_indexOf_0f7a4_3 : decode cJ0_indexOf_0f7a4 3 = .ok (.invokevirtual 633, 3) := by decide +kernel
theorem dJ0_indexOf_0f7a4_6 : decode cJ0_indexOf_0f7a4 6 = .ok (.ireturn, 1) := by decide +kernel
theorem dJ0_indexOf_7cf53_0 : decode cJ0_indexOf_7cf53 0 = .ok (.aload_n 0, 1) := by decide +kernel
theorem dJ0_indexOf_7cf53_1 : decode cJ0_indexOf_7cf53 1 = .ok (.invokevirtual 492, 3) := by decide +kernel
theorem dJ0_indexOf_7cf53_4 : decode cJ0_indexOf_7cf53 4 = .ok (.ifCond .eq 19, 3) := by decide +kernel
theorem dJ0_indexOf_7cf53_7 : decode cJ0_indexOf_7cf53 7 = .ok (.aload_n 0, 1) := by decide +kernel
theorem dJ0_indexOf_7cf53_8 : decode cJ0_indexOf_7cf53 8 = .ok (.getfield 9, 3) := by decide +kernel
theorem dJ0_indexOf_7cf53_11 : decode cJ0_indexOf_7cf53 11 = .ok (.iload_n 1, 1) := by decide +kernel
theorem dJ0_indexOf_7cf53_12 : decode cJ0_indexOf_7cf53 12 = .ok (.iload_n 2, 1) := by decide +kernel
theorem dJ0_indexOf_7cf53_13 : decode cJ0_indexOf_7cf53 13 = .ok (.aload_n 0, 1) := by decide +kernel
theorem dJ0_indexOf_7cf53_14 : decode cJ0_indexOf_7cf53 14 = .ok (.invokevirtual 505, 3) := by decide +kernel
theorem dJ0_indexOf_7cf53_17 : decode cJ0_indexOf_7cf53 17 = .ok (.invokestatic 637, 3) := by decide +kernel
theorem dJ0_indexOf_7cf53_20 : decode cJ0_indexOf_7cf53 20 = .ok (.goto 16, 3) := by decide +kernel
theorem dJ0_indexOf_7cf53_23 : decode cJ0_indexOf_7cf53 23 = .ok (.aload_n 0, 1) := by decide +kernel
theorem dJ0_indexOf_7cf53_24 : decode cJ0_indexOf_7cf53 24 = .ok (.getfield 9, 3) := by decide +kernel
theorem dJ0_indexOf_7cf53_27 : decode cJ0_indexOf_7cf53 27 = .ok (.iload_n 1, 1) := by decide +kernel
theorem dJ0_indexOf_7cf53_28 : decode cJ0_indexOf_7cf53 28 = .ok (.iload_n 2, 1) := by decide +kernel
theorem dJ0_indexOf_7cf53_29 : decode cJ0_indexOf_7cf53 29 = .ok (.aload_n 0, 1) := by decide +kernel
theorem dJ0_indexOf_7cf53_30 : decode cJ0_indexOf_7cf53 30 = .ok (.invokevirtual 505, 3) := by decide +kernel
theorem dJ0_indexOf_7cf53_33 : decode cJ0_indexOf_7cf53 33 = .ok (.invokestatic 640, 3) := by decide +kernel
theorem dJ0_indexOf_7cf53_36 : decode cJ0_indexOf_7cf53 36 = .ok (.ireturn, 1) := by decide +kernel
theorem dJ0_isLatin1_aae02_0 : decode cJ0_isLatin1_aae02 0 = .ok (.getstatic 38, 3) := by decide +kernel
theorem dJ0_isLatin1_aae02_3 : decode cJ0_isLatin1_aae02 3 = .ok (.ifCond .eq 14, 3) := by decide +kernel
theorem dJ0_isLatin1_aae02_6 : decode cJ0_isLatin1_aae02 6 = .ok (.aload_n 0, 1) := by decide +kernel
theorem dJ0_isLatin1_aae02_7 : decode cJ0_isLatin1_aae02 7 = .ok (.getfield 15, 3) := by decide +kernel
theorem dJ0_isLatin1_aae02_10 : decode cJ0_isLatin1_aae02 10 = .ok (.ifCond .ne 7, 3) := by decide +kernel
theorem dJ0_isLatin1_aae02_13 : decode cJ0_isLatin1_aae02 13 = .ok (.iconst 1, 1) := by decide +kernel
theorem dJ0_isLatin1_aae02_14 : decode cJ0_isLatin1_aae02 14 = .ok (.goto 4, 3) := by decide +kernel
theorem dJ0_isLatin1_aae02_17 : decode cJ0_isLatin1_aae02 17 = .ok (.iconst 0, 1) := by decide +kernel
theorem dJ0_isLatin1_aae02_18 : decode cJ0_isLatin1_aae02 18 = .ok (.ireturn, 1) := by decide +kernel
theorem dJ0_length_8abf5_0 : decode cJ0_length_8abf5 0 = .ok (.aload_n 0, 1) := by decide +kernel
theorem dJ0_length_8abf5_1 : decode cJ0_length_8abf5 1 = .ok (.getfield 9, 3) := by decide +kernel
theorem dJ0_length_8abf5_4 : decode cJ0_length_8abf5 4 = .ok (.arraylength, 1) := by decide +kernel
theorem dJ0_length_8abf5_5 : decode cJ0_length_8abf5 5 = .ok (.aload_n 0, 1) := by decide +kernel
theorem dJ0_length_8abf5_6 : decode cJ0_length_8abf5 6 = .ok (.invokevirtual 335, 3) := by decide +kernel
theorem dJ0_length_8abf5_9 : decode cJ0_length_8abf5 9 = .ok (.ishr, 1) := by decide +kernel
theorem dJ0_length_8abf5_10 : decode cJ0_length_8abf5 10 = .ok (.ireturn, 1) := by decide +kernel
theorem dJ0_coder_7d493_0 : decode cJ0_coder_7d493 0 = .ok (.getstatic 38, 3) := by decide +kernel
theorem dJ0_coder_7d493_3 : decode cJ0_coder_7d493 3 = .ok (.ifCond .eq 10, 3) := by decide +kernel
theorem dJ0_coder_7d493_6 : decode cJ0_coder_7d493 6 = .ok (.aload_n 0, 1) := by decide +kernel
theorem dJ0_coder_7d493_7 : decode cJ0_coder_7d493 7 = .ok (.getfield 15, 3) := by decide +kernel
theorem dJ0_coder_7d493_10 : decode cJ0_coder_7d493 10 = .ok (.goto 4, 3) := by decide +kernel
theorem dJ0_coder_7d493_13 : decode cJ0_coder_7d493 13 = .ok (.iconst 1, 1) := by decide +kernel
theorem dJ0_coder_7d493_14 : decode cJ0_coder_7d493 14 = .ok (.ireturn, 1) := by decide +kernel
theorem dJ1_indexOf_4cfef_0 : decode cJ1_indexOf_4cfef 0 = .ok (.iload_n 1, 1) := by decide +kernel
theorem dJ1_indexOf_4cfef_1 : decode cJ1_indexOf_4cfef 1 = .ok (.invokestatic 88, 3) := by decide +kernel
theorem dJ1_indexOf_4cfef_4 : decode cJ1_indexOf_4cfef 4 = .ok (.ifCond .ne 5, 3) := by decide +kernel
theorem dJ1_indexOf_4cfef_7 : decode cJ1_indexOf_4cfef 7 = .ok (.iconst (-1), 1) := by decide +kernel
theorem dJ1_indexOf_4cfef_8 : decode cJ1_indexOf_4cfef 8 = .ok (.ireturn, 1) := by decide +kernel
theorem dJ1_indexOf_4cfef_9 : decode cJ1_indexOf_4cfef 9 = .ok (.iload_n 2, 1) := by decide +kernel
theorem dJ1_indexOf_4cfef_10 : decode cJ1_indexOf_4cfef 10 = .ok (.iconst 0, 1) := by decide +kernel
theorem dJ1_indexOf_4cfef_11 : decode cJ1_indexOf_4cfef 11 = .ok (.invokestatic 92, 3) := by decide +kernel
theorem dJ1_indexOf_4cfef_14 : decode cJ1_indexOf_4cfef 14 = .ok (.istore_n 2, 1) := by decide +kernel
theorem dJ1_indexOf_4cfef_15 : decode cJ1_indexOf_4cfef 15 = .ok (.iload_n 3, 1) := by decide +kernel
theorem dJ1_indexOf_4cfef_16 : decode cJ1_indexOf_4cfef 16 = .ok (.aload_n 0, 1) := by decide +kernel
theorem dJ1_indexOf_4cfef_17 : decode cJ1_indexOf_4cfef 17 = .ok (.arraylength, 1) := by decide +kernel
theorem dJ1_indexOf_4cfef_18 : decode cJ1_indexOf_4cfef 18 = .ok (.invokestatic 38, 3) := by decide +kernel
theorem dJ1_indexOf_4cfef_21 : decode cJ1_indexOf_4cfef 21 = .ok (.istore_n 3, 1) := by decide +kernel
theorem dJ1_indexOf_4cfef_22 : decode cJ1_indexOf_4cfef 22 = .ok (.iload_n 2, 1) := by decide +kernel
theorem dJ1_indexOf_4cfef_23 : decode cJ1_indexOf_4cfef 23 = .ok (.iload_n 3, 1) := by decide +kernel
theorem dJ1_indexOf_4cfef_24 : decode cJ1_indexOf_4cfef 24 = .ok (.if_icmp .lt 5, 3) := by decide +kernel
theorem dJ1_indexOf_4cfef_27 : decode cJ1_indexOf_4cfef 27 = .ok (.iconst (-1), 1) := by decide +kernel
theorem dJ1_indexOf_4cfef_28 : decode cJ1_indexOf_4cfef 28 = .ok (.ireturn, 1) := by decide +kernel
theorem dJ1_indexOf_4cfef_29 : decode cJ1_indexOf_4cfef 29 = .ok (.aload_n 0, 1) := by decide +kernel
theorem dJ1_indexOf_4cfef_30 : decode cJ1_indexOf_4cfef 30 = .ok (.iload_n 1, 1) := by decide +kernel
theorem dJ1_indexOf_4cfef_31 : decode cJ1_indexOf_4cfef 31 = .ok (.iload_n 2, 1) := by decide +kernel
theorem dJ1_indexOf_4cfef_32 : decode cJ1_indexOf_4cfef 32 = .ok (.iload_n 3, 1) := by decide +kernel
theorem dJ1_indexOf_4cfef_33 : decode cJ1_indexOf_4cfef 33 = .ok (.invokestatic 95, 3) := by decide +kernel
theorem dJ1_indexOf_4cfef_36 : decode cJ1_indexOf_4cfef 36 = .ok (.ireturn, 1) := by decide +kernel
theorem dJ1_canEncode_9a6ad_0 : decode cJ1_canEncode_9a6ad 0 = .ok (.iload_n 0, 1) := by decide +kernel
theorem dJ1_canEncode_9a6ad_1 : decode cJ1_canEncode_9a6ad 1 = .ok (.ifCond .lt 14, 3) := by decide +kernel
theorem dJ1_canEncode_9a6ad_4 : decode cJ1_canEncode_9a6ad 4 = .ok (.iload_n 0, 1) := by decide +kernel
theorem dJ1_canEncode_9a6ad_5 : decode cJ1_canEncode_9a6ad 5 = .ok (.sipush 255, 3) := by decide +kernel
theorem dJ1_canEncode_9a6ad_8 : decode cJ1_canEncode_9a6ad 8 = .ok (.if_icmp .gt 7, 3) := by decide +kernel
theorem dJ1_canEncode_9a6ad_11 : decode cJ1_canEncode_9a6ad 11 = .ok (.iconst 1, 1) := by decide +kernel
theorem dJ1_canEncode_9a6ad_12 : decode cJ1_canEncode_9a6ad 12 = .ok (.goto 4, 3) := by decide +kernel
theorem dJ1_canEncode_9a6ad_15 : decode cJ1_canEncode_9a6ad 15 = .ok (.iconst 0, 1) := by decide +kernel
theorem dJ1_canEncode_9a6ad_16 : decode cJ1_canEncode_9a6ad 16 = .ok (.ireturn, 1) := by decide +kernel
theorem dJ1_indexOfChar_4cfef_0 : decode cJ1_indexOfChar_4cfef 0 = .ok (.iload_n 1, 1) := by decide +kernel
theorem dJ1_indexOfChar_4cfef_1 : decode cJ1_indexOfChar_4cfef 1 = .ok (.i2b, 1) := by decide +kernel
theorem dJ1_indexOfChar_4cfef_2 : decode cJ1_indexOfChar_4cfef 2 = .ok (.istore 4, 2) := by decide +kernel
theorem dJ1_indexOfChar_4cfef_4 : decode cJ1_indexOfChar_4cfef 4 = .ok (.iload_n 2, 1) := by decide +kernel
theorem dJ1_indexOfChar_4cfef_5 : decode cJ1_indexOfChar_4cfef 5 = .ok (.istore 5, 2) := by decide +kernel
theorem dJ1_indexOfChar_4cfef_7 : decode cJ1_indexOfChar_4cfef 7 = .ok (.iload 5, 2) := by decide +kernel
theorem dJ1_indexOfChar_4cfef_9 : decode cJ1_indexOfChar_4cfef 9 = .ok (.iload_n 3, 1) := by decide +kernel
theorem dJ1_indexOfChar_4cfef_10 : decode cJ1_indexOfChar_4cfef 10 = .ok (.if_icmp .ge 21, 3) := by decide +kernel
theorem dJ1_indexOfChar_4cfef_13 : decode cJ1_indexOfChar_4cfef 13 = .ok (.aload_n 0, 1) := by decide +kernel
theorem dJ1_indexOfChar_4cfef_14 : decode cJ1_indexOfChar_4cfef 14 = .ok (.iload 5, 2) := by decide +kernel
theorem dJ1_indexOfChar_4cfef_16 : decode cJ1_indexOfChar_4cfef 16 = .ok (.baload, 1) := by decide +kernel
theorem dJ1_indexOfChar_4cfef_17 : decode cJ1_indexOfChar_4cfef 17 = .ok (.iload 4, 2) := by decide +kernel
theorem dJ1_indexOfChar_4cfef_19 : decode cJ1_indexOfChar_4cfef 19 = .ok (.if_icmp .ne 6, 3) := by decide +kernel
theorem dJ1_indexOfChar_4cfef_22 : decode cJ1_indexOfChar_4cfef 22 = .ok (.iload 5, 2) := by decide +kernel
theorem dJ1_indexOfChar_4cfef_24 : decode cJ1_indexOfChar_4cfef 24 = .ok (.ireturn, 1) := by decide +kernel
theorem dJ1_indexOfChar_4cfef_25 : decode cJ1_indexOfChar_4cfef 25 = .ok (.iinc 5 1, 3) := by decide +kernel
theorem dJ1_indexOfChar_4cfef_28 : decode cJ1_indexOfChar_4cfef 28 = .ok (.goto (-21), 3) := by decide +kernel
theorem dJ1_indexOfChar_4cfef_31 : decode cJ1_indexOfChar_4cfef 31 = .ok (.iconst (-1), 1) := by decide +kernel
theorem dJ1_indexOfChar_4cfef_32 : decode cJ1_indexOfChar_4cfef 32 = .ok (.ireturn, 1) := by decide +kernel
/-- a String constant: where it and its bytes lie, how many, which; nobody writes them -/
def sStr (A : Nat → Prop) (k v n : Nat) (f : Nat → Int32) (U : State) (H : Heap) : Prop := va_O "java/lang/String" k A U H ∧ va_OF "java/lang/String" "coder" "B" (.int 0) k A U H ∧ va_OF "java/lang/String" "value" "[B" (.ref v) k A U H ∧ va_T .byte v n (fun j => .int (f j)) A U H
def sC1 (A : Nat → Prop) (U : State) (H : Heap) : Prop := va_Z "java/lang/String" "COMPACT_STRINGS" "Z" (.int 1) A U H
theorem sStr_moved {A : Nat → Prop} {k v n : Nat} {f : Nat → Int32} {u U : State} {H : Heap} (hvm : u.vm.Alike U.vm) (h : sStr A k v n f u H) : sStr A k v n f U H := ⟨va_O.moved hvm h.1, va_OF.moved hvm h.2.1, va_OF.moved hvm h.2.2.1, va_T.moved hvm h.2.2.2⟩
theorem sStr_kept {A : Nat → Prop} {k v n : Nat} {f : Nat → Int32} {U : State} {H H1 : Heap} (h : sStr A k v n f U H) (hq : ∀ a : Nat, a < H.size → ¬ A a → H1[a]? = H[a]?) : sStr A k v n f U H1 := ⟨h.1.kept hq, h.2.1.kept hq, h.2.2.1.kept hq, h.2.2.2.kept hq⟩
theorem sStr_narrow {A B : Nat → Prop} {k v n : Nat} {f : Nat → Int32} {U : State} {H : Heap} (h : sStr A k v n f U H) (hAB : ∀ q, B q → A q) : sStr B k v n f U H := ⟨h.1.narrow hAB, h.2.1.narrow hAB, h.2.2.1.narrow hAB, h.2.2.2.narrow hAB⟩
abbrev sN0 : Nat → Prop := fun _ => False
def sS (k v n : Nat) (f : Nat → Int32) (U : State) : Prop := sC1 sN0 U U.heap ∧ sStr sN0 k v n f U U.heap
def sMp (l : Launch) (y : MethodName) (cc : ByteArray) (mx : Nat) (ret : Option FieldType) (fr lo : Nat) (av : List Value) (k v n : Nat) (f : Nat → Int32) (post : Int32 → Prop) : Prop :=
  Met l y (Cond.code y cc mx ret :: gT) (ro_m fr lo) (va_Pc av (fun U => sS k v n f U)) (vp_Si post) 0 0 (fun _ => False)
theorem sMp_in {l : Launch} {y : MethodName} {cc : ByteArray} {mx : Nat} {ret : Option FieldType} {fr lo : Nat} {av : List Value} {own : String} {k v n : Nat} {f : Nat → Int32} {post : Int32 → Prop} (hy : plainName y.cls = true) (hc : y.cls = own) (hav : (lg_sl av).length ≤ mx)
    (body : ∀ (p : Program) (e : Env) (s : State) (m : MethodId) (args : Array Value) (below : List Frame) (meth : Method) (c : Code) (ls : Array Slot), p.tables.exec = Jvm.exec ∧ c.code = cc ∧ (∀ w ∈ gT, w.before args s = true) ∧ s.vm.findClass own = some m.cls → c.maxLocals = mx → meth.sig.returnType = ret → meth.locks = false → lv_has ls mx (lv_args 0 av) → sS k v n f s →
      W p l e (ro_m fr lo) s m args below meth c s.heap [] 0 0 (MQ below (vp_Si post) args s 0 0 (fun _ => False)) (F0 m 0 ls [])) : sMp l y cc mx ret fr lo av k v n f post := by
  unfold sMp
  refine Met.ofW (cc := cc) (maxL := mx) (ret := ret) hy rfl ?_
  intro p e s m args below meth c s₁ B hml hv
  obtain ⟨rfl, hS⟩ := hv
  have hts := atoms_spec (ws := Cond.code y cc mx ret :: gT) B.pre
  have hown : s.vm.findClass y.cls = some m.cls := findClass_of_methodNamed B.named
  rw [lg_entry_eq]
  exact body p e s m _ below meth c _ ⟨B.exec, B.bytes, fun w h => hts w (List.mem_cons_of_mem _ h), hc ▸ hown⟩ hml B.returns B.notSynchronized (lv_entry _ hav) hS
section StrC
variable {p : Program} {l : Launch} {e : Env} {R : Room} {s : State} {m : MethodId} {args : Array Value} {below : List Frame} {meth : Method} {c : Code} {cells slots : Nat} {Q : State → Prop}
variable {cc : ByteArray} {pc : Nat} {ls : Array Slot} {rest : List Value} {own : String}
variable {y : MethodName} {cc1 : ByteArray} {mx nL fr lo idx : Nat} {ret : Option FieldType} {av : List Value} {st0 : List Value} {k v n : Nat} {f : Nat → Int32}
theorem sS_call {U : State} {a : Array Value} {g : JFrame} {mk : List Loc} (h : sS k v n f U) : True := trivial
theorem sc_v {post : Int32 → Prop} (X : p.tables.exec = Jvm.exec ∧ c.code = cc ∧ (∀ w ∈ gT, w.before args s = true) ∧ s.vm.findClass own = some m.cls) (hml : c.maxLocals = nL) (hls : ls.size = nL) (hM : sMp l y cc1 mx ret fr lo (.ref k :: av) k v n f post) (ok : cOk RJ0 y cc1 mx ret av.length) (hlk : Cond.methodLink own idx y ∈ gT) (hR : fr + 1 ≤ R.frames ∧ 8 + (mx + 11) + lo ≤ R.locals) (hf : cells ≤ R.cells ∧ slots ≤ R.slots) (hS : sS k v n f s) (hst : st0 = av.reverse ++ .ref k :: rest) (hrm : (rest.map fun v => v.category).sum ≤ 8) (hdg : decode cc pc = .ok (.invokevirtual idx, 3))
    (kk : ∀ r : Int32, post r → W p l e R s m args below meth c s.heap [] cells slots Q (F0 m (pc + 3) ls (.int r :: rest))) : W p l e R s m args below meth c s.heap [] cells slots Q (F0 m pc ls st0) := by
  subst hst
  obtain ⟨cell, h1, h2, h3, -⟩ := hS.2.1
  refine vp_callSi (W.runV (C := RJ0) (b := k) (As := av) (rest := rest) ⟨X.1, X.2.1, hml, X.2.2.2, X.2.2.1⟩ hM (cwV av.length X.2.2.1 (gV hlk ok.2.1 ok.2.2.1 ok.2.2.2.1 ok.1) rfl rfl rfl ok.2.2.2.2 hR) ⟨fun a U g mk q => ⟨q.1, va_Z.moved (u := U) (U := U.calling g mk a) (Vm.Alike.refl U.vm) q.2.1, sStr_moved (u := U) (U := U.calling g mk a) (Vm.Alike.refl U.vm) q.2.2⟩, ⟨cell, h1, h2, h3⟩, fun U hU hW => ⟨rfl, by rw [show sC1 sN0 U U.heap = sC1 sN0 U s.heap by rw [hU]]; exact va_Z.moved hW.alike hS.1, by rw [hU]; exact sStr_moved hW.alike hS.2⟩⟩ rfl rfl hls rfl (lv_room hrm) hdg hf) kk
theorem sc_s {post : Int32 → Prop} {C : String} (X : p.tables.exec = Jvm.exec ∧ c.code = cc ∧ (∀ w ∈ gT, w.before args s = true) ∧ s.vm.findClass own = some m.cls) (hml : c.maxLocals = nL) (hls : ls.size = nL) (hM : sMp l y cc1 mx ret fr lo av k v n f post) (ok : cOkS C y cc1 mx ret av.length) (hlk : Cond.methodLink own idx y ∈ gT) (hR : fr + 1 ≤ R.frames ∧ 8 + (mx + 11) + lo ≤ R.locals) (hf : cells ≤ R.cells ∧ slots ≤ R.slots) (hS : sS k v n f s) (hst : st0 = av.reverse ++ rest) (hrm : (rest.map fun v => v.category).sum ≤ 8) (hdg : decode cc pc = .ok (.invokestatic idx, 3))
    (kk : ∀ r : Int32, post r → W p l e R s m args below meth c s.heap [] cells slots Q (F0 m (pc + 3) ls (.int r :: rest))) : W p l e R s m args below meth c s.heap [] cells slots Q (F0 m pc ls st0) := by
  subst hst
  refine vp_callSi (W.runS (As := av) (rest := rest) ⟨X.1, X.2.1, hml, X.2.2.2, X.2.2.1⟩ hM (va_cwS av.length X.2.2.1 (gSx hlk ok.2.1 (ok.2.2.2.1 ▸ ok.2.2.1) ok.1) rfl rfl rfl ok.2.2.2.2 hR) ⟨fun a U g mk q => ⟨q.1, va_Z.moved (u := U) (U := U.calling g mk a) (Vm.Alike.refl U.vm) q.2.1, sStr_moved (u := U) (U := U.calling g mk a) (Vm.Alike.refl U.vm) q.2.2⟩, fun U hU hW => ⟨rfl, by rw [show sC1 sN0 U U.heap = sC1 sN0 U s.heap by rw [hU]]; exact va_Z.moved hW.alike hS.1, by rw [hU]; exact sStr_moved hW.alike hS.2⟩⟩ rfl rfl hls rfl (lv_room hrm) hdg hf) kk
end StrC
theorem okJ_isLatin1 : cOk RJ0 yJ0_isLatin1_aae02 cJ0_isLatin1_aae02 1 (some .boolean) 0 := ⟨wJ_c_J0_isLatin1_aae02, wJ_i_J0_isLatin1_aae02, wJ_s_J0_isLatin1_aae02, wJ_nJ0, rfl, by decide, by decide, by decide +kernel⟩
theorem okJ_coder : cOk RJ0 yJ0_coder_7d493 cJ0_coder_7d493 1 (some .byte) 0 := ⟨wJ_c_J0_coder_7d493, wJ_i_J0_coder_7d493, wJ_s_J0_coder_7d493, wJ_nJ0, rfl, by decide, by decide, by decide +kernel⟩
theorem okJ_length : cOk RJ0 yJ0_length_8abf5 cJ0_length_8abf5 1 (some .int) 0 := ⟨wJ_c_J0_length_8abf5, wJ_i_J0_length_8abf5, wJ_s_J0_length_8abf5, wJ_nJ0, rfl, by decide, by decide, by decide +kernel⟩
theorem okJ_indexOf2 : cOk RJ0 yJ0_indexOf_7cf53 cJ0_indexOf_7cf53 3 (some .int) 2 := ⟨wJ_c_J0_indexOf_7cf53, wJ_i_J0_indexOf_7cf53, wJ_s_J0_indexOf_7cf53, wJ_nJ0, rfl, by decide, by decide, by decide +kernel⟩
theorem okJ_indexOf1 : cOk RJ0 yJ0_indexOf_0f7a4 cJ0_indexOf_0f7a4 2 (some .int) 1 := ⟨wJ_c_J0_indexOf_0f7a4, wJ_i_J0_indexOf_0f7a4, wJ_s_J0_indexOf_0f7a4, wJ_nJ0, rfl, by decide, by decide, by decide +kernel⟩
theorem okJ_canEncode : cOkS RJ1 yJ1_canEncode_9a6ad cJ1_canEncode_9a6ad 1 (some .boolean) 1 := ⟨wJ_c_J1_canEncode_9a6ad, wJ_t_J1_canEncode_9a6ad, wJ_nJ1, rfl, by decide, by decide, by decide +kernel⟩
theorem okJ_ixChar : cOkS RJ1 yJ1_indexOfChar_4cfef cJ1_indexOfChar_4cfef 6 (some .int) 4 := ⟨wJ_c_J1_indexOfChar_4cfef, wJ_t_J1_indexOfChar_4cfef, wJ_nJ1, rfl, by decide, by decide, by decide +kernel⟩
theorem okJ_ix : cOkS RJ1 yJ1_indexOf_4cfef cJ1_indexOf_4cfef 4 (some .int) 4 := ⟨wJ_c_J1_indexOf_4cfef, wJ_t_J1_indexOf_4cfef, wJ_nJ1, rfl, by decide, by decide, by decide +kernel⟩
theorem sj_isLatin1 (l : Launch) (k v n : Nat) (f : Nat → Int32) : sMp l yJ0_isLatin1_aae02 cJ0_isLatin1_aae02 1 (some .boolean) 0 0 [.ref k] k v n f (fun r => r = nI 1) := by
  refine sMp_in (by decide) rfl (Nat.le_of_ble_eq_true rfl) ?_
  intro p e s m args below meth c ls X hml hr hk hl hS
  have hx := X.1
  have hb := X.2.1
  have hl : lv_has ls 1 [(0, .ref k)] := hl
  refine va_gets hx hb hS.1 va_S.rf X.2.2.2 (X.2.2.1 _ wJ_f38) (fun _ h => h) dJ0_isLatin1_aae02_0 ?_
  refine tp_i (show (1 : Int32) = nI 1 from by decide) ?_
  refine n_if_eq (tgt := 17) hx hb dJ0_isLatin1_aae02_3 (by decide) (by decide) (fun g0 => absurd g0 (by decide)) (fun _ => ?_)
  refine lv_aload_n hx hb dJ0_isLatin1_aae02_6 rfl (lv_at hl 0 rfl) ?_
  refine vk_getf hx hb hS.2.2.1 va_S.rf X.2.2.2 (X.2.2.1 _ wJ_f15) (fun _ h => h) dJ0_isLatin1_aae02_7 ?_
  refine tp_i (show (0 : Int32) = nI 0 from by decide) ?_
  refine n_if_ne (tgt := 17) hx hb dJ0_isLatin1_aae02_10 (by decide) (by decide) (fun g0 => absurd rfl g0) (fun _ => ?_)
  refine lv_iconst (v := nI 1) hx hb dJ0_isLatin1_aae02_13 (by decide) ?_
  refine lv_goto (tgt := 18) hx hb dJ0_isLatin1_aae02_14 (by decide) ?_
  exact re_pz hx hb hr hk (Or.inr rfl) rfl dJ0_isLatin1_aae02_18
theorem sj_coder (l : Launch) (k v n : Nat) (f : Nat → Int32) : sMp l yJ0_coder_7d493 cJ0_coder_7d493 1 (some .byte) 0 0 [.ref k] k v n f (fun r => r = nI 0) := by
  refine sMp_in (by decide) rfl (Nat.le_of_ble_eq_true rfl) ?_
  intro p e s m args below meth c ls X hml hr hk hl hS
  have hx := X.1
  have hb := X.2.1
  have hl : lv_has ls 1 [(0, .ref k)] := hl
  refine va_gets hx hb hS.1 va_S.rf X.2.2.2 (X.2.2.1 _ wJ_f38) (fun _ h => h) dJ0_coder_7d493_0 ?_
  refine tp_i (show (1 : Int32) = nI 1 from by decide) ?_
  refine n_if_eq (tgt := 13) hx hb dJ0_coder_7d493_3 (by decide) (by decide) (fun g0 => absurd g0 (by decide)) (fun _ => ?_)
  refine lv_aload_n hx hb dJ0_coder_7d493_6 rfl (lv_at hl 0 rfl) ?_
  refine vk_getf hx hb hS.2.2.1 va_S.rf X.2.2.2 (X.2.2.1 _ wJ_f15) (fun _ h => h) dJ0_coder_7d493_7 ?_
  refine tp_i (show (0 : Int32) = nI 0 from by decide) ?_
  refine lv_goto (tgt := 14) hx hb dJ0_coder_7d493_10 (by decide) ?_
  exact W.zret hx hb hr rfl (fun t ht _ => ⟨nI 0, rfl, rfl, ht⟩) (fun q h => by cases h) dJ0_coder_7d493_14 hk
theorem sj_length (l : Launch) (k v n : Nat) (f : Nat → Int32) : sMp l yJ0_length_8abf5 cJ0_length_8abf5 1 (some .int) 1 20 [.ref k] k v n f (fun r => r = nI n) := by
  refine sMp_in (by decide) rfl (Nat.le_of_ble_eq_true rfl) ?_
  intro p e s m args below meth c ls X hml hr hk hl hS
  have hx := X.1
  have hb := X.2.1
  have hl : lv_has ls 1 [(0, .ref k)] := hl
  refine lv_aload_n hx hb dJ0_length_8abf5_0 rfl (lv_at hl 0 rfl) ?_
  refine vk_getf hx hb hS.2.2.2.1 va_S.rf X.2.2.2 (X.2.2.1 _ wJ_f9) (fun _ h => h) dJ0_length_8abf5_1 ?_
  refine va_tlen hx hb hS.2.2.2.2 va_S.rf (v := nI n) rfl dJ0_length_8abf5_4 ?_
  refine lv_aload_n hx hb dJ0_length_8abf5_5 rfl (lv_at hl 0 rfl) ?_
  refine sc_v (rest := [.int (nI n)]) X hml hl.1 (sj_coder l k v n f) okJ_coder wJ_m335_J0 ⟨Nat.le_of_ble_eq_true rfl, Nat.le_of_ble_eq_true rfl⟩ ⟨Nat.le_refl _, Nat.le_refl _⟩ hS rfl (Nat.le_of_ble_eq_true rfl) dJ0_length_8abf5_6 ?_
  intro r9 hr9
  subst hr9
  refine lv_ishr hx hb dJ0_length_8abf5_9 ?_
  refine tp_i (show nI n >>> (nI 0 &&& 31) = nI n from by rw [show (nI 0 &&& 31 : Int32) = 0 from by decide]; simp) ?_
  exact re_p hx hb hr hk rfl dJ0_length_8abf5_10
theorem sj_canEncode (l : Launch) (xa9 : Nat) (h1 : xa9 ≤ 127) : rMs l yJ1_canEncode_9a6ad cJ1_canEncode_9a6ad 1 (some .boolean) 0 0 [.int (nI xa9)] (fun r => r = nI 1) := by
  refine cMs_in (own := RJ1) (by decide) rfl (Nat.le_of_ble_eq_true rfl) ?_
  intro p e s m args below meth c ls X hml hr hk hl
  have hx := X.1
  have hb := X.2.1
  have hl : lv_has ls 1 [(0, .int (nI xa9))] := hl
  refine lv_iload_n hx hb dJ1_canEncode_9a6ad_0 rfl (lv_at hl 0 rfl) ?_
  refine n_if_lt (tgt := 15) hx hb dJ1_canEncode_9a6ad_1 (by decide) (by omega) (fun g0 => absurd g0 (by omega)) (fun _ => ?_)
  refine lv_iload_n hx hb dJ1_canEncode_9a6ad_4 rfl (lv_at hl 0 rfl) ?_
  refine lv_sipush (v := nI 255) hx hb dJ1_canEncode_9a6ad_5 (by decide) ?_
  refine n_icmp_gt (tgt := 15) hx hb dJ1_canEncode_9a6ad_8 (by decide) (by omega) (by omega) (fun g0 => absurd g0 (by omega)) (fun _ => ?_)
  refine lv_iconst (v := nI 1) hx hb dJ1_canEncode_9a6ad_11 (by decide) ?_
  refine lv_goto (tgt := 16) hx hb dJ1_canEncode_9a6ad_12 (by decide) ?_
  exact re_pz hx hb hr hk (Or.inr rfl) rfl dJ1_canEncode_9a6ad_16
def sP (ga : Nat → Nat) (xa9 n : Nat) (r : Int32) : Prop := (r = iZ (-1) ∧ ∀ j, j < n → ga j ≠ xa9) ∨ ∃ j, j < n ∧ r = nI j ∧ ga j = xa9 ∧ ∀ k, k < j → ga k ≠ xa9
theorem i8_nI {xa9 : Nat} (h : xa9 ≤ 127) : (nI xa9).toInt8.toInt32 = nI xa9 := by
  have d9 : ∀ y9 : Fin 128, (nI y9.1).toInt8.toInt32 = nI y9.1 := by decide +kernel
  exact d9 ⟨xa9, by omega⟩
theorem sj_ixChar (l : Launch) (k v n : Nat) (ga : Nat → Nat) (xa9 : Nat) (h1 : xa9 ≤ 127) (h2 : n ≤ 127) (h3 : ∀ j, ga j ≤ 127) : sMp l yJ1_indexOfChar_4cfef cJ1_indexOfChar_4cfef 6 (some .int) 0 0 [.ref v, .int (nI xa9), .int (nI 0), .int (nI n)] k v n (fun j => nI (ga j)) (sP ga xa9 n) := by
  refine sMp_in (own := RJ1) (by decide) rfl (Nat.le_of_ble_eq_true rfl) ?_
  intro p e s m args below meth c ls X hml hr hk hl hS
  have hx := X.1
  have hb := X.2.1
  have hl : lv_has ls 6 [(0, .ref v), (1, .int (nI xa9)), (2, .int (nI 0)), (3, .int (nI n))] := hl
  refine lv_iload_n hx hb dJ1_indexOfChar_4cfef_0 rfl (lv_at hl 1 rfl) ?_
  refine lv_i2b (v := nI xa9) hx hb dJ1_indexOfChar_4cfef_1 (i8_nI h1) ?_
  refine lv_istore (lv' := [(4, .int (nI xa9)), (0, .ref v), (1, .int (nI xa9)), (2, .int (nI 0)), (3, .int (nI n))]) hx hb dJ1_indexOfChar_4cfef_2 hl (by decide) rfl (fun ls hl => ?_)
  refine lv_iload_n hx hb dJ1_indexOfChar_4cfef_4 rfl (lv_at hl 3 rfl) ?_
  refine lv_istore (lv' := [(5, .int (nI 0)), (4, .int (nI xa9)), (0, .ref v), (1, .int (nI xa9)), (2, .int (nI 0)), (3, .int (nI n))]) hx hb dJ1_indexOfChar_4cfef_5 hl (by decide) rfl (fun ls hl => ?_)
  have lp : ∀ d9 i9 : Nat, i9 + d9 = n → (∀ j, j < i9 → ga j ≠ xa9) → ∀ ls : Array Slot, lv_has ls 6 [(5, .int (nI i9)), (4, .int (nI xa9)), (0, .ref v), (1, .int (nI xa9)), (2, .int (nI 0)), (3, .int (nI n))] → W p l e (ro_m 0 0) s m args below meth c s.heap [] 0 0 (MQ below (vp_Si (sP ga xa9 n)) args s 0 0 (fun _ => False)) (F0 m 7 ls []) := by
    intro d9
    induction d9 with
    | zero =>
      intro i9 hi hno ls hl
      refine lv_iload hx hb dJ1_indexOfChar_4cfef_7 (lv_at hl 0 rfl) ?_
      refine lv_iload_n hx hb dJ1_indexOfChar_4cfef_9 rfl (lv_at hl 5 rfl) ?_
      refine n_icmp_ge (tgt := 31) hx hb dJ1_indexOfChar_4cfef_10 (by decide) (by omega) (by omega) (fun _ => ?_) (fun g0 => absurd g0 (by omega))
      refine lv_iconst (v := iZ (-1)) hx hb dJ1_indexOfChar_4cfef_31 (by decide) ?_
      exact re_p hx hb hr hk (Or.inl ⟨rfl, fun j hj => hno j (by omega)⟩) dJ1_indexOfChar_4cfef_32
    | succ d9 ih =>
      intro i9 hi hno ls hl
      refine lv_iload hx hb dJ1_indexOfChar_4cfef_7 (lv_at hl 0 rfl) ?_
      refine lv_iload_n hx hb dJ1_indexOfChar_4cfef_9 rfl (lv_at hl 5 rfl) ?_
      refine n_icmp_ge (tgt := 31) hx hb dJ1_indexOfChar_4cfef_10 (by decide) (by omega) (by omega) (fun g0 => absurd g0 (by omega)) (fun _ => ?_)
      refine lv_aload_n hx hb dJ1_indexOfChar_4cfef_13 rfl (lv_at hl 2 rfl) ?_
      refine lv_iload hx hb dJ1_indexOfChar_4cfef_14 (lv_at hl 0 rfl) ?_
      refine va_tb hx hb hS.2.2.2.2 va_S.rf (vp_in_nI (by omega) (by omega)) (v := .int (nI (ga i9))) (by rw [nI_clamp (by omega)]) dJ1_indexOfChar_4cfef_16 ?_
      refine lv_iload hx hb dJ1_indexOfChar_4cfef_17 (lv_at hl 1 rfl) ?_
      have q9 := h3 i9
      refine n_icmp_ne (tgt := 25) hx hb dJ1_indexOfChar_4cfef_19 (by decide) (by omega) (by omega) (fun g0 => ?_) (fun g0 => ?_)
      · refine lv_iinc (v := nI (i9 + 1)) (lv' := [(5, .int (nI (i9 + 1))), (4, .int (nI xa9)), (0, .ref v), (1, .int (nI xa9)), (2, .int (nI 0)), (3, .int (nI n))]) hx hb dJ1_indexOfChar_4cfef_25 hl (k := 0) rfl (nI_1 _) (by decide) rfl (fun ls hl => ?_)
        refine lv_goto (tgt := 7) hx hb dJ1_indexOfChar_4cfef_28 (by decide) ?_
        refine ih (i9 + 1) (by omega) (fun j hj => ?_) ls hl
        by_cases e9 : j = i9
        · rw [e9]; exact g0
        · exact hno j (by omega)
      · refine lv_iload hx hb dJ1_indexOfChar_4cfef_22 (lv_at hl 0 rfl) ?_
        exact re_p hx hb hr hk (Or.inr ⟨i9, by omega, rfl, g0, hno⟩) dJ1_indexOfChar_4cfef_24
  exact lp n 0 (by omega) (fun j hj => absurd hj (by omega)) ls hl
theorem sj_ix (l : Launch) (k v n : Nat) (ga : Nat → Nat) (xa9 : Nat) (h1 : xa9 ≤ 127) (h2 : n ≤ 127) (h0 : 0 < n) (h3 : ∀ j, ga j ≤ 127) : sMp l yJ1_indexOf_4cfef cJ1_indexOf_4cfef 4 (some .int) 1 25 [.ref v, .int (nI xa9), .int (nI 0), .int (nI n)] k v n (fun j => nI (ga j)) (sP ga xa9 n) := by
  refine sMp_in (own := RJ1) (by decide) rfl (Nat.le_of_ble_eq_true rfl) ?_
  intro p e s m args below meth c ls X hml hr hk hl hS
  have hx := X.1
  have hb := X.2.1
  have hl : lv_has ls 4 [(0, .ref v), (1, .int (nI xa9)), (2, .int (nI 0)), (3, .int (nI n))] := hl
  refine lv_iload_n hx hb dJ1_indexOf_4cfef_0 rfl (lv_at hl 1 rfl) ?_
  refine gc_s (C := RJ1) (rest := []) X hml hl.1 (sj_canEncode l xa9 h1) okJ_canEncode wJ_m88_J1 ⟨Nat.le_of_ble_eq_true rfl, Nat.le_of_ble_eq_true rfl⟩ ⟨Nat.le_refl _, Nat.le_refl _⟩ rfl (Nat.le_of_ble_eq_true rfl) dJ1_indexOf_4cfef_1 ?_ rfl
  intro r9 hr9
  subst hr9
  refine n_if_ne (tgt := 9) hx hb dJ1_indexOf_4cfef_4 (by decide) (by decide) (fun _ => ?_) (fun g0 => absurd g0 (by decide))
  refine lv_iload_n hx hb dJ1_indexOf_4cfef_9 rfl (lv_at hl 2 rfl) ?_
  refine lv_iconst (v := iZ 0) hx hb dJ1_indexOf_4cfef_10 (by decide) ?_
  refine tp_i2 (show nI 0 = iZ 0 from by decide) ?_
  refine gm_max (rest := []) X hml hl.1 wJ_m92_J1 ⟨Nat.le_of_ble_eq_true rfl, Nat.le_of_ble_eq_true rfl⟩ ⟨Nat.le_refl _, Nat.le_refl _⟩ (Nat.le_of_ble_eq_true rfl) (by decide) (by decide) (by decide) (by decide) dJ1_indexOf_4cfef_11 ?_
  refine tp_i (show iZ (max 0 0) = nI 0 from by decide) ?_
  refine lv_istore_n (lv' := [(2, .int (nI 0)), (0, .ref v), (1, .int (nI xa9)), (3, .int (nI n))]) hx hb dJ1_indexOf_4cfef_14 rfl hl (by decide) rfl (fun ls hl => ?_)
  refine lv_iload_n hx hb dJ1_indexOf_4cfef_15 rfl (lv_at hl 3 rfl) ?_
  refine lv_aload_n hx hb dJ1_indexOf_4cfef_16 rfl (lv_at hl 1 rfl) ?_
  refine va_tlen hx hb hS.2.2.2.2 va_S.rf (v := nI n) rfl dJ1_indexOf_4cfef_17 ?_
  refine tp_i (iZ_n n).symm ?_
  refine tp_i2 (iZ_n n).symm ?_
  refine gm_min (rest := []) X hml hl.1 wJ_m38_J1 ⟨Nat.le_of_ble_eq_true rfl, Nat.le_of_ble_eq_true rfl⟩ ⟨Nat.le_refl _, Nat.le_refl _⟩ (Nat.le_of_ble_eq_true rfl) (by omega) (by omega) (by omega) (by omega) dJ1_indexOf_4cfef_18 ?_
  refine tp_i (show iZ (min (n : Int) (n : Int)) = nI n from by rw [show min (n : Int) (n : Int) = (n : Int) by omega, iZ_n]) ?_
  refine lv_istore_n (lv' := [(3, .int (nI n)), (2, .int (nI 0)), (0, .ref v), (1, .int (nI xa9))]) hx hb dJ1_indexOf_4cfef_21 rfl hl (by decide) rfl (fun ls hl => ?_)
  refine lv_iload_n hx hb dJ1_indexOf_4cfef_22 rfl (lv_at hl 1 rfl) ?_
  refine lv_iload_n hx hb dJ1_indexOf_4cfef_23 rfl (lv_at hl 0 rfl) ?_
  refine n_icmp_lt (tgt := 29) hx hb dJ1_indexOf_4cfef_24 (by decide) (by omega) (by omega) (fun _ => ?_) (fun g0 => absurd h0 g0)
  refine lv_aload_n hx hb dJ1_indexOf_4cfef_29 rfl (lv_at hl 2 rfl) ?_
  refine lv_iload_n hx hb dJ1_indexOf_4cfef_30 rfl (lv_at hl 3 rfl) ?_
  refine lv_iload_n hx hb dJ1_indexOf_4cfef_31 rfl (lv_at hl 1 rfl) ?_
  refine lv_iload_n hx hb dJ1_indexOf_4cfef_32 rfl (lv_at hl 0 rfl) ?_
  refine sc_s (C := RJ1) (rest := []) X hml hl.1 (sj_ixChar l k v n ga xa9 h1 h2 h3) okJ_ixChar wJ_m95_J1 ⟨Nat.le_of_ble_eq_true rfl, Nat.le_of_ble_eq_true rfl⟩ ⟨Nat.le_refl _, Nat.le_refl _⟩ hS rfl (Nat.le_of_ble_eq_true rfl) dJ1_indexOf_4cfef_33 ?_
  intro r9 hr9
  exact re_p hx hb hr hk hr9 dJ1_indexOf_4cfef_36
theorem sj_indexOf2 (l : Launch) (k v n : Nat) (ga : Nat → Nat) (xa9 : Nat) (h1 : xa9 ≤ 127) (h2 : n ≤ 127) (h0 : 0 < n) (h3 : ∀ j, ga j ≤ 127) : sMp l yJ0_indexOf_7cf53 cJ0_indexOf_7cf53 3 (some .int) 2 48 [.ref k, .int (nI xa9), .int (nI 0)] k v n (fun j => nI (ga j)) (sP ga xa9 n) := by
  refine sMp_in (own := RJ0) (by decide) rfl (Nat.le_of_ble_eq_true rfl) ?_
  intro p e s m args below meth c ls X hml hr hk hl hS
  have hx := X.1
  have hb := X.2.1
  have hl : lv_has ls 3 [(0, .ref k), (1, .int (nI xa9)), (2, .int (nI 0))] := hl
  refine lv_aload_n hx hb dJ0_indexOf_7cf53_0 rfl (lv_at hl 0 rfl) ?_
  refine sc_v (rest := []) X hml hl.1 (sj_isLatin1 l k v n _) okJ_isLatin1 wJ_m492_J0 ⟨Nat.le_of_ble_eq_true rfl, Nat.le_of_ble_eq_true rfl⟩ ⟨Nat.le_refl _, Nat.le_refl _⟩ hS rfl (Nat.le_of_ble_eq_true rfl) dJ0_indexOf_7cf53_1 ?_
  intro r9 hr9
  subst hr9
  refine n_if_eq (tgt := 23) hx hb dJ0_indexOf_7cf53_4 (by decide) (by decide) (fun g0 => absurd g0 (by decide)) (fun _ => ?_)
  refine lv_aload_n hx hb dJ0_indexOf_7cf53_7 rfl (lv_at hl 0 rfl) ?_
  refine vk_getf hx hb hS.2.2.2.1 va_S.rf X.2.2.2 (X.2.2.1 _ wJ_f9) (fun _ h => h) dJ0_indexOf_7cf53_8 ?_
  refine lv_iload_n hx hb dJ0_indexOf_7cf53_11 rfl (lv_at hl 1 rfl) ?_
  refine lv_iload_n hx hb dJ0_indexOf_7cf53_12 rfl (lv_at hl 2 rfl) ?_
  refine lv_aload_n hx hb dJ0_indexOf_7cf53_13 rfl (lv_at hl 0 rfl) ?_
  refine sc_v (rest := [.int (nI 0), .int (nI xa9), .ref v]) X hml hl.1 (sj_length l k v n _) okJ_length wJ_m505_J0 ⟨Nat.le_of_ble_eq_true rfl, Nat.le_of_ble_eq_true rfl⟩ ⟨Nat.le_refl _, Nat.le_refl _⟩ hS rfl (Nat.le_of_ble_eq_true rfl) dJ0_indexOf_7cf53_14 ?_
  intro r9 hr9
  subst hr9
  refine sc_s (C := RJ1) (rest := []) X hml hl.1 (sj_ix l k v n ga xa9 h1 h2 h0 h3) okJ_ix wJ_m637_J0 ⟨Nat.le_of_ble_eq_true rfl, Nat.le_of_ble_eq_true rfl⟩ ⟨Nat.le_refl _, Nat.le_refl _⟩ hS rfl (Nat.le_of_ble_eq_true rfl) dJ0_indexOf_7cf53_17 ?_
  intro r9 hr9
  refine lv_goto (tgt := 36) hx hb dJ0_indexOf_7cf53_20 (by decide) ?_
  exact re_p hx hb hr hk hr9 dJ0_indexOf_7cf53_36
theorem sj_indexOf (l : Launch) (k v n : Nat) (ga : Nat → Nat) (xa9 : Nat) (h1 : xa9 ≤ 127) (h2 : n ≤ 127) (h0 : 0 < n) (h3 : ∀ j, ga j ≤ 127) : sMp l yJ0_indexOf_0f7a4 cJ0_indexOf_0f7a4 2 (some .int) 3 70 [.ref k, .int (nI xa9)] k v n (fun j => nI (ga j)) (sP ga xa9 n) := by
  refine sMp_in (own := RJ0) (by decide) rfl (Nat.le_of_ble_eq_true rfl) ?_
  intro p e s m args below meth c ls X hml hr hk hl hS
  have hx := X.1
  have hb := X.2.1
  have hl : lv_has ls 2 [(0, .ref k), (1, .int (nI xa9))] := hl
  refine lv_aload_n hx hb dJ0_indexOf_0f7a4_0 rfl (lv_at hl 0 rfl) ?_
  refine lv_iload_n hx hb dJ0_indexOf_0f7a4_1 rfl (lv_at hl 1 rfl) ?_
  refine lv_iconst (v := nI 0) hx hb dJ0_indexOf_0f7a4_2 (by decide) ?_
  refine sc_v (av := [.int (nI xa9), .int (nI 0)]) (rest := []) X hml hl.1 (sj_indexOf2 l k v n ga xa9 h1 h2 h0 h3) okJ_indexOf2 wJ_m633_J0 ⟨Nat.le_of_ble_eq_true rfl, Nat.le_of_ble_eq_true rfl⟩ ⟨Nat.le_refl _, Nat.le_refl _⟩ hS rfl (Nat.le_of_ble_eq_true rfl) dJ0_indexOf_0f7a4_3 ?_
  intro r9 hr9
  exact re_p hx hb hr hk hr9 dJ0_indexOf_0f7a4_6

