/-! constructors, walked: the tape, what is foretold -/
/-- what it holds at first -/
def zN1 : RS := (fun k => 0, fun _ _ => 0, fun _ _ => 0)
theorem okn_X1 : Cond.code yX1_init cX1_init 1 none ∈ gT ∧ Cond.instanceMethod yX1_init ∈ gT ∧ Cond.initialized yX1_init.cls ∈ gT ∧ yX1_init.name = "<init>" ∧ yX1_init.cls ≠ "java/lang/invoke/MethodHandle" ∧ yX1_init.cls ≠ "java/lang/invoke/VarHandle" ∧ (parseMethodDescriptor yX1_init.desc).map (fun d => d.parameters.length) = some 0 := ⟨wc_X1_init, wi_X1_init, wn_X1, rfl, by decide, by decide, by decide +kernel⟩
set_option maxHeartbeats 4000000 in
set_option maxRecDepth 100000 in
theorem nX1_init (l : Launch) (G : CG) (h0 : Nat) : cNv G l yX1_init cX1_init 1 2 40 9 218 [.ref h0] ([(h0, .inr (1, [.null, .int 0, .int 0, .null]))]) (fun u9 : (Nat → Nat) × (Nat → Nat) => wT1 G u9.1 u9.2 zN1 ++ w5 G u9.2 zN5) (fun u9 => u9.1 0 = h0) := by
  refine cNv_in (by decide) rfl rfl (Nat.le_of_ble_eq_true rfl) ?_
  intro p e s m args below meth c A ls X hin hml hr hk hl w
  have hx := X.1
  have hb := X.2.1
  have hts := X.2.2.1
  have hown := X.2.2.2.1
  have hl : lv_has ls 1 [(0, .ref h0)] := hl
  refine lv_aload_n hx hb dX1_init_0 rfl (lv_at hl 0 rfl) ?_
  refine ni_obj (rest := []) X hml hl.1 wO_X1 ⟨Nat.le_of_ble_eq_true rfl, Nat.le_of_ble_eq_true rfl⟩ (Nat.le_of_ble_eq_true rfl) dX1_init_1 ?_
  refine lv_aload_n hx hb dX1_init_4 rfl (lv_at hl 0 rfl) ?_
  refine lv_bipush (v := nI 100) hx hb dX1_init_5 (by decide) ?_
  refine ni_ai (n := 100) X w (by decide) ⟨Nat.le_of_ble_eq_true rfl, Nat.le_of_ble_eq_true rfl⟩ dX1_init_7 (fun qb7 H w => ?_)
  have w : cW G A s ([(h0, .inr (1, [.null, .int 0, .int 0, .null])), (qb7, .inl (G.2.1, 100, .inl (fun _ => 0)))]) H [] := w
  refine va_putF (D := G.1) (ci := 1) (v := .ref qb7) (ty := .array .int) (C := RX1) (T := TX1) (N := 4) hx hb hts gX1 tyX1 tyX1_ok nmX1 hown X.2.2.2.2.1.1 w.1 w.2.1 w.2.2 0 rfl rfl 0 (by decide) (hts _ wf_X1_9) (fun _ h9 => h9) rfl hin rfl (by decide +kernel) rfl rfl (Nat.le_of_ble_eq_true rfl) dX1_init_9 (fun H locs hP hD hS => ?_)
  have w : cW G A s ([(h0, .inr (1, [.ref qb7, .int 0, .int 0, .null])), (qb7, .inl (G.2.1, 100, .inl (fun _ => 0)))]) H locs := ⟨hP, hD, hS⟩
  refine lv_aload_n hx hb dX1_init_12 rfl (lv_at hl 0 rfl) ?_
  refine va_new (ci := 4) (fs := [.int 0, .null, .null, .int 0, .null, .null, .null, .null, .int 0, .int 0, .int 0, .null, .int 0]) (C := RX5) (T := TX5) (N := 13) hx hb hts gX5 tyX5 tyX5_ok hown (hts _ wL_X1_15) (hts _ wB_X5) (hts _ wn_X5) X.2.2.2.2.1.1 w.1 w.2.1 w.2.2 X.2.2.2.2.2 rfl (fun j hj => by rcases (show j = 0 ∨ j = 1 ∨ j = 2 ∨ j = 3 ∨ j = 4 ∨ j = 5 ∨ j = 6 ∨ j = 7 ∨ j = 8 ∨ j = 9 ∨ j = 10 ∨ j = 11 ∨ j = 12 by omega) with rfl | rfl | rfl | rfl | rfl | rfl | rfl | rfl | rfl | rfl | rfl | rfl | rfl <;> rfl) (Nat.le_of_ble_eq_true rfl) (Nat.le_of_ble_eq_true rfl) dX1_init_13 (fun qb13 H hP hD hS => ?_)
  have w : cW G A s ([(h0, .inr (1, [.ref qb7, .int 0, .int 0, .null])), (qb7, .inl (G.2.1, 100, .inl (fun _ => 0))), (qb13, .inr (4, [.int 0, .null, .null, .int 0, .null, .null, .null, .null, .int 0, .int 0, .int 0, .null, .int 0]))]) H locs := ⟨hP, hD, hS⟩
  refine lv_dup hx hb dX1_init_16 rfl ?_
  refine ni_call (host := "RunningThree") (rest := [.ref qb13, .ref h0]) (wr := [(h0, .inr (1, [.ref qb7, .int 0, .int 0, .null])), (qb7, .inl (G.2.1, 100, .inl (fun _ => 0)))]) X hml hl.1 (nX5_init l G qb13) okn_X5 wp_X1_17 ⟨Nat.le_of_ble_eq_true rfl, Nat.le_of_ble_eq_true rfl⟩ ⟨Nat.le_of_ble_eq_true rfl, Nat.le_of_ble_eq_true rfl⟩ w [2] [0, 1] rfl (by decide) rfl (by decide) (by decide) (Nat.le_of_ble_eq_true rfl) dX1_init_17 (fun ub17 H locs eub17 wn9 => ?_)
  subst eub17
  have w : cW G A s ([(h0, .inr (1, [.ref qb7, .int 0, .int 0, .null])), (qb7, .inl (G.2.1, 100, .inl (fun _ => 0)))] ++ w5 G ub17 zN5) H locs := wn9
  refine va_putF (D := G.1) (ci := 1) (v := .ref (ub17 0)) (ty := .object "RunningThree$Scene") (C := RX1) (T := TX1) (N := 4) hx hb hts gX1 tyX1 tyX1_ok nmX1 hown X.2.2.2.2.1.1 w.1 w.2.1 w.2.2 0 rfl rfl 3 (by decide) (hts _ wf_X1_18) (fun _ h9 => h9) rfl hin rfl (by decide +kernel) rfl rfl (Nat.le_of_ble_eq_true rfl) dX1_init_20 (fun H locs hP hD hS => ?_)
  have w : cW G A s ([(h0, .inr (1, [.ref qb7, .int 0, .int 0, .ref (ub17 0)])), (qb7, .inl (G.2.1, 100, .inl (fun _ => 0)))] ++ w5 G ub17 zN5) H locs := ⟨hP, hD, hS⟩
  refine W.widen (k := 9) (n := 218) (by decide) (by decide) ?_
  exact ni_end (post := fun u9 => u9.1 0 = h0) (w := fun u9 : (Nat → Nat) × (Nat → Nat) => wT1 G u9.1 u9.2 zN1 ++ w5 G u9.2 zN5) (fun k => if k = 1 then qb7 else h0, ub17) X hr hk w rfl dX1_init_23

/-- what it holds at first -/
def zN2 : RS := (fun k => 0, fun _ _ => 0, fun _ _ => 0)
theorem okn_X2 : Cond.code yX2_init cX2_init 1 none ∈ gT ∧ Cond.instanceMethod yX2_init ∈ gT ∧ Cond.initialized yX2_init.cls ∈ gT ∧ yX2_init.name = "<init>" ∧ yX2_init.cls ≠ "java/lang/invoke/MethodHandle" ∧ yX2_init.cls ≠ "java/lang/invoke/VarHandle" ∧ (parseMethodDescriptor yX2_init.desc).map (fun d => d.parameters.length) = some 0 := ⟨wc_X2_init, wi_X2_init, wn_X2, rfl, by decide, by decide, by decide +kernel⟩
set_option maxHeartbeats 4000000 in
set_option maxRecDepth 100000 in
theorem nX2_init (l : Launch) (G : CG) (h0 : Nat) : cNv G l yX2_init cX2_init 1 2 40 21 698 [.ref h0] ([(h0, .inr (2, [.null, .null, .null]))]) (fun u9 : (Nat → Nat) × (Nat → Nat) × (Nat → Nat) => [(u9.1 0, .inr (2, [.ref (u9.2.1 0), .ref (u9.2.2 0), .ref (u9.1 3)])), (u9.1 3, .inl (G.2.1, 61, .inl (zN2.2.1 2)))] ++ w5 G u9.2.1 zN5 ++ w0 G u9.2.2 zN0) (fun u9 => u9.1 0 = h0) := by
  refine cNv_in (by decide) rfl rfl (Nat.le_of_ble_eq_true rfl) ?_
  intro p e s m args below meth c A ls X hin hml hr hk hl w
  have hx := X.1
  have hb := X.2.1
  have hts := X.2.2.1
  have hown := X.2.2.2.1
  have hl : lv_has ls 1 [(0, .ref h0)] := hl
  refine lv_aload_n hx hb dX2_init_0 rfl (lv_at hl 0 rfl) ?_
  refine ni_obj (rest := []) X hml hl.1 wO_X2 ⟨Nat.le_of_ble_eq_true rfl, Nat.le_of_ble_eq_true rfl⟩ (Nat.le_of_ble_eq_true rfl) dX2_init_1 ?_
  refine lv_aload_n hx hb dX2_init_4 rfl (lv_at hl 0 rfl) ?_
  refine va_new (ci := 4) (fs := [.int 0, .null, .null, .int 0, .null, .null, .null, .null, .int 0, .int 0, .int 0, .null, .int 0]) (C := RX5) (T := TX5) (N := 13) hx hb hts gX5 tyX5 tyX5_ok hown (hts _ wL_X2_9) (hts _ wB_X5) (hts _ wn_X5) X.2.2.2.2.1.1 w.1 w.2.1 w.2.2 X.2.2.2.2.2 rfl (fun j hj => by rcases (show j = 0 ∨ j = 1 ∨ j = 2 ∨ j = 3 ∨ j = 4 ∨ j = 5 ∨ j = 6 ∨ j = 7 ∨ j = 8 ∨ j = 9 ∨ j = 10 ∨ j = 11 ∨ j = 12 by omega) with rfl | rfl | rfl | rfl | rfl | rfl | rfl | rfl | rfl | rfl | rfl | rfl | rfl <;> rfl) (Nat.le_of_ble_eq_true rfl) (Nat.le_of_ble_eq_true rfl) dX2_init_5 (fun qb5 H hP hD hS => ?_)
  have w : cW G A s ([(h0, .inr (2, [.null, .null, .null])), (qb5, .inr (4, [.int 0, .null, .null, .int 0, .null, .null, .null, .null, .int 0, .int 0, .int 0, .null, .int 0]))]) H [] := ⟨hP, hD, hS⟩
  refine lv_dup hx hb dX2_init_8 rfl ?_
  refine ni_call (host := "RunningThree") (rest := [.ref qb5, .ref h0]) (wr := [(h0, .inr (2, [.null, .null, .null]))]) X hml hl.1 (nX5_init l G qb5) okn_X5 wp_X2_11 ⟨Nat.le_of_ble_eq_true rfl, Nat.le_of_ble_eq_true rfl⟩ ⟨Nat.le_of_ble_eq_true rfl, Nat.le_of_ble_eq_true rfl⟩ w [1] [0] rfl (by decide) rfl (by decide) (by decide) (Nat.le_of_ble_eq_true rfl) dX2_init_9 (fun ub9 H locs eub9 wn9 => ?_)
  subst eub9
  have w : cW G A s ([(h0, .inr (2, [.null, .null, .null]))] ++ w5 G ub9 zN5) H locs := wn9
  refine va_putF (D := G.1) (ci := 2) (v := .ref (ub9 0)) (ty := .object "RunningThree$Scene") (C := RX2) (T := TX2) (N := 3) hx hb hts gX2 tyX2 tyX2_ok nmX2 hown X.2.2.2.2.1.1 w.1 w.2.1 w.2.2 0 rfl rfl 0 (by decide) (hts _ wf_X2_12) (fun _ h9 => h9) rfl hin rfl (by decide +kernel) rfl rfl (Nat.le_of_ble_eq_true rfl) dX2_init_12 (fun H locs hP hD hS => ?_)
  have w : cW G A s ([(h0, .inr (2, [.ref (ub9 0), .null, .null]))] ++ w5 G ub9 zN5) H locs := ⟨hP, hD, hS⟩
  refine lv_aload_n hx hb dX2_init_15 rfl (lv_at hl 0 rfl) ?_
  refine va_new (ci := 0) (fs := [.int 0, .null, .null, .null, .null, .null, .null, .null, .null, .null, .null, .null]) (C := RX0) (T := TX0) (N := 12) hx hb hts gX0 tyX0 tyX0_ok hown (hts _ wL_X2_18) (hts _ wB_X0) (hts _ wn_X0) X.2.2.2.2.1.1 w.1 w.2.1 w.2.2 X.2.2.2.2.2 rfl (fun j hj => by rcases (show j = 0 ∨ j = 1 ∨ j = 2 ∨ j = 3 ∨ j = 4 ∨ j = 5 ∨ j = 6 ∨ j = 7 ∨ j = 8 ∨ j = 9 ∨ j = 10 ∨ j = 11 by omega) with rfl | rfl | rfl | rfl | rfl | rfl | rfl | rfl | rfl | rfl | rfl | rfl <;> rfl) (Nat.le_of_ble_eq_true rfl) (Nat.le_of_ble_eq_true rfl) dX2_init_16 (fun qb16 H hP hD hS => ?_)
  have w : cW G A s ([(h0, .inr (2, [.ref (ub9 0), .null, .null]))] ++ w5 G ub9 zN5 ++ [(qb16, .inr (0, [.int 0, .null, .null, .null, .null, .null, .null, .null, .null, .null, .null, .null]))]) H locs := ⟨hP, hD, hS⟩
  refine lv_dup hx hb dX2_init_19 rfl ?_
  refine ni_call (host := "RunningThree") (rest := [.ref qb16, .ref h0]) (wr := [(h0, .inr (2, [.ref (ub9 0), .null, .null]))] ++ w5 G ub9 zN5) X hml hl.1 (nX0_init l G qb16) okn_X0 wp_X2_20 ⟨Nat.le_of_ble_eq_true rfl, Nat.le_of_ble_eq_true rfl⟩ ⟨Nat.le_of_ble_eq_true rfl, Nat.le_of_ble_eq_true rfl⟩ w [9] [0, 1, 2, 3, 4, 5, 6, 7, 8] rfl (by decide) rfl (by decide) (by decide) (Nat.le_of_ble_eq_true rfl) dX2_init_20 (fun ub20 H locs eub20 wn9 => ?_)
  subst eub20
  have w : cW G A s ([(h0, .inr (2, [.ref (ub9 0), .null, .null]))] ++ w5 G ub9 zN5 ++ w0 G ub20 zN0) H locs := wn9
  refine va_putF (D := G.1) (ci := 2) (v := .ref (ub20 0)) (ty := .object "RunningThree$Chances") (C := RX2) (T := TX2) (N := 3) hx hb hts gX2 tyX2 tyX2_ok nmX2 hown X.2.2.2.2.1.1 w.1 w.2.1 w.2.2 0 rfl rfl 1 (by decide) (hts _ wf_X2_21) (fun _ h9 => h9) rfl hin rfl (by decide +kernel) rfl rfl (Nat.le_of_ble_eq_true rfl) dX2_init_23 (fun H locs hP hD hS => ?_)
  have w : cW G A s ([(h0, .inr (2, [.ref (ub9 0), .ref (ub20 0), .null]))] ++ w5 G ub9 zN5 ++ w0 G ub20 zN0) H locs := ⟨hP, hD, hS⟩
  refine lv_aload_n hx hb dX2_init_26 rfl (lv_at hl 0 rfl) ?_
  refine lv_bipush (v := nI 61) hx hb dX2_init_27 (by decide) ?_
  refine ni_ai (n := 61) X w (by decide) ⟨Nat.le_of_ble_eq_true rfl, Nat.le_of_ble_eq_true rfl⟩ dX2_init_29 (fun qb29 H w => ?_)
  have w : cW G A s ([(h0, .inr (2, [.ref (ub9 0), .ref (ub20 0), .null]))] ++ w5 G ub9 zN5 ++ w0 G ub20 zN0 ++ [(qb29, .inl (G.2.1, 61, .inl (fun _ => 0)))]) H locs := w
  refine va_putF (D := G.1) (ci := 2) (v := .ref qb29) (ty := .array .int) (C := RX2) (T := TX2) (N := 3) hx hb hts gX2 tyX2 tyX2_ok nmX2 hown X.2.2.2.2.1.1 w.1 w.2.1 w.2.2 0 rfl rfl 2 (by decide) (hts _ wf_X2_25) (fun _ h9 => h9) rfl hin rfl (by decide +kernel) rfl rfl (Nat.le_of_ble_eq_true rfl) dX2_init_31 (fun H locs hP hD hS => ?_)
  have w : cW G A s ([(h0, .inr (2, [.ref (ub9 0), .ref (ub20 0), .ref qb29]))] ++ w5 G ub9 zN5 ++ w0 G ub20 zN0 ++ [(qb29, .inl (G.2.1, 61, .inl (fun _ => 0)))]) H locs := ⟨hP, hD, hS⟩
  refine W.widen (k := 21) (n := 698) (by decide) (by decide) ?_
  exact ni_end (post := fun u9 => u9.1 0 = h0) (w := fun u9 : (Nat → Nat) × (Nat → Nat) × (Nat → Nat) => [(u9.1 0, .inr (2, [.ref (u9.2.1 0), .ref (u9.2.2 0), .ref (u9.1 3)])), (u9.1 3, .inl (G.2.1, 61, .inl (zN2.2.1 2)))] ++ w5 G u9.2.1 zN5 ++ w0 G u9.2.2 zN0) (fun k => if k = 3 then qb29 else h0, ub9, ub20) X hr hk ⟨w.1.sub [0, 21, 1, 2, 3, 4, 5, 6, 7, 8, 9, 10, 11, 12, 13, 14, 15, 16, 17, 18, 19, 20] rfl, w.2.1.sub [0, 21, 1, 2, 3, 4, 5, 6, 7, 8, 9, 10, 11, 12, 13, 14, 15, 16, 17, 18, 19, 20] (by decide) rfl, w.2.2⟩ rfl dX2_init_34
