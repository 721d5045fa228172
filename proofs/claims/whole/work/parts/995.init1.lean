/-! constructors, walked -/
/-- what it holds at first -/
def zN5 : RS := (fun k => if k = 0 then nI 1 else if k = 10 then iZ (-4) else if k = 12 then nI 1 else 0, fun _ _ => 0, fun _ _ => 0)
theorem okn_X5 : Cond.code yX5_init cX5_init 1 none ∈ gT ∧ Cond.instanceMethod yX5_init ∈ gT ∧ Cond.initialized yX5_init.cls ∈ gT ∧ yX5_init.name = "<init>" ∧ yX5_init.cls ≠ "java/lang/invoke/MethodHandle" ∧ yX5_init.cls ≠ "java/lang/invoke/VarHandle" ∧ (parseMethodDescriptor yX5_init.desc).map (fun d => d.parameters.length) = some 0 := ⟨wc_X5_init, wi_X5_init, wn_X5, rfl, by decide, by decide, by decide +kernel⟩
set_option maxHeartbeats 4000000 in
set_option maxRecDepth 100000 in
theorem nX5_init (l : Launch) (G : CG) (h0 : Nat) : cNv G l yX5_init cX5_init 1 1 20 7 105 [.ref h0] ([(h0, .inr (4, [.int 0, .null, .null, .int 0, .null, .null, .null, .null, .int 0, .int 0, .int 0, .null, .int 0]))]) (fun u9 : Nat → Nat => w5 G u9 zN5) (fun u9 => u9 0 = h0) := by
  refine cNv_in (by decide) rfl rfl (Nat.le_of_ble_eq_true rfl) ?_
  intro p e s m args below meth c A ls X hin hml hr hk hl w
  have hx := X.1
  have hb := X.2.1
  have hts := X.2.2.1
  have hown := X.2.2.2.1
  have hl : lv_has ls 1 [(0, .ref h0)] := hl
  refine lv_aload_n hx hb dX5_init_0 rfl (lv_at hl 0 rfl) ?_
  refine ni_obj (rest := []) X hml hl.1 wO_X5 ⟨Nat.le_of_ble_eq_true rfl, Nat.le_of_ble_eq_true rfl⟩ (Nat.le_of_ble_eq_true rfl) dX5_init_1 ?_
  refine lv_aload_n hx hb dX5_init_4 rfl (lv_at hl 0 rfl) ?_
  refine lv_iconst (v := nI 1) hx hb dX5_init_5 (by decide) ?_
  refine va_put (D := G.1) (ci := 4) (v := .int (nI 1)) (ty := .int) (C := RX5) (T := TX5) (N := 13) hx hb hts gX5 tyX5 tyX5_ok nmX5 hown X.2.2.2.2.1.1 w.1 w.2.1 w.2.2 0 rfl rfl 0 (by decide) (hts _ wf_X5_9) (fun _ h9 => h9) rfl (by decide +kernel) rfl rfl (Nat.le_of_ble_eq_true rfl) dX5_init_6 (fun H locs hP hD hS => ?_)
  have w : cW G A s ([(h0, .inr (4, [.int (nI 1), .null, .null, .int 0, .null, .null, .null, .null, .int 0, .int 0, .int 0, .null, .int 0]))]) H locs := ⟨hP, hD, hS⟩
  refine lv_aload_n hx hb dX5_init_9 rfl (lv_at hl 0 rfl) ?_
  refine lv_bipush (v := nI 40) hx hb dX5_init_10 (by decide) ?_
  refine ni_ai (n := 40) X w (by decide) ⟨Nat.le_of_ble_eq_true rfl, Nat.le_of_ble_eq_true rfl⟩ dX5_init_12 (fun qb12 H w => ?_)
  have w : cW G A s ([(h0, .inr (4, [.int (nI 1), .null, .null, .int 0, .null, .null, .null, .null, .int 0, .int 0, .int 0, .null, .int 0])), (qb12, .inl (G.2.1, 40, .inl (fun _ => 0)))]) H locs := w
  refine va_putF (D := G.1) (ci := 4) (v := .ref qb12) (ty := .array .int) (C := RX5) (T := TX5) (N := 13) hx hb hts gX5 tyX5 tyX5_ok nmX5 hown X.2.2.2.2.1.1 w.1 w.2.1 w.2.2 0 rfl rfl 1 (by decide) (hts _ wf_X5_15) (fun _ h9 => h9) rfl hin rfl (by decide +kernel) rfl rfl (Nat.le_of_ble_eq_true rfl) dX5_init_14 (fun H locs hP hD hS => ?_)
  have w : cW G A s ([(h0, .inr (4, [.int (nI 1), .ref qb12, .null, .int 0, .null, .null, .null, .null, .int 0, .int 0, .int 0, .null, .int 0])), (qb12, .inl (G.2.1, 40, .inl (fun _ => 0)))]) H locs := ⟨hP, hD, hS⟩
  refine lv_aload_n hx hb dX5_init_17 rfl (lv_at hl 0 rfl) ?_
  refine lv_bipush (v := nI 40) hx hb dX5_init_18 (by decide) ?_
  refine ni_ai (n := 40) X w (by decide) ⟨Nat.le_of_ble_eq_true rfl, Nat.le_of_ble_eq_true rfl⟩ dX5_init_20 (fun qb20 H w => ?_)
  have w : cW G A s ([(h0, .inr (4, [.int (nI 1), .ref qb12, .null, .int 0, .null, .null, .null, .null, .int 0, .int 0, .int 0, .null, .int 0])), (qb12, .inl (G.2.1, 40, .inl (fun _ => 0))), (qb20, .inl (G.2.1, 40, .inl (fun _ => 0)))]) H locs := w
  refine va_putF (D := G.1) (ci := 4) (v := .ref qb20) (ty := .array .int) (C := RX5) (T := TX5) (N := 13) hx hb hts gX5 tyX5 tyX5_ok nmX5 hown X.2.2.2.2.1.1 w.1 w.2.1 w.2.2 0 rfl rfl 2 (by decide) (hts _ wf_X5_19) (fun _ h9 => h9) rfl hin rfl (by decide +kernel) rfl rfl (Nat.le_of_ble_eq_true rfl) dX5_init_22 (fun H locs hP hD hS => ?_)
  have w : cW G A s ([(h0, .inr (4, [.int (nI 1), .ref qb12, .ref qb20, .int 0, .null, .null, .null, .null, .int 0, .int 0, .int 0, .null, .int 0])), (qb12, .inl (G.2.1, 40, .inl (fun _ => 0))), (qb20, .inl (G.2.1, 40, .inl (fun _ => 0)))]) H locs := ⟨hP, hD, hS⟩
  refine lv_aload_n hx hb dX5_init_25 rfl (lv_at hl 0 rfl) ?_
  refine lv_iconst (v := nI 5) hx hb dX5_init_26 (by decide) ?_
  refine ni_ai (n := 5) X w (by decide) ⟨Nat.le_of_ble_eq_true rfl, Nat.le_of_ble_eq_true rfl⟩ dX5_init_27 (fun qb27 H w => ?_)
  have w : cW G A s ([(h0, .inr (4, [.int (nI 1), .ref qb12, .ref qb20, .int 0, .null, .null, .null, .null, .int 0, .int 0, .int 0, .null, .int 0])), (qb12, .inl (G.2.1, 40, .inl (fun _ => 0))), (qb20, .inl (G.2.1, 40, .inl (fun _ => 0))), (qb27, .inl (G.2.1, 5, .inl (fun _ => 0)))]) H locs := w
  refine va_putF (D := G.1) (ci := 4) (v := .ref qb27) (ty := .array .int) (C := RX5) (T := TX5) (N := 13) hx hb hts gX5 tyX5 tyX5_ok nmX5 hown X.2.2.2.2.1.1 w.1 w.2.1 w.2.2 0 rfl rfl 4 (by decide) (hts _ wf_X5_22) (fun _ h9 => h9) rfl hin rfl (by decide +kernel) rfl rfl (Nat.le_of_ble_eq_true rfl) dX5_init_29 (fun H locs hP hD hS => ?_)
  have w : cW G A s ([(h0, .inr (4, [.int (nI 1), .ref qb12, .ref qb20, .int 0, .ref qb27, .null, .null, .null, .int 0, .int 0, .int 0, .null, .int 0])), (qb12, .inl (G.2.1, 40, .inl (fun _ => 0))), (qb20, .inl (G.2.1, 40, .inl (fun _ => 0))), (qb27, .inl (G.2.1, 5, .inl (fun _ => 0)))]) H locs := ⟨hP, hD, hS⟩
  refine lv_aload_n hx hb dX5_init_32 rfl (lv_at hl 0 rfl) ?_
  refine lv_iconst (v := nI 5) hx hb dX5_init_33 (by decide) ?_
  refine ni_ai (n := 5) X w (by decide) ⟨Nat.le_of_ble_eq_true rfl, Nat.le_of_ble_eq_true rfl⟩ dX5_init_34 (fun qb34 H w => ?_)
  have w : cW G A s ([(h0, .inr (4, [.int (nI 1), .ref qb12, .ref qb20, .int 0, .ref qb27, .null, .null, .null, .int 0, .int 0, .int 0, .null, .int 0])), (qb12, .inl (G.2.1, 40, .inl (fun _ => 0))), (qb20, .inl (G.2.1, 40, .inl (fun _ => 0))), (qb27, .inl (G.2.1, 5, .inl (fun _ => 0))), (qb34, .inl (G.2.1, 5, .inl (fun _ => 0)))]) H locs := w
  refine va_putF (D := G.1) (ci := 4) (v := .ref qb34) (ty := .array .int) (C := RX5) (T := TX5) (N := 13) hx hb hts gX5 tyX5 tyX5_ok nmX5 hown X.2.2.2.2.1.1 w.1 w.2.1 w.2.2 0 rfl rfl 5 (by decide) (hts _ wf_X5_25) (fun _ h9 => h9) rfl hin rfl (by decide +kernel) rfl rfl (Nat.le_of_ble_eq_true rfl) dX5_init_36 (fun H locs hP hD hS => ?_)
  have w : cW G A s ([(h0, .inr (4, [.int (nI 1), .ref qb12, .ref qb20, .int 0, .ref qb27, .ref qb34, .null, .null, .int 0, .int 0, .int 0, .null, .int 0])), (qb12, .inl (G.2.1, 40, .inl (fun _ => 0))), (qb20, .inl (G.2.1, 40, .inl (fun _ => 0))), (qb27, .inl (G.2.1, 5, .inl (fun _ => 0))), (qb34, .inl (G.2.1, 5, .inl (fun _ => 0)))]) H locs := ⟨hP, hD, hS⟩
  refine lv_aload_n hx hb dX5_init_39 rfl (lv_at hl 0 rfl) ?_
  refine lv_iconst (v := nI 5) hx hb dX5_init_40 (by decide) ?_
  refine ni_ai (n := 5) X w (by decide) ⟨Nat.le_of_ble_eq_true rfl, Nat.le_of_ble_eq_true rfl⟩ dX5_init_41 (fun qb41 H w => ?_)
  have w : cW G A s ([(h0, .inr (4, [.int (nI 1), .ref qb12, .ref qb20, .int 0, .ref qb27, .ref qb34, .null, .null, .int 0, .int 0, .int 0, .null, .int 0])), (qb12, .inl (G.2.1, 40, .inl (fun _ => 0))), (qb20, .inl (G.2.1, 40, .inl (fun _ => 0))), (qb27, .inl (G.2.1, 5, .inl (fun _ => 0))), (qb34, .inl (G.2.1, 5, .inl (fun _ => 0))), (qb41, .inl (G.2.1, 5, .inl (fun _ => 0)))]) H locs := w
  refine va_putF (D := G.1) (ci := 4) (v := .ref qb41) (ty := .array .int) (C := RX5) (T := TX5) (N := 13) hx hb hts gX5 tyX5 tyX5_ok nmX5 hown X.2.2.2.2.1.1 w.1 w.2.1 w.2.2 0 rfl rfl 6 (by decide) (hts _ wf_X5_28) (fun _ h9 => h9) rfl hin rfl (by decide +kernel) rfl rfl (Nat.le_of_ble_eq_true rfl) dX5_init_43 (fun H locs hP hD hS => ?_)
  have w : cW G A s ([(h0, .inr (4, [.int (nI 1), .ref qb12, .ref qb20, .int 0, .ref qb27, .ref qb34, .ref qb41, .null, .int 0, .int 0, .int 0, .null, .int 0])), (qb12, .inl (G.2.1, 40, .inl (fun _ => 0))), (qb20, .inl (G.2.1, 40, .inl (fun _ => 0))), (qb27, .inl (G.2.1, 5, .inl (fun _ => 0))), (qb34, .inl (G.2.1, 5, .inl (fun _ => 0))), (qb41, .inl (G.2.1, 5, .inl (fun _ => 0)))]) H locs := ⟨hP, hD, hS⟩
  refine lv_aload_n hx hb dX5_init_46 rfl (lv_at hl 0 rfl) ?_
  refine lv_iconst (v := nI 5) hx hb dX5_init_47 (by decide) ?_
  refine ni_ai (n := 5) X w (by decide) ⟨Nat.le_of_ble_eq_true rfl, Nat.le_of_ble_eq_true rfl⟩ dX5_init_48 (fun qb48 H w => ?_)
  have w : cW G A s ([(h0, .inr (4, [.int (nI 1), .ref qb12, .ref qb20, .int 0, .ref qb27, .ref qb34, .ref qb41, .null, .int 0, .int 0, .int 0, .null, .int 0])), (qb12, .inl (G.2.1, 40, .inl (fun _ => 0))), (qb20, .inl (G.2.1, 40, .inl (fun _ => 0))), (qb27, .inl (G.2.1, 5, .inl (fun _ => 0))), (qb34, .inl (G.2.1, 5, .inl (fun _ => 0))), (qb41, .inl (G.2.1, 5, .inl (fun _ => 0))), (qb48, .inl (G.2.1, 5, .inl (fun _ => 0)))]) H locs := w
  refine va_putF (D := G.1) (ci := 4) (v := .ref qb48) (ty := .array .int) (C := RX5) (T := TX5) (N := 13) hx hb hts gX5 tyX5 tyX5_ok nmX5 hown X.2.2.2.2.1.1 w.1 w.2.1 w.2.2 0 rfl rfl 7 (by decide) (hts _ wf_X5_31) (fun _ h9 => h9) rfl hin rfl (by decide +kernel) rfl rfl (Nat.le_of_ble_eq_true rfl) dX5_init_50 (fun H locs hP hD hS => ?_)
  have w : cW G A s ([(h0, .inr (4, [.int (nI 1), .ref qb12, .ref qb20, .int 0, .ref qb27, .ref qb34, .ref qb41, .ref qb48, .int 0, .int 0, .int 0, .null, .int 0])), (qb12, .inl (G.2.1, 40, .inl (fun _ => 0))), (qb20, .inl (G.2.1, 40, .inl (fun _ => 0))), (qb27, .inl (G.2.1, 5, .inl (fun _ => 0))), (qb34, .inl (G.2.1, 5, .inl (fun _ => 0))), (qb41, .inl (G.2.1, 5, .inl (fun _ => 0))), (qb48, .inl (G.2.1, 5, .inl (fun _ => 0)))]) H locs := ⟨hP, hD, hS⟩
  refine lv_aload_n hx hb dX5_init_53 rfl (lv_at hl 0 rfl) ?_
  refine lv_bipush (v := iZ (-4)) hx hb dX5_init_54 (by decide) ?_
  refine va_put (D := G.1) (ci := 4) (v := .int (iZ (-4))) (ty := .int) (C := RX5) (T := TX5) (N := 13) hx hb hts gX5 tyX5 tyX5_ok nmX5 hown X.2.2.2.2.1.1 w.1 w.2.1 w.2.2 0 rfl rfl 10 (by decide) (hts _ wf_X5_34) (fun _ h9 => h9) rfl (by decide +kernel) rfl rfl (Nat.le_of_ble_eq_true rfl) dX5_init_56 (fun H locs hP hD hS => ?_)
  have w : cW G A s ([(h0, .inr (4, [.int (nI 1), .ref qb12, .ref qb20, .int 0, .ref qb27, .ref qb34, .ref qb41, .ref qb48, .int 0, .int 0, .int (iZ (-4)), .null, .int 0])), (qb12, .inl (G.2.1, 40, .inl (fun _ => 0))), (qb20, .inl (G.2.1, 40, .inl (fun _ => 0))), (qb27, .inl (G.2.1, 5, .inl (fun _ => 0))), (qb34, .inl (G.2.1, 5, .inl (fun _ => 0))), (qb41, .inl (G.2.1, 5, .inl (fun _ => 0))), (qb48, .inl (G.2.1, 5, .inl (fun _ => 0)))]) H locs := ⟨hP, hD, hS⟩
  refine lv_aload_n hx hb dX5_init_59 rfl (lv_at hl 0 rfl) ?_
  refine lv_iconst (v := nI 5) hx hb dX5_init_60 (by decide) ?_
  refine ni_ai (n := 5) X w (by decide) ⟨Nat.le_of_ble_eq_true rfl, Nat.le_of_ble_eq_true rfl⟩ dX5_init_61 (fun qb61 H w => ?_)
  have w : cW G A s ([(h0, .inr (4, [.int (nI 1), .ref qb12, .ref qb20, .int 0, .ref qb27, .ref qb34, .ref qb41, .ref qb48, .int 0, .int 0, .int (iZ (-4)), .null, .int 0])), (qb12, .inl (G.2.1, 40, .inl (fun _ => 0))), (qb20, .inl (G.2.1, 40, .inl (fun _ => 0))), (qb27, .inl (G.2.1, 5, .inl (fun _ => 0))), (qb34, .inl (G.2.1, 5, .inl (fun _ => 0))), (qb41, .inl (G.2.1, 5, .inl (fun _ => 0))), (qb48, .inl (G.2.1, 5, .inl (fun _ => 0))), (qb61, .inl (G.2.1, 5, .inl (fun _ => 0)))]) H locs := w
  refine va_putF (D := G.1) (ci := 4) (v := .ref qb61) (ty := .array .int) (C := RX5) (T := TX5) (N := 13) hx hb hts gX5 tyX5 tyX5_ok nmX5 hown X.2.2.2.2.1.1 w.1 w.2.1 w.2.2 0 rfl rfl 11 (by decide) (hts _ wf_X5_37) (fun _ h9 => h9) rfl hin rfl (by decide +kernel) rfl rfl (Nat.le_of_ble_eq_true rfl) dX5_init_63 (fun H locs hP hD hS => ?_)
  have w : cW G A s ([(h0, .inr (4, [.int (nI 1), .ref qb12, .ref qb20, .int 0, .ref qb27, .ref qb34, .ref qb41, .ref qb48, .int 0, .int 0, .int (iZ (-4)), .ref qb61, .int 0])), (qb12, .inl (G.2.1, 40, .inl (fun _ => 0))), (qb20, .inl (G.2.1, 40, .inl (fun _ => 0))), (qb27, .inl (G.2.1, 5, .inl (fun _ => 0))), (qb34, .inl (G.2.1, 5, .inl (fun _ => 0))), (qb41, .inl (G.2.1, 5, .inl (fun _ => 0))), (qb48, .inl (G.2.1, 5, .inl (fun _ => 0))), (qb61, .inl (G.2.1, 5, .inl (fun _ => 0)))]) H locs := ⟨hP, hD, hS⟩
  refine lv_aload_n hx hb dX5_init_66 rfl (lv_at hl 0 rfl) ?_
  refine lv_iconst (v := nI 1) hx hb dX5_init_67 (by decide) ?_
  refine va_put (D := G.1) (ci := 4) (v := .int (nI 1)) (ty := .int) (C := RX5) (T := TX5) (N := 13) hx hb hts gX5 tyX5 tyX5_ok nmX5 hown X.2.2.2.2.1.1 w.1 w.2.1 w.2.2 0 rfl rfl 12 (by decide) (hts _ wf_X5_40) (fun _ h9 => h9) rfl (by decide +kernel) rfl rfl (Nat.le_of_ble_eq_true rfl) dX5_init_68 (fun H locs hP hD hS => ?_)
  have w : cW G A s ([(h0, .inr (4, [.int (nI 1), .ref qb12, .ref qb20, .int 0, .ref qb27, .ref qb34, .ref qb41, .ref qb48, .int 0, .int 0, .int (iZ (-4)), .ref qb61, .int (nI 1)])), (qb12, .inl (G.2.1, 40, .inl (fun _ => 0))), (qb20, .inl (G.2.1, 40, .inl (fun _ => 0))), (qb27, .inl (G.2.1, 5, .inl (fun _ => 0))), (qb34, .inl (G.2.1, 5, .inl (fun _ => 0))), (qb41, .inl (G.2.1, 5, .inl (fun _ => 0))), (qb48, .inl (G.2.1, 5, .inl (fun _ => 0))), (qb61, .inl (G.2.1, 5, .inl (fun _ => 0)))]) H locs := ⟨hP, hD, hS⟩
  refine W.widen (k := 7) (n := 105) (by decide) (by decide) ?_
  exact ni_end (w := fun u9 : Nat → Nat => w5 G u9 zN5) (fun k => if k = 2 then qb12 else if k = 3 then qb20 else if k = 5 then qb27 else if k = 6 then qb34 else if k = 7 then qb41 else if k = 8 then qb48 else if k = 12 then qb61 else h0) X hr hk ⟨w.1.sub [0, 1, 2, 3, 4, 5, 6, 7] rfl, w.2.1.sub [0, 1, 2, 3, 4, 5, 6, 7] (by decide) rfl, w.2.2⟩ rfl dX5_init_71

/-- what it holds at first -/
def zN4 : RS := (fun k => 0, fun _ _ => 0, fun _ _ => 0)
theorem okn_X4 : Cond.code yX4_init cX4_init 1 none ∈ gT ∧ Cond.instanceMethod yX4_init ∈ gT ∧ Cond.initialized yX4_init.cls ∈ gT ∧ yX4_init.name = "<init>" ∧ yX4_init.cls ≠ "java/lang/invoke/MethodHandle" ∧ yX4_init.cls ≠ "java/lang/invoke/VarHandle" ∧ (parseMethodDescriptor yX4_init.desc).map (fun d => d.parameters.length) = some 0 := ⟨wc_X4_init, wi_X4_init, wn_X4, rfl, by decide, by decide, by decide +kernel⟩
set_option maxHeartbeats 4000000 in
set_option maxRecDepth 100000 in
theorem nX4_init (l : Launch) (G : CG) (h0 : Nat) : cNv G l yX4_init cX4_init 1 1 20 4 64 [.ref h0] ([(h0, .inr (3, [.int 0, .int 0, .null, .null, .null, .null]))]) (fun u9 : Nat → Nat => w4 G u9 zN4) (fun u9 => u9 0 = h0) := by
  refine cNv_in (by decide) rfl rfl (Nat.le_of_ble_eq_true rfl) ?_
  intro p e s m args below meth c A ls X hin hml hr hk hl w
  have hx := X.1
  have hb := X.2.1
  have hts := X.2.2.1
  have hown := X.2.2.2.1
  have hl : lv_has ls 1 [(0, .ref h0)] := hl
  refine lv_aload_n hx hb dX4_init_0 rfl (lv_at hl 0 rfl) ?_
  refine ni_obj (rest := []) X hml hl.1 wO_X4 ⟨Nat.le_of_ble_eq_true rfl, Nat.le_of_ble_eq_true rfl⟩ (Nat.le_of_ble_eq_true rfl) dX4_init_1 ?_
  refine lv_aload_n hx hb dX4_init_4 rfl (lv_at hl 0 rfl) ?_
  refine lv_bipush (v := nI 40) hx hb dX4_init_5 (by decide) ?_
  refine ni_ai (n := 40) X w (by decide) ⟨Nat.le_of_ble_eq_true rfl, Nat.le_of_ble_eq_true rfl⟩ dX4_init_7 (fun qb7 H w => ?_)
  have w : cW G A s ([(h0, .inr (3, [.int 0, .int 0, .null, .null, .null, .null])), (qb7, .inl (G.2.1, 40, .inl (fun _ => 0)))]) H [] := w
  refine va_putF (D := G.1) (ci := 3) (v := .ref qb7) (ty := .array .int) (C := RX4) (T := TX4) (N := 6) hx hb hts gX4 tyX4 tyX4_ok nmX4 hown X.2.2.2.2.1.1 w.1 w.2.1 w.2.2 0 rfl rfl 2 (by decide) (hts _ wf_X4_11) (fun _ h9 => h9) rfl hin rfl (by decide +kernel) rfl rfl (Nat.le_of_ble_eq_true rfl) dX4_init_9 (fun H locs hP hD hS => ?_)
  have w : cW G A s ([(h0, .inr (3, [.int 0, .int 0, .ref qb7, .null, .null, .null])), (qb7, .inl (G.2.1, 40, .inl (fun _ => 0)))]) H locs := ⟨hP, hD, hS⟩
  refine lv_aload_n hx hb dX4_init_12 rfl (lv_at hl 0 rfl) ?_
  refine lv_bipush (v := nI 8) hx hb dX4_init_13 (by decide) ?_
  refine ni_ai (n := 8) X w (by decide) ⟨Nat.le_of_ble_eq_true rfl, Nat.le_of_ble_eq_true rfl⟩ dX4_init_15 (fun qb15 H w => ?_)
  have w : cW G A s ([(h0, .inr (3, [.int 0, .int 0, .ref qb7, .null, .null, .null])), (qb7, .inl (G.2.1, 40, .inl (fun _ => 0))), (qb15, .inl (G.2.1, 8, .inl (fun _ => 0)))]) H locs := w
  refine va_putF (D := G.1) (ci := 3) (v := .ref qb15) (ty := .array .int) (C := RX4) (T := TX4) (N := 6) hx hb hts gX4 tyX4 tyX4_ok nmX4 hown X.2.2.2.2.1.1 w.1 w.2.1 w.2.2 0 rfl rfl 3 (by decide) (hts _ wf_X4_15) (fun _ h9 => h9) rfl hin rfl (by decide +kernel) rfl rfl (Nat.le_of_ble_eq_true rfl) dX4_init_17 (fun H locs hP hD hS => ?_)
  have w : cW G A s ([(h0, .inr (3, [.int 0, .int 0, .ref qb7, .ref qb15, .null, .null])), (qb7, .inl (G.2.1, 40, .inl (fun _ => 0))), (qb15, .inl (G.2.1, 8, .inl (fun _ => 0)))]) H locs := ⟨hP, hD, hS⟩
  refine lv_aload_n hx hb dX4_init_20 rfl (lv_at hl 0 rfl) ?_
  refine lv_bipush (v := nI 8) hx hb dX4_init_21 (by decide) ?_
  refine ni_ai (n := 8) X w (by decide) ⟨Nat.le_of_ble_eq_true rfl, Nat.le_of_ble_eq_true rfl⟩ dX4_init_23 (fun qb23 H w => ?_)
  have w : cW G A s ([(h0, .inr (3, [.int 0, .int 0, .ref qb7, .ref qb15, .null, .null])), (qb7, .inl (G.2.1, 40, .inl (fun _ => 0))), (qb15, .inl (G.2.1, 8, .inl (fun _ => 0))), (qb23, .inl (G.2.1, 8, .inl (fun _ => 0)))]) H locs := w
  refine va_putF (D := G.1) (ci := 3) (v := .ref qb23) (ty := .array .int) (C := RX4) (T := TX4) (N := 6) hx hb hts gX4 tyX4 tyX4_ok nmX4 hown X.2.2.2.2.1.1 w.1 w.2.1 w.2.2 0 rfl rfl 4 (by decide) (hts _ wf_X4_18) (fun _ h9 => h9) rfl hin rfl (by decide +kernel) rfl rfl (Nat.le_of_ble_eq_true rfl) dX4_init_25 (fun H locs hP hD hS => ?_)
  have w : cW G A s ([(h0, .inr (3, [.int 0, .int 0, .ref qb7, .ref qb15, .ref qb23, .null])), (qb7, .inl (G.2.1, 40, .inl (fun _ => 0))), (qb15, .inl (G.2.1, 8, .inl (fun _ => 0))), (qb23, .inl (G.2.1, 8, .inl (fun _ => 0)))]) H locs := ⟨hP, hD, hS⟩
  refine lv_aload_n hx hb dX4_init_28 rfl (lv_at hl 0 rfl) ?_
  refine lv_bipush (v := nI 8) hx hb dX4_init_29 (by decide) ?_
  refine ni_ai (n := 8) X w (by decide) ⟨Nat.le_of_ble_eq_true rfl, Nat.le_of_ble_eq_true rfl⟩ dX4_init_31 (fun qb31 H w => ?_)
  have w : cW G A s ([(h0, .inr (3, [.int 0, .int 0, .ref qb7, .ref qb15, .ref qb23, .null])), (qb7, .inl (G.2.1, 40, .inl (fun _ => 0))), (qb15, .inl (G.2.1, 8, .inl (fun _ => 0))), (qb23, .inl (G.2.1, 8, .inl (fun _ => 0))), (qb31, .inl (G.2.1, 8, .inl (fun _ => 0)))]) H locs := w
  refine va_putF (D := G.1) (ci := 3) (v := .ref qb31) (ty := .array .int) (C := RX4) (T := TX4) (N := 6) hx hb hts gX4 tyX4 tyX4_ok nmX4 hown X.2.2.2.2.1.1 w.1 w.2.1 w.2.2 0 rfl rfl 5 (by decide) (hts _ wf_X4_21) (fun _ h9 => h9) rfl hin rfl (by decide +kernel) rfl rfl (Nat.le_of_ble_eq_true rfl) dX4_init_33 (fun H locs hP hD hS => ?_)
  have w : cW G A s ([(h0, .inr (3, [.int 0, .int 0, .ref qb7, .ref qb15, .ref qb23, .ref qb31])), (qb7, .inl (G.2.1, 40, .inl (fun _ => 0))), (qb15, .inl (G.2.1, 8, .inl (fun _ => 0))), (qb23, .inl (G.2.1, 8, .inl (fun _ => 0))), (qb31, .inl (G.2.1, 8, .inl (fun _ => 0)))]) H locs := ⟨hP, hD, hS⟩
  refine W.widen (k := 4) (n := 64) (by decide) (by decide) ?_
  exact ni_end (w := fun u9 : Nat → Nat => w4 G u9 zN4) (fun k => if k = 3 then qb7 else if k = 4 then qb15 else if k = 5 then qb23 else if k = 6 then qb31 else h0) X hr hk ⟨w.1.sub [0, 1, 2, 3, 4] rfl, w.2.1.sub [0, 1, 2, 3, 4] (by decide) rfl, w.2.2⟩ rfl dX4_init_36

/-- what it holds at first -/
def zN6 : RS := (fun k => if k = 0 then iZ (-1) else 0, fun _ _ => 0, fun _ _ => 0)
theorem okn_X6 : Cond.code yX6_init cX6_init 1 none ∈ gT ∧ Cond.instanceMethod yX6_init ∈ gT ∧ Cond.initialized yX6_init.cls ∈ gT ∧ yX6_init.name = "<init>" ∧ yX6_init.cls ≠ "java/lang/invoke/MethodHandle" ∧ yX6_init.cls ≠ "java/lang/invoke/VarHandle" ∧ (parseMethodDescriptor yX6_init.desc).map (fun d => d.parameters.length) = some 0 := ⟨wc_X6_init, wi_X6_init, wn_X6, rfl, by decide, by decide, by decide +kernel⟩
set_option maxHeartbeats 4000000 in
set_option maxRecDepth 100000 in
theorem nX6_init (l : Launch) (G : CG) (h0 : Nat) : cNv G l yX6_init cX6_init 1 1 20 1 24 [.ref h0] ([(h0, .inr (5, [.int 0, .int 0, .null]))]) (fun u9 : Nat → Nat => w6 G u9 zN6) (fun u9 => u9 0 = h0) := by
  refine cNv_in (by decide) rfl rfl (Nat.le_of_ble_eq_true rfl) ?_
  intro p e s m args below meth c A ls X hin hml hr hk hl w
  have hx := X.1
  have hb := X.2.1
  have hts := X.2.2.1
  have hown := X.2.2.2.1
  have hl : lv_has ls 1 [(0, .ref h0)] := hl
  refine lv_aload_n hx hb dX6_init_0 rfl (lv_at hl 0 rfl) ?_
  refine ni_obj (rest := []) X hml hl.1 wO_X6 ⟨Nat.le_of_ble_eq_true rfl, Nat.le_of_ble_eq_true rfl⟩ (Nat.le_of_ble_eq_true rfl) dX6_init_1 ?_
  refine lv_aload_n hx hb dX6_init_4 rfl (lv_at hl 0 rfl) ?_
  refine lv_iconst (v := iZ (-1)) hx hb dX6_init_5 (by decide) ?_
  refine va_put (D := G.1) (ci := 5) (v := .int (iZ (-1))) (ty := .int) (C := RX6) (T := TX6) (N := 3) hx hb hts gX6 tyX6 tyX6_ok nmX6 hown X.2.2.2.2.1.1 w.1 w.2.1 w.2.2 0 rfl rfl 0 (by decide) (hts _ wf_X6_11) (fun _ h9 => h9) rfl (by decide +kernel) rfl rfl (Nat.le_of_ble_eq_true rfl) dX6_init_6 (fun H locs hP hD hS => ?_)
  have w : cW G A s ([(h0, .inr (5, [.int (iZ (-1)), .int 0, .null]))]) H locs := ⟨hP, hD, hS⟩
  refine lv_aload_n hx hb dX6_init_9 rfl (lv_at hl 0 rfl) ?_
  refine lv_bipush (v := nI 24) hx hb dX6_init_10 (by decide) ?_
  refine ni_al (n := 24) X w (by decide) ⟨Nat.le_of_ble_eq_true rfl, Nat.le_of_ble_eq_true rfl⟩ dX6_init_12 (fun qb12 H w => ?_)
  have w : cW G A s ([(h0, .inr (5, [.int (iZ (-1)), .int 0, .null])), (qb12, .inl (G.2.2.1, 24, .inr (.inl (fun _ => 0))))]) H locs := w
  refine va_putF (D := G.1) (ci := 5) (v := .ref qb12) (ty := .array .long) (C := RX6) (T := TX6) (N := 3) hx hb hts gX6 tyX6 tyX6_ok nmX6 hown X.2.2.2.2.1.1 w.1 w.2.1 w.2.2 0 rfl rfl 2 (by decide) (hts _ wf_X6_15) (fun _ h9 => h9) rfl hin rfl (by decide +kernel) rfl rfl (Nat.le_of_ble_eq_true rfl) dX6_init_14 (fun H locs hP hD hS => ?_)
  have w : cW G A s ([(h0, .inr (5, [.int (iZ (-1)), .int 0, .ref qb12])), (qb12, .inl (G.2.2.1, 24, .inr (.inl (fun _ => 0))))]) H locs := ⟨hP, hD, hS⟩
  refine W.widen (k := 1) (n := 24) (by decide) (by decide) ?_
  exact ni_end (w := fun u9 : Nat → Nat => w6 G u9 zN6) (fun k => if k = 3 then qb12 else h0) X hr hk ⟨w.1.sub [0, 1] rfl, w.2.1.sub [0, 1] (by decide) rfl, w.2.2⟩ rfl dX6_init_17

/-- what it holds at first -/
def zN0 : RS := (fun k => 0, fun _ _ => 0, fun _ _ => 0)
theorem okn_X0 : Cond.code yX0_init cX0_init 1 none ∈ gT ∧ Cond.instanceMethod yX0_init ∈ gT ∧ Cond.initialized yX0_init.cls ∈ gT ∧ yX0_init.name = "<init>" ∧ yX0_init.cls ≠ "java/lang/invoke/MethodHandle" ∧ yX0_init.cls ≠ "java/lang/invoke/VarHandle" ∧ (parseMethodDescriptor yX0_init.desc).map (fun d => d.parameters.length) = some 0 := ⟨wc_X0_init, wi_X0_init, wn_X0, rfl, by decide, by decide, by decide +kernel⟩
set_option maxHeartbeats 4000000 in
set_option maxRecDepth 100000 in
theorem nX0_init (l : Launch) (G : CG) (h0 : Nat) : cNv G l yX0_init cX0_init 1 1 20 11 507 [.ref h0] ([(h0, .inr (0, [.int 0, .null, .null, .null, .null, .null, .null, .null, .null, .null, .null, .null]))]) (fun u9 : Nat → Nat => w0 G u9 zN0) (fun u9 => u9 0 = h0) := by
  refine cNv_in (by decide) rfl rfl (Nat.le_of_ble_eq_true rfl) ?_
  intro p e s m args below meth c A ls X hin hml hr hk hl w
  have hx := X.1
  have hb := X.2.1
  have hts := X.2.2.1
  have hown := X.2.2.2.1
  have hl : lv_has ls 1 [(0, .ref h0)] := hl
  refine lv_aload_n hx hb dX0_init_0 rfl (lv_at hl 0 rfl) ?_
  refine ni_obj (rest := []) X hml hl.1 wO_X0 ⟨Nat.le_of_ble_eq_true rfl, Nat.le_of_ble_eq_true rfl⟩ (Nat.le_of_ble_eq_true rfl) dX0_init_1 ?_
  refine lv_aload_n hx hb dX0_init_4 rfl (lv_at hl 0 rfl) ?_
  refine lv_iconst (v := nI 4) hx hb dX0_init_5 (by decide) ?_
  refine ni_ai (n := 4) X w (by decide) ⟨Nat.le_of_ble_eq_true rfl, Nat.le_of_ble_eq_true rfl⟩ dX0_init_6 (fun qb6 H w => ?_)
  have w : cW G A s ([(h0, .inr (0, [.int 0, .null, .null, .null, .null, .null, .null, .null, .null, .null, .null, .null])), (qb6, .inl (G.2.1, 4, .inl (fun _ => 0)))]) H [] := w
  refine va_putF (D := G.1) (ci := 0) (v := .ref qb6) (ty := .array .int) (C := RX0) (T := TX0) (N := 12) hx hb hts gX0 tyX0 tyX0_ok nmX0 hown X.2.2.2.2.1.1 w.1 w.2.1 w.2.2 0 rfl rfl 1 (by decide) (hts _ wf_X0_11) (fun _ h9 => h9) rfl hin rfl (by decide +kernel) rfl rfl (Nat.le_of_ble_eq_true rfl) dX0_init_8 (fun H locs hP hD hS => ?_)
  have w : cW G A s ([(h0, .inr (0, [.int 0, .ref qb6, .null, .null, .null, .null, .null, .null, .null, .null, .null, .null])), (qb6, .inl (G.2.1, 4, .inl (fun _ => 0)))]) H locs := ⟨hP, hD, hS⟩
  refine lv_aload_n hx hb dX0_init_11 rfl (lv_at hl 0 rfl) ?_
  refine lv_iconst (v := nI 5) hx hb dX0_init_12 (by decide) ?_
  refine ni_ai (n := 5) X w (by decide) ⟨Nat.le_of_ble_eq_true rfl, Nat.le_of_ble_eq_true rfl⟩ dX0_init_13 (fun qb13 H w => ?_)
  have w : cW G A s ([(h0, .inr (0, [.int 0, .ref qb6, .null, .null, .null, .null, .null, .null, .null, .null, .null, .null])), (qb6, .inl (G.2.1, 4, .inl (fun _ => 0))), (qb13, .inl (G.2.1, 5, .inl (fun _ => 0)))]) H locs := w
  refine va_putF (D := G.1) (ci := 0) (v := .ref qb13) (ty := .array .int) (C := RX0) (T := TX0) (N := 12) hx hb hts gX0 tyX0 tyX0_ok nmX0 hown X.2.2.2.2.1.1 w.1 w.2.1 w.2.2 0 rfl rfl 2 (by decide) (hts _ wf_X0_15) (fun _ h9 => h9) rfl hin rfl (by decide +kernel) rfl rfl (Nat.le_of_ble_eq_true rfl) dX0_init_15 (fun H locs hP hD hS => ?_)
  have w : cW G A s ([(h0, .inr (0, [.int 0, .ref qb6, .ref qb13, .null, .null, .null, .null, .null, .null, .null, .null, .null])), (qb6, .inl (G.2.1, 4, .inl (fun _ => 0))), (qb13, .inl (G.2.1, 5, .inl (fun _ => 0)))]) H locs := ⟨hP, hD, hS⟩
  refine lv_aload_n hx hb dX0_init_18 rfl (lv_at hl 0 rfl) ?_
  refine lv_iconst (v := nI 4) hx hb dX0_init_19 (by decide) ?_
  refine ni_ai (n := 4) X w (by decide) ⟨Nat.le_of_ble_eq_true rfl, Nat.le_of_ble_eq_true rfl⟩ dX0_init_20 (fun qb20 H w => ?_)
  have w : cW G A s ([(h0, .inr (0, [.int 0, .ref qb6, .ref qb13, .null, .null, .null, .null, .null, .null, .null, .null, .null])), (qb6, .inl (G.2.1, 4, .inl (fun _ => 0))), (qb13, .inl (G.2.1, 5, .inl (fun _ => 0))), (qb20, .inl (G.2.1, 4, .inl (fun _ => 0)))]) H locs := w
  refine va_putF (D := G.1) (ci := 0) (v := .ref qb20) (ty := .array .int) (C := RX0) (T := TX0) (N := 12) hx hb hts gX0 tyX0 tyX0_ok nmX0 hown X.2.2.2.2.1.1 w.1 w.2.1 w.2.2 0 rfl rfl 3 (by decide) (hts _ wf_X0_18) (fun _ h9 => h9) rfl hin rfl (by decide +kernel) rfl rfl (Nat.le_of_ble_eq_true rfl) dX0_init_22 (fun H locs hP hD hS => ?_)
  have w : cW G A s ([(h0, .inr (0, [.int 0, .ref qb6, .ref qb13, .ref qb20, .null, .null, .null, .null, .null, .null, .null, .null])), (qb6, .inl (G.2.1, 4, .inl (fun _ => 0))), (qb13, .inl (G.2.1, 5, .inl (fun _ => 0))), (qb20, .inl (G.2.1, 4, .inl (fun _ => 0)))]) H locs := ⟨hP, hD, hS⟩
  refine lv_aload_n hx hb dX0_init_25 rfl (lv_at hl 0 rfl) ?_
  refine lv_iconst (v := nI 5) hx hb dX0_init_26 (by decide) ?_
  refine ni_ai (n := 5) X w (by decide) ⟨Nat.le_of_ble_eq_true rfl, Nat.le_of_ble_eq_true rfl⟩ dX0_init_27 (fun qb27 H w => ?_)
  have w : cW G A s ([(h0, .inr (0, [.int 0, .ref qb6, .ref qb13, .ref qb20, .null, .null, .null, .null, .null, .null, .null, .null])), (qb6, .inl (G.2.1, 4, .inl (fun _ => 0))), (qb13, .inl (G.2.1, 5, .inl (fun _ => 0))), (qb20, .inl (G.2.1, 4, .inl (fun _ => 0))), (qb27, .inl (G.2.1, 5, .inl (fun _ => 0)))]) H locs := w
  refine va_putF (D := G.1) (ci := 0) (v := .ref qb27) (ty := .array .int) (C := RX0) (T := TX0) (N := 12) hx hb hts gX0 tyX0 tyX0_ok nmX0 hown X.2.2.2.2.1.1 w.1 w.2.1 w.2.2 0 rfl rfl 4 (by decide) (hts _ wf_X0_21) (fun _ h9 => h9) rfl hin rfl (by decide +kernel) rfl rfl (Nat.le_of_ble_eq_true rfl) dX0_init_29 (fun H locs hP hD hS => ?_)
  have w : cW G A s ([(h0, .inr (0, [.int 0, .ref qb6, .ref qb13, .ref qb20, .ref qb27, .null, .null, .null, .null, .null, .null, .null])), (qb6, .inl (G.2.1, 4, .inl (fun _ => 0))), (qb13, .inl (G.2.1, 5, .inl (fun _ => 0))), (qb20, .inl (G.2.1, 4, .inl (fun _ => 0))), (qb27, .inl (G.2.1, 5, .inl (fun _ => 0)))]) H locs := ⟨hP, hD, hS⟩
  refine lv_aload_n hx hb dX0_init_32 rfl (lv_at hl 0 rfl) ?_
  refine lv_iconst (v := nI 4) hx hb dX0_init_33 (by decide) ?_
  refine ni_ai (n := 4) X w (by decide) ⟨Nat.le_of_ble_eq_true rfl, Nat.le_of_ble_eq_true rfl⟩ dX0_init_34 (fun qb34 H w => ?_)
  have w : cW G A s ([(h0, .inr (0, [.int 0, .ref qb6, .ref qb13, .ref qb20, .ref qb27, .null, .null, .null, .null, .null, .null, .null])), (qb6, .inl (G.2.1, 4, .inl (fun _ => 0))), (qb13, .inl (G.2.1, 5, .inl (fun _ => 0))), (qb20, .inl (G.2.1, 4, .inl (fun _ => 0))), (qb27, .inl (G.2.1, 5, .inl (fun _ => 0))), (qb34, .inl (G.2.1, 4, .inl (fun _ => 0)))]) H locs := w
  refine va_putF (D := G.1) (ci := 0) (v := .ref qb34) (ty := .array .int) (C := RX0) (T := TX0) (N := 12) hx hb hts gX0 tyX0 tyX0_ok nmX0 hown X.2.2.2.2.1.1 w.1 w.2.1 w.2.2 0 rfl rfl 5 (by decide) (hts _ wf_X0_24) (fun _ h9 => h9) rfl hin rfl (by decide +kernel) rfl rfl (Nat.le_of_ble_eq_true rfl) dX0_init_36 (fun H locs hP hD hS => ?_)
  have w : cW G A s ([(h0, .inr (0, [.int 0, .ref qb6, .ref qb13, .ref qb20, .ref qb27, .ref qb34, .null, .null, .null, .null, .null, .null])), (qb6, .inl (G.2.1, 4, .inl (fun _ => 0))), (qb13, .inl (G.2.1, 5, .inl (fun _ => 0))), (qb20, .inl (G.2.1, 4, .inl (fun _ => 0))), (qb27, .inl (G.2.1, 5, .inl (fun _ => 0))), (qb34, .inl (G.2.1, 4, .inl (fun _ => 0)))]) H locs := ⟨hP, hD, hS⟩
  refine lv_aload_n hx hb dX0_init_39 rfl (lv_at hl 0 rfl) ?_
  refine lv_bipush (v := nI 24) hx hb dX0_init_40 (by decide) ?_
  refine ni_ai (n := 24) X w (by decide) ⟨Nat.le_of_ble_eq_true rfl, Nat.le_of_ble_eq_true rfl⟩ dX0_init_42 (fun qb42 H w => ?_)
  have w : cW G A s ([(h0, .inr (0, [.int 0, .ref qb6, .ref qb13, .ref qb20, .ref qb27, .ref qb34, .null, .null, .null, .null, .null, .null])), (qb6, .inl (G.2.1, 4, .inl (fun _ => 0))), (qb13, .inl (G.2.1, 5, .inl (fun _ => 0))), (qb20, .inl (G.2.1, 4, .inl (fun _ => 0))), (qb27, .inl (G.2.1, 5, .inl (fun _ => 0))), (qb34, .inl (G.2.1, 4, .inl (fun _ => 0))), (qb42, .inl (G.2.1, 24, .inl (fun _ => 0)))]) H locs := w
  refine va_putF (D := G.1) (ci := 0) (v := .ref qb42) (ty := .array .int) (C := RX0) (T := TX0) (N := 12) hx hb hts gX0 tyX0 tyX0_ok nmX0 hown X.2.2.2.2.1.1 w.1 w.2.1 w.2.2 0 rfl rfl 6 (by decide) (hts _ wf_X0_27) (fun _ h9 => h9) rfl hin rfl (by decide +kernel) rfl rfl (Nat.le_of_ble_eq_true rfl) dX0_init_44 (fun H locs hP hD hS => ?_)
  have w : cW G A s ([(h0, .inr (0, [.int 0, .ref qb6, .ref qb13, .ref qb20, .ref qb27, .ref qb34, .ref qb42, .null, .null, .null, .null, .null])), (qb6, .inl (G.2.1, 4, .inl (fun _ => 0))), (qb13, .inl (G.2.1, 5, .inl (fun _ => 0))), (qb20, .inl (G.2.1, 4, .inl (fun _ => 0))), (qb27, .inl (G.2.1, 5, .inl (fun _ => 0))), (qb34, .inl (G.2.1, 4, .inl (fun _ => 0))), (qb42, .inl (G.2.1, 24, .inl (fun _ => 0)))]) H locs := ⟨hP, hD, hS⟩
  refine lv_aload_n hx hb dX0_init_47 rfl (lv_at hl 0 rfl) ?_
  refine lv_bipush (v := nI 24) hx hb dX0_init_48 (by decide) ?_
  refine ni_ai (n := 24) X w (by decide) ⟨Nat.le_of_ble_eq_true rfl, Nat.le_of_ble_eq_true rfl⟩ dX0_init_50 (fun qb50 H w => ?_)
  have w : cW G A s ([(h0, .inr (0, [.int 0, .ref qb6, .ref qb13, .ref qb20, .ref qb27, .ref qb34, .ref qb42, .null, .null, .null, .null, .null])), (qb6, .inl (G.2.1, 4, .inl (fun _ => 0))), (qb13, .inl (G.2.1, 5, .inl (fun _ => 0))), (qb20, .inl (G.2.1, 4, .inl (fun _ => 0))), (qb27, .inl (G.2.1, 5, .inl (fun _ => 0))), (qb34, .inl (G.2.1, 4, .inl (fun _ => 0))), (qb42, .inl (G.2.1, 24, .inl (fun _ => 0))), (qb50, .inl (G.2.1, 24, .inl (fun _ => 0)))]) H locs := w
  refine va_putF (D := G.1) (ci := 0) (v := .ref qb50) (ty := .array .int) (C := RX0) (T := TX0) (N := 12) hx hb hts gX0 tyX0 tyX0_ok nmX0 hown X.2.2.2.2.1.1 w.1 w.2.1 w.2.2 0 rfl rfl 7 (by decide) (hts _ wf_X0_30) (fun _ h9 => h9) rfl hin rfl (by decide +kernel) rfl rfl (Nat.le_of_ble_eq_true rfl) dX0_init_52 (fun H locs hP hD hS => ?_)
  have w : cW G A s ([(h0, .inr (0, [.int 0, .ref qb6, .ref qb13, .ref qb20, .ref qb27, .ref qb34, .ref qb42, .ref qb50, .null, .null, .null, .null])), (qb6, .inl (G.2.1, 4, .inl (fun _ => 0))), (qb13, .inl (G.2.1, 5, .inl (fun _ => 0))), (qb20, .inl (G.2.1, 4, .inl (fun _ => 0))), (qb27, .inl (G.2.1, 5, .inl (fun _ => 0))), (qb34, .inl (G.2.1, 4, .inl (fun _ => 0))), (qb42, .inl (G.2.1, 24, .inl (fun _ => 0))), (qb50, .inl (G.2.1, 24, .inl (fun _ => 0)))]) H locs := ⟨hP, hD, hS⟩
  refine lv_aload_n hx hb dX0_init_55 rfl (lv_at hl 0 rfl) ?_
  refine lv_bipush (v := nI 6) hx hb dX0_init_56 (by decide) ?_
  refine ni_ai (n := 6) X w (by decide) ⟨Nat.le_of_ble_eq_true rfl, Nat.le_of_ble_eq_true rfl⟩ dX0_init_58 (fun qb58 H w => ?_)
  have w : cW G A s ([(h0, .inr (0, [.int 0, .ref qb6, .ref qb13, .ref qb20, .ref qb27, .ref qb34, .ref qb42, .ref qb50, .null, .null, .null, .null])), (qb6, .inl (G.2.1, 4, .inl (fun _ => 0))), (qb13, .inl (G.2.1, 5, .inl (fun _ => 0))), (qb20, .inl (G.2.1, 4, .inl (fun _ => 0))), (qb27, .inl (G.2.1, 5, .inl (fun _ => 0))), (qb34, .inl (G.2.1, 4, .inl (fun _ => 0))), (qb42, .inl (G.2.1, 24, .inl (fun _ => 0))), (qb50, .inl (G.2.1, 24, .inl (fun _ => 0))), (qb58, .inl (G.2.1, 6, .inl (fun _ => 0)))]) H locs := w
  refine va_putF (D := G.1) (ci := 0) (v := .ref qb58) (ty := .array .int) (C := RX0) (T := TX0) (N := 12) hx hb hts gX0 tyX0 tyX0_ok nmX0 hown X.2.2.2.2.1.1 w.1 w.2.1 w.2.2 0 rfl rfl 8 (by decide) (hts _ wf_X0_33) (fun _ h9 => h9) rfl hin rfl (by decide +kernel) rfl rfl (Nat.le_of_ble_eq_true rfl) dX0_init_60 (fun H locs hP hD hS => ?_)
  have w : cW G A s ([(h0, .inr (0, [.int 0, .ref qb6, .ref qb13, .ref qb20, .ref qb27, .ref qb34, .ref qb42, .ref qb50, .ref qb58, .null, .null, .null])), (qb6, .inl (G.2.1, 4, .inl (fun _ => 0))), (qb13, .inl (G.2.1, 5, .inl (fun _ => 0))), (qb20, .inl (G.2.1, 4, .inl (fun _ => 0))), (qb27, .inl (G.2.1, 5, .inl (fun _ => 0))), (qb34, .inl (G.2.1, 4, .inl (fun _ => 0))), (qb42, .inl (G.2.1, 24, .inl (fun _ => 0))), (qb50, .inl (G.2.1, 24, .inl (fun _ => 0))), (qb58, .inl (G.2.1, 6, .inl (fun _ => 0)))]) H locs := ⟨hP, hD, hS⟩
  refine lv_aload_n hx hb dX0_init_63 rfl (lv_at hl 0 rfl) ?_
  refine lv_sipush (v := nI 175) hx hb dX0_init_64 (by decide) ?_
  refine ni_ai (n := 175) X w (by decide) ⟨Nat.le_of_ble_eq_true rfl, Nat.le_of_ble_eq_true rfl⟩ dX0_init_67 (fun qb67 H w => ?_)
  have w : cW G A s ([(h0, .inr (0, [.int 0, .ref qb6, .ref qb13, .ref qb20, .ref qb27, .ref qb34, .ref qb42, .ref qb50, .ref qb58, .null, .null, .null])), (qb6, .inl (G.2.1, 4, .inl (fun _ => 0))), (qb13, .inl (G.2.1, 5, .inl (fun _ => 0))), (qb20, .inl (G.2.1, 4, .inl (fun _ => 0))), (qb27, .inl (G.2.1, 5, .inl (fun _ => 0))), (qb34, .inl (G.2.1, 4, .inl (fun _ => 0))), (qb42, .inl (G.2.1, 24, .inl (fun _ => 0))), (qb50, .inl (G.2.1, 24, .inl (fun _ => 0))), (qb58, .inl (G.2.1, 6, .inl (fun _ => 0))), (qb67, .inl (G.2.1, 175, .inl (fun _ => 0)))]) H locs := w
  refine va_putF (D := G.1) (ci := 0) (v := .ref qb67) (ty := .array .int) (C := RX0) (T := TX0) (N := 12) hx hb hts gX0 tyX0 tyX0_ok nmX0 hown X.2.2.2.2.1.1 w.1 w.2.1 w.2.2 0 rfl rfl 9 (by decide) (hts _ wf_X0_36) (fun _ h9 => h9) rfl hin rfl (by decide +kernel) rfl rfl (Nat.le_of_ble_eq_true rfl) dX0_init_69 (fun H locs hP hD hS => ?_)
  have w : cW G A s ([(h0, .inr (0, [.int 0, .ref qb6, .ref qb13, .ref qb20, .ref qb27, .ref qb34, .ref qb42, .ref qb50, .ref qb58, .ref qb67, .null, .null])), (qb6, .inl (G.2.1, 4, .inl (fun _ => 0))), (qb13, .inl (G.2.1, 5, .inl (fun _ => 0))), (qb20, .inl (G.2.1, 4, .inl (fun _ => 0))), (qb27, .inl (G.2.1, 5, .inl (fun _ => 0))), (qb34, .inl (G.2.1, 4, .inl (fun _ => 0))), (qb42, .inl (G.2.1, 24, .inl (fun _ => 0))), (qb50, .inl (G.2.1, 24, .inl (fun _ => 0))), (qb58, .inl (G.2.1, 6, .inl (fun _ => 0))), (qb67, .inl (G.2.1, 175, .inl (fun _ => 0)))]) H locs := ⟨hP, hD, hS⟩
  refine lv_aload_n hx hb dX0_init_72 rfl (lv_at hl 0 rfl) ?_
  refine lv_sipush (v := nI 128) hx hb dX0_init_73 (by decide) ?_
  refine ni_ai (n := 128) X w (by decide) ⟨Nat.le_of_ble_eq_true rfl, Nat.le_of_ble_eq_true rfl⟩ dX0_init_76 (fun qb76 H w => ?_)
  have w : cW G A s ([(h0, .inr (0, [.int 0, .ref qb6, .ref qb13, .ref qb20, .ref qb27, .ref qb34, .ref qb42, .ref qb50, .ref qb58, .ref qb67, .null, .null])), (qb6, .inl (G.2.1, 4, .inl (fun _ => 0))), (qb13, .inl (G.2.1, 5, .inl (fun _ => 0))), (qb20, .inl (G.2.1, 4, .inl (fun _ => 0))), (qb27, .inl (G.2.1, 5, .inl (fun _ => 0))), (qb34, .inl (G.2.1, 4, .inl (fun _ => 0))), (qb42, .inl (G.2.1, 24, .inl (fun _ => 0))), (qb50, .inl (G.2.1, 24, .inl (fun _ => 0))), (qb58, .inl (G.2.1, 6, .inl (fun _ => 0))), (qb67, .inl (G.2.1, 175, .inl (fun _ => 0))), (qb76, .inl (G.2.1, 128, .inl (fun _ => 0)))]) H locs := w
  refine va_putF (D := G.1) (ci := 0) (v := .ref qb76) (ty := .array .int) (C := RX0) (T := TX0) (N := 12) hx hb hts gX0 tyX0 tyX0_ok nmX0 hown X.2.2.2.2.1.1 w.1 w.2.1 w.2.2 0 rfl rfl 10 (by decide) (hts _ wf_X0_39) (fun _ h9 => h9) rfl hin rfl (by decide +kernel) rfl rfl (Nat.le_of_ble_eq_true rfl) dX0_init_78 (fun H locs hP hD hS => ?_)
  have w : cW G A s ([(h0, .inr (0, [.int 0, .ref qb6, .ref qb13, .ref qb20, .ref qb27, .ref qb34, .ref qb42, .ref qb50, .ref qb58, .ref qb67, .ref qb76, .null])), (qb6, .inl (G.2.1, 4, .inl (fun _ => 0))), (qb13, .inl (G.2.1, 5, .inl (fun _ => 0))), (qb20, .inl (G.2.1, 4, .inl (fun _ => 0))), (qb27, .inl (G.2.1, 5, .inl (fun _ => 0))), (qb34, .inl (G.2.1, 4, .inl (fun _ => 0))), (qb42, .inl (G.2.1, 24, .inl (fun _ => 0))), (qb50, .inl (G.2.1, 24, .inl (fun _ => 0))), (qb58, .inl (G.2.1, 6, .inl (fun _ => 0))), (qb67, .inl (G.2.1, 175, .inl (fun _ => 0))), (qb76, .inl (G.2.1, 128, .inl (fun _ => 0)))]) H locs := ⟨hP, hD, hS⟩
  refine lv_aload_n hx hb dX0_init_81 rfl (lv_at hl 0 rfl) ?_
  refine lv_sipush (v := nI 128) hx hb dX0_init_82 (by decide) ?_
  refine ni_ai (n := 128) X w (by decide) ⟨Nat.le_of_ble_eq_true rfl, Nat.le_of_ble_eq_true rfl⟩ dX0_init_85 (fun qb85 H w => ?_)
  have w : cW G A s ([(h0, .inr (0, [.int 0, .ref qb6, .ref qb13, .ref qb20, .ref qb27, .ref qb34, .ref qb42, .ref qb50, .ref qb58, .ref qb67, .ref qb76, .null])), (qb6, .inl (G.2.1, 4, .inl (fun _ => 0))), (qb13, .inl (G.2.1, 5, .inl (fun _ => 0))), (qb20, .inl (G.2.1, 4, .inl (fun _ => 0))), (qb27, .inl (G.2.1, 5, .inl (fun _ => 0))), (qb34, .inl (G.2.1, 4, .inl (fun _ => 0))), (qb42, .inl (G.2.1, 24, .inl (fun _ => 0))), (qb50, .inl (G.2.1, 24, .inl (fun _ => 0))), (qb58, .inl (G.2.1, 6, .inl (fun _ => 0))), (qb67, .inl (G.2.1, 175, .inl (fun _ => 0))), (qb76, .inl (G.2.1, 128, .inl (fun _ => 0))), (qb85, .inl (G.2.1, 128, .inl (fun _ => 0)))]) H locs := w
  refine va_putF (D := G.1) (ci := 0) (v := .ref qb85) (ty := .array .int) (C := RX0) (T := TX0) (N := 12) hx hb hts gX0 tyX0 tyX0_ok nmX0 hown X.2.2.2.2.1.1 w.1 w.2.1 w.2.2 0 rfl rfl 11 (by decide) (hts _ wf_X0_42) (fun _ h9 => h9) rfl hin rfl (by decide +kernel) rfl rfl (Nat.le_of_ble_eq_true rfl) dX0_init_87 (fun H locs hP hD hS => ?_)
  have w : cW G A s ([(h0, .inr (0, [.int 0, .ref qb6, .ref qb13, .ref qb20, .ref qb27, .ref qb34, .ref qb42, .ref qb50, .ref qb58, .ref qb67, .ref qb76, .ref qb85])), (qb6, .inl (G.2.1, 4, .inl (fun _ => 0))), (qb13, .inl (G.2.1, 5, .inl (fun _ => 0))), (qb20, .inl (G.2.1, 4, .inl (fun _ => 0))), (qb27, .inl (G.2.1, 5, .inl (fun _ => 0))), (qb34, .inl (G.2.1, 4, .inl (fun _ => 0))), (qb42, .inl (G.2.1, 24, .inl (fun _ => 0))), (qb50, .inl (G.2.1, 24, .inl (fun _ => 0))), (qb58, .inl (G.2.1, 6, .inl (fun _ => 0))), (qb67, .inl (G.2.1, 175, .inl (fun _ => 0))), (qb76, .inl (G.2.1, 128, .inl (fun _ => 0))), (qb85, .inl (G.2.1, 128, .inl (fun _ => 0)))]) H locs := ⟨hP, hD, hS⟩
  refine W.widen (k := 11) (n := 507) (by decide) (by decide) ?_
  exact ni_end (w := fun u9 : Nat → Nat => w0 G u9 zN0) (fun k => if k = 2 then qb6 else if k = 3 then qb13 else if k = 4 then qb20 else if k = 5 then qb27 else if k = 6 then qb34 else if k = 7 then qb42 else if k = 8 then qb50 else if k = 9 then qb58 else if k = 10 then qb67 else if k = 11 then qb76 else if k = 12 then qb85 else h0) X hr hk ⟨w.1.sub [0, 1, 2, 3, 4, 5, 6, 7, 8, 9, 10, 11] rfl, w.2.1.sub [0, 1, 2, 3, 4, 5, 6, 7, 8, 9, 10, 11] (by decide) rfl, w.2.2⟩ rfl dX0_init_90
