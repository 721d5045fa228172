section Lm_c4_forget
variable {p : Program} {l : Launch} {e : Env} {R : Room} {s : State} {m : MethodId} {args : Array Value} {below : List Frame} {meth : Method} {c : Code} {H : Heap} {locs : List Loc} {cells slots : Nat} {Q : State → Prop}
variable {cc : ByteArray} {pc : Nat} {ls : Array Slot} {rest : List Value} {G : CG} {A : Nat → Prop}
theorem ap_P_X4_24_this {a : Nat → Nat} {z : RS} {v : Int32} (X : cX RX4 G A p c cc s args m) (w : cW G A s (w4 G a z) H locs) (hdg : decode cc pc = .ok (.putfield 24, 3)) (kk : ∀ (z1 : RS) (H : Heap) (locs : List Loc), z1 = (sI z 0 v) → cW G A s (w4 G a z1) H locs → W p l e R s m args below meth c H locs cells slots Q (F0 m (pc + 3) ls rest)) : W p l e R s m args below meth c H locs cells slots Q (F0 m pc ls (.int v :: .ref (a 0) :: rest)) :=
  va_put (D := G.1) (ci := 3) (v := .int v) (ty := .int) (C := RX4) (T := TX4) (N := 6) X.1 X.2.1 X.2.2.1 gX4 tyX4 tyX4_ok nmX4 X.2.2.2.1 X.2.2.2.2.1.1 w.1 w.2.1 w.2.2 0 rfl rfl 0 (by decide) (X.2.2.1 _ wf_X4_24) (fun _ h9 => h9) rfl (by decide +kernel) rfl rfl (Nat.le_of_ble_eq_true rfl) hdg (fun H1 locs1 hP hD hS => kk _ H1 locs1 rfl ⟨hP, hD, hS⟩)
end Lm_c4_forget
theorem ok4_forget : cOk RX4 yX4_forget cX4_forget 1 none 0 := ⟨wc_X4_forget, wi_X4_forget, ws_X4_forget, wn_X4, rfl, by decide, by decide, by decide +kernel⟩
set_option maxHeartbeats 4000000 in
set_option maxRecDepth 100000 in
theorem c4_forget (l : Launch) (G : CG) (a : Nat → Nat) (z : RS)   : cMv G l yX4_forget cX4_forget 1 none 0 0 [.ref (a 0)] (fun q9 : RS => w4 G a q9) z (fun z9 => z9 = sI z 0 (nI 0)) := by
  refine cMv_in (by decide) rfl (Nat.le_of_ble_eq_true rfl) ?_
  intro p e s m args below meth c A ls X hml hr hk hl w
  have hx := X.1
  have hb := X.2.1
  have hts := X.2.2.1
  have hown := X.2.2.2.1
  have hl : lv_has ls 1 [(0, .ref (a 0))] := hl
  refine lv_aload_n hx hb dX4_forget_0 rfl (lv_at hl 0 rfl) ?_
  refine lv_iconst (v := (nI 0)) hx hb dX4_forget_1 (by decide) ?_
  refine ap_P_X4_24_this X w dX4_forget_2 (fun z_2 H locs ez_2 w => ?_)
  exact ce_v (w := (fun q9 : RS => w4 G a q9)) (z := z_2) X hr hk w (ez_2) dX4_forget_5

section Lm_c4_takeFrom
variable {p : Program} {l : Launch} {e : Env} {R : Room} {s : State} {m : MethodId} {args : Array Value} {below : List Frame} {meth : Method} {c : Code} {H : Heap} {locs : List Loc} {cells slots : Nat} {Q : State → Prop}
variable {cc : ByteArray} {pc : Nat} {ls : Array Slot} {rest : List Value} {G : CG} {A : Nat → Prop}
theorem ag_PO_X4_24_other {a b : Nat → Nat} {zo : RS} {z : RS} (X : cX RX4 G A p c cc s args m) (w : va_P G.1 vwCl (w4 G a z ++ w4 G b zo) H) (hdg : decode cc pc = .ok (.getfield 24, 3)) (kk : W p l e R s m args below meth c H locs cells slots Q (F0 m (pc + 3) ls (.int (zo.1 0) :: rest))) : W p l e R s m args below meth c H locs cells slots Q (F0 m pc ls (.ref (b 0) :: rest)) :=
  va_get (D := G.1) (ci := 3) (v := .int (zo.1 0)) (C := RX4) (T := TX4) (N := 6) X.1 X.2.1 X.2.2.1 gX4 X.2.2.2.1 X.2.2.2.2.1.1 w 5 rfl rfl 0 (by decide) (X.2.2.1 _ wf_X4_24) (fun _ h9 => h9) rfl hdg kk
theorem ap_PO_X4_24_this {a b : Nat → Nat} {zo : RS} {z : RS} {v : Int32} (X : cX RX4 G A p c cc s args m) (w : cW G A s (w4 G a z ++ w4 G b zo) H locs) (hdg : decode cc pc = .ok (.putfield 24, 3)) (kk : ∀ (z1 : RS) (H : Heap) (locs : List Loc), z1 = (sI z 0 v) → cW G A s (w4 G a z1 ++ w4 G b zo) H locs → W p l e R s m args below meth c H locs cells slots Q (F0 m (pc + 3) ls rest)) : W p l e R s m args below meth c H locs cells slots Q (F0 m pc ls (.int v :: .ref (a 0) :: rest)) :=
  va_put (D := G.1) (ci := 3) (v := .int v) (ty := .int) (C := RX4) (T := TX4) (N := 6) X.1 X.2.1 X.2.2.1 gX4 tyX4 tyX4_ok nmX4 X.2.2.2.1 X.2.2.2.2.1.1 w.1 w.2.1 w.2.2 0 rfl rfl 0 (by decide) (X.2.2.1 _ wf_X4_24) (fun _ h9 => h9) rfl (by decide +kernel) rfl rfl (Nat.le_of_ble_eq_true rfl) hdg (fun H1 locs1 hP hD hS => kk _ H1 locs1 rfl ⟨hP, hD, hS⟩)
theorem ag_PO_X4_28_other {a b : Nat → Nat} {zo : RS} {z : RS} (X : cX RX4 G A p c cc s args m) (w : va_P G.1 vwCl (w4 G a z ++ w4 G b zo) H) (hdg : decode cc pc = .ok (.getfield 28, 3)) (kk : W p l e R s m args below meth c H locs cells slots Q (F0 m (pc + 3) ls (.int (zo.1 1) :: rest))) : W p l e R s m args below meth c H locs cells slots Q (F0 m pc ls (.ref (b 0) :: rest)) :=
  va_get (D := G.1) (ci := 3) (v := .int (zo.1 1)) (C := RX4) (T := TX4) (N := 6) X.1 X.2.1 X.2.2.1 gX4 X.2.2.2.1 X.2.2.2.2.1.1 w 5 rfl rfl 1 (by decide) (X.2.2.1 _ wf_X4_28) (fun _ h9 => h9) rfl hdg kk
theorem ap_PO_X4_28_this {a b : Nat → Nat} {zo : RS} {z : RS} {v : Int32} (X : cX RX4 G A p c cc s args m) (w : cW G A s (w4 G a z ++ w4 G b zo) H locs) (hdg : decode cc pc = .ok (.putfield 28, 3)) (kk : ∀ (z1 : RS) (H : Heap) (locs : List Loc), z1 = (sI z 1 v) → cW G A s (w4 G a z1 ++ w4 G b zo) H locs → W p l e R s m args below meth c H locs cells slots Q (F0 m (pc + 3) ls rest)) : W p l e R s m args below meth c H locs cells slots Q (F0 m pc ls (.int v :: .ref (a 0) :: rest)) :=
  va_put (D := G.1) (ci := 3) (v := .int v) (ty := .int) (C := RX4) (T := TX4) (N := 6) X.1 X.2.1 X.2.2.1 gX4 tyX4 tyX4_ok nmX4 X.2.2.2.1 X.2.2.2.2.1.1 w.1 w.2.1 w.2.2 0 rfl rfl 1 (by decide) (X.2.2.1 _ wf_X4_28) (fun _ h9 => h9) rfl (by decide +kernel) rfl rfl (Nat.le_of_ble_eq_true rfl) hdg (fun H1 locs1 hP hD hS => kk _ H1 locs1 rfl ⟨hP, hD, hS⟩)
theorem ag_PO_X4_11_other {a b : Nat → Nat} {zo : RS} {z : RS} (X : cX RX4 G A p c cc s args m) (w : va_P G.1 vwCl (w4 G a z ++ w4 G b zo) H) (hdg : decode cc pc = .ok (.getfield 11, 3)) (kk : W p l e R s m args below meth c H locs cells slots Q (F0 m (pc + 3) ls (.ref (b 3) :: rest))) : W p l e R s m args below meth c H locs cells slots Q (F0 m pc ls (.ref (b 0) :: rest)) :=
  va_get (D := G.1) (ci := 3) (v := .ref (b 3)) (C := RX4) (T := TX4) (N := 6) X.1 X.2.1 X.2.2.1 gX4 X.2.2.2.1 X.2.2.2.2.1.1 w 5 rfl rfl 2 (by decide) (X.2.2.1 _ wf_X4_11) (fun _ h9 => h9) rfl hdg kk
theorem ag_PO_X4_11_this {a b : Nat → Nat} {zo : RS} {z : RS} (X : cX RX4 G A p c cc s args m) (w : va_P G.1 vwCl (w4 G a z ++ w4 G b zo) H) (hdg : decode cc pc = .ok (.getfield 11, 3)) (kk : W p l e R s m args below meth c H locs cells slots Q (F0 m (pc + 3) ls (.ref (a 3) :: rest))) : W p l e R s m args below meth c H locs cells slots Q (F0 m pc ls (.ref (a 0) :: rest)) :=
  va_get (D := G.1) (ci := 3) (v := .ref (a 3)) (C := RX4) (T := TX4) (N := 6) X.1 X.2.1 X.2.2.1 gX4 X.2.2.2.1 X.2.2.2.2.1.1 w 0 rfl rfl 2 (by decide) (X.2.2.1 _ wf_X4_11) (fun _ h9 => h9) rfl hdg kk
theorem al_PO_this_2 {own : String} {a b : Nat → Nat} {zo : RS} {z : RS} (X : cX own G A p c cc s args m) (w : va_P G.1 vwCl (w4 G a z ++ w4 G b zo) H) (hdg : decode cc pc = .ok (.arraylength, 1)) (kk : W p l e R s m args below meth c H locs cells slots Q (F0 m (pc + 1) ls (.int (nI 40) :: rest))) : W p l e R s m args below meth c H locs cells slots Q (F0 m pc ls (.ref (a 3) :: rest)) :=
  va_alen X.1 X.2.1 X.2.2.2.2.1.1 w 1 0 rfl rfl (v := nI 40) rfl hdg kk
theorem ag_PO_X4_15_other {a b : Nat → Nat} {zo : RS} {z : RS} (X : cX RX4 G A p c cc s args m) (w : va_P G.1 vwCl (w4 G a z ++ w4 G b zo) H) (hdg : decode cc pc = .ok (.getfield 15, 3)) (kk : W p l e R s m args below meth c H locs cells slots Q (F0 m (pc + 3) ls (.ref (b 4) :: rest))) : W p l e R s m args below meth c H locs cells slots Q (F0 m pc ls (.ref (b 0) :: rest)) :=
  va_get (D := G.1) (ci := 3) (v := .ref (b 4)) (C := RX4) (T := TX4) (N := 6) X.1 X.2.1 X.2.2.1 gX4 X.2.2.2.1 X.2.2.2.2.1.1 w 5 rfl rfl 3 (by decide) (X.2.2.1 _ wf_X4_15) (fun _ h9 => h9) rfl hdg kk
theorem ag_PO_X4_15_this {a b : Nat → Nat} {zo : RS} {z : RS} (X : cX RX4 G A p c cc s args m) (w : va_P G.1 vwCl (w4 G a z ++ w4 G b zo) H) (hdg : decode cc pc = .ok (.getfield 15, 3)) (kk : W p l e R s m args below meth c H locs cells slots Q (F0 m (pc + 3) ls (.ref (a 4) :: rest))) : W p l e R s m args below meth c H locs cells slots Q (F0 m pc ls (.ref (a 0) :: rest)) :=
  va_get (D := G.1) (ci := 3) (v := .ref (a 4)) (C := RX4) (T := TX4) (N := 6) X.1 X.2.1 X.2.2.1 gX4 X.2.2.2.1 X.2.2.2.2.1.1 w 0 rfl rfl 3 (by decide) (X.2.2.1 _ wf_X4_15) (fun _ h9 => h9) rfl hdg kk
theorem ag_PO_X4_18_other {a b : Nat → Nat} {zo : RS} {z : RS} (X : cX RX4 G A p c cc s args m) (w : va_P G.1 vwCl (w4 G a z ++ w4 G b zo) H) (hdg : decode cc pc = .ok (.getfield 18, 3)) (kk : W p l e R s m args below meth c H locs cells slots Q (F0 m (pc + 3) ls (.ref (b 5) :: rest))) : W p l e R s m args below meth c H locs cells slots Q (F0 m pc ls (.ref (b 0) :: rest)) :=
  va_get (D := G.1) (ci := 3) (v := .ref (b 5)) (C := RX4) (T := TX4) (N := 6) X.1 X.2.1 X.2.2.1 gX4 X.2.2.2.1 X.2.2.2.2.1.1 w 5 rfl rfl 4 (by decide) (X.2.2.1 _ wf_X4_18) (fun _ h9 => h9) rfl hdg kk
theorem ag_PO_X4_18_this {a b : Nat → Nat} {zo : RS} {z : RS} (X : cX RX4 G A p c cc s args m) (w : va_P G.1 vwCl (w4 G a z ++ w4 G b zo) H) (hdg : decode cc pc = .ok (.getfield 18, 3)) (kk : W p l e R s m args below meth c H locs cells slots Q (F0 m (pc + 3) ls (.ref (a 5) :: rest))) : W p l e R s m args below meth c H locs cells slots Q (F0 m pc ls (.ref (a 0) :: rest)) :=
  va_get (D := G.1) (ci := 3) (v := .ref (a 5)) (C := RX4) (T := TX4) (N := 6) X.1 X.2.1 X.2.2.1 gX4 X.2.2.2.1 X.2.2.2.2.1.1 w 0 rfl rfl 4 (by decide) (X.2.2.1 _ wf_X4_18) (fun _ h9 => h9) rfl hdg kk
theorem ag_PO_X4_21_other {a b : Nat → Nat} {zo : RS} {z : RS} (X : cX RX4 G A p c cc s args m) (w : va_P G.1 vwCl (w4 G a z ++ w4 G b zo) H) (hdg : decode cc pc = .ok (.getfield 21, 3)) (kk : W p l e R s m args below meth c H locs cells slots Q (F0 m (pc + 3) ls (.ref (b 6) :: rest))) : W p l e R s m args below meth c H locs cells slots Q (F0 m pc ls (.ref (b 0) :: rest)) :=
  va_get (D := G.1) (ci := 3) (v := .ref (b 6)) (C := RX4) (T := TX4) (N := 6) X.1 X.2.1 X.2.2.1 gX4 X.2.2.2.1 X.2.2.2.2.1.1 w 5 rfl rfl 5 (by decide) (X.2.2.1 _ wf_X4_21) (fun _ h9 => h9) rfl hdg kk
theorem ag_PO_X4_21_this {a b : Nat → Nat} {zo : RS} {z : RS} (X : cX RX4 G A p c cc s args m) (w : va_P G.1 vwCl (w4 G a z ++ w4 G b zo) H) (hdg : decode cc pc = .ok (.getfield 21, 3)) (kk : W p l e R s m args below meth c H locs cells slots Q (F0 m (pc + 3) ls (.ref (a 6) :: rest))) : W p l e R s m args below meth c H locs cells slots Q (F0 m pc ls (.ref (a 0) :: rest)) :=
  va_get (D := G.1) (ci := 3) (v := .ref (a 6)) (C := RX4) (T := TX4) (N := 6) X.1 X.2.1 X.2.2.1 gX4 X.2.2.2.1 X.2.2.2.2.1.1 w 0 rfl rfl 5 (by decide) (X.2.2.1 _ wf_X4_21) (fun _ h9 => h9) rfl hdg kk
end Lm_c4_takeFrom
theorem ok4_takeFrom : cOk RX4 yX4_takeFrom cX4_takeFrom 2 none 1 := ⟨wc_X4_takeFrom, wi_X4_takeFrom, ws_X4_takeFrom, wn_X4, rfl, by decide, by decide, by decide +kernel⟩
set_option maxHeartbeats 4000000 in
set_option maxRecDepth 100000 in
theorem c4_takeFrom (l : Launch) (G : CG) (a b : Nat → Nat) (zo : RS) (z : RS)   : cMv G l yX4_takeFrom cX4_takeFrom 2 none 1 100 [.ref (a 0), .ref (b 0)] (fun q9 : RS => w4 G a q9 ++ w4 G b zo) z (fun z9 => pEq z9 zo) := by
  refine cMv_in (by decide) rfl (Nat.le_of_ble_eq_true rfl) ?_
  intro p e s m args below meth c A ls X hml hr hk hl w
  have hx := X.1
  have hb := X.2.1
  have hts := X.2.2.1
  have hown := X.2.2.2.1
  have hl : lv_has ls 2 [(0, .ref (a 0)), (1, .ref (b 0))] := hl
  refine lv_aload_n hx hb dX4_takeFrom_0 rfl (lv_at hl 0 rfl) ?_
  refine lv_aload_n hx hb dX4_takeFrom_1 rfl (lv_at hl 1 rfl) ?_
  refine ag_PO_X4_24_other X w.1 dX4_takeFrom_2 ?_
  refine ap_PO_X4_24_this X w dX4_takeFrom_5 (fun z_5 H locs ez_5 w => ?_)
  refine lv_aload_n hx hb dX4_takeFrom_8 rfl (lv_at hl 0 rfl) ?_
  refine lv_aload_n hx hb dX4_takeFrom_9 rfl (lv_at hl 1 rfl) ?_
  refine ag_PO_X4_28_other X w.1 dX4_takeFrom_10 ?_
  refine ap_PO_X4_28_this X w dX4_takeFrom_13 (fun z_13 H locs ez_13 w => ?_)
  refine lv_aload_n hx hb dX4_takeFrom_16 rfl (lv_at hl 1 rfl) ?_
  refine ag_PO_X4_11_other X w.1 dX4_takeFrom_17 ?_
  refine lv_iconst (v := (nI 0)) hx hb dX4_takeFrom_20 (by decide) ?_
  refine lv_aload_n hx hb dX4_takeFrom_21 rfl (lv_at hl 0 rfl) ?_
  refine ag_PO_X4_11_this X w.1 dX4_takeFrom_22 ?_
  refine lv_iconst (v := (nI 0)) hx hb dX4_takeFrom_25 (by decide) ?_
  refine lv_aload_n hx hb dX4_takeFrom_26 rfl (lv_at hl 0 rfl) ?_
  refine ag_PO_X4_11_this X w.1 dX4_takeFrom_27 ?_
  refine al_PO_this_2 X w.1 dX4_takeFrom_30 ?_
  refine gcp_i (rest := []) X hml hl.1 wm_X4_31 ⟨Nat.le_of_ble_eq_true rfl, Nat.le_of_ble_eq_true rfl⟩ w 6 1 rfl rfl (by omega) (by omega) (by decide) (Nat.le_of_ble_eq_true rfl) dX4_takeFrom_31 (fun H locs w => ?_)
  obtain ⟨z_31, ez_31⟩ : ∃ q9 : RS, q9 = (sC z_13 2 (va_cpy (zo.2.1 2) (z_13.2.1 2) 0 0 40)) := ⟨_, rfl⟩
  have w : cW G A s (w4 G a z_31 ++ w4 G b zo) H locs := by rw [ez_31]; exact w
  refine lv_aload_n hx hb dX4_takeFrom_34 rfl (lv_at hl 1 rfl) ?_
  refine ag_PO_X4_15_other X w.1 dX4_takeFrom_35 ?_
  refine lv_iconst (v := (nI 0)) hx hb dX4_takeFrom_38 (by decide) ?_
  refine lv_aload_n hx hb dX4_takeFrom_39 rfl (lv_at hl 0 rfl) ?_
  refine ag_PO_X4_15_this X w.1 dX4_takeFrom_40 ?_
  refine lv_iconst (v := (nI 0)) hx hb dX4_takeFrom_43 (by decide) ?_
  refine lv_bipush (v := (nI 8)) hx hb dX4_takeFrom_44 (by decide) ?_
  refine gcp_i (rest := []) X hml hl.1 wm_X4_31 ⟨Nat.le_of_ble_eq_true rfl, Nat.le_of_ble_eq_true rfl⟩ w 7 2 rfl rfl (by omega) (by omega) (by decide) (Nat.le_of_ble_eq_true rfl) dX4_takeFrom_46 (fun H locs w => ?_)
  obtain ⟨z_46, ez_46⟩ : ∃ q9 : RS, q9 = (sC z_31 3 (va_cpy (zo.2.1 3) (z_31.2.1 3) 0 0 8)) := ⟨_, rfl⟩
  have w : cW G A s (w4 G a z_46 ++ w4 G b zo) H locs := by rw [ez_46]; exact w
  refine lv_aload_n hx hb dX4_takeFrom_49 rfl (lv_at hl 1 rfl) ?_
  refine ag_PO_X4_18_other X w.1 dX4_takeFrom_50 ?_
  refine lv_iconst (v := (nI 0)) hx hb dX4_takeFrom_53 (by decide) ?_
  refine lv_aload_n hx hb dX4_takeFrom_54 rfl (lv_at hl 0 rfl) ?_
  refine ag_PO_X4_18_this X w.1 dX4_takeFrom_55 ?_
  refine lv_iconst (v := (nI 0)) hx hb dX4_takeFrom_58 (by decide) ?_
  refine lv_bipush (v := (nI 8)) hx hb dX4_takeFrom_59 (by decide) ?_
  refine gcp_i (rest := []) X hml hl.1 wm_X4_31 ⟨Nat.le_of_ble_eq_true rfl, Nat.le_of_ble_eq_true rfl⟩ w 8 3 rfl rfl (by omega) (by omega) (by decide) (Nat.le_of_ble_eq_true rfl) dX4_takeFrom_61 (fun H locs w => ?_)
  obtain ⟨z_61, ez_61⟩ : ∃ q9 : RS, q9 = (sC z_46 4 (va_cpy (zo.2.1 4) (z_46.2.1 4) 0 0 8)) := ⟨_, rfl⟩
  have w : cW G A s (w4 G a z_61 ++ w4 G b zo) H locs := by rw [ez_61]; exact w
  refine lv_aload_n hx hb dX4_takeFrom_64 rfl (lv_at hl 1 rfl) ?_
  refine ag_PO_X4_21_other X w.1 dX4_takeFrom_65 ?_
  refine lv_iconst (v := (nI 0)) hx hb dX4_takeFrom_68 (by decide) ?_
  refine lv_aload_n hx hb dX4_takeFrom_69 rfl (lv_at hl 0 rfl) ?_
  refine ag_PO_X4_21_this X w.1 dX4_takeFrom_70 ?_
  refine lv_iconst (v := (nI 0)) hx hb dX4_takeFrom_73 (by decide) ?_
  refine lv_bipush (v := (nI 8)) hx hb dX4_takeFrom_74 (by decide) ?_
  refine gcp_i (rest := []) X hml hl.1 wm_X4_31 ⟨Nat.le_of_ble_eq_true rfl, Nat.le_of_ble_eq_true rfl⟩ w 9 4 rfl rfl (by omega) (by omega) (by decide) (Nat.le_of_ble_eq_true rfl) dX4_takeFrom_76 (fun H locs w => ?_)
  obtain ⟨z_76, ez_76⟩ : ∃ q9 : RS, q9 = (sC z_61 5 (va_cpy (zo.2.1 5) (z_61.2.1 5) 0 0 8)) := ⟨_, rfl⟩
  have w : cW G A s (w4 G a z_76 ++ w4 G b zo) H locs := by rw [ez_76]; exact w
  exact ce_v (w := (fun q9 : RS => w4 G a q9 ++ w4 G b zo)) (z := z_76) X hr hk w (by rw [ez_76, ez_61, ez_46, ez_31, ez_13, ez_5]; exact ⟨rfl, rfl, fun _ hq => cpy_in0 hq, fun _ hq => cpy_in0 hq, fun _ hq => cpy_in0 hq, fun _ hq => cpy_in0 hq⟩) dX4_takeFrom_79

section Lm_c4_remember
variable {p : Program} {l : Launch} {e : Env} {R : Room} {s : State} {m : MethodId} {args : Array Value} {below : List Frame} {meth : Method} {c : Code} {H : Heap} {locs : List Loc} {cells slots : Nat} {Q : State → Prop}
variable {cc : ByteArray} {pc : Nat} {ls : Array Slot} {rest : List Value} {G : CG} {A : Nat → Prop}
theorem ag_PS_X4_37_scn {a b : Nat → Nat} {zo : RS} {z : RS} (X : cX RX4 G A p c cc s args m) (w : va_P G.1 vwCl (w4 G a z ++ w5 G b zo) H) (hdg : decode cc pc = .ok (.getfield 37, 3)) (kk : W p l e R s m args below meth c H locs cells slots Q (F0 m (pc + 3) ls (.ref (b 8) :: rest))) : W p l e R s m args below meth c H locs cells slots Q (F0 m pc ls (.ref (b 0) :: rest)) :=
  va_getN (own := RX4) (ref := RX5) (host := "RunningThree") (D := G.1) (ci := 4) (v := .ref (b 8)) (C := RX5) (T := TX5) (N := 13) X.1 X.2.1 X.2.2.1 gX5 X.2.2.2.1 X.2.2.2.2.1.1 w 5 rfl rfl 7 (by decide) (va_Nw.use rfl (X.2.2.2.2.1.2 _ wq_X4_37)) (fun _ h9 => h9) rfl hdg kk
theorem ag_PS_X4_11_this {a b : Nat → Nat} {zo : RS} {z : RS} (X : cX RX4 G A p c cc s args m) (w : va_P G.1 vwCl (w4 G a z ++ w5 G b zo) H) (hdg : decode cc pc = .ok (.getfield 11, 3)) (kk : W p l e R s m args below meth c H locs cells slots Q (F0 m (pc + 3) ls (.ref (a 3) :: rest))) : W p l e R s m args below meth c H locs cells slots Q (F0 m pc ls (.ref (a 0) :: rest)) :=
  va_get (D := G.1) (ci := 3) (v := .ref (a 3)) (C := RX4) (T := TX4) (N := 6) X.1 X.2.1 X.2.2.1 gX4 X.2.2.2.1 X.2.2.2.2.1.1 w 0 rfl rfl 2 (by decide) (X.2.2.1 _ wf_X4_11) (fun _ h9 => h9) rfl hdg kk
theorem ag_PS_X4_28_this {a b : Nat → Nat} {zo : RS} {z : RS} (X : cX RX4 G A p c cc s args m) (w : va_P G.1 vwCl (w4 G a z ++ w5 G b zo) H) (hdg : decode cc pc = .ok (.getfield 28, 3)) (kk : W p l e R s m args below meth c H locs cells slots Q (F0 m (pc + 3) ls (.int (z.1 1) :: rest))) : W p l e R s m args below meth c H locs cells slots Q (F0 m pc ls (.ref (a 0) :: rest)) :=
  va_get (D := G.1) (ci := 3) (v := .int (z.1 1)) (C := RX4) (T := TX4) (N := 6) X.1 X.2.1 X.2.2.1 gX4 X.2.2.2.1 X.2.2.2.2.1.1 w 0 rfl rfl 1 (by decide) (X.2.2.1 _ wf_X4_28) (fun _ h9 => h9) rfl hdg kk
theorem ag_PS_X4_15_this {a b : Nat → Nat} {zo : RS} {z : RS} (X : cX RX4 G A p c cc s args m) (w : va_P G.1 vwCl (w4 G a z ++ w5 G b zo) H) (hdg : decode cc pc = .ok (.getfield 15, 3)) (kk : W p l e R s m args below meth c H locs cells slots Q (F0 m (pc + 3) ls (.ref (a 4) :: rest))) : W p l e R s m args below meth c H locs cells slots Q (F0 m pc ls (.ref (a 0) :: rest)) :=
  va_get (D := G.1) (ci := 3) (v := .ref (a 4)) (C := RX4) (T := TX4) (N := 6) X.1 X.2.1 X.2.2.1 gX4 X.2.2.2.1 X.2.2.2.2.1.1 w 0 rfl rfl 3 (by decide) (X.2.2.1 _ wf_X4_15) (fun _ h9 => h9) rfl hdg kk
theorem ag_PS_X4_40_scn {a b : Nat → Nat} {zo : RS} {z : RS} (X : cX RX4 G A p c cc s args m) (w : va_P G.1 vwCl (w4 G a z ++ w5 G b zo) H) (hdg : decode cc pc = .ok (.getfield 40, 3)) (kk : W p l e R s m args below meth c H locs cells slots Q (F0 m (pc + 3) ls (.int (zo.1 9) :: rest))) : W p l e R s m args below meth c H locs cells slots Q (F0 m pc ls (.ref (b 0) :: rest)) :=
  va_getN (own := RX4) (ref := RX5) (host := "RunningThree") (D := G.1) (ci := 4) (v := .int (zo.1 9)) (C := RX5) (T := TX5) (N := 13) X.1 X.2.1 X.2.2.1 gX5 X.2.2.2.1 X.2.2.2.2.1.1 w 5 rfl rfl 9 (by decide) (va_Nw.use rfl (X.2.2.2.2.1.2 _ wq_X4_40)) (fun _ h9 => h9) rfl hdg kk
theorem au_PS_this_3 {own : String} {a b : Nat → Nat} {zo : RS} {z : RS} {j : Nat} {v : Int32} (X : cX own G A p c cc s args m) (w : cW G A s (w4 G a z ++ w5 G b zo) H locs) (hj : j < 8) (hdg : decode cc pc = .ok (.iastore, 1)) (kk : ∀ (z1 : RS) (H : Heap) (locs : List Loc), z1 = (sA z 3 j v) → cW G A s (w4 G a z1 ++ w5 G b zo) H locs → W p l e R s m args below meth c H locs cells slots Q (F0 m (pc + 1) ls rest)) : W p l e R s m args below meth c H locs cells slots Q (F0 m pc ls (.int v :: .int (nI j) :: .ref (a 4) :: rest)) := by
  refine va_iast X.1 X.2.1 X.2.2.2.2.1.1 w.1 w.2.1 w.2.2 2 0 rfl rfl (vp_in_nI hj (by decide)) hdg ?_
  rw [nI_clamp (by omega)]
  exact fun H1 locs1 hP hD hS => kk _ H1 locs1 rfl ⟨hP, hD, hS⟩
theorem ag_PS_X4_18_this {a b : Nat → Nat} {zo : RS} {z : RS} (X : cX RX4 G A p c cc s args m) (w : va_P G.1 vwCl (w4 G a z ++ w5 G b zo) H) (hdg : decode cc pc = .ok (.getfield 18, 3)) (kk : W p l e R s m args below meth c H locs cells slots Q (F0 m (pc + 3) ls (.ref (a 5) :: rest))) : W p l e R s m args below meth c H locs cells slots Q (F0 m pc ls (.ref (a 0) :: rest)) :=
  va_get (D := G.1) (ci := 3) (v := .ref (a 5)) (C := RX4) (T := TX4) (N := 6) X.1 X.2.1 X.2.2.1 gX4 X.2.2.2.1 X.2.2.2.2.1.1 w 0 rfl rfl 4 (by decide) (X.2.2.1 _ wf_X4_18) (fun _ h9 => h9) rfl hdg kk
theorem ag_PS_X4_43_scn {a b : Nat → Nat} {zo : RS} {z : RS} (X : cX RX4 G A p c cc s args m) (w : va_P G.1 vwCl (w4 G a z ++ w5 G b zo) H) (hdg : decode cc pc = .ok (.getfield 43, 3)) (kk : W p l e R s m args below meth c H locs cells slots Q (F0 m (pc + 3) ls (.int (zo.1 10) :: rest))) : W p l e R s m args below meth c H locs cells slots Q (F0 m pc ls (.ref (b 0) :: rest)) :=
  va_getN (own := RX4) (ref := RX5) (host := "RunningThree") (D := G.1) (ci := 4) (v := .int (zo.1 10)) (C := RX5) (T := TX5) (N := 13) X.1 X.2.1 X.2.2.1 gX5 X.2.2.2.1 X.2.2.2.2.1.1 w 5 rfl rfl 10 (by decide) (va_Nw.use rfl (X.2.2.2.2.1.2 _ wq_X4_43)) (fun _ h9 => h9) rfl hdg kk
theorem au_PS_this_4 {own : String} {a b : Nat → Nat} {zo : RS} {z : RS} {j : Nat} {v : Int32} (X : cX own G A p c cc s args m) (w : cW G A s (w4 G a z ++ w5 G b zo) H locs) (hj : j < 8) (hdg : decode cc pc = .ok (.iastore, 1)) (kk : ∀ (z1 : RS) (H : Heap) (locs : List Loc), z1 = (sA z 4 j v) → cW G A s (w4 G a z1 ++ w5 G b zo) H locs → W p l e R s m args below meth c H locs cells slots Q (F0 m (pc + 1) ls rest)) : W p l e R s m args below meth c H locs cells slots Q (F0 m pc ls (.int v :: .int (nI j) :: .ref (a 5) :: rest)) := by
  refine va_iast X.1 X.2.1 X.2.2.2.2.1.1 w.1 w.2.1 w.2.2 3 0 rfl rfl (vp_in_nI hj (by decide)) hdg ?_
  rw [nI_clamp (by omega)]
  exact fun H1 locs1 hP hD hS => kk _ H1 locs1 rfl ⟨hP, hD, hS⟩
theorem ag_PS_X4_21_this {a b : Nat → Nat} {zo : RS} {z : RS} (X : cX RX4 G A p c cc s args m) (w : va_P G.1 vwCl (w4 G a z ++ w5 G b zo) H) (hdg : decode cc pc = .ok (.getfield 21, 3)) (kk : W p l e R s m args below meth c H locs cells slots Q (F0 m (pc + 3) ls (.ref (a 6) :: rest))) : W p l e R s m args below meth c H locs cells slots Q (F0 m pc ls (.ref (a 0) :: rest)) :=
  va_get (D := G.1) (ci := 3) (v := .ref (a 6)) (C := RX4) (T := TX4) (N := 6) X.1 X.2.1 X.2.2.1 gX4 X.2.2.2.1 X.2.2.2.2.1.1 w 0 rfl rfl 5 (by decide) (X.2.2.1 _ wf_X4_21) (fun _ h9 => h9) rfl hdg kk
theorem ag_PS_X4_46_scn {a b : Nat → Nat} {zo : RS} {z : RS} (X : cX RX4 G A p c cc s args m) (w : va_P G.1 vwCl (w4 G a z ++ w5 G b zo) H) (hdg : decode cc pc = .ok (.getfield 46, 3)) (kk : W p l e R s m args below meth c H locs cells slots Q (F0 m (pc + 3) ls (.int (zo.1 12) :: rest))) : W p l e R s m args below meth c H locs cells slots Q (F0 m pc ls (.ref (b 0) :: rest)) :=
  va_getN (own := RX4) (ref := RX5) (host := "RunningThree") (D := G.1) (ci := 4) (v := .int (zo.1 12)) (C := RX5) (T := TX5) (N := 13) X.1 X.2.1 X.2.2.1 gX5 X.2.2.2.1 X.2.2.2.2.1.1 w 5 rfl rfl 12 (by decide) (va_Nw.use rfl (X.2.2.2.2.1.2 _ wq_X4_46)) (fun _ h9 => h9) rfl hdg kk
theorem au_PS_this_5 {own : String} {a b : Nat → Nat} {zo : RS} {z : RS} {j : Nat} {v : Int32} (X : cX own G A p c cc s args m) (w : cW G A s (w4 G a z ++ w5 G b zo) H locs) (hj : j < 8) (hdg : decode cc pc = .ok (.iastore, 1)) (kk : ∀ (z1 : RS) (H : Heap) (locs : List Loc), z1 = (sA z 5 j v) → cW G A s (w4 G a z1 ++ w5 G b zo) H locs → W p l e R s m args below meth c H locs cells slots Q (F0 m (pc + 1) ls rest)) : W p l e R s m args below meth c H locs cells slots Q (F0 m pc ls (.int v :: .int (nI j) :: .ref (a 6) :: rest)) := by
  refine va_iast X.1 X.2.1 X.2.2.2.2.1.1 w.1 w.2.1 w.2.2 4 0 rfl rfl (vp_in_nI hj (by decide)) hdg ?_
  rw [nI_clamp (by omega)]
  exact fun H1 locs1 hP hD hS => kk _ H1 locs1 rfl ⟨hP, hD, hS⟩
theorem ap_PS_X4_28_this {a b : Nat → Nat} {zo : RS} {z : RS} {v : Int32} (X : cX RX4 G A p c cc s args m) (w : cW G A s (w4 G a z ++ w5 G b zo) H locs) (hdg : decode cc pc = .ok (.putfield 28, 3)) (kk : ∀ (z1 : RS) (H : Heap) (locs : List Loc), z1 = (sI z 1 v) → cW G A s (w4 G a z1 ++ w5 G b zo) H locs → W p l e R s m args below meth c H locs cells slots Q (F0 m (pc + 3) ls rest)) : W p l e R s m args below meth c H locs cells slots Q (F0 m pc ls (.int v :: .ref (a 0) :: rest)) :=
  va_put (D := G.1) (ci := 3) (v := .int v) (ty := .int) (C := RX4) (T := TX4) (N := 6) X.1 X.2.1 X.2.2.1 gX4 tyX4 tyX4_ok nmX4 X.2.2.2.1 X.2.2.2.2.1.1 w.1 w.2.1 w.2.2 0 rfl rfl 1 (by decide) (X.2.2.1 _ wf_X4_28) (fun _ h9 => h9) rfl (by decide +kernel) rfl rfl (Nat.le_of_ble_eq_true rfl) hdg (fun H1 locs1 hP hD hS => kk _ H1 locs1 rfl ⟨hP, hD, hS⟩)
theorem ag_PS_X4_24_this {a b : Nat → Nat} {zo : RS} {z : RS} (X : cX RX4 G A p c cc s args m) (w : va_P G.1 vwCl (w4 G a z ++ w5 G b zo) H) (hdg : decode cc pc = .ok (.getfield 24, 3)) (kk : W p l e R s m args below meth c H locs cells slots Q (F0 m (pc + 3) ls (.int (z.1 0) :: rest))) : W p l e R s m args below meth c H locs cells slots Q (F0 m pc ls (.ref (a 0) :: rest)) :=
  va_get (D := G.1) (ci := 3) (v := .int (z.1 0)) (C := RX4) (T := TX4) (N := 6) X.1 X.2.1 X.2.2.1 gX4 X.2.2.2.1 X.2.2.2.2.1.1 w 0 rfl rfl 0 (by decide) (X.2.2.1 _ wf_X4_24) (fun _ h9 => h9) rfl hdg kk
theorem ap_PS_X4_24_this {a b : Nat → Nat} {zo : RS} {z : RS} {v : Int32} (X : cX RX4 G A p c cc s args m) (w : cW G A s (w4 G a z ++ w5 G b zo) H locs) (hdg : decode cc pc = .ok (.putfield 24, 3)) (kk : ∀ (z1 : RS) (H : Heap) (locs : List Loc), z1 = (sI z 0 v) → cW G A s (w4 G a z1 ++ w5 G b zo) H locs → W p l e R s m args below meth c H locs cells slots Q (F0 m (pc + 3) ls rest)) : W p l e R s m args below meth c H locs cells slots Q (F0 m pc ls (.int v :: .ref (a 0) :: rest)) :=
  va_put (D := G.1) (ci := 3) (v := .int v) (ty := .int) (C := RX4) (T := TX4) (N := 6) X.1 X.2.1 X.2.2.1 gX4 tyX4 tyX4_ok nmX4 X.2.2.2.1 X.2.2.2.2.1.1 w.1 w.2.1 w.2.2 0 rfl rfl 0 (by decide) (X.2.2.1 _ wf_X4_24) (fun _ h9 => h9) rfl (by decide +kernel) rfl rfl (Nat.le_of_ble_eq_true rfl) hdg (fun H1 locs1 hP hD hS => kk _ H1 locs1 rfl ⟨hP, hD, hS⟩)
end Lm_c4_remember
theorem ok4_remember : cOk RX4 yX4_remember cX4_remember 2 none 1 := ⟨wc_X4_remember, wi_X4_remember, ws_X4_remember, wn_X4, rfl, by decide, by decide, by decide +kernel⟩
set_option maxHeartbeats 4000000 in
set_option maxRecDepth 100000 in
theorem c4_remember (l : Launch) (G : CG) (a b : Nat → Nat) (zo : RS) (z : RS)  (u x : Nat) (P : Nat → Nat → Int32) (nf : Nat) (hp : cPa z u x P nf) (r : Nat → Int32) (h0 : zo.1 9 = r 0) (h1 : zo.1 10 = r 1) (h2 : zo.1 12 = r 2) (h3 : ∀ f, f < nf → zo.2.1 7 f = r (3 + f)) : cMv G l yX4_remember cX4_remember 2 none 1 100 [.ref (a 0), .ref (b 0)] (fun q9 : RS => w4 G a q9 ++ w5 G b zo) z (fun z9 => cPa z9 (pa_n u) ((x + 1) % 8) (pa_put u P r) nf) := by
  refine cMv_in (by decide) rfl (Nat.le_of_ble_eq_true rfl) ?_
  intro p e s m args below meth c A ls X hml hr hk hl w
  have hx := X.1
  have hb := X.2.1
  have hts := X.2.2.1
  have hown := X.2.2.2.1
  have hl : lv_has ls 2 [(0, .ref (a 0)), (1, .ref (b 0))] := hl
  have p1 := hp.2.1
  have p2 := hp.2.2.2.1
  refine lv_aload_n hx hb dX4_remember_0 rfl (lv_at hl 1 rfl) ?_
  refine ag_PS_X4_37_scn X w.1 dX4_remember_1 ?_
  refine lv_iconst (v := (nI 0)) hx hb dX4_remember_4 (by decide) ?_
  refine lv_aload_n hx hb dX4_remember_5 rfl (lv_at hl 0 rfl) ?_
  refine ag_PS_X4_11_this X w.1 dX4_remember_6 ?_
  refine lv_aload_n hx hb dX4_remember_9 rfl (lv_at hl 0 rfl) ?_
  refine ag_PS_X4_28_this X w.1 dX4_remember_10 ?_
  refine tp_i (show z.1 1 = (nI x) from hp.2.2.1) ?_
  refine lv_iconst (v := (nI 5)) hx hb dX4_remember_13 (by decide) ?_
  refine n_imul hx hb dX4_remember_14 ?_
  refine lv_iconst (v := (nI 5)) hx hb dX4_remember_15 (by decide) ?_
  refine gcp_i (rest := []) X hml hl.1 wm_X4_31 ⟨Nat.le_of_ble_eq_true rfl, Nat.le_of_ble_eq_true rfl⟩ w 11 1 rfl rfl (by omega) (by omega) (by decide) (Nat.le_of_ble_eq_true rfl) dX4_remember_16 (fun H locs w => ?_)
  obtain ⟨z_16, ez_16⟩ : ∃ q9 : RS, q9 = (sC z 2 (va_cpy (zo.2.1 7) (z.2.1 2) 0 (x * 5) 5)) := ⟨_, rfl⟩
  have w : cW G A s (w4 G a z_16 ++ w5 G b zo) H locs := by rw [ez_16]; exact w
  refine lv_aload_n hx hb dX4_remember_19 rfl (lv_at hl 0 rfl) ?_
  refine ag_PS_X4_15_this X w.1 dX4_remember_20 ?_
  refine lv_aload_n hx hb dX4_remember_23 rfl (lv_at hl 0 rfl) ?_
  refine ag_PS_X4_28_this X w.1 dX4_remember_24 ?_
  refine tp_i (show z_16.1 1 = (nI x) from (by rw [ez_16]; exact hp.2.2.1)) ?_
  refine lv_aload_n hx hb dX4_remember_27 rfl (lv_at hl 1 rfl) ?_
  refine ag_PS_X4_40_scn X w.1 dX4_remember_28 ?_
  refine au_PS_this_3 X w (by omega) dX4_remember_31 (fun z_31 H locs ez_31 w => ?_)
  refine lv_aload_n hx hb dX4_remember_32 rfl (lv_at hl 0 rfl) ?_
  refine ag_PS_X4_18_this X w.1 dX4_remember_33 ?_
  refine lv_aload_n hx hb dX4_remember_36 rfl (lv_at hl 0 rfl) ?_
  refine ag_PS_X4_28_this X w.1 dX4_remember_37 ?_
  refine tp_i (show z_31.1 1 = (nI x) from (by rw [ez_31, ez_16]; exact hp.2.2.1)) ?_
  refine lv_aload_n hx hb dX4_remember_40 rfl (lv_at hl 1 rfl) ?_
  refine ag_PS_X4_43_scn X w.1 dX4_remember_41 ?_
  refine au_PS_this_4 X w (by omega) dX4_remember_44 (fun z_44 H locs ez_44 w => ?_)
  refine lv_aload_n hx hb dX4_remember_45 rfl (lv_at hl 0 rfl) ?_
  refine ag_PS_X4_21_this X w.1 dX4_remember_46 ?_
  refine lv_aload_n hx hb dX4_remember_49 rfl (lv_at hl 0 rfl) ?_
  refine ag_PS_X4_28_this X w.1 dX4_remember_50 ?_
  refine tp_i (show z_44.1 1 = (nI x) from (by rw [ez_44, ez_31, ez_16]; exact hp.2.2.1)) ?_
  refine lv_aload_n hx hb dX4_remember_53 rfl (lv_at hl 1 rfl) ?_
  refine ag_PS_X4_46_scn X w.1 dX4_remember_54 ?_
  refine au_PS_this_5 X w (by omega) dX4_remember_57 (fun z_57 H locs ez_57 w => ?_)
  refine lv_aload_n hx hb dX4_remember_58 rfl (lv_at hl 0 rfl) ?_
  refine lv_aload_n hx hb dX4_remember_59 rfl (lv_at hl 0 rfl) ?_
  refine ag_PS_X4_28_this X w.1 dX4_remember_60 ?_
  refine tp_i (show z_57.1 1 = (nI x) from (by rw [ez_57, ez_44, ez_31, ez_16]; exact hp.2.2.1)) ?_
  refine lv_iconst (v := (nI 1)) hx hb dX4_remember_63 (by decide) ?_
  refine n_iadd hx hb dX4_remember_64 ?_
  refine lv_bipush (v := (nI 8)) hx hb dX4_remember_65 (by decide) ?_
  refine n_irem hx hb dX4_remember_67 (by omega) (by omega) (by omega) ?_
  refine ap_PS_X4_28_this X w dX4_remember_68 (fun z_68 H locs ez_68 w => ?_)
  refine lv_aload_n hx hb dX4_remember_71 rfl (lv_at hl 0 rfl) ?_
  refine lv_bipush (v := (nI 8)) hx hb dX4_remember_72 (by decide) ?_
  refine lv_aload_n hx hb dX4_remember_74 rfl (lv_at hl 0 rfl) ?_
  refine ag_PS_X4_24_this X w.1 dX4_remember_75 ?_
  refine tp_i (show z_68.1 0 = (nI u) from (by rw [ez_68, ez_57, ez_44, ez_31, ez_16]; exact hp.1)) ?_
  refine lv_iconst (v := (nI 1)) hx hb dX4_remember_78 (by decide) ?_
  refine n_iadd hx hb dX4_remember_79 ?_
  refine tp_i (iZ_n (u + 1)).symm ?_
  refine tp_i2 (show nI 8 = iZ (8 : Int) from by decide) ?_
  refine gm_min (rest := [.ref (a 0)]) ⟨X.1, X.2.1, X.2.2.1, X.2.2.2.1⟩ hml hl.1 wm_X4_49 ⟨Nat.le_of_ble_eq_true rfl, Nat.le_of_ble_eq_true rfl⟩ ⟨Nat.le_refl _, Nat.le_refl _⟩ (Nat.le_of_ble_eq_true rfl) (by omega) (by omega) (by omega) (by omega) dX4_remember_80 ?_
  refine tp_i (show iZ (min (8 : Int) ((u + 1 : Nat) : Int)) = nI (min 8 (u + 1)) from by rw [← iZ_n]; exact congrArg iZ (by omega)) ?_
  refine ap_PS_X4_24_this X w dX4_remember_83 (fun z_83 H locs ez_83 w => ?_)
  exact ce_v (w := (fun q9 : RS => w4 G a q9 ++ w5 G b zo)) (z := z_83) X hr hk w (by rw [ez_83, ez_68, ez_57, ez_44, ez_31, ez_16]; exact pa_rem hp h0 h1 h2 h3) dX4_remember_86

section Lm_c4_bringBack
variable {p : Program} {l : Launch} {e : Env} {R : Room} {s : State} {m : MethodId} {args : Array Value} {below : List Frame} {meth : Method} {c : Code} {H : Heap} {locs : List Loc} {cells slots : Nat} {Q : State → Prop}
variable {cc : ByteArray} {pc : Nat} {ls : Array Slot} {rest : List Value} {G : CG} {A : Nat → Prop}
theorem ag_PB_X4_24_this {a b : Nat → Nat} {z : RS × RS} (X : cX RX4 G A p c cc s args m) (w : va_P G.1 vwCl (w4 G a z.1 ++ w5 G b z.2) H) (hdg : decode cc pc = .ok (.getfield 24, 3)) (kk : W p l e R s m args below meth c H locs cells slots Q (F0 m (pc + 3) ls (.int (z.1.1 0) :: rest))) : W p l e R s m args below meth c H locs cells slots Q (F0 m pc ls (.ref (a 0) :: rest)) :=
  va_get (D := G.1) (ci := 3) (v := .int (z.1.1 0)) (C := RX4) (T := TX4) (N := 6) X.1 X.2.1 X.2.2.1 gX4 X.2.2.2.1 X.2.2.2.2.1.1 w 0 rfl rfl 0 (by decide) (X.2.2.1 _ wf_X4_24) (fun _ h9 => h9) rfl hdg kk
theorem ap_PB_X4_24_this {a b : Nat → Nat} {z : RS × RS} {v : Int32} (X : cX RX4 G A p c cc s args m) (w : cW G A s (w4 G a z.1 ++ w5 G b z.2) H locs) (hdg : decode cc pc = .ok (.putfield 24, 3)) (kk : ∀ (z1 : RS × RS) (H : Heap) (locs : List Loc), z1 = ((sI z.1 0 v), z.2) → cW G A s (w4 G a z1.1 ++ w5 G b z1.2) H locs → W p l e R s m args below meth c H locs cells slots Q (F0 m (pc + 3) ls rest)) : W p l e R s m args below meth c H locs cells slots Q (F0 m pc ls (.int v :: .ref (a 0) :: rest)) :=
  va_put (D := G.1) (ci := 3) (v := .int v) (ty := .int) (C := RX4) (T := TX4) (N := 6) X.1 X.2.1 X.2.2.1 gX4 tyX4 tyX4_ok nmX4 X.2.2.2.1 X.2.2.2.2.1.1 w.1 w.2.1 w.2.2 0 rfl rfl 0 (by decide) (X.2.2.1 _ wf_X4_24) (fun _ h9 => h9) rfl (by decide +kernel) rfl rfl (Nat.le_of_ble_eq_true rfl) hdg (fun H1 locs1 hP hD hS => kk _ H1 locs1 rfl ⟨hP, hD, hS⟩)
theorem ag_PB_X4_28_this {a b : Nat → Nat} {z : RS × RS} (X : cX RX4 G A p c cc s args m) (w : va_P G.1 vwCl (w4 G a z.1 ++ w5 G b z.2) H) (hdg : decode cc pc = .ok (.getfield 28, 3)) (kk : W p l e R s m args below meth c H locs cells slots Q (F0 m (pc + 3) ls (.int (z.1.1 1) :: rest))) : W p l e R s m args below meth c H locs cells slots Q (F0 m pc ls (.ref (a 0) :: rest)) :=
  va_get (D := G.1) (ci := 3) (v := .int (z.1.1 1)) (C := RX4) (T := TX4) (N := 6) X.1 X.2.1 X.2.2.1 gX4 X.2.2.2.1 X.2.2.2.2.1.1 w 0 rfl rfl 1 (by decide) (X.2.2.1 _ wf_X4_28) (fun _ h9 => h9) rfl hdg kk
theorem ap_PB_X4_28_this {a b : Nat → Nat} {z : RS × RS} {v : Int32} (X : cX RX4 G A p c cc s args m) (w : cW G A s (w4 G a z.1 ++ w5 G b z.2) H locs) (hdg : decode cc pc = .ok (.putfield 28, 3)) (kk : ∀ (z1 : RS × RS) (H : Heap) (locs : List Loc), z1 = ((sI z.1 1 v), z.2) → cW G A s (w4 G a z1.1 ++ w5 G b z1.2) H locs → W p l e R s m args below meth c H locs cells slots Q (F0 m (pc + 3) ls rest)) : W p l e R s m args below meth c H locs cells slots Q (F0 m pc ls (.int v :: .ref (a 0) :: rest)) :=
  va_put (D := G.1) (ci := 3) (v := .int v) (ty := .int) (C := RX4) (T := TX4) (N := 6) X.1 X.2.1 X.2.2.1 gX4 tyX4 tyX4_ok nmX4 X.2.2.2.1 X.2.2.2.2.1.1 w.1 w.2.1 w.2.2 0 rfl rfl 1 (by decide) (X.2.2.1 _ wf_X4_28) (fun _ h9 => h9) rfl (by decide +kernel) rfl rfl (Nat.le_of_ble_eq_true rfl) hdg (fun H1 locs1 hP hD hS => kk _ H1 locs1 rfl ⟨hP, hD, hS⟩)
theorem ag_PB_X4_11_this {a b : Nat → Nat} {z : RS × RS} (X : cX RX4 G A p c cc s args m) (w : va_P G.1 vwCl (w4 G a z.1 ++ w5 G b z.2) H) (hdg : decode cc pc = .ok (.getfield 11, 3)) (kk : W p l e R s m args below meth c H locs cells slots Q (F0 m (pc + 3) ls (.ref (a 3) :: rest))) : W p l e R s m args below meth c H locs cells slots Q (F0 m pc ls (.ref (a 0) :: rest)) :=
  va_get (D := G.1) (ci := 3) (v := .ref (a 3)) (C := RX4) (T := TX4) (N := 6) X.1 X.2.1 X.2.2.1 gX4 X.2.2.2.1 X.2.2.2.2.1.1 w 0 rfl rfl 2 (by decide) (X.2.2.1 _ wf_X4_11) (fun _ h9 => h9) rfl hdg kk
theorem ag_PB_X4_37_scn {a b : Nat → Nat} {z : RS × RS} (X : cX RX4 G A p c cc s args m) (w : va_P G.1 vwCl (w4 G a z.1 ++ w5 G b z.2) H) (hdg : decode cc pc = .ok (.getfield 37, 3)) (kk : W p l e R s m args below meth c H locs cells slots Q (F0 m (pc + 3) ls (.ref (b 8) :: rest))) : W p l e R s m args below meth c H locs cells slots Q (F0 m pc ls (.ref (b 0) :: rest)) :=
  va_getN (own := RX4) (ref := RX5) (host := "RunningThree") (D := G.1) (ci := 4) (v := .ref (b 8)) (C := RX5) (T := TX5) (N := 13) X.1 X.2.1 X.2.2.1 gX5 X.2.2.2.1 X.2.2.2.2.1.1 w 5 rfl rfl 7 (by decide) (va_Nw.use rfl (X.2.2.2.2.1.2 _ wq_X4_37)) (fun _ h9 => h9) rfl hdg kk
theorem ag_PB_X4_15_this {a b : Nat → Nat} {z : RS × RS} (X : cX RX4 G A p c cc s args m) (w : va_P G.1 vwCl (w4 G a z.1 ++ w5 G b z.2) H) (hdg : decode cc pc = .ok (.getfield 15, 3)) (kk : W p l e R s m args below meth c H locs cells slots Q (F0 m (pc + 3) ls (.ref (a 4) :: rest))) : W p l e R s m args below meth c H locs cells slots Q (F0 m pc ls (.ref (a 0) :: rest)) :=
  va_get (D := G.1) (ci := 3) (v := .ref (a 4)) (C := RX4) (T := TX4) (N := 6) X.1 X.2.1 X.2.2.1 gX4 X.2.2.2.1 X.2.2.2.2.1.1 w 0 rfl rfl 3 (by decide) (X.2.2.1 _ wf_X4_15) (fun _ h9 => h9) rfl hdg kk
theorem an_PB_this_3 {own : String} {a b : Nat → Nat} {z : RS × RS} {j : Nat} (X : cX own G A p c cc s args m) (w : va_P G.1 vwCl (w4 G a z.1 ++ w5 G b z.2) H) (hj : j < 8) (hdg : decode cc pc = .ok (.iaload, 1)) (kk : W p l e R s m args below meth c H locs cells slots Q (F0 m (pc + 1) ls (.int (z.1.2.1 3 j) :: rest))) : W p l e R s m args below meth c H locs cells slots Q (F0 m pc ls (.int (nI j) :: .ref (a 4) :: rest)) :=
  va_iald X.1 X.2.1 X.2.2.2.2.1.1 w 2 0 rfl rfl (vp_in_nI hj (by decide)) hdg (by rw [nI_clamp (by omega)]; exact kk)
theorem ap_PB_X4_40_scn {a b : Nat → Nat} {z : RS × RS} {v : Int32} (X : cX RX4 G A p c cc s args m) (w : cW G A s (w4 G a z.1 ++ w5 G b z.2) H locs) (hdg : decode cc pc = .ok (.putfield 40, 3)) (kk : ∀ (z1 : RS × RS) (H : Heap) (locs : List Loc), z1 = (z.1, (sI z.2 9 v)) → cW G A s (w4 G a z1.1 ++ w5 G b z1.2) H locs → W p l e R s m args below meth c H locs cells slots Q (F0 m (pc + 3) ls rest)) : W p l e R s m args below meth c H locs cells slots Q (F0 m pc ls (.int v :: .ref (b 0) :: rest)) :=
  va_putN (own := RX4) (ref := RX5) (host := "RunningThree") (D := G.1) (ci := 4) (v := .int v) (ty := .int) (C := RX5) (T := TX5) (N := 13) X.1 X.2.1 X.2.2.1 gX5 tyX5 tyX5_ok nmX5 X.2.2.2.1 X.2.2.2.2.1.1 w.1 w.2.1 w.2.2 5 rfl rfl 9 (by decide) (va_Nw.use rfl (X.2.2.2.2.1.2 _ wq_X4_40)) (fun _ h9 => h9) rfl (by decide +kernel) rfl rfl (Nat.le_of_ble_eq_true rfl) hdg (fun H1 locs1 hP hD hS => kk _ H1 locs1 rfl ⟨hP, hD, hS⟩)
theorem ag_PB_X4_18_this {a b : Nat → Nat} {z : RS × RS} (X : cX RX4 G A p c cc s args m) (w : va_P G.1 vwCl (w4 G a z.1 ++ w5 G b z.2) H) (hdg : decode cc pc = .ok (.getfield 18, 3)) (kk : W p l e R s m args below meth c H locs cells slots Q (F0 m (pc + 3) ls (.ref (a 5) :: rest))) : W p l e R s m args below meth c H locs cells slots Q (F0 m pc ls (.ref (a 0) :: rest)) :=
  va_get (D := G.1) (ci := 3) (v := .ref (a 5)) (C := RX4) (T := TX4) (N := 6) X.1 X.2.1 X.2.2.1 gX4 X.2.2.2.1 X.2.2.2.2.1.1 w 0 rfl rfl 4 (by decide) (X.2.2.1 _ wf_X4_18) (fun _ h9 => h9) rfl hdg kk
theorem an_PB_this_4 {own : String} {a b : Nat → Nat} {z : RS × RS} {j : Nat} (X : cX own G A p c cc s args m) (w : va_P G.1 vwCl (w4 G a z.1 ++ w5 G b z.2) H) (hj : j < 8) (hdg : decode cc pc = .ok (.iaload, 1)) (kk : W p l e R s m args below meth c H locs cells slots Q (F0 m (pc + 1) ls (.int (z.1.2.1 4 j) :: rest))) : W p l e R s m args below meth c H locs cells slots Q (F0 m pc ls (.int (nI j) :: .ref (a 5) :: rest)) :=
  va_iald X.1 X.2.1 X.2.2.2.2.1.1 w 3 0 rfl rfl (vp_in_nI hj (by decide)) hdg (by rw [nI_clamp (by omega)]; exact kk)
theorem ap_PB_X4_43_scn {a b : Nat → Nat} {z : RS × RS} {v : Int32} (X : cX RX4 G A p c cc s args m) (w : cW G A s (w4 G a z.1 ++ w5 G b z.2) H locs) (hdg : decode cc pc = .ok (.putfield 43, 3)) (kk : ∀ (z1 : RS × RS) (H : Heap) (locs : List Loc), z1 = (z.1, (sI z.2 10 v)) → cW G A s (w4 G a z1.1 ++ w5 G b z1.2) H locs → W p l e R s m args below meth c H locs cells slots Q (F0 m (pc + 3) ls rest)) : W p l e R s m args below meth c H locs cells slots Q (F0 m pc ls (.int v :: .ref (b 0) :: rest)) :=
  va_putN (own := RX4) (ref := RX5) (host := "RunningThree") (D := G.1) (ci := 4) (v := .int v) (ty := .int) (C := RX5) (T := TX5) (N := 13) X.1 X.2.1 X.2.2.1 gX5 tyX5 tyX5_ok nmX5 X.2.2.2.1 X.2.2.2.2.1.1 w.1 w.2.1 w.2.2 5 rfl rfl 10 (by decide) (va_Nw.use rfl (X.2.2.2.2.1.2 _ wq_X4_43)) (fun _ h9 => h9) rfl (by decide +kernel) rfl rfl (Nat.le_of_ble_eq_true rfl) hdg (fun H1 locs1 hP hD hS => kk _ H1 locs1 rfl ⟨hP, hD, hS⟩)
theorem ag_PB_X4_21_this {a b : Nat → Nat} {z : RS × RS} (X : cX RX4 G A p c cc s args m) (w : va_P G.1 vwCl (w4 G a z.1 ++ w5 G b z.2) H) (hdg : decode cc pc = .ok (.getfield 21, 3)) (kk : W p l e R s m args below meth c H locs cells slots Q (F0 m (pc + 3) ls (.ref (a 6) :: rest))) : W p l e R s m args below meth c H locs cells slots Q (F0 m pc ls (.ref (a 0) :: rest)) :=
  va_get (D := G.1) (ci := 3) (v := .ref (a 6)) (C := RX4) (T := TX4) (N := 6) X.1 X.2.1 X.2.2.1 gX4 X.2.2.2.1 X.2.2.2.2.1.1 w 0 rfl rfl 5 (by decide) (X.2.2.1 _ wf_X4_21) (fun _ h9 => h9) rfl hdg kk
theorem an_PB_this_5 {own : String} {a b : Nat → Nat} {z : RS × RS} {j : Nat} (X : cX own G A p c cc s args m) (w : va_P G.1 vwCl (w4 G a z.1 ++ w5 G b z.2) H) (hj : j < 8) (hdg : decode cc pc = .ok (.iaload, 1)) (kk : W p l e R s m args below meth c H locs cells slots Q (F0 m (pc + 1) ls (.int (z.1.2.1 5 j) :: rest))) : W p l e R s m args below meth c H locs cells slots Q (F0 m pc ls (.int (nI j) :: .ref (a 6) :: rest)) :=
  va_iald X.1 X.2.1 X.2.2.2.2.1.1 w 4 0 rfl rfl (vp_in_nI hj (by decide)) hdg (by rw [nI_clamp (by omega)]; exact kk)
theorem ap_PB_X4_46_scn {a b : Nat → Nat} {z : RS × RS} {v : Int32} (X : cX RX4 G A p c cc s args m) (w : cW G A s (w4 G a z.1 ++ w5 G b z.2) H locs) (hdg : decode cc pc = .ok (.putfield 46, 3)) (kk : ∀ (z1 : RS × RS) (H : Heap) (locs : List Loc), z1 = (z.1, (sI z.2 12 v)) → cW G A s (w4 G a z1.1 ++ w5 G b z1.2) H locs → W p l e R s m args below meth c H locs cells slots Q (F0 m (pc + 3) ls rest)) : W p l e R s m args below meth c H locs cells slots Q (F0 m pc ls (.int v :: .ref (b 0) :: rest)) :=
  va_putN (own := RX4) (ref := RX5) (host := "RunningThree") (D := G.1) (ci := 4) (v := .int v) (ty := .int) (C := RX5) (T := TX5) (N := 13) X.1 X.2.1 X.2.2.1 gX5 tyX5 tyX5_ok nmX5 X.2.2.2.1 X.2.2.2.2.1.1 w.1 w.2.1 w.2.2 5 rfl rfl 12 (by decide) (va_Nw.use rfl (X.2.2.2.2.1.2 _ wq_X4_46)) (fun _ h9 => h9) rfl (by decide +kernel) rfl rfl (Nat.le_of_ble_eq_true rfl) hdg (fun H1 locs1 hP hD hS => kk _ H1 locs1 rfl ⟨hP, hD, hS⟩)
end Lm_c4_bringBack
theorem ok4_bringBack : cOk RX4 yX4_bringBack cX4_bringBack 2 (some .boolean) 1 := ⟨wc_X4_bringBack, wi_X4_bringBack, ws_X4_bringBack, wn_X4, rfl, by decide, by decide, by decide +kernel⟩
set_option maxHeartbeats 4000000 in
set_option maxRecDepth 100000 in
theorem c4_bringBack (l : Launch) (G : CG) (a b : Nat → Nat) (z : RS × RS)  (u x : Nat) (P : Nat → Nat → Int32) (nf : Nat) (hp : cPa z.1 u x P nf) : cMi G l yX4_bringBack cX4_bringBack 2 (some .boolean) 1 100 [.ref (a 0), .ref (b 0)] (fun q9 : RS × RS => w4 G a q9.1 ++ w5 G b q9.2) z (fun r z9 => (u = 0 ∧ r = nI 0 ∧ z9 = z) ∨ (0 < u ∧ r = nI 1 ∧ cPa z9.1 (u - 1) ((x + 8 - 1) % 8) P nf ∧ cBk z.2 z9.2 (P (u - 1)) nf)) := by
  refine cMi_in (by decide) rfl (Nat.le_of_ble_eq_true rfl) ?_
  intro p e s m args below meth c A ls X hml hr hk hl w
  have hx := X.1
  have hb := X.2.1
  have hts := X.2.2.1
  have hown := X.2.2.2.1
  have hl : lv_has ls 2 [(0, .ref (a 0)), (1, .ref (b 0))] := hl
  have p1 := hp.2.1
  have p2 := hp.2.2.2.1
  refine lv_aload_n hx hb dX4_bringBack_0 rfl (lv_at hl 0 rfl) ?_
  refine ag_PB_X4_24_this X w.1 dX4_bringBack_1 ?_
  refine tp_i (show z.1.1 0 = (nI u) from hp.1) ?_
  refine n_if_ne (tgt := 9) hx hb dX4_bringBack_4 (by decide) (by omega) (fun c_4_1 => ?_) (fun c_4_1 => ?_)
  · skip
    refine lv_aload_n hx hb dX4_bringBack_9 rfl (lv_at hl 0 rfl) ?_
    refine lv_dup hx hb dX4_bringBack_10 rfl ?_
    refine ag_PB_X4_24_this X w.1 dX4_bringBack_11 ?_
    refine tp_i (show z.1.1 0 = (nI u) from hp.1) ?_
    refine lv_iconst (v := (nI 1)) hx hb dX4_bringBack_14 (by decide) ?_
    refine n_isub hx hb dX4_bringBack_15 (by omega) ?_
    refine ap_PB_X4_24_this X w dX4_bringBack_16 (fun z_16 H locs ez_16 w => ?_)
    refine lv_aload_n hx hb dX4_bringBack_19 rfl (lv_at hl 0 rfl) ?_
    refine lv_aload_n hx hb dX4_bringBack_20 rfl (lv_at hl 0 rfl) ?_
    refine ag_PB_X4_28_this X w.1 dX4_bringBack_21 ?_
    refine tp_i (show z_16.1.1 1 = (nI x) from (by rw [ez_16]; exact hp.2.2.1)) ?_
    refine lv_bipush (v := (nI 8)) hx hb dX4_bringBack_24 (by decide) ?_
    refine n_iadd hx hb dX4_bringBack_26 ?_
    refine lv_iconst (v := (nI 1)) hx hb dX4_bringBack_27 (by decide) ?_
    refine n_isub hx hb dX4_bringBack_28 (by omega) ?_
    refine lv_bipush (v := (nI 8)) hx hb dX4_bringBack_29 (by decide) ?_
    refine n_irem hx hb dX4_bringBack_31 (by omega) (by omega) (by omega) ?_
    refine ap_PB_X4_28_this X w dX4_bringBack_32 (fun z_32 H locs ez_32 w => ?_)
    refine lv_aload_n hx hb dX4_bringBack_35 rfl (lv_at hl 0 rfl) ?_
    refine ag_PB_X4_11_this X w.1 dX4_bringBack_36 ?_
    refine lv_aload_n hx hb dX4_bringBack_39 rfl (lv_at hl 0 rfl) ?_
    refine ag_PB_X4_28_this X w.1 dX4_bringBack_40 ?_
    refine tp_i (show z_32.1.1 1 = (nI ((x + 8 - 1) % 8)) from (by rw [ez_32]; rfl)) ?_
    refine lv_iconst (v := (nI 5)) hx hb dX4_bringBack_43 (by decide) ?_
    refine n_imul hx hb dX4_bringBack_44 ?_
    refine lv_aload_n hx hb dX4_bringBack_45 rfl (lv_at hl 1 rfl) ?_
    refine ag_PB_X4_37_scn X w.1 dX4_bringBack_46 ?_
    refine lv_iconst (v := (nI 0)) hx hb dX4_bringBack_49 (by decide) ?_
    refine lv_iconst (v := (nI 5)) hx hb dX4_bringBack_50 (by decide) ?_
    refine gcp_i (rest := []) X hml hl.1 wm_X4_31 ⟨Nat.le_of_ble_eq_true rfl, Nat.le_of_ble_eq_true rfl⟩ w 1 11 rfl rfl (by omega) (by omega) (by decide) (Nat.le_of_ble_eq_true rfl) dX4_bringBack_51 (fun H locs w => ?_)
    obtain ⟨z_51, ez_51⟩ : ∃ q9 : RS × RS, q9 = (z_32.1, (sC z_32.2 7 (va_cpy (z_32.1.2.1 2) (z_32.2.2.1 7) (((x + 8 - 1) % 8) * 5) 0 5))) := ⟨_, rfl⟩
    have w : cW G A s (w4 G a z_51.1 ++ w5 G b z_51.2) H locs := by rw [ez_51]; exact w
    refine lv_aload_n hx hb dX4_bringBack_54 rfl (lv_at hl 1 rfl) ?_
    refine lv_aload_n hx hb dX4_bringBack_55 rfl (lv_at hl 0 rfl) ?_
    refine ag_PB_X4_15_this X w.1 dX4_bringBack_56 ?_
    refine lv_aload_n hx hb dX4_bringBack_59 rfl (lv_at hl 0 rfl) ?_
    refine ag_PB_X4_28_this X w.1 dX4_bringBack_60 ?_
    refine tp_i (show z_51.1.1 1 = (nI ((x + 8 - 1) % 8)) from (by rw [ez_51, ez_32]; rfl)) ?_
    refine an_PB_this_3 X w.1 (by omega) dX4_bringBack_63 ?_
    refine ap_PB_X4_40_scn X w dX4_bringBack_64 (fun z_64 H locs ez_64 w => ?_)
    refine lv_aload_n hx hb dX4_bringBack_67 rfl (lv_at hl 1 rfl) ?_
    refine lv_aload_n hx hb dX4_bringBack_68 rfl (lv_at hl 0 rfl) ?_
    refine ag_PB_X4_18_this X w.1 dX4_bringBack_69 ?_
    refine lv_aload_n hx hb dX4_bringBack_72 rfl (lv_at hl 0 rfl) ?_
    refine ag_PB_X4_28_this X w.1 dX4_bringBack_73 ?_
    refine tp_i (show z_64.1.1 1 = (nI ((x + 8 - 1) % 8)) from (by rw [ez_64, ez_51, ez_32]; rfl)) ?_
    refine an_PB_this_4 X w.1 (by omega) dX4_bringBack_76 ?_
    refine ap_PB_X4_43_scn X w dX4_bringBack_77 (fun z_77 H locs ez_77 w => ?_)
    refine lv_aload_n hx hb dX4_bringBack_80 rfl (lv_at hl 1 rfl) ?_
    refine lv_aload_n hx hb dX4_bringBack_81 rfl (lv_at hl 0 rfl) ?_
    refine ag_PB_X4_21_this X w.1 dX4_bringBack_82 ?_
    refine lv_aload_n hx hb dX4_bringBack_85 rfl (lv_at hl 0 rfl) ?_
    refine ag_PB_X4_28_this X w.1 dX4_bringBack_86 ?_
    refine tp_i (show z_77.1.1 1 = (nI ((x + 8 - 1) % 8)) from (by rw [ez_77, ez_64, ez_51, ez_32]; rfl)) ?_
    refine an_PB_this_5 X w.1 (by omega) dX4_bringBack_89 ?_
    refine ap_PB_X4_46_scn X w dX4_bringBack_90 (fun z_90 H locs ez_90 w => ?_)
    refine lv_iconst (v := (nI 1)) hx hb dX4_bringBack_93 (by decide) ?_
    exact ce_iz (w := (fun q9 : RS × RS => w4 G a q9.1 ++ w5 G b q9.2)) (z := z_90) X hr hk w (by first | exact Or.inl rfl | exact Or.inr rfl) (Or.inr ⟨by omega, rfl, by rw [ez_90, ez_77, ez_64, ez_51, ez_32, ez_16]; exact (pa_bk (zo := z.2) hp (by omega)).1, by rw [ez_90, ez_77, ez_64, ez_51, ez_32, ez_16]; exact (pa_bk (zo := z.2) hp (by omega)).2⟩) dX4_bringBack_94
  · skip
    refine lv_iconst (v := (nI 0)) hx hb dX4_bringBack_7 (by decide) ?_
    exact ce_iz (w := (fun q9 : RS × RS => w4 G a q9.1 ++ w5 G b q9.2)) (z := z) X hr hk w (by first | exact Or.inl rfl | exact Or.inr rfl) (Or.inl ⟨by omega, rfl, rfl⟩) dX4_bringBack_8
