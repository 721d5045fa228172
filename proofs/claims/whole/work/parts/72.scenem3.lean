section Lm_c5_takeHurts
variable {p : Program} {l : Launch} {e : Env} {R : Room} {s : State} {m : MethodId} {args : Array Value} {below : List Frame} {meth : Method} {c : Code} {H : Heap} {locs : List Loc} {cells slots : Nat} {Q : State → Prop}
variable {cc : ByteArray} {pc : Nat} {ls : Array Slot} {rest : List Value} {G : CG} {A : Nat → Prop}
theorem ag_SO_X5_31_other {a b : Nat → Nat} {zo : RS} {z : RS} (X : cX RX5 G A p c cc s args m) (w : va_P G.1 vwCl (w5 G a z ++ w5 G b zo) H) (hdg : decode cc pc = .ok (.getfield 31, 3)) (kk : W p l e R s m args below meth c H locs cells slots Q (F0 m (pc + 3) ls (.ref (b 8) :: rest))) : W p l e R s m args below meth c H locs cells slots Q (F0 m pc ls (.ref (b 0) :: rest)) :=
  va_get (D := G.1) (ci := 4) (v := .ref (b 8)) (C := RX5) (T := TX5) (N := 13) X.1 X.2.1 X.2.2.1 gX5 X.2.2.2.1 X.2.2.2.2.1.1 w 8 rfl rfl 7 (by decide) (X.2.2.1 _ wf_X5_31) (fun _ h9 => h9) rfl hdg kk
theorem ag_SO_X5_31_this {a b : Nat → Nat} {zo : RS} {z : RS} (X : cX RX5 G A p c cc s args m) (w : va_P G.1 vwCl (w5 G a z ++ w5 G b zo) H) (hdg : decode cc pc = .ok (.getfield 31, 3)) (kk : W p l e R s m args below meth c H locs cells slots Q (F0 m (pc + 3) ls (.ref (a 8) :: rest))) : W p l e R s m args below meth c H locs cells slots Q (F0 m pc ls (.ref (a 0) :: rest)) :=
  va_get (D := G.1) (ci := 4) (v := .ref (a 8)) (C := RX5) (T := TX5) (N := 13) X.1 X.2.1 X.2.2.1 gX5 X.2.2.2.1 X.2.2.2.2.1.1 w 0 rfl rfl 7 (by decide) (X.2.2.1 _ wf_X5_31) (fun _ h9 => h9) rfl hdg kk
end Lm_c5_takeHurts
theorem ok5_takeHurts : cOk RX5 yX5_takeHurts cX5_takeHurts 2 none 1 := ⟨wc_X5_takeHurts, wi_X5_takeHurts, ws_X5_takeHurts, wn_X5, rfl, by decide, by decide, by decide +kernel⟩
set_option maxHeartbeats 4000000 in
set_option maxRecDepth 100000 in
theorem c5_takeHurts (l : Launch) (G : CG) (a b : Nat → Nat) (zo : RS) (z : RS)   : cMv G l yX5_takeHurts cX5_takeHurts 2 none 1 100 [.ref (a 0), .ref (b 0)] (fun q9 : RS => w5 G a q9 ++ w5 G b zo) z (fun z9 => z9 = sC z 7 (va_cpy (zo.2.1 7) (z.2.1 7) 0 0 5)) := by
  refine cMv_in (by decide) rfl (Nat.le_of_ble_eq_true rfl) ?_
  intro p e s m args below meth c A ls X hml hr hk hl w
  have hx := X.1
  have hb := X.2.1
  have hts := X.2.2.1
  have hown := X.2.2.2.1
  have hl : lv_has ls 2 [(0, .ref (a 0)), (1, .ref (b 0))] := hl
  refine lv_aload_n hx hb dX5_takeHurts_0 rfl (lv_at hl 1 rfl) ?_
  refine ag_SO_X5_31_other X w.1 dX5_takeHurts_1 ?_
  refine lv_iconst (v := (nI 0)) hx hb dX5_takeHurts_4 (by decide) ?_
  refine lv_aload_n hx hb dX5_takeHurts_5 rfl (lv_at hl 0 rfl) ?_
  refine ag_SO_X5_31_this X w.1 dX5_takeHurts_6 ?_
  refine lv_iconst (v := (nI 0)) hx hb dX5_takeHurts_9 (by decide) ?_
  refine lv_iconst (v := (nI 5)) hx hb dX5_takeHurts_10 (by decide) ?_
  refine gcp_i (rest := []) X hml hl.1 wm_X5_52 ⟨Nat.le_of_ble_eq_true rfl, Nat.le_of_ble_eq_true rfl⟩ w 14 6 rfl rfl (by omega) (by omega) (by decide) (Nat.le_of_ble_eq_true rfl) dX5_takeHurts_11 (fun H locs w => ?_)
  obtain ⟨z_11, ez_11⟩ : ∃ q9 : RS, q9 = (sC z 7 (va_cpy (zo.2.1 7) (z.2.1 7) 0 0 5)) := ⟨_, rfl⟩
  have w : cW G A s (w5 G a z_11 ++ w5 G b zo) H locs := by rw [ez_11]; exact w
  exact ce_v (w := (fun q9 : RS => w5 G a q9 ++ w5 G b zo)) (z := z_11) X hr hk w (ez_11) dX5_takeHurts_14

section Lm_c5_takeFrom
variable {p : Program} {l : Launch} {e : Env} {R : Room} {s : State} {m : MethodId} {args : Array Value} {below : List Frame} {meth : Method} {c : Code} {H : Heap} {locs : List Loc} {cells slots : Nat} {Q : State → Prop}
variable {cc : ByteArray} {pc : Nat} {ls : Array Slot} {rest : List Value} {G : CG} {A : Nat → Prop}
theorem ag_SO_X5_9_other {a b : Nat → Nat} {zo : RS} {z : RS} (X : cX RX5 G A p c cc s args m) (w : va_P G.1 vwCl (w5 G a z ++ w5 G b zo) H) (hdg : decode cc pc = .ok (.getfield 9, 3)) (kk : W p l e R s m args below meth c H locs cells slots Q (F0 m (pc + 3) ls (.int (zo.1 0) :: rest))) : W p l e R s m args below meth c H locs cells slots Q (F0 m pc ls (.ref (b 0) :: rest)) :=
  va_get (D := G.1) (ci := 4) (v := .int (zo.1 0)) (C := RX5) (T := TX5) (N := 13) X.1 X.2.1 X.2.2.1 gX5 X.2.2.2.1 X.2.2.2.2.1.1 w 8 rfl rfl 0 (by decide) (X.2.2.1 _ wf_X5_9) (fun _ h9 => h9) rfl hdg kk
theorem ap_SO_X5_9_this {a b : Nat → Nat} {zo : RS} {z : RS} {v : Int32} (X : cX RX5 G A p c cc s args m) (w : cW G A s (w5 G a z ++ w5 G b zo) H locs) (hdg : decode cc pc = .ok (.putfield 9, 3)) (kk : ∀ (z1 : RS) (H : Heap) (locs : List Loc), z1 = (sI z 0 v) → cW G A s (w5 G a z1 ++ w5 G b zo) H locs → W p l e R s m args below meth c H locs cells slots Q (F0 m (pc + 3) ls rest)) : W p l e R s m args below meth c H locs cells slots Q (F0 m pc ls (.int v :: .ref (a 0) :: rest)) :=
  va_put (D := G.1) (ci := 4) (v := .int v) (ty := .int) (C := RX5) (T := TX5) (N := 13) X.1 X.2.1 X.2.2.1 gX5 tyX5 tyX5_ok nmX5 X.2.2.2.1 X.2.2.2.2.1.1 w.1 w.2.1 w.2.2 0 rfl rfl 0 (by decide) (X.2.2.1 _ wf_X5_9) (fun _ h9 => h9) rfl (by decide +kernel) rfl rfl (Nat.le_of_ble_eq_true rfl) hdg (fun H1 locs1 hP hD hS => kk _ H1 locs1 rfl ⟨hP, hD, hS⟩)
theorem ag_SO_X5_43_other {a b : Nat → Nat} {zo : RS} {z : RS} (X : cX RX5 G A p c cc s args m) (w : va_P G.1 vwCl (w5 G a z ++ w5 G b zo) H) (hdg : decode cc pc = .ok (.getfield 43, 3)) (kk : W p l e R s m args below meth c H locs cells slots Q (F0 m (pc + 3) ls (.int (zo.1 3) :: rest))) : W p l e R s m args below meth c H locs cells slots Q (F0 m pc ls (.ref (b 0) :: rest)) :=
  va_get (D := G.1) (ci := 4) (v := .int (zo.1 3)) (C := RX5) (T := TX5) (N := 13) X.1 X.2.1 X.2.2.1 gX5 X.2.2.2.1 X.2.2.2.2.1.1 w 8 rfl rfl 3 (by decide) (X.2.2.1 _ wf_X5_43) (fun _ h9 => h9) rfl hdg kk
theorem ap_SO_X5_43_this {a b : Nat → Nat} {zo : RS} {z : RS} {v : Int32} (X : cX RX5 G A p c cc s args m) (w : cW G A s (w5 G a z ++ w5 G b zo) H locs) (hdg : decode cc pc = .ok (.putfield 43, 3)) (kk : ∀ (z1 : RS) (H : Heap) (locs : List Loc), z1 = (sI z 3 v) → cW G A s (w5 G a z1 ++ w5 G b zo) H locs → W p l e R s m args below meth c H locs cells slots Q (F0 m (pc + 3) ls rest)) : W p l e R s m args below meth c H locs cells slots Q (F0 m pc ls (.int v :: .ref (a 0) :: rest)) :=
  va_put (D := G.1) (ci := 4) (v := .int v) (ty := .int) (C := RX5) (T := TX5) (N := 13) X.1 X.2.1 X.2.2.1 gX5 tyX5 tyX5_ok nmX5 X.2.2.2.1 X.2.2.2.2.1.1 w.1 w.2.1 w.2.2 0 rfl rfl 3 (by decide) (X.2.2.1 _ wf_X5_43) (fun _ h9 => h9) rfl (by decide +kernel) rfl rfl (Nat.le_of_ble_eq_true rfl) hdg (fun H1 locs1 hP hD hS => kk _ H1 locs1 rfl ⟨hP, hD, hS⟩)
theorem ag_SO_X5_46_other {a b : Nat → Nat} {zo : RS} {z : RS} (X : cX RX5 G A p c cc s args m) (w : va_P G.1 vwCl (w5 G a z ++ w5 G b zo) H) (hdg : decode cc pc = .ok (.getfield 46, 3)) (kk : W p l e R s m args below meth c H locs cells slots Q (F0 m (pc + 3) ls (.int (zo.1 8) :: rest))) : W p l e R s m args below meth c H locs cells slots Q (F0 m pc ls (.ref (b 0) :: rest)) :=
  va_get (D := G.1) (ci := 4) (v := .int (zo.1 8)) (C := RX5) (T := TX5) (N := 13) X.1 X.2.1 X.2.2.1 gX5 X.2.2.2.1 X.2.2.2.2.1.1 w 8 rfl rfl 8 (by decide) (X.2.2.1 _ wf_X5_46) (fun _ h9 => h9) rfl hdg kk
theorem ap_SO_X5_46_this {a b : Nat → Nat} {zo : RS} {z : RS} {v : Int32} (X : cX RX5 G A p c cc s args m) (w : cW G A s (w5 G a z ++ w5 G b zo) H locs) (hdg : decode cc pc = .ok (.putfield 46, 3)) (kk : ∀ (z1 : RS) (H : Heap) (locs : List Loc), z1 = (sI z 8 v) → cW G A s (w5 G a z1 ++ w5 G b zo) H locs → W p l e R s m args below meth c H locs cells slots Q (F0 m (pc + 3) ls rest)) : W p l e R s m args below meth c H locs cells slots Q (F0 m pc ls (.int v :: .ref (a 0) :: rest)) :=
  va_put (D := G.1) (ci := 4) (v := .int v) (ty := .int) (C := RX5) (T := TX5) (N := 13) X.1 X.2.1 X.2.2.1 gX5 tyX5 tyX5_ok nmX5 X.2.2.2.1 X.2.2.2.2.1.1 w.1 w.2.1 w.2.2 0 rfl rfl 8 (by decide) (X.2.2.1 _ wf_X5_46) (fun _ h9 => h9) rfl (by decide +kernel) rfl rfl (Nat.le_of_ble_eq_true rfl) hdg (fun H1 locs1 hP hD hS => kk _ H1 locs1 rfl ⟨hP, hD, hS⟩)
theorem ag_SO_X5_49_other {a b : Nat → Nat} {zo : RS} {z : RS} (X : cX RX5 G A p c cc s args m) (w : va_P G.1 vwCl (w5 G a z ++ w5 G b zo) H) (hdg : decode cc pc = .ok (.getfield 49, 3)) (kk : W p l e R s m args below meth c H locs cells slots Q (F0 m (pc + 3) ls (.int (zo.1 9) :: rest))) : W p l e R s m args below meth c H locs cells slots Q (F0 m pc ls (.ref (b 0) :: rest)) :=
  va_get (D := G.1) (ci := 4) (v := .int (zo.1 9)) (C := RX5) (T := TX5) (N := 13) X.1 X.2.1 X.2.2.1 gX5 X.2.2.2.1 X.2.2.2.2.1.1 w 8 rfl rfl 9 (by decide) (X.2.2.1 _ wf_X5_49) (fun _ h9 => h9) rfl hdg kk
theorem ap_SO_X5_49_this {a b : Nat → Nat} {zo : RS} {z : RS} {v : Int32} (X : cX RX5 G A p c cc s args m) (w : cW G A s (w5 G a z ++ w5 G b zo) H locs) (hdg : decode cc pc = .ok (.putfield 49, 3)) (kk : ∀ (z1 : RS) (H : Heap) (locs : List Loc), z1 = (sI z 9 v) → cW G A s (w5 G a z1 ++ w5 G b zo) H locs → W p l e R s m args below meth c H locs cells slots Q (F0 m (pc + 3) ls rest)) : W p l e R s m args below meth c H locs cells slots Q (F0 m pc ls (.int v :: .ref (a 0) :: rest)) :=
  va_put (D := G.1) (ci := 4) (v := .int v) (ty := .int) (C := RX5) (T := TX5) (N := 13) X.1 X.2.1 X.2.2.1 gX5 tyX5 tyX5_ok nmX5 X.2.2.2.1 X.2.2.2.2.1.1 w.1 w.2.1 w.2.2 0 rfl rfl 9 (by decide) (X.2.2.1 _ wf_X5_49) (fun _ h9 => h9) rfl (by decide +kernel) rfl rfl (Nat.le_of_ble_eq_true rfl) hdg (fun H1 locs1 hP hD hS => kk _ H1 locs1 rfl ⟨hP, hD, hS⟩)
theorem ag_SO_X5_34_other {a b : Nat → Nat} {zo : RS} {z : RS} (X : cX RX5 G A p c cc s args m) (w : va_P G.1 vwCl (w5 G a z ++ w5 G b zo) H) (hdg : decode cc pc = .ok (.getfield 34, 3)) (kk : W p l e R s m args below meth c H locs cells slots Q (F0 m (pc + 3) ls (.int (zo.1 10) :: rest))) : W p l e R s m args below meth c H locs cells slots Q (F0 m pc ls (.ref (b 0) :: rest)) :=
  va_get (D := G.1) (ci := 4) (v := .int (zo.1 10)) (C := RX5) (T := TX5) (N := 13) X.1 X.2.1 X.2.2.1 gX5 X.2.2.2.1 X.2.2.2.2.1.1 w 8 rfl rfl 10 (by decide) (X.2.2.1 _ wf_X5_34) (fun _ h9 => h9) rfl hdg kk
theorem ap_SO_X5_34_this {a b : Nat → Nat} {zo : RS} {z : RS} {v : Int32} (X : cX RX5 G A p c cc s args m) (w : cW G A s (w5 G a z ++ w5 G b zo) H locs) (hdg : decode cc pc = .ok (.putfield 34, 3)) (kk : ∀ (z1 : RS) (H : Heap) (locs : List Loc), z1 = (sI z 10 v) → cW G A s (w5 G a z1 ++ w5 G b zo) H locs → W p l e R s m args below meth c H locs cells slots Q (F0 m (pc + 3) ls rest)) : W p l e R s m args below meth c H locs cells slots Q (F0 m pc ls (.int v :: .ref (a 0) :: rest)) :=
  va_put (D := G.1) (ci := 4) (v := .int v) (ty := .int) (C := RX5) (T := TX5) (N := 13) X.1 X.2.1 X.2.2.1 gX5 tyX5 tyX5_ok nmX5 X.2.2.2.1 X.2.2.2.2.1.1 w.1 w.2.1 w.2.2 0 rfl rfl 10 (by decide) (X.2.2.1 _ wf_X5_34) (fun _ h9 => h9) rfl (by decide +kernel) rfl rfl (Nat.le_of_ble_eq_true rfl) hdg (fun H1 locs1 hP hD hS => kk _ H1 locs1 rfl ⟨hP, hD, hS⟩)
theorem ag_SO_X5_40_other {a b : Nat → Nat} {zo : RS} {z : RS} (X : cX RX5 G A p c cc s args m) (w : va_P G.1 vwCl (w5 G a z ++ w5 G b zo) H) (hdg : decode cc pc = .ok (.getfield 40, 3)) (kk : W p l e R s m args below meth c H locs cells slots Q (F0 m (pc + 3) ls (.int (zo.1 12) :: rest))) : W p l e R s m args below meth c H locs cells slots Q (F0 m pc ls (.ref (b 0) :: rest)) :=
  va_get (D := G.1) (ci := 4) (v := .int (zo.1 12)) (C := RX5) (T := TX5) (N := 13) X.1 X.2.1 X.2.2.1 gX5 X.2.2.2.1 X.2.2.2.2.1.1 w 8 rfl rfl 12 (by decide) (X.2.2.1 _ wf_X5_40) (fun _ h9 => h9) rfl hdg kk
theorem ap_SO_X5_40_this {a b : Nat → Nat} {zo : RS} {z : RS} {v : Int32} (X : cX RX5 G A p c cc s args m) (w : cW G A s (w5 G a z ++ w5 G b zo) H locs) (hdg : decode cc pc = .ok (.putfield 40, 3)) (kk : ∀ (z1 : RS) (H : Heap) (locs : List Loc), z1 = (sI z 12 v) → cW G A s (w5 G a z1 ++ w5 G b zo) H locs → W p l e R s m args below meth c H locs cells slots Q (F0 m (pc + 3) ls rest)) : W p l e R s m args below meth c H locs cells slots Q (F0 m pc ls (.int v :: .ref (a 0) :: rest)) :=
  va_put (D := G.1) (ci := 4) (v := .int v) (ty := .int) (C := RX5) (T := TX5) (N := 13) X.1 X.2.1 X.2.2.1 gX5 tyX5 tyX5_ok nmX5 X.2.2.2.1 X.2.2.2.2.1.1 w.1 w.2.1 w.2.2 0 rfl rfl 12 (by decide) (X.2.2.1 _ wf_X5_40) (fun _ h9 => h9) rfl (by decide +kernel) rfl rfl (Nat.le_of_ble_eq_true rfl) hdg (fun H1 locs1 hP hD hS => kk _ H1 locs1 rfl ⟨hP, hD, hS⟩)
theorem ag_SO_X5_15_other {a b : Nat → Nat} {zo : RS} {z : RS} (X : cX RX5 G A p c cc s args m) (w : va_P G.1 vwCl (w5 G a z ++ w5 G b zo) H) (hdg : decode cc pc = .ok (.getfield 15, 3)) (kk : W p l e R s m args below meth c H locs cells slots Q (F0 m (pc + 3) ls (.ref (b 2) :: rest))) : W p l e R s m args below meth c H locs cells slots Q (F0 m pc ls (.ref (b 0) :: rest)) :=
  va_get (D := G.1) (ci := 4) (v := .ref (b 2)) (C := RX5) (T := TX5) (N := 13) X.1 X.2.1 X.2.2.1 gX5 X.2.2.2.1 X.2.2.2.2.1.1 w 8 rfl rfl 1 (by decide) (X.2.2.1 _ wf_X5_15) (fun _ h9 => h9) rfl hdg kk
theorem ag_SO_X5_15_this {a b : Nat → Nat} {zo : RS} {z : RS} (X : cX RX5 G A p c cc s args m) (w : va_P G.1 vwCl (w5 G a z ++ w5 G b zo) H) (hdg : decode cc pc = .ok (.getfield 15, 3)) (kk : W p l e R s m args below meth c H locs cells slots Q (F0 m (pc + 3) ls (.ref (a 2) :: rest))) : W p l e R s m args below meth c H locs cells slots Q (F0 m pc ls (.ref (a 0) :: rest)) :=
  va_get (D := G.1) (ci := 4) (v := .ref (a 2)) (C := RX5) (T := TX5) (N := 13) X.1 X.2.1 X.2.2.1 gX5 X.2.2.2.1 X.2.2.2.2.1.1 w 0 rfl rfl 1 (by decide) (X.2.2.1 _ wf_X5_15) (fun _ h9 => h9) rfl hdg kk
theorem ag_SO_X5_19_other {a b : Nat → Nat} {zo : RS} {z : RS} (X : cX RX5 G A p c cc s args m) (w : va_P G.1 vwCl (w5 G a z ++ w5 G b zo) H) (hdg : decode cc pc = .ok (.getfield 19, 3)) (kk : W p l e R s m args below meth c H locs cells slots Q (F0 m (pc + 3) ls (.ref (b 3) :: rest))) : W p l e R s m args below meth c H locs cells slots Q (F0 m pc ls (.ref (b 0) :: rest)) :=
  va_get (D := G.1) (ci := 4) (v := .ref (b 3)) (C := RX5) (T := TX5) (N := 13) X.1 X.2.1 X.2.2.1 gX5 X.2.2.2.1 X.2.2.2.2.1.1 w 8 rfl rfl 2 (by decide) (X.2.2.1 _ wf_X5_19) (fun _ h9 => h9) rfl hdg kk
theorem ag_SO_X5_19_this {a b : Nat → Nat} {zo : RS} {z : RS} (X : cX RX5 G A p c cc s args m) (w : va_P G.1 vwCl (w5 G a z ++ w5 G b zo) H) (hdg : decode cc pc = .ok (.getfield 19, 3)) (kk : W p l e R s m args below meth c H locs cells slots Q (F0 m (pc + 3) ls (.ref (a 3) :: rest))) : W p l e R s m args below meth c H locs cells slots Q (F0 m pc ls (.ref (a 0) :: rest)) :=
  va_get (D := G.1) (ci := 4) (v := .ref (a 3)) (C := RX5) (T := TX5) (N := 13) X.1 X.2.1 X.2.2.1 gX5 X.2.2.2.1 X.2.2.2.2.1.1 w 0 rfl rfl 2 (by decide) (X.2.2.1 _ wf_X5_19) (fun _ h9 => h9) rfl hdg kk
theorem ag_SO_X5_22_other {a b : Nat → Nat} {zo : RS} {z : RS} (X : cX RX5 G A p c cc s args m) (w : va_P G.1 vwCl (w5 G a z ++ w5 G b zo) H) (hdg : decode cc pc = .ok (.getfield 22, 3)) (kk : W p l e R s m args below meth c H locs cells slots Q (F0 m (pc + 3) ls (.ref (b 5) :: rest))) : W p l e R s m args below meth c H locs cells slots Q (F0 m pc ls (.ref (b 0) :: rest)) :=
  va_get (D := G.1) (ci := 4) (v := .ref (b 5)) (C := RX5) (T := TX5) (N := 13) X.1 X.2.1 X.2.2.1 gX5 X.2.2.2.1 X.2.2.2.2.1.1 w 8 rfl rfl 4 (by decide) (X.2.2.1 _ wf_X5_22) (fun _ h9 => h9) rfl hdg kk
theorem ag_SO_X5_22_this {a b : Nat → Nat} {zo : RS} {z : RS} (X : cX RX5 G A p c cc s args m) (w : va_P G.1 vwCl (w5 G a z ++ w5 G b zo) H) (hdg : decode cc pc = .ok (.getfield 22, 3)) (kk : W p l e R s m args below meth c H locs cells slots Q (F0 m (pc + 3) ls (.ref (a 5) :: rest))) : W p l e R s m args below meth c H locs cells slots Q (F0 m pc ls (.ref (a 0) :: rest)) :=
  va_get (D := G.1) (ci := 4) (v := .ref (a 5)) (C := RX5) (T := TX5) (N := 13) X.1 X.2.1 X.2.2.1 gX5 X.2.2.2.1 X.2.2.2.2.1.1 w 0 rfl rfl 4 (by decide) (X.2.2.1 _ wf_X5_22) (fun _ h9 => h9) rfl hdg kk
theorem ag_SO_X5_25_other {a b : Nat → Nat} {zo : RS} {z : RS} (X : cX RX5 G A p c cc s args m) (w : va_P G.1 vwCl (w5 G a z ++ w5 G b zo) H) (hdg : decode cc pc = .ok (.getfield 25, 3)) (kk : W p l e R s m args below meth c H locs cells slots Q (F0 m (pc + 3) ls (.ref (b 6) :: rest))) : W p l e R s m args below meth c H locs cells slots Q (F0 m pc ls (.ref (b 0) :: rest)) :=
  va_get (D := G.1) (ci := 4) (v := .ref (b 6)) (C := RX5) (T := TX5) (N := 13) X.1 X.2.1 X.2.2.1 gX5 X.2.2.2.1 X.2.2.2.2.1.1 w 8 rfl rfl 5 (by decide) (X.2.2.1 _ wf_X5_25) (fun _ h9 => h9) rfl hdg kk
theorem ag_SO_X5_25_this {a b : Nat → Nat} {zo : RS} {z : RS} (X : cX RX5 G A p c cc s args m) (w : va_P G.1 vwCl (w5 G a z ++ w5 G b zo) H) (hdg : decode cc pc = .ok (.getfield 25, 3)) (kk : W p l e R s m args below meth c H locs cells slots Q (F0 m (pc + 3) ls (.ref (a 6) :: rest))) : W p l e R s m args below meth c H locs cells slots Q (F0 m pc ls (.ref (a 0) :: rest)) :=
  va_get (D := G.1) (ci := 4) (v := .ref (a 6)) (C := RX5) (T := TX5) (N := 13) X.1 X.2.1 X.2.2.1 gX5 X.2.2.2.1 X.2.2.2.2.1.1 w 0 rfl rfl 5 (by decide) (X.2.2.1 _ wf_X5_25) (fun _ h9 => h9) rfl hdg kk
theorem ag_SO_X5_28_other {a b : Nat → Nat} {zo : RS} {z : RS} (X : cX RX5 G A p c cc s args m) (w : va_P G.1 vwCl (w5 G a z ++ w5 G b zo) H) (hdg : decode cc pc = .ok (.getfield 28, 3)) (kk : W p l e R s m args below meth c H locs cells slots Q (F0 m (pc + 3) ls (.ref (b 7) :: rest))) : W p l e R s m args below meth c H locs cells slots Q (F0 m pc ls (.ref (b 0) :: rest)) :=
  va_get (D := G.1) (ci := 4) (v := .ref (b 7)) (C := RX5) (T := TX5) (N := 13) X.1 X.2.1 X.2.2.1 gX5 X.2.2.2.1 X.2.2.2.2.1.1 w 8 rfl rfl 6 (by decide) (X.2.2.1 _ wf_X5_28) (fun _ h9 => h9) rfl hdg kk
theorem ag_SO_X5_28_this {a b : Nat → Nat} {zo : RS} {z : RS} (X : cX RX5 G A p c cc s args m) (w : va_P G.1 vwCl (w5 G a z ++ w5 G b zo) H) (hdg : decode cc pc = .ok (.getfield 28, 3)) (kk : W p l e R s m args below meth c H locs cells slots Q (F0 m (pc + 3) ls (.ref (a 7) :: rest))) : W p l e R s m args below meth c H locs cells slots Q (F0 m pc ls (.ref (a 0) :: rest)) :=
  va_get (D := G.1) (ci := 4) (v := .ref (a 7)) (C := RX5) (T := TX5) (N := 13) X.1 X.2.1 X.2.2.1 gX5 X.2.2.2.1 X.2.2.2.2.1.1 w 0 rfl rfl 6 (by decide) (X.2.2.1 _ wf_X5_28) (fun _ h9 => h9) rfl hdg kk
theorem ag_SO_X5_37_other {a b : Nat → Nat} {zo : RS} {z : RS} (X : cX RX5 G A p c cc s args m) (w : va_P G.1 vwCl (w5 G a z ++ w5 G b zo) H) (hdg : decode cc pc = .ok (.getfield 37, 3)) (kk : W p l e R s m args below meth c H locs cells slots Q (F0 m (pc + 3) ls (.ref (b 12) :: rest))) : W p l e R s m args below meth c H locs cells slots Q (F0 m pc ls (.ref (b 0) :: rest)) :=
  va_get (D := G.1) (ci := 4) (v := .ref (b 12)) (C := RX5) (T := TX5) (N := 13) X.1 X.2.1 X.2.2.1 gX5 X.2.2.2.1 X.2.2.2.2.1.1 w 8 rfl rfl 11 (by decide) (X.2.2.1 _ wf_X5_37) (fun _ h9 => h9) rfl hdg kk
theorem ag_SO_X5_37_this {a b : Nat → Nat} {zo : RS} {z : RS} (X : cX RX5 G A p c cc s args m) (w : va_P G.1 vwCl (w5 G a z ++ w5 G b zo) H) (hdg : decode cc pc = .ok (.getfield 37, 3)) (kk : W p l e R s m args below meth c H locs cells slots Q (F0 m (pc + 3) ls (.ref (a 12) :: rest))) : W p l e R s m args below meth c H locs cells slots Q (F0 m pc ls (.ref (a 0) :: rest)) :=
  va_get (D := G.1) (ci := 4) (v := .ref (a 12)) (C := RX5) (T := TX5) (N := 13) X.1 X.2.1 X.2.2.1 gX5 X.2.2.2.1 X.2.2.2.2.1.1 w 0 rfl rfl 11 (by decide) (X.2.2.1 _ wf_X5_37) (fun _ h9 => h9) rfl hdg kk
end Lm_c5_takeFrom
theorem ok5_takeFrom : cOk RX5 yX5_takeFrom cX5_takeFrom 2 none 1 := ⟨wc_X5_takeFrom, wi_X5_takeFrom, ws_X5_takeFrom, wn_X5, rfl, by decide, by decide, by decide +kernel⟩
set_option maxHeartbeats 4000000 in
set_option maxRecDepth 100000 in
theorem c5_takeFrom (l : Launch) (G : CG) (a b : Nat → Nat) (zo : RS) (z : RS)   : cMv G l yX5_takeFrom cX5_takeFrom 2 none 2 121 [.ref (a 0), .ref (b 0)] (fun q9 : RS => w5 G a q9 ++ w5 G b zo) z (fun z9 => cEq z9 zo) := by
  refine cMv_in (by decide) rfl (Nat.le_of_ble_eq_true rfl) ?_
  intro p e s m args below meth c A ls X hml hr hk hl w
  have hx := X.1
  have hb := X.2.1
  have hts := X.2.2.1
  have hown := X.2.2.2.1
  have hl : lv_has ls 2 [(0, .ref (a 0)), (1, .ref (b 0))] := hl
  refine lv_aload_n hx hb dX5_takeFrom_0 rfl (lv_at hl 0 rfl) ?_
  refine lv_aload_n hx hb dX5_takeFrom_1 rfl (lv_at hl 1 rfl) ?_
  refine ag_SO_X5_9_other X w.1 dX5_takeFrom_2 ?_
  refine ap_SO_X5_9_this X w dX5_takeFrom_5 (fun z_5 H locs ez_5 w => ?_)
  refine lv_aload_n hx hb dX5_takeFrom_8 rfl (lv_at hl 0 rfl) ?_
  refine lv_aload_n hx hb dX5_takeFrom_9 rfl (lv_at hl 1 rfl) ?_
  refine ag_SO_X5_43_other X w.1 dX5_takeFrom_10 ?_
  refine ap_SO_X5_43_this X w dX5_takeFrom_13 (fun z_13 H locs ez_13 w => ?_)
  refine lv_aload_n hx hb dX5_takeFrom_16 rfl (lv_at hl 0 rfl) ?_
  refine lv_aload_n hx hb dX5_takeFrom_17 rfl (lv_at hl 1 rfl) ?_
  refine ag_SO_X5_46_other X w.1 dX5_takeFrom_18 ?_
  refine ap_SO_X5_46_this X w dX5_takeFrom_21 (fun z_21 H locs ez_21 w => ?_)
  refine lv_aload_n hx hb dX5_takeFrom_24 rfl (lv_at hl 0 rfl) ?_
  refine lv_aload_n hx hb dX5_takeFrom_25 rfl (lv_at hl 1 rfl) ?_
  refine ag_SO_X5_49_other X w.1 dX5_takeFrom_26 ?_
  refine ap_SO_X5_49_this X w dX5_takeFrom_29 (fun z_29 H locs ez_29 w => ?_)
  refine lv_aload_n hx hb dX5_takeFrom_32 rfl (lv_at hl 0 rfl) ?_
  refine lv_aload_n hx hb dX5_takeFrom_33 rfl (lv_at hl 1 rfl) ?_
  refine ag_SO_X5_34_other X w.1 dX5_takeFrom_34 ?_
  refine ap_SO_X5_34_this X w dX5_takeFrom_37 (fun z_37 H locs ez_37 w => ?_)
  refine lv_aload_n hx hb dX5_takeFrom_40 rfl (lv_at hl 0 rfl) ?_
  refine lv_aload_n hx hb dX5_takeFrom_41 rfl (lv_at hl 1 rfl) ?_
  refine ag_SO_X5_40_other X w.1 dX5_takeFrom_42 ?_
  refine ap_SO_X5_40_this X w dX5_takeFrom_45 (fun z_45 H locs ez_45 w => ?_)
  refine lv_aload_n hx hb dX5_takeFrom_48 rfl (lv_at hl 1 rfl) ?_
  refine ag_SO_X5_15_other X w.1 dX5_takeFrom_49 ?_
  refine lv_iconst (v := (nI 0)) hx hb dX5_takeFrom_52 (by decide) ?_
  refine lv_aload_n hx hb dX5_takeFrom_53 rfl (lv_at hl 0 rfl) ?_
  refine ag_SO_X5_15_this X w.1 dX5_takeFrom_54 ?_
  refine lv_iconst (v := (nI 0)) hx hb dX5_takeFrom_57 (by decide) ?_
  refine lv_bipush (v := (nI 40)) hx hb dX5_takeFrom_58 (by decide) ?_
  refine gcp_i (rest := []) X hml hl.1 wm_X5_52 ⟨Nat.le_of_ble_eq_true rfl, Nat.le_of_ble_eq_true rfl⟩ w 9 1 rfl rfl (by omega) (by omega) (by decide) (Nat.le_of_ble_eq_true rfl) dX5_takeFrom_60 (fun H locs w => ?_)
  obtain ⟨z_60, ez_60⟩ : ∃ q9 : RS, q9 = (sC z_45 1 (va_cpy (zo.2.1 1) (z_45.2.1 1) 0 0 40)) := ⟨_, rfl⟩
  have w : cW G A s (w5 G a z_60 ++ w5 G b zo) H locs := by rw [ez_60]; exact w
  refine lv_aload_n hx hb dX5_takeFrom_63 rfl (lv_at hl 1 rfl) ?_
  refine ag_SO_X5_19_other X w.1 dX5_takeFrom_64 ?_
  refine lv_iconst (v := (nI 0)) hx hb dX5_takeFrom_67 (by decide) ?_
  refine lv_aload_n hx hb dX5_takeFrom_68 rfl (lv_at hl 0 rfl) ?_
  refine ag_SO_X5_19_this X w.1 dX5_takeFrom_69 ?_
  refine lv_iconst (v := (nI 0)) hx hb dX5_takeFrom_72 (by decide) ?_
  refine lv_bipush (v := (nI 40)) hx hb dX5_takeFrom_73 (by decide) ?_
  refine gcp_i (rest := []) X hml hl.1 wm_X5_52 ⟨Nat.le_of_ble_eq_true rfl, Nat.le_of_ble_eq_true rfl⟩ w 10 2 rfl rfl (by omega) (by omega) (by decide) (Nat.le_of_ble_eq_true rfl) dX5_takeFrom_75 (fun H locs w => ?_)
  obtain ⟨z_75, ez_75⟩ : ∃ q9 : RS, q9 = (sC z_60 2 (va_cpy (zo.2.1 2) (z_60.2.1 2) 0 0 40)) := ⟨_, rfl⟩
  have w : cW G A s (w5 G a z_75 ++ w5 G b zo) H locs := by rw [ez_75]; exact w
  refine lv_aload_n hx hb dX5_takeFrom_78 rfl (lv_at hl 1 rfl) ?_
  refine ag_SO_X5_22_other X w.1 dX5_takeFrom_79 ?_
  refine lv_iconst (v := (nI 0)) hx hb dX5_takeFrom_82 (by decide) ?_
  refine lv_aload_n hx hb dX5_takeFrom_83 rfl (lv_at hl 0 rfl) ?_
  refine ag_SO_X5_22_this X w.1 dX5_takeFrom_84 ?_
  refine lv_iconst (v := (nI 0)) hx hb dX5_takeFrom_87 (by decide) ?_
  refine lv_iconst (v := (nI 5)) hx hb dX5_takeFrom_88 (by decide) ?_
  refine gcp_i (rest := []) X hml hl.1 wm_X5_52 ⟨Nat.le_of_ble_eq_true rfl, Nat.le_of_ble_eq_true rfl⟩ w 11 3 rfl rfl (by omega) (by omega) (by decide) (Nat.le_of_ble_eq_true rfl) dX5_takeFrom_89 (fun H locs w => ?_)
  obtain ⟨z_89, ez_89⟩ : ∃ q9 : RS, q9 = (sC z_75 4 (va_cpy (zo.2.1 4) (z_75.2.1 4) 0 0 5)) := ⟨_, rfl⟩
  have w : cW G A s (w5 G a z_89 ++ w5 G b zo) H locs := by rw [ez_89]; exact w
  refine lv_aload_n hx hb dX5_takeFrom_92 rfl (lv_at hl 1 rfl) ?_
  refine ag_SO_X5_25_other X w.1 dX5_takeFrom_93 ?_
  refine lv_iconst (v := (nI 0)) hx hb dX5_takeFrom_96 (by decide) ?_
  refine lv_aload_n hx hb dX5_takeFrom_97 rfl (lv_at hl 0 rfl) ?_
  refine ag_SO_X5_25_this X w.1 dX5_takeFrom_98 ?_
  refine lv_iconst (v := (nI 0)) hx hb dX5_takeFrom_101 (by decide) ?_
  refine lv_iconst (v := (nI 5)) hx hb dX5_takeFrom_102 (by decide) ?_
  refine gcp_i (rest := []) X hml hl.1 wm_X5_52 ⟨Nat.le_of_ble_eq_true rfl, Nat.le_of_ble_eq_true rfl⟩ w 12 4 rfl rfl (by omega) (by omega) (by decide) (Nat.le_of_ble_eq_true rfl) dX5_takeFrom_103 (fun H locs w => ?_)
  obtain ⟨z_103, ez_103⟩ : ∃ q9 : RS, q9 = (sC z_89 5 (va_cpy (zo.2.1 5) (z_89.2.1 5) 0 0 5)) := ⟨_, rfl⟩
  have w : cW G A s (w5 G a z_103 ++ w5 G b zo) H locs := by rw [ez_103]; exact w
  refine lv_aload_n hx hb dX5_takeFrom_106 rfl (lv_at hl 1 rfl) ?_
  refine ag_SO_X5_28_other X w.1 dX5_takeFrom_107 ?_
  refine lv_iconst (v := (nI 0)) hx hb dX5_takeFrom_110 (by decide) ?_
  refine lv_aload_n hx hb dX5_takeFrom_111 rfl (lv_at hl 0 rfl) ?_
  refine ag_SO_X5_28_this X w.1 dX5_takeFrom_112 ?_
  refine lv_iconst (v := (nI 0)) hx hb dX5_takeFrom_115 (by decide) ?_
  refine lv_iconst (v := (nI 5)) hx hb dX5_takeFrom_116 (by decide) ?_
  refine gcp_i (rest := []) X hml hl.1 wm_X5_52 ⟨Nat.le_of_ble_eq_true rfl, Nat.le_of_ble_eq_true rfl⟩ w 13 5 rfl rfl (by omega) (by omega) (by decide) (Nat.le_of_ble_eq_true rfl) dX5_takeFrom_117 (fun H locs w => ?_)
  obtain ⟨z_117, ez_117⟩ : ∃ q9 : RS, q9 = (sC z_103 6 (va_cpy (zo.2.1 6) (z_103.2.1 6) 0 0 5)) := ⟨_, rfl⟩
  have w : cW G A s (w5 G a z_117 ++ w5 G b zo) H locs := by rw [ez_117]; exact w
  refine lv_aload_n hx hb dX5_takeFrom_120 rfl (lv_at hl 1 rfl) ?_
  refine ag_SO_X5_37_other X w.1 dX5_takeFrom_121 ?_
  refine lv_iconst (v := (nI 0)) hx hb dX5_takeFrom_124 (by decide) ?_
  refine lv_aload_n hx hb dX5_takeFrom_125 rfl (lv_at hl 0 rfl) ?_
  refine ag_SO_X5_37_this X w.1 dX5_takeFrom_126 ?_
  refine lv_iconst (v := (nI 0)) hx hb dX5_takeFrom_129 (by decide) ?_
  refine lv_iconst (v := (nI 5)) hx hb dX5_takeFrom_130 (by decide) ?_
  refine gcp_i (rest := []) X hml hl.1 wm_X5_52 ⟨Nat.le_of_ble_eq_true rfl, Nat.le_of_ble_eq_true rfl⟩ w 15 7 rfl rfl (by omega) (by omega) (by decide) (Nat.le_of_ble_eq_true rfl) dX5_takeFrom_131 (fun H locs w => ?_)
  obtain ⟨z_131, ez_131⟩ : ∃ q9 : RS, q9 = (sC z_117 11 (va_cpy (zo.2.1 11) (z_117.2.1 11) 0 0 5)) := ⟨_, rfl⟩
  have w : cW G A s (w5 G a z_131 ++ w5 G b zo) H locs := by rw [ez_131]; exact w
  refine lv_aload_n hx hb dX5_takeFrom_134 rfl (lv_at hl 0 rfl) ?_
  refine lv_aload_n hx hb dX5_takeFrom_135 rfl (lv_at hl 1 rfl) ?_
  refine gc_v (C := RX5) (ci := 4) (rest := []) (w := (fun q9 : RS => w5 G a q9 ++ w5 G b zo)) (wr := []) (wn := (fun q9 : RS => w5 G a q9 ++ w5 G b zo)) X hml hl.1 (c5_takeHurts l G a b zo z_131) ok5_takeHurts wm_X5_58 ⟨Nat.le_of_ble_eq_true rfl, Nat.le_of_ble_eq_true rfl⟩ ⟨Nat.le_refl _, Nat.le_refl _⟩ w [0, 1, 2, 3, 4, 5, 6, 7, 8, 9, 10, 11, 12, 13, 14, 15] [] [0, 1, 2, 3, 4, 5, 6, 7, 8, 9, 10, 11, 12, 13, 14, 15] rfl (by decide) rfl (by decide) (by decide) (fun _ => rfl) (by decide) rfl rfl rfl (Nat.le_of_ble_eq_true rfl) dX5_takeFrom_136 (fun z_136 H locs hr_136 w => ?_)
  exact ce_v (w := (fun q9 : RS => w5 G a q9 ++ w5 G b zo)) (z := z_136) X hr hk w (by rw [hr_136, ez_131, ez_117, ez_103, ez_89, ez_75, ez_60, ez_45, ez_37, ez_29, ez_21, ez_13, ez_5]; exact ⟨rfl, rfl, rfl, rfl, rfl, rfl, fun _ hq => cpy_in0 hq, fun _ hq => cpy_in0 hq, fun _ hq => cpy_in0 hq, fun _ hq => cpy_in0 hq, fun _ hq => cpy_in0 hq, fun _ hq => cpy_in0 hq, fun _ hq => cpy_in0 hq⟩) dX5_takeFrom_139

section Lm_c5_clear
variable {p : Program} {l : Launch} {e : Env} {R : Room} {s : State} {m : MethodId} {args : Array Value} {below : List Frame} {meth : Method} {c : Code} {H : Heap} {locs : List Loc} {cells slots : Nat} {Q : State → Prop}
variable {cc : ByteArray} {pc : Nat} {ls : Array Slot} {rest : List Value} {G : CG} {A : Nat → Prop}
theorem ap_S_X5_9_this {a : Nat → Nat} {z : RS} {v : Int32} (X : cX RX5 G A p c cc s args m) (w : cW G A s (w5 G a z) H locs) (hdg : decode cc pc = .ok (.putfield 9, 3)) (kk : ∀ (z1 : RS) (H : Heap) (locs : List Loc), z1 = (sI z 0 v) → cW G A s (w5 G a z1) H locs → W p l e R s m args below meth c H locs cells slots Q (F0 m (pc + 3) ls rest)) : W p l e R s m args below meth c H locs cells slots Q (F0 m pc ls (.int v :: .ref (a 0) :: rest)) :=
  va_put (D := G.1) (ci := 4) (v := .int v) (ty := .int) (C := RX5) (T := TX5) (N := 13) X.1 X.2.1 X.2.2.1 gX5 tyX5 tyX5_ok nmX5 X.2.2.2.1 X.2.2.2.2.1.1 w.1 w.2.1 w.2.2 0 rfl rfl 0 (by decide) (X.2.2.1 _ wf_X5_9) (fun _ h9 => h9) rfl (by decide +kernel) rfl rfl (Nat.le_of_ble_eq_true rfl) hdg (fun H1 locs1 hP hD hS => kk _ H1 locs1 rfl ⟨hP, hD, hS⟩)
theorem ap_S_X5_43_this {a : Nat → Nat} {z : RS} {v : Int32} (X : cX RX5 G A p c cc s args m) (w : cW G A s (w5 G a z) H locs) (hdg : decode cc pc = .ok (.putfield 43, 3)) (kk : ∀ (z1 : RS) (H : Heap) (locs : List Loc), z1 = (sI z 3 v) → cW G A s (w5 G a z1) H locs → W p l e R s m args below meth c H locs cells slots Q (F0 m (pc + 3) ls rest)) : W p l e R s m args below meth c H locs cells slots Q (F0 m pc ls (.int v :: .ref (a 0) :: rest)) :=
  va_put (D := G.1) (ci := 4) (v := .int v) (ty := .int) (C := RX5) (T := TX5) (N := 13) X.1 X.2.1 X.2.2.1 gX5 tyX5 tyX5_ok nmX5 X.2.2.2.1 X.2.2.2.2.1.1 w.1 w.2.1 w.2.2 0 rfl rfl 3 (by decide) (X.2.2.1 _ wf_X5_43) (fun _ h9 => h9) rfl (by decide +kernel) rfl rfl (Nat.le_of_ble_eq_true rfl) hdg (fun H1 locs1 hP hD hS => kk _ H1 locs1 rfl ⟨hP, hD, hS⟩)
end Lm_c5_clear
theorem ok5_clear : cOk RX5 yX5_clear cX5_clear 1 none 0 := ⟨wc_X5_clear, wi_X5_clear, ws_X5_clear, wn_X5, rfl, by decide, by decide, by decide +kernel⟩
set_option maxHeartbeats 4000000 in
set_option maxRecDepth 100000 in
theorem c5_clear (l : Launch) (G : CG) (a : Nat → Nat) (z : RS)   : cMv G l yX5_clear cX5_clear 1 none 0 0 [.ref (a 0)] (fun q9 : RS => w5 G a q9) z (fun z9 => z9 = sI (sI (sI (sI z 0 (nI 0)) 3 (nI 0)) 9 (nI 0)) 10 (iZ (-4))) := by
  refine cMv_in (by decide) rfl (Nat.le_of_ble_eq_true rfl) ?_
  intro p e s m args below meth c A ls X hml hr hk hl w
  have hx := X.1
  have hb := X.2.1
  have hts := X.2.2.1
  have hown := X.2.2.2.1
  have hl : lv_has ls 1 [(0, .ref (a 0))] := hl
  refine lv_aload_n hx hb dX5_clear_0 rfl (lv_at hl 0 rfl) ?_
  refine lv_iconst (v := (nI 0)) hx hb dX5_clear_1 (by decide) ?_
  refine ap_S_X5_9_this X w dX5_clear_2 (fun z_2 H locs ez_2 w => ?_)
  refine lv_aload_n hx hb dX5_clear_5 rfl (lv_at hl 0 rfl) ?_
  refine lv_iconst (v := (nI 0)) hx hb dX5_clear_6 (by decide) ?_
  refine ap_S_X5_43_this X w dX5_clear_7 (fun z_7 H locs ez_7 w => ?_)
  refine lv_aload_n hx hb dX5_clear_10 rfl (lv_at hl 0 rfl) ?_
  refine lv_iconst (v := (nI 0)) hx hb dX5_clear_11 (by decide) ?_
  refine ap_S_X5_49_this X w dX5_clear_12 (fun z_12 H locs ez_12 w => ?_)
  refine lv_aload_n hx hb dX5_clear_15 rfl (lv_at hl 0 rfl) ?_
  refine lv_bipush (v := (iZ (-4))) hx hb dX5_clear_16 (by decide) ?_
  refine ap_S_X5_34_this X w dX5_clear_18 (fun z_18 H locs ez_18 w => ?_)
  exact ce_v (w := (fun q9 : RS => w5 G a q9)) (z := z_18) X hr hk w (by rw [ez_18, ez_12, ez_7, ez_2]) dX5_clear_21

section Lm_c5_addCell
variable {p : Program} {l : Launch} {e : Env} {R : Room} {s : State} {m : MethodId} {args : Array Value} {below : List Frame} {meth : Method} {c : Code} {H : Heap} {locs : List Loc} {cells slots : Nat} {Q : State → Prop}
variable {cc : ByteArray} {pc : Nat} {ls : Array Slot} {rest : List Value} {G : CG} {A : Nat → Prop}
theorem au_S_this_2 {own : String} {a : Nat → Nat} {z : RS} {j : Nat} {v : Int32} (X : cX own G A p c cc s args m) (w : cW G A s (w5 G a z) H locs) (hj : j < 40) (hdg : decode cc pc = .ok (.iastore, 1)) (kk : ∀ (z1 : RS) (H : Heap) (locs : List Loc), z1 = (sA z 2 j v) → cW G A s (w5 G a z1) H locs → W p l e R s m args below meth c H locs cells slots Q (F0 m (pc + 1) ls rest)) : W p l e R s m args below meth c H locs cells slots Q (F0 m pc ls (.int v :: .int (nI j) :: .ref (a 3) :: rest)) := by
  refine va_iast X.1 X.2.1 X.2.2.2.2.1.1 w.1 w.2.1 w.2.2 2 0 rfl rfl (vp_in_nI hj (by decide)) hdg ?_
  rw [nI_clamp (by omega)]
  exact fun H1 locs1 hP hD hS => kk _ H1 locs1 rfl ⟨hP, hD, hS⟩
theorem ag_S_X5_15_this {a : Nat → Nat} {z : RS} (X : cX RX5 G A p c cc s args m) (w : va_P G.1 vwCl (w5 G a z) H) (hdg : decode cc pc = .ok (.getfield 15, 3)) (kk : W p l e R s m args below meth c H locs cells slots Q (F0 m (pc + 3) ls (.ref (a 2) :: rest))) : W p l e R s m args below meth c H locs cells slots Q (F0 m pc ls (.ref (a 0) :: rest)) :=
  va_get (D := G.1) (ci := 4) (v := .ref (a 2)) (C := RX5) (T := TX5) (N := 13) X.1 X.2.1 X.2.2.1 gX5 X.2.2.2.1 X.2.2.2.2.1.1 w 0 rfl rfl 1 (by decide) (X.2.2.1 _ wf_X5_15) (fun _ h9 => h9) rfl hdg kk
theorem au_S_this_1 {own : String} {a : Nat → Nat} {z : RS} {j : Nat} {v : Int32} (X : cX own G A p c cc s args m) (w : cW G A s (w5 G a z) H locs) (hj : j < 40) (hdg : decode cc pc = .ok (.iastore, 1)) (kk : ∀ (z1 : RS) (H : Heap) (locs : List Loc), z1 = (sA z 1 j v) → cW G A s (w5 G a z1) H locs → W p l e R s m args below meth c H locs cells slots Q (F0 m (pc + 1) ls rest)) : W p l e R s m args below meth c H locs cells slots Q (F0 m pc ls (.int v :: .int (nI j) :: .ref (a 2) :: rest)) := by
  refine va_iast X.1 X.2.1 X.2.2.2.2.1.1 w.1 w.2.1 w.2.2 1 0 rfl rfl (vp_in_nI hj (by decide)) hdg ?_
  rw [nI_clamp (by omega)]
  exact fun H1 locs1 hP hD hS => kk _ H1 locs1 rfl ⟨hP, hD, hS⟩
end Lm_c5_addCell
theorem ok5_addCell : cOk RX5 yX5_addCell cX5_addCell 2 none 1 := ⟨wc_X5_addCell, wi_X5_addCell, ws_X5_addCell, wn_X5, rfl, by decide, by decide, by decide +kernel⟩
set_option maxHeartbeats 4000000 in
set_option maxRecDepth 100000 in
theorem c5_addCell (l : Launch) (G : CG) (a : Nat → Nat) (z : RS) (va9 : Nat) (S : Sc) (hz : cSn z S) (h40 : S.1 0 < 40) (hv : va9 ≤ 2) (hso : ∀ q, S.2.1 0 q ≤ 2) : cMv G l yX5_addCell cX5_addCell 2 none 1 20 [.ref (a 0), .int (nI va9)] (fun q9 : RS => w5 G a q9) z (fun z9 => cSn z9 (sc_cell S va9)) := by
  refine cMv_in (by decide) rfl (Nat.le_of_ble_eq_true rfl) ?_
  intro p e s m args below meth c A ls X hml hr hk hl w
  have hx := X.1
  have hb := X.2.1
  have hts := X.2.2.1
  have hown := X.2.2.2.1
  have hl : lv_has ls 2 [(0, .ref (a 0)), (1, .int (nI va9))] := hl
  have q8 := pc_cost_le hso (S.1 0 - 1)
  refine lv_aload_n hx hb dX5_addCell_0 rfl (lv_at hl 0 rfl) ?_
  refine ag_S_X5_9_this X w.1 dX5_addCell_1 ?_
  refine tp_i (show z.1 0 = (nI (S.1 0)) from cs_ce hz) ?_
  refine lv_bipush (v := (nI 40)) hx hb dX5_addCell_4 (by decide) ?_
  refine n_icmp_ge (tgt := 65) hx hb dX5_addCell_6 (by decide) (by omega) (by omega) (fun c_6_1 => ?_) (fun c_6_1 => ?_)
  · skip
    exact ce_v (w := (fun q9 : RS => w5 G a q9)) (z := z) X hr hk w (absurd h40 (by omega)) dX5_addCell_65
  · skip
    refine lv_aload_n hx hb dX5_addCell_9 rfl (lv_at hl 0 rfl) ?_
    refine ag_S_X5_19_this X w.1 dX5_addCell_10 ?_
    refine lv_aload_n hx hb dX5_addCell_13 rfl (lv_at hl 0 rfl) ?_
    refine ag_S_X5_9_this X w.1 dX5_addCell_14 ?_
    refine tp_i (show z.1 0 = (nI (S.1 0)) from cs_ce hz) ?_
    refine lv_aload_n hx hb dX5_addCell_17 rfl (lv_at hl 0 rfl) ?_
    refine ag_S_X5_9_this X w.1 dX5_addCell_18 ?_
    refine tp_i (show z.1 0 = (nI (S.1 0)) from cs_ce hz) ?_
    refine jn (tgt := 44) (rest := [.int (nI (S.1 0)), .ref (a 3)]) (fun v9 => ∃ x9 : Nat, x9 = (if (S.1 0) = 0 then 0 else ((pc_cost (S.2.1 0) ((S.1 0) - 1)) + (va9 + 1))) ∧ v9 = nI x9) (fun v_ hv_ => ?_) (fun k_44 => ?_)
    · obtain ⟨x_44, ex_44, rfl⟩ := hv_
      refine au_S_this_2 X w (by omega) dX5_addCell_44 (fun z_44 H locs ez_44 w => ?_)
      refine lv_aload_n hx hb dX5_addCell_45 rfl (lv_at hl 0 rfl) ?_
      refine ag_S_X5_15_this X w.1 dX5_addCell_46 ?_
      refine lv_aload_n hx hb dX5_addCell_49 rfl (lv_at hl 0 rfl) ?_
      refine ag_S_X5_9_this X w.1 dX5_addCell_50 ?_
      refine tp_i (show z_44.1 0 = (nI (S.1 0)) from (by first | (rw [ez_54, ez_44]; exact cs_ce (z := z) hz) | (rw [ez_44]; exact cs_ce (z := z) hz))) ?_
      refine lv_iload_n hx hb dX5_addCell_53 rfl (lv_at hl 1 rfl) ?_
      refine au_S_this_1 X w (by omega) dX5_addCell_54 (fun z_54 H locs ez_54 w => ?_)
      refine lv_aload_n hx hb dX5_addCell_55 rfl (lv_at hl 0 rfl) ?_
      refine lv_dup hx hb dX5_addCell_56 rfl ?_
      refine ag_S_X5_9_this X w.1 dX5_addCell_57 ?_
      refine tp_i (show z_54.1 0 = (nI (S.1 0)) from (by first | (rw [ez_54, ez_44]; exact cs_ce (z := z) hz) | (rw [ez_44]; exact cs_ce (z := z) hz))) ?_
      refine lv_iconst (v := (nI 1)) hx hb dX5_addCell_60 (by decide) ?_
      refine n_iadd hx hb dX5_addCell_61 ?_
      refine ap_S_X5_9_this X w dX5_addCell_62 (fun z_62 H locs ez_62 w => ?_)
      exact ce_v (w := (fun q9 : RS => w5 G a q9)) (z := z_62) X hr hk w (by rw [ez_62, ez_54, ez_44]; exact cn_cell hz va9 _ ex_44) dX5_addCell_65
    · skip
      refine n_if_ne (tgt := 28) hx hb dX5_addCell_21 (by decide) (by omega) (fun c_21_3 => ?_) (fun c_21_3 => ?_)
      · skip
        refine lv_aload_n hx hb dX5_addCell_28 rfl (lv_at hl 0 rfl) ?_
        refine ag_S_X5_19_this X w.1 dX5_addCell_29 ?_
        refine lv_aload_n hx hb dX5_addCell_32 rfl (lv_at hl 0 rfl) ?_
        refine ag_S_X5_9_this X w.1 dX5_addCell_33 ?_
        refine tp_i (show z.1 0 = (nI (S.1 0)) from cs_ce hz) ?_
        refine lv_iconst (v := (nI 1)) hx hb dX5_addCell_36 (by decide) ?_
        refine n_isub hx hb dX5_addCell_37 (by omega) ?_
        refine an_S_this_2 X w.1 (by omega) dX5_addCell_38 ?_
        refine tp_i (show z.2.1 2 ((S.1 0) - 1) = (nI (pc_cost (S.2.1 0) ((S.1 0) - 1))) from cs_cs hz ((S.1 0) - 1) (by omega)) ?_
        refine lv_iload_n hx hb dX5_addCell_39 rfl (lv_at hl 1 rfl) ?_
        refine gc_s (C := RX5) (rest := [.int (nI (pc_cost (S.2.1 0) ((S.1 0) - 1))), .int (nI (S.1 0)), .ref (a 3)]) ⟨X.1, X.2.1, X.2.2.1, X.2.2.2.1⟩ hml hl.1 (c5_costOf l va9) ok5_costOf wm_X5_62 ⟨Nat.le_of_ble_eq_true rfl, Nat.le_of_ble_eq_true rfl⟩ ⟨Nat.le_refl _, Nat.le_refl _⟩ rfl (Nat.le_of_ble_eq_true rfl) dX5_addCell_40 (fun r_40 hr_40 => ?_) rfl
        subst hr_40
        refine n_iadd hx hb dX5_addCell_43 ?_
        exact k_44 _ ⟨_, by simp only [if_neg c_21_3], rfl⟩
      · skip
        refine lv_iconst (v := (nI 0)) hx hb dX5_addCell_24 (by decide) ?_
        refine lv_goto (tgt := 44) hx hb dX5_addCell_25 (by decide) ?_
        exact k_44 _ ⟨_, by simp only [if_pos c_21_3], rfl⟩

section Lm_c5_addFighter
variable {p : Program} {l : Launch} {e : Env} {R : Room} {s : State} {m : MethodId} {args : Array Value} {below : List Frame} {meth : Method} {c : Code} {H : Heap} {locs : List Loc} {cells slots : Nat} {Q : State → Prop}
variable {cc : ByteArray} {pc : Nat} {ls : Array Slot} {rest : List Value} {G : CG} {A : Nat → Prop}
theorem au_S_this_4 {own : String} {a : Nat → Nat} {z : RS} {j : Nat} {v : Int32} (X : cX own G A p c cc s args m) (w : cW G A s (w5 G a z) H locs) (hj : j < 5) (hdg : decode cc pc = .ok (.iastore, 1)) (kk : ∀ (z1 : RS) (H : Heap) (locs : List Loc), z1 = (sA z 4 j v) → cW G A s (w5 G a z1) H locs → W p l e R s m args below meth c H locs cells slots Q (F0 m (pc + 1) ls rest)) : W p l e R s m args below meth c H locs cells slots Q (F0 m pc ls (.int v :: .int (nI j) :: .ref (a 5) :: rest)) := by
  refine va_iast X.1 X.2.1 X.2.2.2.2.1.1 w.1 w.2.1 w.2.2 3 0 rfl rfl (vp_in_nI hj (by decide)) hdg ?_
  rw [nI_clamp (by omega)]
  exact fun H1 locs1 hP hD hS => kk _ H1 locs1 rfl ⟨hP, hD, hS⟩
theorem au_S_this_5 {own : String} {a : Nat → Nat} {z : RS} {j : Nat} {v : Int32} (X : cX own G A p c cc s args m) (w : cW G A s (w5 G a z) H locs) (hj : j < 5) (hdg : decode cc pc = .ok (.iastore, 1)) (kk : ∀ (z1 : RS) (H : Heap) (locs : List Loc), z1 = (sA z 5 j v) → cW G A s (w5 G a z1) H locs → W p l e R s m args below meth c H locs cells slots Q (F0 m (pc + 1) ls rest)) : W p l e R s m args below meth c H locs cells slots Q (F0 m pc ls (.int v :: .int (nI j) :: .ref (a 6) :: rest)) := by
  refine va_iast X.1 X.2.1 X.2.2.2.2.1.1 w.1 w.2.1 w.2.2 4 0 rfl rfl (vp_in_nI hj (by decide)) hdg ?_
  rw [nI_clamp (by omega)]
  exact fun H1 locs1 hP hD hS => kk _ H1 locs1 rfl ⟨hP, hD, hS⟩
theorem au_S_this_6 {own : String} {a : Nat → Nat} {z : RS} {j : Nat} {v : Int32} (X : cX own G A p c cc s args m) (w : cW G A s (w5 G a z) H locs) (hj : j < 5) (hdg : decode cc pc = .ok (.iastore, 1)) (kk : ∀ (z1 : RS) (H : Heap) (locs : List Loc), z1 = (sA z 6 j v) → cW G A s (w5 G a z1) H locs → W p l e R s m args below meth c H locs cells slots Q (F0 m (pc + 1) ls rest)) : W p l e R s m args below meth c H locs cells slots Q (F0 m pc ls (.int v :: .int (nI j) :: .ref (a 7) :: rest)) := by
  refine va_iast X.1 X.2.1 X.2.2.2.2.1.1 w.1 w.2.1 w.2.2 5 0 rfl rfl (vp_in_nI hj (by decide)) hdg ?_
  rw [nI_clamp (by omega)]
  exact fun H1 locs1 hP hD hS => kk _ H1 locs1 rfl ⟨hP, hD, hS⟩
end Lm_c5_addFighter
theorem ok5_addFighter : cOk RX5 yX5_addFighter cX5_addFighter 6 (some .int) 4 := ⟨wc_X5_addFighter, wi_X5_addFighter, ws_X5_addFighter, wn_X5, rfl, by decide, by decide, by decide +kernel⟩
set_option maxHeartbeats 4000000 in
set_option maxRecDepth 100000 in
theorem c5_addFighter (l : Launch) (G : CG) (a : Nat → Nat) (z : RS) (ka9 : Nat) (sa9 : Nat) (pa9 : Nat) (ha9 : Nat) (S : Sc) (hz : cSn z S) (h5 : S.1 1 < 5) : cMi G l yX5_addFighter cX5_addFighter 6 (some .int) 0 0 [.ref (a 0), .int (nI ka9), .int (nI sa9), .int (nI pa9), .int (nI ha9)] (fun q9 : RS => w5 G a q9) z (fun r z9 => r = nI (S.1 1) ∧ cSn z9 (sc_add S ka9 sa9 pa9 ha9)) := by
  refine cMi_in (by decide) rfl (Nat.le_of_ble_eq_true rfl) ?_
  intro p e s m args below meth c A ls X hml hr hk hl w
  have hx := X.1
  have hb := X.2.1
  have hts := X.2.2.1
  have hown := X.2.2.2.1
  have hl : lv_has ls 6 [(0, .ref (a 0)), (1, .int (nI ka9)), (2, .int (nI sa9)), (3, .int (nI pa9)), (4, .int (nI ha9))] := hl
  refine lv_aload_n hx hb dX5_addFighter_0 rfl (lv_at hl 0 rfl) ?_
  refine ag_S_X5_43_this X w.1 dX5_addFighter_1 ?_
  refine tp_i (show z.1 3 = (nI (S.1 1)) from cs_nf hz) ?_
  refine lv_iconst (v := (nI 5)) hx hb dX5_addFighter_4 (by decide) ?_
  refine n_icmp_lt (tgt := 11) hx hb dX5_addFighter_5 (by decide) (by omega) (by omega) (fun c_5_1 => ?_) (fun c_5_1 => ?_)
  · skip
    refine lv_aload_n hx hb dX5_addFighter_11 rfl (lv_at hl 0 rfl) ?_
    refine ag_S_X5_43_this X w.1 dX5_addFighter_12 ?_
    refine tp_i (show z.1 3 = (nI (S.1 1)) from cs_nf hz) ?_
    refine lv_istore (lv' := [(5, .int (nI (S.1 1))), (0, .ref (a 0)), (1, .int (nI ka9)), (2, .int (nI sa9)), (3, .int (nI pa9)), (4, .int (nI ha9))]) hx hb dX5_addFighter_15 hl (by decide) rfl (fun ls hl => ?_)
    refine lv_aload_n hx hb dX5_addFighter_17 rfl (lv_at hl 1 rfl) ?_
    refine ag_S_X5_22_this X w.1 dX5_addFighter_18 ?_
    refine lv_iload hx hb dX5_addFighter_21 (lv_at hl 0 rfl) ?_
    refine lv_iload_n hx hb dX5_addFighter_23 rfl (lv_at hl 2 rfl) ?_
    refine au_S_this_4 X w (by omega) dX5_addFighter_24 (fun z_24 H locs ez_24 w => ?_)
    refine lv_aload_n hx hb dX5_addFighter_25 rfl (lv_at hl 1 rfl) ?_
    refine ag_S_X5_25_this X w.1 dX5_addFighter_26 ?_
    refine lv_iload hx hb dX5_addFighter_29 (lv_at hl 0 rfl) ?_
    refine lv_iload_n hx hb dX5_addFighter_31 rfl (lv_at hl 3 rfl) ?_
    refine au_S_this_5 X w (by omega) dX5_addFighter_32 (fun z_32 H locs ez_32 w => ?_)
    refine lv_aload_n hx hb dX5_addFighter_33 rfl (lv_at hl 1 rfl) ?_
    refine ag_S_X5_28_this X w.1 dX5_addFighter_34 ?_
    refine lv_iload hx hb dX5_addFighter_37 (lv_at hl 0 rfl) ?_
    refine lv_iload_n hx hb dX5_addFighter_39 rfl (lv_at hl 4 rfl) ?_
    refine au_S_this_6 X w (by omega) dX5_addFighter_40 (fun z_40 H locs ez_40 w => ?_)
    refine lv_aload_n hx hb dX5_addFighter_41 rfl (lv_at hl 1 rfl) ?_
    refine ag_S_X5_31_this X w.1 dX5_addFighter_42 ?_
    refine lv_iload hx hb dX5_addFighter_45 (lv_at hl 0 rfl) ?_
    refine lv_iload hx hb dX5_addFighter_47 (lv_at hl 5 rfl) ?_
    refine au_S_this_7 X w (by omega) dX5_addFighter_49 (fun z_49 H locs ez_49 w => ?_)
    refine lv_aload_n hx hb dX5_addFighter_50 rfl (lv_at hl 1 rfl) ?_
    refine lv_dup hx hb dX5_addFighter_51 rfl ?_
    refine ag_S_X5_43_this X w.1 dX5_addFighter_52 ?_
    refine tp_i (show z_49.1 3 = (nI (S.1 1)) from (by rw [ez_49, ez_40, ez_32, ez_24]; exact cs_nf (z := z) hz)) ?_
    refine lv_iconst (v := (nI 1)) hx hb dX5_addFighter_55 (by decide) ?_
    refine n_iadd hx hb dX5_addFighter_56 ?_
    refine ap_S_X5_43_this X w dX5_addFighter_57 (fun z_57 H locs ez_57 w => ?_)
    refine lv_iload hx hb dX5_addFighter_60 (lv_at hl 0 rfl) ?_
    exact ce_i (w := (fun q9 : RS => w5 G a q9)) (z := z_57) X hr hk w (⟨rfl, by rw [ez_57, ez_49, ez_40, ez_32, ez_24]; exact cn_add hz _ _ _ _⟩) dX5_addFighter_62
  · skip
    exact absurd h5 (by omega)

section Lm_c5_changeSort
variable {p : Program} {l : Launch} {e : Env} {R : Room} {s : State} {m : MethodId} {args : Array Value} {below : List Frame} {meth : Method} {c : Code} {H : Heap} {locs : List Loc} {cells slots : Nat} {Q : State → Prop}
variable {cc : ByteArray} {pc : Nat} {ls : Array Slot} {rest : List Value} {G : CG} {A : Nat → Prop}
theorem an_S_this_1 {own : String} {a : Nat → Nat} {z : RS} {j : Nat} (X : cX own G A p c cc s args m) (w : va_P G.1 vwCl (w5 G a z) H) (hj : j < 40) (hdg : decode cc pc = .ok (.iaload, 1)) (kk : W p l e R s m args below meth c H locs cells slots Q (F0 m (pc + 1) ls (.int (z.2.1 1 j) :: rest))) : W p l e R s m args below meth c H locs cells slots Q (F0 m pc ls (.int (nI j) :: .ref (a 2) :: rest)) :=
  va_iald X.1 X.2.1 X.2.2.2.2.1.1 w 1 0 rfl rfl (vp_in_nI hj (by decide)) hdg (by rw [nI_clamp (by omega)]; exact kk)
end Lm_c5_changeSort
theorem ok5_changeSort : cOk RX5 yX5_changeSort cX5_changeSort 5 none 2 := ⟨wc_X5_changeSort, wi_X5_changeSort, ws_X5_changeSort, wn_X5, rfl, by decide, by decide, by decide +kernel⟩
set_option maxHeartbeats 4000000 in
set_option maxRecDepth 100000 in
theorem c5_changeSort (l : Launch) (G : CG) (a : Nat → Nat) (z : RS) (ca9 : Nat) (va9 : Nat) (S : Sc) (hz : cSc z S) (ho : oSc S) (h1 : 1 ≤ ca9) (hc : ca9 < S.1 0) (hv : va9 ≤ 2) : cMv G l yX5_changeSort cX5_changeSort 5 none 2 43 [.ref (a 0), .int (nI ca9), .int (nI va9)] (fun q9 : RS => w5 G a q9) z (fun z9 => cSc z9 (sR S 0 ca9 va9)) := by
  refine cMv_in (by decide) rfl (Nat.le_of_ble_eq_true rfl) ?_
  intro p e s m args below meth c A ls X hml hr hk hl w
  have hx := X.1
  have hb := X.2.1
  have hts := X.2.2.1
  have hown := X.2.2.2.1
  have hl : lv_has ls 5 [(0, .ref (a 0)), (1, .int (nI ca9)), (2, .int (nI va9))] := hl
  obtain ⟨o1, o2, o3, o4, o5, o6, oso, oki, osr, opa, ohu, oco⟩ := id ho
  have q8 := oso ca9
  refine lv_aload_n hx hb dX5_changeSort_0 rfl (lv_at hl 0 rfl) ?_
  refine lv_iload_n hx hb dX5_changeSort_1 rfl (lv_at hl 1 rfl) ?_
  refine gc_p (C := RX5) (ci := 4) (rest := []) X hml hl.1 (c5_hasCell l G a z (nI ca9) S hz.1 ho) ok5_hasCell wm_X5_66 ⟨Nat.le_of_ble_eq_true rfl, Nat.le_of_ble_eq_true rfl⟩ ⟨Nat.le_refl _, Nat.le_refl _⟩ w.1 [0, 1, 2, 3, 4, 5, 6, 7] rfl rfl rfl rfl (Nat.le_of_ble_eq_true rfl) dX5_changeSort_2 (fun r_2 hr_2 => ?_)
  subst hr_2
  refine tp_i (congrArg nI (by rw [nI_toInt (by omega)] : _ = pc_inI (((ca9 : Nat) : Int)) 0 (((S.1 0 : Nat) : Int) - 1))) ?_
  have d_2 := pc_inI_ok (((ca9 : Nat) : Int)) 0 (((S.1 0 : Nat) : Int) - 1)
  refine n_if_eq (tgt := 59) hx hb dX5_changeSort_5 (by decide) (by omega) (fun c_5_1 => ?_) (fun c_5_1 => ?_)
  · skip
    exact absurd hc (by omega)
  · skip
    refine lv_iload_n hx hb dX5_changeSort_8 rfl (lv_at hl 2 rfl) ?_
    refine gc_s (C := RX5) (rest := []) ⟨X.1, X.2.1, X.2.2.1, X.2.2.2.1⟩ hml hl.1 (c5_costOf l va9) ok5_costOf wm_X5_62 ⟨Nat.le_of_ble_eq_true rfl, Nat.le_of_ble_eq_true rfl⟩ ⟨Nat.le_refl _, Nat.le_refl _⟩ rfl (Nat.le_of_ble_eq_true rfl) dX5_changeSort_9 (fun r_9 hr_9 => ?_) rfl
    subst hr_9
    refine lv_aload_n hx hb dX5_changeSort_12 rfl (lv_at hl 0 rfl) ?_
    refine ag_S_X5_15_this X w.1 dX5_changeSort_13 ?_
    refine lv_iload_n hx hb dX5_changeSort_16 rfl (lv_at hl 1 rfl) ?_
    refine an_S_this_1 X w.1 (by omega) dX5_changeSort_17 ?_
    refine tp_i (show z.2.1 1 ca9 = (nI (S.2.1 0 ca9)) from cs_so hz.1 ca9 (by omega)) ?_
    refine gc_s (C := RX5) (rest := [.int (nI (va9 + 1))]) ⟨X.1, X.2.1, X.2.2.1, X.2.2.2.1⟩ hml hl.1 (c5_costOf l (S.2.1 0 ca9)) ok5_costOf wm_X5_62 ⟨Nat.le_of_ble_eq_true rfl, Nat.le_of_ble_eq_true rfl⟩ ⟨Nat.le_refl _, Nat.le_refl _⟩ rfl (Nat.le_of_ble_eq_true rfl) dX5_changeSort_18 (fun r_18 hr_18 => ?_) rfl
    subst hr_18
    refine tp_i (iZ_n ((S.2.1 0 ca9) + 1)).symm ?_
    refine tp_i2 (iZ_n (va9 + 1)).symm ?_
    refine z_isub hx hb dX5_changeSort_21 ?_
    refine lv_istore_n (lv' := [(3, .int (iZ ((((va9 + 1 : Nat) : Int)) - ((((S.2.1 0 ca9) + 1 : Nat) : Int))))), (0, .ref (a 0)), (1, .int (nI ca9)), (2, .int (nI va9))]) hx hb dX5_changeSort_22 rfl hl (by decide) rfl (fun ls hl => ?_)
    refine lv_aload_n hx hb dX5_changeSort_23 rfl (lv_at hl 1 rfl) ?_
    refine ag_S_X5_15_this X w.1 dX5_changeSort_24 ?_
    refine lv_iload_n hx hb dX5_changeSort_27 rfl (lv_at hl 2 rfl) ?_
    refine lv_iload_n hx hb dX5_changeSort_28 rfl (lv_at hl 3 rfl) ?_
    refine au_S_this_1 X w (by omega) dX5_changeSort_29 (fun z_29 H locs ez_29 w => ?_)
    refine lv_iload_n hx hb dX5_changeSort_30 rfl (lv_at hl 2 rfl) ?_
    refine lv_istore (lv' := [(4, .int (nI ca9)), (3, .int (iZ ((((va9 + 1 : Nat) : Int)) - ((((S.2.1 0 ca9) + 1 : Nat) : Int))))), (0, .ref (a 0)), (1, .int (nI ca9)), (2, .int (nI va9))]) hx hb dX5_changeSort_31 hl (by decide) rfl (fun ls hl => ?_)
    have lp_33 : ∀ (n_33 : Nat) (i : Nat) (hi : ca9 ≤ i) (hi2 : i ≤ S.1 0) (hm_33 : S.1 0 - i < n_33) (ls : Array Slot) (zz : RS) (H : Heap) (locs : List Loc) (w : cW G A s (w5 G a zz) H locs) (hI9 : csI S z ca9 va9 i zz), lv_has ls 5 [(0, .ref (a 0)), (1, .int (nI ca9)), (2, .int (nI va9)), (3, .int (iZ ((((va9 + 1 : Nat) : Int)) - ((((S.2.1 0 ca9) + 1 : Nat) : Int))))), (4, .int (nI i))] → W p l e (ro_m 2 43) s m args below meth c H locs 0 0 (MQ below (va_Qv (fun z9 => cSc z9 (sR S 0 ca9 va9)) (cB G (fun q9 : RS => w5 G a q9) A) A) args s 0 0 A) (F0 m 33 ls []) := by
      intro n_33
      induction n_33 with
      | zero => intro i hi hi2 hm; exact absurd hm (Nat.not_lt_zero _)
      | succ n_33 ih_33 =>
        intro i hi hi2 hm_33 ls zz H locs w hI9 hl
        have q9 := pc_cost_le oso i
        refine lv_iload hx hb dX5_changeSort_33 (lv_at hl 4 rfl) ?_
        refine lv_aload_n hx hb dX5_changeSort_35 rfl (lv_at hl 0 rfl) ?_
        refine ag_S_X5_9_this X w.1 dX5_changeSort_36 ?_
        refine tp_i (show zz.1 0 = (nI (S.1 0)) from hI9.1) ?_
        refine n_icmp_ge (tgt := 59) hx hb dX5_changeSort_39 (by decide) (by omega) (by omega) (fun c_39_2 => ?_) (fun c_39_2 => ?_)
        · skip
          exact ce_v (w := (fun q9 : RS => w5 G a q9)) (z := zz) X hr hk w (cs_Ie hz h1 hc hI9 (by omega)) dX5_changeSort_59
        · skip
          refine lv_aload_n hx hb dX5_changeSort_42 rfl (lv_at hl 0 rfl) ?_
          refine ag_S_X5_19_this X w.1 dX5_changeSort_43 ?_
          refine lv_iload hx hb dX5_changeSort_46 (lv_at hl 4 rfl) ?_
          refine lv_dup2_11 hx hb dX5_changeSort_48 rfl rfl ?_
          refine an_S_this_2 X w.1 (by omega) dX5_changeSort_49 ?_
          refine tp_i (show zz.2.1 2 i = (nI (pc_cost (S.2.1 0) i)) from (hI9.2.2.1 i (Nat.le_refl _) (by omega))) ?_
          refine lv_iload_n hx hb dX5_changeSort_50 rfl (lv_at hl 3 rfl) ?_
          refine tp_i2 (iZ_n (pc_cost (S.2.1 0) i)).symm ?_
          refine z_iadd hx hb dX5_changeSort_51 ?_
          refine au_S_this_2 X w (by omega) dX5_changeSort_52 (fun z_52 H locs ez_52 w => ?_)
          refine lv_iinc (v := (nI (i + 1))) (lv' := [(4, .int (nI (i + 1))), (0, .ref (a 0)), (1, .int (nI ca9)), (2, .int (nI va9)), (3, .int (iZ ((((va9 + 1 : Nat) : Int)) - ((((S.2.1 0 ca9) + 1 : Nat) : Int)))))]) hx hb dX5_changeSort_53 hl (k := 4) rfl (by first | exact nI_1 _ | (rw [show Int32.ofInt 1 = nI 1 from by decide, nI_add])) (by decide) rfl (fun ls hl => ?_)
          refine lv_goto (tgt := 33) hx hb dX5_changeSort_56 (by decide) ?_
          exact ih_33 (i + 1) (by omega) (by omega) (by omega) ls z_52 _ _ w (by rw [ez_52]; exact cs_Is hI9 h1 hi (by omega) (by omega)) (lv_sub hl [1, 2, 3, 4, 0] rfl)
    exact lp_33 _ ca9 (Nat.le_refl _) (by omega) (Nat.lt_succ_self _) ls z_29 _ _ w (by rw [ez_29]; exact cs_I0 hz.1 hc va9) (lv_sub hl [2, 3, 4, 1, 0] rfl)
