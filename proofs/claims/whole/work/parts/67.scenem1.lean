theorem ok7_within : cOkS RX7 yX7_within cX7_within 3 (some .boolean) 3 := ⟨wc_X7_within, wt_X7_within, wn_X7, rfl, by decide, by decide, by decide +kernel⟩
set_option maxHeartbeats 4000000 in
set_option maxRecDepth 100000 in
theorem c7_within (l : Launch) (va9 : Int32) (la9 : Int32) (ha9 : Int32)  : rMs l yX7_within cX7_within 3 (some .boolean) 0 0 [.int va9, .int la9, .int ha9] (fun r => r = nI (pc_w3 va9 la9 ha9)) := by
  refine cMs_in (by decide) rfl (Nat.le_of_ble_eq_true rfl) ?_
  intro p e s m args below meth c ls X hml hr hk hl
  have hx := X.1
  have hb := X.2.1
  have hts := X.2.2.1
  have hown := X.2.2.2
  have hl : lv_has ls 3 [(0, .int va9), (1, .int la9), (2, .int ha9)] := hl
  refine lv_iload_n hx hb dX7_within_0 rfl (lv_at hl 0 rfl) ?_
  refine lv_iload_n hx hb dX7_within_1 rfl (lv_at hl 1 rfl) ?_
  refine jn (tgt := 15) (rest := []) (fun v9 => ∃ x9 : Nat, x9 = (if va9 < la9 then 0 else (if ha9 < va9 then 0 else 1)) ∧ v9 = nI x9) (fun v_ hv_ => ?_) (fun k_15 => ?_)
  · obtain ⟨x_15, ex_15, rfl⟩ := hv_
    exact re_pz hx hb hr hk (by rw [ex_15]; exact w3_01 _ _ _) (by rw [ex_15]; rfl) dX7_within_15
  · skip
    refine lv_icmp_lt (tgt := 14) hx hb dX7_within_2 (by decide) (fun c_2_2 => ?_) (fun c_2_2 => ?_)
    · skip
      refine lv_iconst (v := (nI 0)) hx hb dX7_within_14 (by decide) ?_
      exact k_15 _ ⟨_, by simp only [if_pos c_2_2], rfl⟩
    · skip
      refine lv_iload_n hx hb dX7_within_5 rfl (lv_at hl 0 rfl) ?_
      refine lv_iload_n hx hb dX7_within_6 rfl (lv_at hl 2 rfl) ?_
      refine lv_icmp_gt (tgt := 14) hx hb dX7_within_7 (by decide) (fun c_7_3 => ?_) (fun c_7_3 => ?_)
      · skip
        refine lv_iconst (v := (nI 0)) hx hb dX7_within_14 (by decide) ?_
        exact k_15 _ ⟨_, by simp only [if_neg c_2_2, if_pos c_7_3], rfl⟩
      · skip
        refine lv_iconst (v := (nI 1)) hx hb dX7_within_10 (by decide) ?_
        refine lv_goto (tgt := 15) hx hb dX7_within_11 (by decide) ?_
        exact k_15 _ ⟨_, by simp only [if_neg c_2_2, if_neg c_7_3], rfl⟩

theorem ok5_costOf : cOkS RX5 yX5_costOf cX5_costOf 1 (some .int) 1 := ⟨wc_X5_costOf, wt_X5_costOf, wn_X5, rfl, by decide, by decide, by decide +kernel⟩
set_option maxHeartbeats 4000000 in
set_option maxRecDepth 100000 in
theorem c5_costOf (l : Launch) (xa9 : Nat)  : rMs l yX5_costOf cX5_costOf 1 (some .int) 0 0 [.int (nI xa9)] (fun r => r = nI (xa9 + 1)) := by
  refine cMs_in (by decide) rfl (Nat.le_of_ble_eq_true rfl) ?_
  intro p e s m args below meth c ls X hml hr hk hl
  have hx := X.1
  have hb := X.2.1
  have hts := X.2.2.1
  have hown := X.2.2.2
  have hl : lv_has ls 1 [(0, .int (nI xa9))] := hl
  refine lv_iload_n hx hb dX5_costOf_0 rfl (lv_at hl 0 rfl) ?_
  refine lv_iconst (v := (nI 1)) hx hb dX5_costOf_1 (by decide) ?_
  refine n_iadd hx hb dX5_costOf_2 ?_
  exact re_p hx hb hr hk (by subst_vars; rfl) dX5_costOf_3

section Lm_c5_hasCell
variable {p : Program} {l : Launch} {e : Env} {R : Room} {s : State} {m : MethodId} {args : Array Value} {below : List Frame} {meth : Method} {c : Code} {H : Heap} {locs : List Loc} {cells slots : Nat} {Q : State → Prop}
variable {cc : ByteArray} {pc : Nat} {ls : Array Slot} {rest : List Value} {G : CG} {A : Nat → Prop}
theorem ag_S_X5_9_this {a : Nat → Nat} {z : RS} (X : cX RX5 G A p c cc s args m) (w : va_P G.1 vwCl (w5 G a z) H) (hdg : decode cc pc = .ok (.getfield 9, 3)) (kk : W p l e R s m args below meth c H locs cells slots Q (F0 m (pc + 3) ls (.int (z.1 0) :: rest))) : W p l e R s m args below meth c H locs cells slots Q (F0 m pc ls (.ref (a 0) :: rest)) :=
  va_get (D := G.1) (ci := 4) (v := .int (z.1 0)) (C := RX5) (T := TX5) (N := 13) X.1 X.2.1 X.2.2.1 gX5 X.2.2.2.1 X.2.2.2.2.1.1 w 0 rfl rfl 0 (by decide) (X.2.2.1 _ wf_X5_9) (fun _ h9 => h9) rfl hdg kk
end Lm_c5_hasCell
theorem ok5_hasCell : cOk RX5 yX5_hasCell cX5_hasCell 2 (some .boolean) 1 := ⟨wc_X5_hasCell, wi_X5_hasCell, ws_X5_hasCell, wn_X5, rfl, by decide, by decide, by decide +kernel⟩
set_option maxHeartbeats 4000000 in
set_option maxRecDepth 100000 in
theorem c5_hasCell (l : Launch) (G : CG) (a : Nat → Nat) (z : RS) (xa9 : Int32) (S : Sc) (hz : cSn z S) (ho : oSc S)  : cMp G l yX5_hasCell cX5_hasCell 2 (some .boolean) 1 22 [.ref (a 0), .int xa9] (w5 G a z) (fun r => r = nI (pc_inI xa9.toInt 0 (((S.1 0 : Nat) : Int) - 1))) := by
  refine cMp_in (by decide) rfl (Nat.le_of_ble_eq_true rfl) ?_
  intro p e s m args below meth c ls X hml hr hk hl w
  have hx := X.1
  have hb := X.2.1
  have hts := X.2.2.1
  have hown := X.2.2.2.1
  have hl : lv_has ls 2 [(0, .ref (a 0)), (1, .int xa9)] := hl
  obtain ⟨o1, o2, o3, o4, o5, o6, oso, oki, osr, opa, ohu, oco⟩ := id ho
  refine lv_iload_n hx hb dX5_hasCell_0 rfl (lv_at hl 1 rfl) ?_
  refine lv_iconst (v := (nI 0)) hx hb dX5_hasCell_1 (by decide) ?_
  refine lv_aload_n hx hb dX5_hasCell_2 rfl (lv_at hl 0 rfl) ?_
  refine ag_S_X5_9_this X w dX5_hasCell_3 ?_
  refine tp_i (show z.1 0 = (nI (S.1 0)) from cs_ce hz) ?_
  refine lv_iconst (v := (nI 1)) hx hb dX5_hasCell_6 (by decide) ?_
  refine tp_i (show nI 1 = iZ (1 : Int) from by decide) ?_
  refine tp_i2 (iZ_n (S.1 0)).symm ?_
  refine z_isub hx hb dX5_hasCell_7 ?_
  refine gc_sn (host := "RunningThree") (C := RX7) (rest := []) ⟨X.1, X.2.1, X.2.2.1, X.2.2.2.1⟩ X.2.2.2.2.1.2 hml hl.1 (c7_within l xa9 (nI 0) (iZ ((((S.1 0 : Nat) : Int)) - ((1 : Int))))) ok7_within wp_X5_70 ⟨Nat.le_of_ble_eq_true rfl, Nat.le_of_ble_eq_true rfl⟩ ⟨Nat.le_refl _, Nat.le_refl _⟩ rfl (Nat.le_of_ble_eq_true rfl) dX5_hasCell_8 (fun r_8 hr_8 => ?_)
  subst hr_8
  refine tp_i (congrArg nI (w3_I rfl (by decide) (iZ_toInt (by omega) (by omega)) : _ = pc_inI xa9.toInt ((0 : Int)) ((((S.1 0 : Nat) : Int)) - ((1 : Int))))) ?_
  have d_8 := pc_inI_ok xa9.toInt ((0 : Int)) ((((S.1 0 : Nat) : Int)) - ((1 : Int)))
  exact re_pz hx hb hr hk (inI_01 _ _ _) (rfl) dX5_hasCell_11

section Lm_c5_exists
variable {p : Program} {l : Launch} {e : Env} {R : Room} {s : State} {m : MethodId} {args : Array Value} {below : List Frame} {meth : Method} {c : Code} {H : Heap} {locs : List Loc} {cells slots : Nat} {Q : State → Prop}
variable {cc : ByteArray} {pc : Nat} {ls : Array Slot} {rest : List Value} {G : CG} {A : Nat → Prop}
theorem ag_S_X5_43_this {a : Nat → Nat} {z : RS} (X : cX RX5 G A p c cc s args m) (w : va_P G.1 vwCl (w5 G a z) H) (hdg : decode cc pc = .ok (.getfield 43, 3)) (kk : W p l e R s m args below meth c H locs cells slots Q (F0 m (pc + 3) ls (.int (z.1 3) :: rest))) : W p l e R s m args below meth c H locs cells slots Q (F0 m pc ls (.ref (a 0) :: rest)) :=
  va_get (D := G.1) (ci := 4) (v := .int (z.1 3)) (C := RX5) (T := TX5) (N := 13) X.1 X.2.1 X.2.2.1 gX5 X.2.2.2.1 X.2.2.2.2.1.1 w 0 rfl rfl 3 (by decide) (X.2.2.1 _ wf_X5_43) (fun _ h9 => h9) rfl hdg kk
end Lm_c5_exists
theorem ok5_exists : cOk RX5 yX5_exists cX5_exists 2 (some .boolean) 1 := ⟨wc_X5_exists, wi_X5_exists, ws_X5_exists, wn_X5, rfl, by decide, by decide, by decide +kernel⟩
set_option maxHeartbeats 4000000 in
set_option maxRecDepth 100000 in
theorem c5_exists (l : Launch) (G : CG) (a : Nat → Nat) (z : RS) (xa9 : Int32) (S : Sc) (hz : cSn z S) (ho : oSc S)  : cMp G l yX5_exists cX5_exists 2 (some .boolean) 1 22 [.ref (a 0), .int xa9] (w5 G a z) (fun r => r = nI (pc_inI xa9.toInt 0 (((S.1 1 : Nat) : Int) - 1))) := by
  refine cMp_in (by decide) rfl (Nat.le_of_ble_eq_true rfl) ?_
  intro p e s m args below meth c ls X hml hr hk hl w
  have hx := X.1
  have hb := X.2.1
  have hts := X.2.2.1
  have hown := X.2.2.2.1
  have hl : lv_has ls 2 [(0, .ref (a 0)), (1, .int xa9)] := hl
  obtain ⟨o1, o2, o3, o4, o5, o6, oso, oki, osr, opa, ohu, oco⟩ := id ho
  refine lv_iload_n hx hb dX5_exists_0 rfl (lv_at hl 1 rfl) ?_
  refine lv_iconst (v := (nI 0)) hx hb dX5_exists_1 (by decide) ?_
  refine lv_aload_n hx hb dX5_exists_2 rfl (lv_at hl 0 rfl) ?_
  refine ag_S_X5_43_this X w dX5_exists_3 ?_
  refine tp_i (show z.1 3 = (nI (S.1 1)) from cs_nf hz) ?_
  refine lv_iconst (v := (nI 1)) hx hb dX5_exists_6 (by decide) ?_
  refine tp_i (show nI 1 = iZ (1 : Int) from by decide) ?_
  refine tp_i2 (iZ_n (S.1 1)).symm ?_
  refine z_isub hx hb dX5_exists_7 ?_
  refine gc_sn (host := "RunningThree") (C := RX7) (rest := []) ⟨X.1, X.2.1, X.2.2.1, X.2.2.2.1⟩ X.2.2.2.2.1.2 hml hl.1 (c7_within l xa9 (nI 0) (iZ ((((S.1 1 : Nat) : Int)) - ((1 : Int))))) ok7_within wp_X5_70 ⟨Nat.le_of_ble_eq_true rfl, Nat.le_of_ble_eq_true rfl⟩ ⟨Nat.le_refl _, Nat.le_refl _⟩ rfl (Nat.le_of_ble_eq_true rfl) dX5_exists_8 (fun r_8 hr_8 => ?_)
  subst hr_8
  refine tp_i (congrArg nI (w3_I rfl (by decide) (iZ_toInt (by omega) (by omega)) : _ = pc_inI xa9.toInt ((0 : Int)) ((((S.1 1 : Nat) : Int)) - ((1 : Int))))) ?_
  have d_8 := pc_inI_ok xa9.toInt ((0 : Int)) ((((S.1 1 : Nat) : Int)) - ((1 : Int)))
  exact re_pz hx hb hr hk (inI_01 _ _ _) (rfl) dX5_exists_11

section Lm_c5_isUp
variable {p : Program} {l : Launch} {e : Env} {R : Room} {s : State} {m : MethodId} {args : Array Value} {below : List Frame} {meth : Method} {c : Code} {H : Heap} {locs : List Loc} {cells slots : Nat} {Q : State → Prop}
variable {cc : ByteArray} {pc : Nat} {ls : Array Slot} {rest : List Value} {G : CG} {A : Nat → Prop}
theorem ag_S_X5_31_this {a : Nat → Nat} {z : RS} (X : cX RX5 G A p c cc s args m) (w : va_P G.1 vwCl (w5 G a z) H) (hdg : decode cc pc = .ok (.getfield 31, 3)) (kk : W p l e R s m args below meth c H locs cells slots Q (F0 m (pc + 3) ls (.ref (a 8) :: rest))) : W p l e R s m args below meth c H locs cells slots Q (F0 m pc ls (.ref (a 0) :: rest)) :=
  va_get (D := G.1) (ci := 4) (v := .ref (a 8)) (C := RX5) (T := TX5) (N := 13) X.1 X.2.1 X.2.2.1 gX5 X.2.2.2.1 X.2.2.2.2.1.1 w 0 rfl rfl 7 (by decide) (X.2.2.1 _ wf_X5_31) (fun _ h9 => h9) rfl hdg kk
theorem an_S_this_7 {own : String} {a : Nat → Nat} {z : RS} {j : Nat} (X : cX own G A p c cc s args m) (w : va_P G.1 vwCl (w5 G a z) H) (hj : j < 5) (hdg : decode cc pc = .ok (.iaload, 1)) (kk : W p l e R s m args below meth c H locs cells slots Q (F0 m (pc + 1) ls (.int (z.2.1 7 j) :: rest))) : W p l e R s m args below meth c H locs cells slots Q (F0 m pc ls (.int (nI j) :: .ref (a 8) :: rest)) :=
  va_iald X.1 X.2.1 X.2.2.2.2.1.1 w 6 0 rfl rfl (vp_in_nI hj (by decide)) hdg (by rw [nI_clamp (by omega)]; exact kk)
end Lm_c5_isUp
theorem ok5_isUp : cOk RX5 yX5_isUp cX5_isUp 2 (some .boolean) 1 := ⟨wc_X5_isUp, wi_X5_isUp, ws_X5_isUp, wn_X5, rfl, by decide, by decide, by decide +kernel⟩
set_option maxHeartbeats 4000000 in
set_option maxRecDepth 100000 in
theorem c5_isUp (l : Launch) (G : CG) (a : Nat → Nat) (z : RS) (fa9 : Nat) (S : Sc) (hz : cSn z S) (ho : oSc S) (hf : fa9 < S.1 1) : cMp G l yX5_isUp cX5_isUp 2 (some .boolean) 0 0 [.ref (a 0), .int (nI fa9)] (w5 G a z) (fun r => r = nI (1 - pc_dn S fa9)) := by
  refine cMp_in (by decide) rfl (Nat.le_of_ble_eq_true rfl) ?_
  intro p e s m args below meth c ls X hml hr hk hl w
  have hx := X.1
  have hb := X.2.1
  have hts := X.2.2.1
  have hown := X.2.2.2.1
  have hl : lv_has ls 2 [(0, .ref (a 0)), (1, .int (nI fa9))] := hl
  obtain ⟨o1, o2, o3, o4, o5, o6, oso, oki, osr, opa, ohu, oco⟩ := id ho
  have q1 := ohu fa9
  refine lv_aload_n hx hb dX5_isUp_0 rfl (lv_at hl 0 rfl) ?_
  refine ag_S_X5_31_this X w dX5_isUp_1 ?_
  refine lv_iload_n hx hb dX5_isUp_4 rfl (lv_at hl 1 rfl) ?_
  refine an_S_this_7 X w (by omega) dX5_isUp_5 ?_
  refine tp_i (show z.2.1 7 fa9 = (nI (S.2.1 4 fa9)) from cs_hu hz fa9 (by omega)) ?_
  refine lv_bipush (v := (nI 6)) hx hb dX5_isUp_6 (by decide) ?_
  refine jn (tgt := 16) (rest := []) (fun v9 => ∃ x9 : Nat, x9 = (if 6 ≤ (S.2.1 4 fa9) then 0 else 1) ∧ v9 = nI x9) (fun v_ hv_ => ?_) (fun k_16 => ?_)
  · obtain ⟨x_16, ex_16, rfl⟩ := hv_
    exact re_pz hx hb hr hk (by rw [ex_16]; split; exact Or.inl rfl; exact Or.inr rfl) (by rw [ex_16]; exact congrArg nI (up_ok q1)) dX5_isUp_16
  · skip
    refine n_icmp_ge (tgt := 15) hx hb dX5_isUp_8 (by decide) (by omega) (by omega) (fun c_8_2 => ?_) (fun c_8_2 => ?_)
    · skip
      refine lv_iconst (v := (nI 0)) hx hb dX5_isUp_15 (by decide) ?_
      exact k_16 _ ⟨_, by simp only [if_pos c_8_2], rfl⟩
    · skip
      refine lv_iconst (v := (nI 1)) hx hb dX5_isUp_11 (by decide) ?_
      refine lv_goto (tgt := 16) hx hb dX5_isUp_12 (by decide) ?_
      exact k_16 _ ⟨_, by simp only [if_neg c_8_2], rfl⟩

section Lm_c5_hasTurned
variable {p : Program} {l : Launch} {e : Env} {R : Room} {s : State} {m : MethodId} {args : Array Value} {below : List Frame} {meth : Method} {c : Code} {H : Heap} {locs : List Loc} {cells slots : Nat} {Q : State → Prop}
variable {cc : ByteArray} {pc : Nat} {ls : Array Slot} {rest : List Value} {G : CG} {A : Nat → Prop}
theorem ag_S_X5_34_this {a : Nat → Nat} {z : RS} (X : cX RX5 G A p c cc s args m) (w : va_P G.1 vwCl (w5 G a z) H) (hdg : decode cc pc = .ok (.getfield 34, 3)) (kk : W p l e R s m args below meth c H locs cells slots Q (F0 m (pc + 3) ls (.int (z.1 10) :: rest))) : W p l e R s m args below meth c H locs cells slots Q (F0 m pc ls (.ref (a 0) :: rest)) :=
  va_get (D := G.1) (ci := 4) (v := .int (z.1 10)) (C := RX5) (T := TX5) (N := 13) X.1 X.2.1 X.2.2.1 gX5 X.2.2.2.1 X.2.2.2.2.1.1 w 0 rfl rfl 10 (by decide) (X.2.2.1 _ wf_X5_34) (fun _ h9 => h9) rfl hdg kk
end Lm_c5_hasTurned
theorem ok5_hasTurned : cOk RX5 yX5_hasTurned cX5_hasTurned 1 (some .boolean) 0 := ⟨wc_X5_hasTurned, wi_X5_hasTurned, ws_X5_hasTurned, wn_X5, rfl, by decide, by decide, by decide +kernel⟩
set_option maxHeartbeats 4000000 in
set_option maxRecDepth 100000 in
theorem c5_hasTurned (l : Launch) (G : CG) (a : Nat → Nat) (z : RS)  (S : Sc) (hz : cSn z S) (ho : oSc S)  : cMp G l yX5_hasTurned cX5_hasTurned 1 (some .boolean) 0 0 [.ref (a 0)] (w5 G a z) (fun r => r = nI (pc_td S)) := by
  refine cMp_in (by decide) rfl (Nat.le_of_ble_eq_true rfl) ?_
  intro p e s m args below meth c ls X hml hr hk hl w
  have hx := X.1
  have hb := X.2.1
  have hts := X.2.2.1
  have hown := X.2.2.2.1
  have hl : lv_has ls 1 [(0, .ref (a 0))] := hl
  obtain ⟨o1, o2, o3, o4, o5, o6, oso, oki, osr, opa, ohu, oco⟩ := id ho
  refine lv_aload_n hx hb dX5_hasTurned_0 rfl (lv_at hl 0 rfl) ?_
  refine ag_S_X5_34_this X w dX5_hasTurned_1 ?_
  refine tp_i (show z.1 10 = (pc_sd (S.1 4)) from cs_sd hz) ?_
  refine lv_bipush (v := (iZ (-4))) hx hb dX5_hasTurned_4 (by decide) ?_
  refine jn (tgt := 14) (rest := []) (fun v9 => ∃ x9 : Nat, x9 = (if ((pc_sd (S.1 4))) = ((iZ (-4))) then 0 else 1) ∧ v9 = nI x9) (fun v_ hv_ => ?_) (fun k_14 => ?_)
  · obtain ⟨x_14, ex_14, rfl⟩ := hv_
    exact re_pz hx hb hr hk (by rw [ex_14]; split; exact Or.inl rfl; exact Or.inr rfl) (by rw [ex_14]; unfold pc_td; simp only [pc_sd_4 (show S.1 4 ≤ 1000 by omega)]) dX5_hasTurned_14
  · skip
    refine lv_icmp_eq (tgt := 13) hx hb dX5_hasTurned_6 (by decide) (fun c_6_2 => ?_) (fun c_6_2 => ?_)
    · skip
      refine lv_iconst (v := (nI 0)) hx hb dX5_hasTurned_13 (by decide) ?_
      exact k_14 _ ⟨_, by simp only [if_pos c_6_2], rfl⟩
    · skip
      refine lv_iconst (v := (nI 1)) hx hb dX5_hasTurned_9 (by decide) ?_
      refine lv_goto (tgt := 14) hx hb dX5_hasTurned_10 (by decide) ?_
      exact k_14 _ ⟨_, by simp only [if_neg c_6_2], rfl⟩

theorem ok5_thoseDown : cOk RX5 yX5_thoseDown cX5_thoseDown 3 (some .int) 0 := ⟨wc_X5_thoseDown, wi_X5_thoseDown, ws_X5_thoseDown, wn_X5, rfl, by decide, by decide, by decide +kernel⟩
set_option maxHeartbeats 4000000 in
set_option maxRecDepth 100000 in
theorem c5_thoseDown (l : Launch) (G : CG) (a : Nat → Nat) (z : RS)  (S : Sc) (hz : cSn z S) (ho : oSc S)  : cMp G l yX5_thoseDown cX5_thoseDown 3 (some .int) 1 21 [.ref (a 0)] (w5 G a z) (fun r => r = nI (sp_dnL S (S.1 1))) := by
  refine cMp_in (by decide) rfl (Nat.le_of_ble_eq_true rfl) ?_
  intro p e s m args below meth c ls X hml hr hk hl w
  have hx := X.1
  have hb := X.2.1
  have hts := X.2.2.1
  have hown := X.2.2.2.1
  have hl : lv_has ls 3 [(0, .ref (a 0))] := hl
  obtain ⟨o1, o2, o3, o4, o5, o6, oso, oki, osr, opa, ohu, oco⟩ := id ho
  refine lv_iconst (v := (nI 0)) hx hb dX5_thoseDown_0 (by decide) ?_
  refine lv_istore_n (lv' := [(1, .int (nI 0)), (0, .ref (a 0))]) hx hb dX5_thoseDown_1 rfl hl (by decide) rfl (fun ls hl => ?_)
  refine lv_iconst (v := (nI 0)) hx hb dX5_thoseDown_2 (by decide) ?_
  refine lv_istore_n (lv' := [(2, .int (nI 0)), (1, .int (nI 0)), (0, .ref (a 0))]) hx hb dX5_thoseDown_3 rfl hl (by decide) rfl (fun ls hl => ?_)
  have lp_4 : ∀ (n_4 : Nat) (i : Nat) (hi : i ≤ S.1 1) (hm_4 : S.1 1 - i < n_4) (ls : Array Slot), lv_has ls 3 [(0, .ref (a 0)), (1, .int (nI (sp_dnL S i))), (2, .int (nI i))] → W p l e (ro_m 1 21) s m args below meth c s.heap [] 0 0 (MQ below (vp_Si (fun r => r = nI (sp_dnL S (S.1 1)))) args s 0 0 (fun _ => False)) (F0 m 4 ls []) := by
    intro n_4
    induction n_4 with
    | zero => intro i hi hm; exact absurd hm (Nat.not_lt_zero _)
    | succ n_4 ih_4 =>
      intro i hi hm_4 ls hl
      refine lv_iload_n hx hb dX5_thoseDown_4 rfl (lv_at hl 2 rfl) ?_
      refine lv_aload_n hx hb dX5_thoseDown_5 rfl (lv_at hl 0 rfl) ?_
      refine ag_S_X5_43_this X w dX5_thoseDown_6 ?_
      refine tp_i (show z.1 3 = (nI (S.1 1)) from cs_nf hz) ?_
      refine n_icmp_ge (tgt := 32) hx hb dX5_thoseDown_9 (by decide) (by omega) (by omega) (fun c_9_1 => ?_) (fun c_9_1 => ?_)
      · skip
        refine lv_iload_n hx hb dX5_thoseDown_32 rfl (lv_at hl 1 rfl) ?_
        exact re_p hx hb hr hk (by rw [show i = S.1 1 by omega]) dX5_thoseDown_33
      · skip
        refine lv_aload_n hx hb dX5_thoseDown_12 rfl (lv_at hl 0 rfl) ?_
        refine lv_iload_n hx hb dX5_thoseDown_13 rfl (lv_at hl 2 rfl) ?_
        refine gc_p (C := RX5) (ci := 4) (rest := []) X hml hl.1 (c5_isUp l G a z i S hz ho (by omega)) ok5_isUp wm_X5_74 ⟨Nat.le_of_ble_eq_true rfl, Nat.le_of_ble_eq_true rfl⟩ ⟨Nat.le_refl _, Nat.le_refl _⟩ w [0, 1, 2, 3, 4, 5, 6, 7] rfl rfl rfl rfl (Nat.le_of_ble_eq_true rfl) dX5_thoseDown_14 (fun r_14 hr_14 => ?_)
        subst hr_14
        have d_14 := pc_dn01 S i
        refine n_if_ne (tgt := 26) hx hb dX5_thoseDown_17 (by decide) (by omega) (fun c_17_2 => ?_) (fun c_17_2 => ?_)
        · skip
          have hl : lv_has ls 3 [(0, .ref (a 0)), (1, .int (nI (sp_dnL S (i + 1)))), (2, .int (nI i))] := by rw [show (nI (sp_dnL S (i + 1))) = (nI (sp_dnL S i)) from by first | exact congrArg nI (dnL_n (by omega)) | exact congrArg nI (dnL_y (by omega))]; exact hl
          refine lv_iinc (v := (nI (i + 1))) (lv' := [(2, .int (nI (i + 1))), (0, .ref (a 0)), (1, .int (nI (sp_dnL S (i + 1))))]) hx hb dX5_thoseDown_26 hl (k := 2) rfl (by first | exact nI_1 _ | (rw [show Int32.ofInt 1 = nI 1 from by decide, nI_add])) (by decide) rfl (fun ls hl => ?_)
          refine lv_goto (tgt := 4) hx hb dX5_thoseDown_29 (by decide) ?_
          exact ih_4 (i + 1) (by omega) (by omega) ls (lv_sub hl [1, 2, 0] rfl)
        · skip
          refine lv_iload_n hx hb dX5_thoseDown_20 rfl (lv_at hl 1 rfl) ?_
          refine lv_iconst (v := (nI 1)) hx hb dX5_thoseDown_21 (by decide) ?_
          refine lv_iload_n hx hb dX5_thoseDown_22 rfl (lv_at hl 2 rfl) ?_
          refine lv_ishl hx hb dX5_thoseDown_23 ?_
          refine tp_i (sh_1 (by omega)) ?_
          refine lv_ior hx hb dX5_thoseDown_24 ?_
          refine tp_i (fa_or _ _) ?_
          refine lv_istore_n (lv' := [(1, .int (nI ((sp_dnL S i) ||| (2 ^ i)))), (0, .ref (a 0)), (2, .int (nI i))]) hx hb dX5_thoseDown_25 rfl hl (by decide) rfl (fun ls hl => ?_)
          have hl : lv_has ls 3 [(1, .int (nI (sp_dnL S (i + 1)))), (0, .ref (a 0)), (2, .int (nI i))] := by rw [show (nI (sp_dnL S (i + 1))) = (nI ((sp_dnL S i) ||| (2 ^ i))) from by first | exact congrArg nI (dnL_n (by omega)) | exact congrArg nI (dnL_y (by omega))]; exact hl
          refine lv_iinc (v := (nI (i + 1))) (lv' := [(2, .int (nI (i + 1))), (1, .int (nI (sp_dnL S (i + 1)))), (0, .ref (a 0))]) hx hb dX5_thoseDown_26 hl (k := 2) rfl (by first | exact nI_1 _ | (rw [show Int32.ofInt 1 = nI 1 from by decide, nI_add])) (by decide) rfl (fun ls hl => ?_)
          refine lv_goto (tgt := 4) hx hb dX5_thoseDown_29 (by decide) ?_
          exact ih_4 (i + 1) (by omega) (by omega) ls (lv_sub hl [2, 1, 0] rfl)
  exact lp_4 _ 0 (Nat.zero_le _) (Nat.lt_succ_self _) ls (lv_sub hl [2, 1, 0] rfl)

theorem ok5_othersUp : cOk RX5 yX5_othersUp cX5_othersUp 3 (some .int) 0 := ⟨wc_X5_othersUp, wi_X5_othersUp, ws_X5_othersUp, wn_X5, rfl, by decide, by decide, by decide +kernel⟩
set_option maxHeartbeats 4000000 in
set_option maxRecDepth 100000 in
theorem c5_othersUp (l : Launch) (G : CG) (a : Nat → Nat) (z : RS)  (S : Sc) (hz : cSn z S) (ho : oSc S)  : cMp G l yX5_othersUp cX5_othersUp 3 (some .int) 1 21 [.ref (a 0)] (w5 G a z) (fun r => r = nI (sp_ou S (S.1 1 - 1))) := by
  refine cMp_in (by decide) rfl (Nat.le_of_ble_eq_true rfl) ?_
  intro p e s m args below meth c ls X hml hr hk hl w
  have hx := X.1
  have hb := X.2.1
  have hts := X.2.2.1
  have hown := X.2.2.2.1
  have hl : lv_has ls 3 [(0, .ref (a 0))] := hl
  obtain ⟨o1, o2, o3, o4, o5, o6, oso, oki, osr, opa, ohu, oco⟩ := id ho
  refine lv_iconst (v := (nI 0)) hx hb dX5_othersUp_0 (by decide) ?_
  refine lv_istore_n (lv' := [(1, .int (nI 0)), (0, .ref (a 0))]) hx hb dX5_othersUp_1 rfl hl (by decide) rfl (fun ls hl => ?_)
  refine lv_iconst (v := (nI 1)) hx hb dX5_othersUp_2 (by decide) ?_
  refine lv_istore_n (lv' := [(2, .int (nI 1)), (1, .int (nI 0)), (0, .ref (a 0))]) hx hb dX5_othersUp_3 rfl hl (by decide) rfl (fun ls hl => ?_)
  have lp_4 : ∀ (n_4 : Nat) (i : Nat) (hi : i ≤ S.1 1 - 1) (hm_4 : S.1 1 - i < n_4) (ls : Array Slot), lv_has ls 3 [(0, .ref (a 0)), (1, .int (nI (sp_ou S i))), (2, .int (nI (i + 1)))] → W p l e (ro_m 1 21) s m args below meth c s.heap [] 0 0 (MQ below (vp_Si (fun r => r = nI (sp_ou S (S.1 1 - 1)))) args s 0 0 (fun _ => False)) (F0 m 4 ls []) := by
    intro n_4
    induction n_4 with
    | zero => intro i hi hm; exact absurd hm (Nat.not_lt_zero _)
    | succ n_4 ih_4 =>
      intro i hi hm_4 ls hl
      have q1 := ou_le S i
      refine lv_iload_n hx hb dX5_othersUp_4 rfl (lv_at hl 2 rfl) ?_
      refine lv_aload_n hx hb dX5_othersUp_5 rfl (lv_at hl 0 rfl) ?_
      refine ag_S_X5_43_this X w dX5_othersUp_6 ?_
      refine tp_i (show z.1 3 = (nI (S.1 1)) from cs_nf hz) ?_
      refine n_icmp_ge (tgt := 29) hx hb dX5_othersUp_9 (by decide) (by omega) (by omega) (fun c_9_1 => ?_) (fun c_9_1 => ?_)
      · skip
        refine lv_iload_n hx hb dX5_othersUp_29 rfl (lv_at hl 1 rfl) ?_
        exact re_p hx hb hr hk (by rw [show i = S.1 1 - 1 by omega]) dX5_othersUp_30
      · skip
        refine lv_aload_n hx hb dX5_othersUp_12 rfl (lv_at hl 0 rfl) ?_
        refine lv_iload_n hx hb dX5_othersUp_13 rfl (lv_at hl 2 rfl) ?_
        refine gc_p (C := RX5) (ci := 4) (rest := []) X hml hl.1 (c5_isUp l G a z (i + 1) S hz ho (by omega)) ok5_isUp wm_X5_74 ⟨Nat.le_of_ble_eq_true rfl, Nat.le_of_ble_eq_true rfl⟩ ⟨Nat.le_refl _, Nat.le_refl _⟩ w [0, 1, 2, 3, 4, 5, 6, 7] rfl rfl rfl rfl (Nat.le_of_ble_eq_true rfl) dX5_othersUp_14 (fun r_14 hr_14 => ?_)
        subst hr_14
        have d_14 := pc_dn01 S (i + 1)
        refine n_if_eq (tgt := 23) hx hb dX5_othersUp_17 (by decide) (by omega) (fun c_17_2 => ?_) (fun c_17_2 => ?_)
        · skip
          have hl : lv_has ls 3 [(0, .ref (a 0)), (1, .int (nI (sp_ou S (i + 1)))), (2, .int (nI (i + 1)))] := by rw [show (nI (sp_ou S (i + 1))) = (nI (sp_ou S i)) from by first | exact congrArg nI (oc_n (by omega)) | exact congrArg nI (oc_y (by omega))]; exact hl
          refine lv_iinc (v := (nI (i + 1 + 1))) (lv' := [(2, .int (nI (i + 1 + 1))), (0, .ref (a 0)), (1, .int (nI (sp_ou S (i + 1))))]) hx hb dX5_othersUp_23 hl (k := 2) rfl (by first | exact nI_1 _ | (rw [show Int32.ofInt 1 = nI 1 from by decide, nI_add])) (by decide) rfl (fun ls hl => ?_)
          refine lv_goto (tgt := 4) hx hb dX5_othersUp_26 (by decide) ?_
          exact ih_4 (i + 1) (by omega) (by omega) ls (lv_sub hl [1, 2, 0] rfl)
        · skip
          refine lv_iinc (v := (nI (sp_ou S i + 1))) (lv' := [(1, .int (nI (sp_ou S i + 1))), (0, .ref (a 0)), (2, .int (nI (i + 1)))]) hx hb dX5_othersUp_20 hl (k := 1) rfl (by first | exact nI_1 _ | (rw [show Int32.ofInt 1 = nI 1 from by decide, nI_add])) (by decide) rfl (fun ls hl => ?_)
          have hl : lv_has ls 3 [(1, .int (nI (sp_ou S (i + 1)))), (0, .ref (a 0)), (2, .int (nI (i + 1)))] := by rw [show (nI (sp_ou S (i + 1))) = (nI (sp_ou S i + 1)) from by first | exact congrArg nI (oc_n (by omega)) | exact congrArg nI (oc_y (by omega))]; exact hl
          refine lv_iinc (v := (nI (i + 1 + 1))) (lv' := [(2, .int (nI (i + 1 + 1))), (1, .int (nI (sp_ou S (i + 1)))), (0, .ref (a 0))]) hx hb dX5_othersUp_23 hl (k := 2) rfl (by first | exact nI_1 _ | (rw [show Int32.ofInt 1 = nI 1 from by decide, nI_add])) (by decide) rfl (fun ls hl => ?_)
          refine lv_goto (tgt := 4) hx hb dX5_othersUp_26 (by decide) ?_
          exact ih_4 (i + 1) (by omega) (by omega) ls (lv_sub hl [2, 1, 0] rfl)
  exact lp_4 _ 0 (Nat.zero_le _) (Nat.lt_succ_self _) ls (lv_sub hl [2, 1, 0] rfl)

theorem ok5_outcome : cOk RX5 yX5_outcome cX5_outcome 1 (some .int) 0 := ⟨wc_X5_outcome, wi_X5_outcome, ws_X5_outcome, wn_X5, rfl, by decide, by decide, by decide +kernel⟩
set_option maxHeartbeats 4000000 in
set_option maxRecDepth 100000 in
theorem c5_outcome (l : Launch) (G : CG) (a : Nat → Nat) (z : RS)  (S : Sc) (hz : cSn z S) (ho : oSc S)  : cMp G l yX5_outcome cX5_outcome 1 (some .int) 2 43 [.ref (a 0)] (w5 G a z) (fun r => r = nI (sp_over S)) := by
  refine cMp_in (by decide) rfl (Nat.le_of_ble_eq_true rfl) ?_
  intro p e s m args below meth c ls X hml hr hk hl w
  have hx := X.1
  have hb := X.2.1
  have hts := X.2.2.1
  have hown := X.2.2.2.1
  have hl : lv_has ls 1 [(0, .ref (a 0))] := hl
  obtain ⟨o1, o2, o3, o4, o5, o6, oso, oki, osr, opa, ohu, oco⟩ := id ho
  refine lv_aload_n hx hb dX5_outcome_0 rfl (lv_at hl 0 rfl) ?_
  refine ag_S_X5_43_this X w dX5_outcome_1 ?_
  refine tp_i (show z.1 3 = (nI (S.1 1)) from cs_nf hz) ?_
  refine lv_iconst (v := (nI 2)) hx hb dX5_outcome_4 (by decide) ?_
  refine n_icmp_ge (tgt := 10) hx hb dX5_outcome_5 (by decide) (by omega) (by omega) (fun c_5_1 => ?_) (fun c_5_1 => ?_)
  · skip
    refine lv_aload_n hx hb dX5_outcome_10 rfl (lv_at hl 0 rfl) ?_
    refine lv_iconst (v := (nI 0)) hx hb dX5_outcome_11 (by decide) ?_
    refine gc_p (C := RX5) (ci := 4) (rest := []) X hml hl.1 (c5_isUp l G a z 0 S hz ho (by omega)) ok5_isUp wm_X5_74 ⟨Nat.le_of_ble_eq_true rfl, Nat.le_of_ble_eq_true rfl⟩ ⟨Nat.le_refl _, Nat.le_refl _⟩ w [0, 1, 2, 3, 4, 5, 6, 7] rfl rfl rfl rfl (Nat.le_of_ble_eq_true rfl) dX5_outcome_12 (fun r_12 hr_12 => ?_)
    subst hr_12
    have d_12 := pc_dn01 S 0
    refine n_if_ne (tgt := 20) hx hb dX5_outcome_15 (by decide) (by omega) (fun c_15_2 => ?_) (fun c_15_2 => ?_)
    · skip
      refine lv_aload_n hx hb dX5_outcome_20 rfl (lv_at hl 0 rfl) ?_
      refine gc_p (C := RX5) (ci := 4) (rest := []) X hml hl.1 (c5_othersUp l G a z  S hz ho ) ok5_othersUp wm_X5_77 ⟨Nat.le_of_ble_eq_true rfl, Nat.le_of_ble_eq_true rfl⟩ ⟨Nat.le_refl _, Nat.le_refl _⟩ w [0, 1, 2, 3, 4, 5, 6, 7] rfl rfl rfl rfl (Nat.le_of_ble_eq_true rfl) dX5_outcome_21 (fun r_21 hr_21 => ?_)
      subst hr_21
      have d_21 := ou_le S (S.1 1 - 1)
      refine jn (tgt := 32) (rest := []) (fun v9 => ∃ x9 : Nat, x9 = (if (sp_ou S (S.1 1 - 1)) = 0 then 1 else 0) ∧ v9 = nI x9) (fun v_ hv_ => ?_) (fun k_32 => ?_)
      · obtain ⟨x_32, ex_32, rfl⟩ := hv_
        exact re_p hx hb hr hk (by rw [ex_32, over_ok (by omega), if_pos (show pc_dn S 0 = 0 by omega)]) dX5_outcome_32
      · skip
        refine n_if_ne (tgt := 31) hx hb dX5_outcome_24 (by decide) (by omega) (fun c_24_4 => ?_) (fun c_24_4 => ?_)
        · skip
          refine lv_iconst (v := (nI 0)) hx hb dX5_outcome_31 (by decide) ?_
          exact k_32 _ ⟨_, by simp only [if_neg c_24_4], rfl⟩
        · skip
          refine lv_iconst (v := (nI 1)) hx hb dX5_outcome_27 (by decide) ?_
          refine lv_goto (tgt := 32) hx hb dX5_outcome_28 (by decide) ?_
          exact k_32 _ ⟨_, by simp only [if_pos c_24_4], rfl⟩
    · skip
      refine lv_iconst (v := (nI 2)) hx hb dX5_outcome_18 (by decide) ?_
      exact re_p hx hb hr hk (by rw [over_ok (by omega), if_neg (by omega)]) dX5_outcome_19
  · skip
    refine lv_iconst (v := (nI 3)) hx hb dX5_outcome_8 (by decide) ?_
    exact re_p hx hb hr hk (by unfold sp_over; rw [if_neg (by omega)]) dX5_outcome_9

section Lm_c5_forceOf
variable {p : Program} {l : Launch} {e : Env} {R : Room} {s : State} {m : MethodId} {args : Array Value} {below : List Frame} {meth : Method} {c : Code} {H : Heap} {locs : List Loc} {cells slots : Nat} {Q : State → Prop}
variable {cc : ByteArray} {pc : Nat} {ls : Array Slot} {rest : List Value} {G : CG} {A : Nat → Prop}
theorem ag_S_X5_22_this {a : Nat → Nat} {z : RS} (X : cX RX5 G A p c cc s args m) (w : va_P G.1 vwCl (w5 G a z) H) (hdg : decode cc pc = .ok (.getfield 22, 3)) (kk : W p l e R s m args below meth c H locs cells slots Q (F0 m (pc + 3) ls (.ref (a 5) :: rest))) : W p l e R s m args below meth c H locs cells slots Q (F0 m pc ls (.ref (a 0) :: rest)) :=
  va_get (D := G.1) (ci := 4) (v := .ref (a 5)) (C := RX5) (T := TX5) (N := 13) X.1 X.2.1 X.2.2.1 gX5 X.2.2.2.1 X.2.2.2.2.1.1 w 0 rfl rfl 4 (by decide) (X.2.2.1 _ wf_X5_22) (fun _ h9 => h9) rfl hdg kk
theorem an_S_this_4 {own : String} {a : Nat → Nat} {z : RS} {j : Nat} (X : cX own G A p c cc s args m) (w : va_P G.1 vwCl (w5 G a z) H) (hj : j < 5) (hdg : decode cc pc = .ok (.iaload, 1)) (kk : W p l e R s m args below meth c H locs cells slots Q (F0 m (pc + 1) ls (.int (z.2.1 4 j) :: rest))) : W p l e R s m args below meth c H locs cells slots Q (F0 m pc ls (.int (nI j) :: .ref (a 5) :: rest)) :=
  va_iald X.1 X.2.1 X.2.2.2.2.1.1 w 3 0 rfl rfl (vp_in_nI hj (by decide)) hdg (by rw [nI_clamp (by omega)]; exact kk)
theorem ag_S_X5_25_this {a : Nat → Nat} {z : RS} (X : cX RX5 G A p c cc s args m) (w : va_P G.1 vwCl (w5 G a z) H) (hdg : decode cc pc = .ok (.getfield 25, 3)) (kk : W p l e R s m args below meth c H locs cells slots Q (F0 m (pc + 3) ls (.ref (a 6) :: rest))) : W p l e R s m args below meth c H locs cells slots Q (F0 m pc ls (.ref (a 0) :: rest)) :=
  va_get (D := G.1) (ci := 4) (v := .ref (a 6)) (C := RX5) (T := TX5) (N := 13) X.1 X.2.1 X.2.2.1 gX5 X.2.2.2.1 X.2.2.2.2.1.1 w 0 rfl rfl 5 (by decide) (X.2.2.1 _ wf_X5_25) (fun _ h9 => h9) rfl hdg kk
theorem an_S_this_5 {own : String} {a : Nat → Nat} {z : RS} {j : Nat} (X : cX own G A p c cc s args m) (w : va_P G.1 vwCl (w5 G a z) H) (hj : j < 5) (hdg : decode cc pc = .ok (.iaload, 1)) (kk : W p l e R s m args below meth c H locs cells slots Q (F0 m (pc + 1) ls (.int (z.2.1 5 j) :: rest))) : W p l e R s m args below meth c H locs cells slots Q (F0 m pc ls (.int (nI j) :: .ref (a 6) :: rest)) :=
  va_iald X.1 X.2.1 X.2.2.2.2.1.1 w 4 0 rfl rfl (vp_in_nI hj (by decide)) hdg (by rw [nI_clamp (by omega)]; exact kk)
end Lm_c5_forceOf
theorem ok5_forceOf : cOk RX5 yX5_forceOf cX5_forceOf 2 (some .int) 1 := ⟨wc_X5_forceOf, wi_X5_forceOf, ws_X5_forceOf, wn_X5, rfl, by decide, by decide, by decide +kernel⟩
set_option maxHeartbeats 4000000 in
set_option maxRecDepth 100000 in
theorem c5_forceOf (l : Launch) (G : CG) (a : Nat → Nat) (z : RS) (fa9 : Nat) (S : Sc) (hz : cSn z S) (ho : oSc S) (hf : fa9 < S.1 1) : cMp G l yX5_forceOf cX5_forceOf 2 (some .int) 2 44 [.ref (a 0), .int (nI fa9)] (w5 G a z) (fun r => r = nI (sp_frc S fa9)) := by
  refine cMp_in (by decide) rfl (Nat.le_of_ble_eq_true rfl) ?_
  intro p e s m args below meth c ls X hml hr hk hl w
  have hx := X.1
  have hb := X.2.1
  have hts := X.2.2.1
  have hown := X.2.2.2.1
  have hl : lv_has ls 2 [(0, .ref (a 0)), (1, .int (nI fa9))] := hl
  obtain ⟨o1, o2, o3, o4, o5, o6, oso, oki, osr, opa, ohu, oco⟩ := id ho
  have q1 := ohu fa9
  have q2 := oki fa9
  have q3 := osr fa9
  refine lv_aload_n hx hb dX5_forceOf_0 rfl (lv_at hl 0 rfl) ?_
  refine ag_S_X5_22_this X w dX5_forceOf_1 ?_
  refine lv_iload_n hx hb dX5_forceOf_4 rfl (lv_at hl 1 rfl) ?_
  refine an_S_this_4 X w (by omega) dX5_forceOf_5 ?_
  refine tp_i (show z.2.1 4 fa9 = (nI (S.2.1 1 fa9)) from cs_ki hz fa9 (by omega)) ?_
  refine lv_aload_n hx hb dX5_forceOf_6 rfl (lv_at hl 0 rfl) ?_
  refine ag_S_X5_25_this X w dX5_forceOf_7 ?_
  refine lv_iload_n hx hb dX5_forceOf_10 rfl (lv_at hl 1 rfl) ?_
  refine an_S_this_5 X w (by omega) dX5_forceOf_11 ?_
  refine tp_i (show z.2.1 5 fa9 = (nI (S.2.1 2 fa9)) from cs_sr hz fa9 (by omega)) ?_
  refine lv_aload_n hx hb dX5_forceOf_12 rfl (lv_at hl 0 rfl) ?_
  refine ag_S_X5_31_this X w dX5_forceOf_13 ?_
  refine lv_iload_n hx hb dX5_forceOf_16 rfl (lv_at hl 1 rfl) ?_
  refine an_S_this_7 X w (by omega) dX5_forceOf_17 ?_
  refine tp_i (show z.2.1 7 fa9 = (nI (S.2.1 4 fa9)) from cs_hu hz fa9 (by omega)) ?_
  refine gc_sx (C := RX3) (rest := []) ⟨X.1, X.2.1, X.2.2.1, X.2.2.2.1⟩ hml hl.1 (c3_force l (S.2.1 1 fa9) (S.2.1 2 fa9) (S.2.1 4 fa9) (by omega) (by omega) (by omega)) ok3_force wm_X5_81 ⟨Nat.le_of_ble_eq_true rfl, Nat.le_of_ble_eq_true rfl⟩ ⟨Nat.le_refl _, Nat.le_refl _⟩ rfl (Nat.le_of_ble_eq_true rfl) dX5_forceOf_18 (fun r_18 hr_18 => ?_)
  subst hr_18
  have d_18 := pc_force_le (S.2.1 1 fa9) (S.2.1 2 fa9) (S.2.1 4 fa9) (by omega)
  exact re_p hx hb hr hk (rfl) dX5_forceOf_21

section Lm_c5_pointsOf
variable {p : Program} {l : Launch} {e : Env} {R : Room} {s : State} {m : MethodId} {args : Array Value} {below : List Frame} {meth : Method} {c : Code} {H : Heap} {locs : List Loc} {cells slots : Nat} {Q : State → Prop}
variable {cc : ByteArray} {pc : Nat} {ls : Array Slot} {rest : List Value} {G : CG} {A : Nat → Prop}
theorem ag_S_X5_28_this {a : Nat → Nat} {z : RS} (X : cX RX5 G A p c cc s args m) (w : va_P G.1 vwCl (w5 G a z) H) (hdg : decode cc pc = .ok (.getfield 28, 3)) (kk : W p l e R s m args below meth c H locs cells slots Q (F0 m (pc + 3) ls (.ref (a 7) :: rest))) : W p l e R s m args below meth c H locs cells slots Q (F0 m pc ls (.ref (a 0) :: rest)) :=
  va_get (D := G.1) (ci := 4) (v := .ref (a 7)) (C := RX5) (T := TX5) (N := 13) X.1 X.2.1 X.2.2.1 gX5 X.2.2.2.1 X.2.2.2.2.1.1 w 0 rfl rfl 6 (by decide) (X.2.2.1 _ wf_X5_28) (fun _ h9 => h9) rfl hdg kk
theorem an_S_this_6 {own : String} {a : Nat → Nat} {z : RS} {j : Nat} (X : cX own G A p c cc s args m) (w : va_P G.1 vwCl (w5 G a z) H) (hj : j < 5) (hdg : decode cc pc = .ok (.iaload, 1)) (kk : W p l e R s m args below meth c H locs cells slots Q (F0 m (pc + 1) ls (.int (z.2.1 6 j) :: rest))) : W p l e R s m args below meth c H locs cells slots Q (F0 m pc ls (.int (nI j) :: .ref (a 7) :: rest)) :=
  va_iald X.1 X.2.1 X.2.2.2.2.1.1 w 5 0 rfl rfl (vp_in_nI hj (by decide)) hdg (by rw [nI_clamp (by omega)]; exact kk)
end Lm_c5_pointsOf
theorem ok5_pointsOf : cOk RX5 yX5_pointsOf cX5_pointsOf 5 (some .int) 3 := ⟨wc_X5_pointsOf, wi_X5_pointsOf, ws_X5_pointsOf, wn_X5, rfl, by decide, by decide, by decide +kernel⟩
set_option maxHeartbeats 4000000 in
set_option maxRecDepth 100000 in
theorem c5_pointsOf (l : Launch) (G : CG) (a : Nat → Nat) (z : RS) (fa9 : Nat) (ha9 : Nat) (ta9 : Nat) (S : Sc) (hz : cSn z S) (ho : oSc S) (hf : fa9 < S.1 1) (hh : ha9 ≤ 6) (ht : ta9 ≤ 100000) : cMp G l yX5_pointsOf cX5_pointsOf 5 (some .int) 2 44 [.ref (a 0), .int (nI fa9), .int (nI ha9), .int (nI ta9)] (w5 G a z) (fun r => r = nI (sp_pts S fa9 ha9 ta9)) := by
  refine cMp_in (by decide) rfl (Nat.le_of_ble_eq_true rfl) ?_
  intro p e s m args below meth c ls X hml hr hk hl w
  have hx := X.1
  have hb := X.2.1
  have hts := X.2.2.1
  have hown := X.2.2.2.1
  have hl : lv_has ls 5 [(0, .ref (a 0)), (1, .int (nI fa9)), (2, .int (nI ha9)), (3, .int (nI ta9))] := hl
  obtain ⟨o1, o2, o3, o4, o5, o6, oso, oki, osr, opa, ohu, oco⟩ := id ho
  have q2 := oki fa9
  have q3 := opa fa9
  refine lv_aload_n hx hb dX5_pointsOf_0 rfl (lv_at hl 0 rfl) ?_
  refine ag_S_X5_22_this X w dX5_pointsOf_1 ?_
  refine lv_iload_n hx hb dX5_pointsOf_4 rfl (lv_at hl 1 rfl) ?_
  refine an_S_this_4 X w (by omega) dX5_pointsOf_5 ?_
  refine tp_i (show z.2.1 4 fa9 = (nI (S.2.1 1 fa9)) from cs_ki hz fa9 (by omega)) ?_
  refine lv_istore (lv' := [(4, .int (nI (S.2.1 1 fa9))), (0, .ref (a 0)), (1, .int (nI fa9)), (2, .int (nI ha9)), (3, .int (nI ta9))]) hx hb dX5_pointsOf_6 hl (by decide) rfl (fun ls hl => ?_)
  refine lv_iload hx hb dX5_pointsOf_8 (lv_at hl 0 rfl) ?_
  refine lv_iload hx hb dX5_pointsOf_10 (lv_at hl 0 rfl) ?_
  refine lv_aload_n hx hb dX5_pointsOf_12 rfl (lv_at hl 1 rfl) ?_
  refine ag_S_X5_28_this X w dX5_pointsOf_13 ?_
  refine lv_iload_n hx hb dX5_pointsOf_16 rfl (lv_at hl 2 rfl) ?_
  refine an_S_this_6 X w (by omega) dX5_pointsOf_17 ?_
  refine tp_i (show z.2.1 6 fa9 = (nI (S.2.1 3 fa9)) from cs_pa hz fa9 (by omega)) ?_
  refine lv_iload_n hx hb dX5_pointsOf_18 rfl (lv_at hl 3 rfl) ?_
  refine gc_sx (C := RX3) (rest := [.int (nI (S.2.1 1 fa9))]) ⟨X.1, X.2.1, X.2.2.1, X.2.2.2.1⟩ hml hl.1 (c3_stride l (S.2.1 1 fa9) (S.2.1 3 fa9) ha9 (by omega) (by omega) (by omega)) ok3_stride wm_X5_87 ⟨Nat.le_of_ble_eq_true rfl, Nat.le_of_ble_eq_true rfl⟩ ⟨Nat.le_refl _, Nat.le_refl _⟩ rfl (Nat.le_of_ble_eq_true rfl) dX5_pointsOf_19 (fun r_19 hr_19 => ?_)
  subst hr_19
  have d_19 := pc_pace_le (S.2.1 1 fa9) (S.2.1 3 fa9) ha9 (by omega)
  have b_19 := pc_pace_ge (S.2.1 1 fa9) (S.2.1 3 fa9) ha9
  refine lv_iload_n hx hb dX5_pointsOf_22 rfl (lv_at hl 4 rfl) ?_
  refine gc_sx (C := RX3) (rest := []) ⟨X.1, X.2.1, X.2.2.1, X.2.2.2.1⟩ hml hl.1 (c3_pointsIn l (S.2.1 1 fa9) (pc_pace (S.2.1 1 fa9) (S.2.1 3 fa9) ha9) ta9 (by omega) (by omega) (by omega)) ok3_pointsIn wm_X5_90 ⟨Nat.le_of_ble_eq_true rfl, Nat.le_of_ble_eq_true rfl⟩ ⟨Nat.le_refl _, Nat.le_refl _⟩ rfl (Nat.le_of_ble_eq_true rfl) dX5_pointsOf_23 (fun r_23 hr_23 => ?_)
  subst hr_23
  exact re_p hx hb hr hk (congrArg nI (psS_ok q2)) dX5_pointsOf_26

section Lm_c5_cellBy
variable {p : Program} {l : Launch} {e : Env} {R : Room} {s : State} {m : MethodId} {args : Array Value} {below : List Frame} {meth : Method} {c : Code} {H : Heap} {locs : List Loc} {cells slots : Nat} {Q : State → Prop}
variable {cc : ByteArray} {pc : Nat} {ls : Array Slot} {rest : List Value} {G : CG} {A : Nat → Prop}
theorem ag_S_X5_19_this {a : Nat → Nat} {z : RS} (X : cX RX5 G A p c cc s args m) (w : va_P G.1 vwCl (w5 G a z) H) (hdg : decode cc pc = .ok (.getfield 19, 3)) (kk : W p l e R s m args below meth c H locs cells slots Q (F0 m (pc + 3) ls (.ref (a 3) :: rest))) : W p l e R s m args below meth c H locs cells slots Q (F0 m pc ls (.ref (a 0) :: rest)) :=
  va_get (D := G.1) (ci := 4) (v := .ref (a 3)) (C := RX5) (T := TX5) (N := 13) X.1 X.2.1 X.2.2.1 gX5 X.2.2.2.1 X.2.2.2.2.1.1 w 0 rfl rfl 2 (by decide) (X.2.2.1 _ wf_X5_19) (fun _ h9 => h9) rfl hdg kk
theorem an_S_this_2 {own : String} {a : Nat → Nat} {z : RS} {j : Nat} (X : cX own G A p c cc s args m) (w : va_P G.1 vwCl (w5 G a z) H) (hj : j < 40) (hdg : decode cc pc = .ok (.iaload, 1)) (kk : W p l e R s m args below meth c H locs cells slots Q (F0 m (pc + 1) ls (.int (z.2.1 2 j) :: rest))) : W p l e R s m args below meth c H locs cells slots Q (F0 m pc ls (.int (nI j) :: .ref (a 3) :: rest)) :=
  va_iald X.1 X.2.1 X.2.2.2.2.1.1 w 2 0 rfl rfl (vp_in_nI hj (by decide)) hdg (by rw [nI_clamp (by omega)]; exact kk)
end Lm_c5_cellBy
theorem ok5_cellBy : cOk RX5 yX5_cellBy cX5_cellBy 3 (some .int) 1 := ⟨wc_X5_cellBy, wi_X5_cellBy, ws_X5_cellBy, wn_X5, rfl, by decide, by decide, by decide +kernel⟩
set_option maxHeartbeats 4000000 in
set_option maxRecDepth 100000 in
theorem c5_cellBy (l : Launch) (G : CG) (a : Nat → Nat) (z : RS) (pa9 : Nat) (S : Sc) (hz : cSn z S) (ho : oSc S) (hp : pa9 ≤ 1000000) : cMp G l yX5_cellBy cX5_cellBy 3 (some .int) 0 0 [.ref (a 0), .int (nI pa9)] (w5 G a z) (fun r => r = nI (pc_far (S.2.1 0) pa9 (S.1 0 - 1))) := by
  refine cMp_in (by decide) rfl (Nat.le_of_ble_eq_true rfl) ?_
  intro p e s m args below meth c ls X hml hr hk hl w
  have hx := X.1
  have hb := X.2.1
  have hts := X.2.2.1
  have hown := X.2.2.2.1
  have hl : lv_has ls 3 [(0, .ref (a 0)), (1, .int (nI pa9))] := hl
  obtain ⟨o1, o2, o3, o4, o5, o6, oso, oki, osr, opa, ohu, oco⟩ := id ho
  refine lv_iconst (v := (nI 0)) hx hb dX5_cellBy_0 (by decide) ?_
  refine lv_istore_n (lv' := [(2, .int (nI 0)), (0, .ref (a 0)), (1, .int (nI pa9))]) hx hb dX5_cellBy_1 rfl hl (by decide) rfl (fun ls hl => ?_)
  have lp_2 : ∀ (n_2 : Nat) (i : Nat) (hi : i < S.1 0) (hi2 : i = 0 ∨ pc_cost (S.2.1 0) i ≤ pa9) (hm_2 : S.1 0 - i < n_2) (ls : Array Slot), lv_has ls 3 [(0, .ref (a 0)), (1, .int (nI pa9)), (2, .int (nI i))] → W p l e (ro_m 0 0) s m args below meth c s.heap [] 0 0 (MQ below (vp_Si (fun r => r = nI (pc_far (S.2.1 0) pa9 (S.1 0 - 1)))) args s 0 0 (fun _ => False)) (F0 m 2 ls []) := by
    intro n_2
    induction n_2 with
    | zero => intro i hi hi2 hm; exact absurd hm (Nat.not_lt_zero _)
    | succ n_2 ih_2 =>
      intro i hi hi2 hm_2 ls hl
      have q1 := pc_cost_le oso (i + 1)
      refine lv_iload_n hx hb dX5_cellBy_2 rfl (lv_at hl 2 rfl) ?_
      refine lv_iconst (v := (nI 1)) hx hb dX5_cellBy_3 (by decide) ?_
      refine n_iadd hx hb dX5_cellBy_4 ?_
      refine lv_aload_n hx hb dX5_cellBy_5 rfl (lv_at hl 0 rfl) ?_
      refine ag_S_X5_9_this X w dX5_cellBy_6 ?_
      refine tp_i (show z.1 0 = (nI (S.1 0)) from cs_ce hz) ?_
      refine n_icmp_ge (tgt := 30) hx hb dX5_cellBy_9 (by decide) (by omega) (by omega) (fun c_9_1 => ?_) (fun c_9_1 => ?_)
      · skip
        refine lv_iload_n hx hb dX5_cellBy_30 rfl (lv_at hl 2 rfl) ?_
        exact re_p hx hb hr hk (by rw [far_eq (S.1 0 - 1) i (by omega) hi2 (by first | (left; omega) | (right; omega))]) dX5_cellBy_31
      · skip
        refine lv_aload_n hx hb dX5_cellBy_12 rfl (lv_at hl 0 rfl) ?_
        refine ag_S_X5_19_this X w dX5_cellBy_13 ?_
        refine lv_iload_n hx hb dX5_cellBy_16 rfl (lv_at hl 2 rfl) ?_
        refine lv_iconst (v := (nI 1)) hx hb dX5_cellBy_17 (by decide) ?_
        refine n_iadd hx hb dX5_cellBy_18 ?_
        refine an_S_this_2 X w (by omega) dX5_cellBy_19 ?_
        refine tp_i (show z.2.1 2 (i + 1) = (nI (pc_cost (S.2.1 0) (i + 1))) from cs_cs hz (i + 1) (by omega)) ?_
        refine lv_iload_n hx hb dX5_cellBy_20 rfl (lv_at hl 1 rfl) ?_
        refine n_icmp_gt (tgt := 30) hx hb dX5_cellBy_21 (by decide) (by omega) (by omega) (fun c_21_2 => ?_) (fun c_21_2 => ?_)
        · skip
          refine lv_iload_n hx hb dX5_cellBy_30 rfl (lv_at hl 2 rfl) ?_
          exact re_p hx hb hr hk (by rw [far_eq (S.1 0 - 1) i (by omega) hi2 (by first | (left; omega) | (right; omega))]) dX5_cellBy_31
        · skip
          refine lv_iinc (v := (nI (i + 1))) (lv' := [(2, .int (nI (i + 1))), (0, .ref (a 0)), (1, .int (nI pa9))]) hx hb dX5_cellBy_24 hl (k := 2) rfl (by first | exact nI_1 _ | (rw [show Int32.ofInt 1 = nI 1 from by decide, nI_add])) (by decide) rfl (fun ls hl => ?_)
          refine lv_goto (tgt := 2) hx hb dX5_cellBy_27 (by decide) ?_
          exact ih_2 (i + 1) (by omega) (Or.inr (by omega)) (by omega) ls (lv_sub hl [1, 2, 0] rfl)
  exact lp_2 _ 0 (by omega) (Or.inl rfl) (Nat.lt_succ_self _) ls (lv_sub hl [1, 2, 0] rfl)

section Lm_c5_momentsOut
variable {p : Program} {l : Launch} {e : Env} {R : Room} {s : State} {m : MethodId} {args : Array Value} {below : List Frame} {meth : Method} {c : Code} {H : Heap} {locs : List Loc} {cells slots : Nat} {Q : State → Prop}
variable {cc : ByteArray} {pc : Nat} {ls : Array Slot} {rest : List Value} {G : CG} {A : Nat → Prop}
theorem ag_S_X5_46_this {a : Nat → Nat} {z : RS} (X : cX RX5 G A p c cc s args m) (w : va_P G.1 vwCl (w5 G a z) H) (hdg : decode cc pc = .ok (.getfield 46, 3)) (kk : W p l e R s m args below meth c H locs cells slots Q (F0 m (pc + 3) ls (.int (z.1 8) :: rest))) : W p l e R s m args below meth c H locs cells slots Q (F0 m pc ls (.ref (a 0) :: rest)) :=
  va_get (D := G.1) (ci := 4) (v := .int (z.1 8)) (C := RX5) (T := TX5) (N := 13) X.1 X.2.1 X.2.2.1 gX5 X.2.2.2.1 X.2.2.2.2.1.1 w 0 rfl rfl 8 (by decide) (X.2.2.1 _ wf_X5_46) (fun _ h9 => h9) rfl hdg kk
end Lm_c5_momentsOut
theorem ok5_momentsOut : cOk RX5 yX5_momentsOut cX5_momentsOut 3 (some .int) 2 := ⟨wc_X5_momentsOut, wi_X5_momentsOut, ws_X5_momentsOut, wn_X5, rfl, by decide, by decide, by decide +kernel⟩
set_option maxHeartbeats 4000000 in
set_option maxRecDepth 100000 in
theorem c5_momentsOut (l : Launch) (G : CG) (a : Nat → Nat) (z : RS) (fa9 : Nat) (ma9 : Nat) (S : Sc) (hz : cSn z S) (ho : oSc S) (hf : fa9 < 5) (hm : ma9 ≤ 100000) : cMp G l yX5_momentsOut cX5_momentsOut 3 (some .int) 1 21 [.ref (a 0), .int (nI fa9), .int (nI ma9)] (w5 G a z) (fun r => r = nI (if fa9 = 0 then ma9 else ma9 - S.1 2)) := by
  refine cMp_in (by decide) rfl (Nat.le_of_ble_eq_true rfl) ?_
  intro p e s m args below meth c ls X hml hr hk hl w
  have hx := X.1
  have hb := X.2.1
  have hts := X.2.2.1
  have hown := X.2.2.2.1
  have hl : lv_has ls 3 [(0, .ref (a 0)), (1, .int (nI fa9)), (2, .int (nI ma9))] := hl
  obtain ⟨o1, o2, o3, o4, o5, o6, oso, oki, osr, opa, ohu, oco⟩ := id ho
  refine lv_iload_n hx hb dX5_momentsOut_0 rfl (lv_at hl 1 rfl) ?_
  refine jn (tgt := 18) (rest := []) (fun v9 => ∃ x9 : Int, x9 = (if fa9 = 0 then (((ma9 : Nat) : Int)) else (max (0 : Int) ((((ma9 : Nat) : Int)) - (((S.1 2 : Nat) : Int))))) ∧ v9 = iZ x9) (fun v_ hv_ => ?_) (fun k_18 => ?_)
  · obtain ⟨x_18, ex_18, rfl⟩ := hv_
    exact re_p hx hb hr hk (by rw [ex_18, ← iZ_n]; exact congrArg iZ (by split <;> omega)) dX5_momentsOut_18
  · skip
    refine n_if_ne (tgt := 8) hx hb dX5_momentsOut_1 (by decide) (by omega) (fun c_1_2 => ?_) (fun c_1_2 => ?_)
    · skip
      refine lv_iconst (v := (nI 0)) hx hb dX5_momentsOut_8 (by decide) ?_
      refine lv_iload_n hx hb dX5_momentsOut_9 rfl (lv_at hl 2 rfl) ?_
      refine lv_aload_n hx hb dX5_momentsOut_10 rfl (lv_at hl 0 rfl) ?_
      refine ag_S_X5_46_this X w dX5_momentsOut_11 ?_
      refine tp_i (show z.1 8 = (nI (S.1 2)) from cs_st hz) ?_
      refine tp_i (iZ_n (S.1 2)).symm ?_
      refine tp_i2 (iZ_n ma9).symm ?_
      refine z_isub hx hb dX5_momentsOut_14 ?_
      refine tp_i2 (show nI 0 = iZ (0 : Int) from by decide) ?_
      refine gm_max (rest := []) ⟨X.1, X.2.1, X.2.2.1, X.2.2.2.1⟩ hml hl.1 wm_X5_103 ⟨Nat.le_of_ble_eq_true rfl, Nat.le_of_ble_eq_true rfl⟩ ⟨Nat.le_refl _, Nat.le_refl _⟩ (Nat.le_of_ble_eq_true rfl) (by omega) (by omega) (by omega) (by omega) dX5_momentsOut_15 ?_
      exact k_18 _ ⟨_, by simp only [if_neg c_1_2], rfl⟩
    · skip
      refine lv_iload_n hx hb dX5_momentsOut_4 rfl (lv_at hl 2 rfl) ?_
      refine lv_goto (tgt := 18) hx hb dX5_momentsOut_5 (by decide) ?_
      exact k_18 _ ⟨((ma9 : Nat) : Int), by simp only [if_pos c_1_2], (iZ_n ma9).symm⟩

theorem ok5_cellRunning : cOk RX5 yX5_cellRunning cX5_cellRunning 3 (some .int) 2 := ⟨wc_X5_cellRunning, wi_X5_cellRunning, ws_X5_cellRunning, wn_X5, rfl, by decide, by decide, by decide +kernel⟩
set_option maxHeartbeats 4000000 in
set_option maxRecDepth 100000 in
theorem c5_cellRunning (l : Launch) (G : CG) (a : Nat → Nat) (z : RS) (fa9 : Nat) (ma9 : Nat) (S : Sc) (hz : cSn z S) (ho : oSc S) (hf : fa9 < S.1 1) (hm : ma9 ≤ 100000) : cMp G l yX5_cellRunning cX5_cellRunning 3 (some .int) 3 68 [.ref (a 0), .int (nI fa9), .int (nI ma9)] (w5 G a z) (fun r => r = nI (sp_cr S fa9 ma9)) := by
  refine cMp_in (by decide) rfl (Nat.le_of_ble_eq_true rfl) ?_
  intro p e s m args below meth c ls X hml hr hk hl w
  have hx := X.1
  have hb := X.2.1
  have hts := X.2.2.1
  have hown := X.2.2.2.1
  have hl : lv_has ls 3 [(0, .ref (a 0)), (1, .int (nI fa9)), (2, .int (nI ma9))] := hl
  obtain ⟨o1, o2, o3, o4, o5, o6, oso, oki, osr, opa, ohu, oco⟩ := id ho
  have q1 := ohu fa9
  have q5 := pc_dn01 S fa9
  refine lv_aload_n hx hb dX5_cellRunning_0 rfl (lv_at hl 0 rfl) ?_
  refine lv_iload_n hx hb dX5_cellRunning_1 rfl (lv_at hl 1 rfl) ?_
  refine gc_p (C := RX5) (ci := 4) (rest := []) X hml hl.1 (c5_isUp l G a z fa9 S hz ho (by omega)) ok5_isUp wm_X5_74 ⟨Nat.le_of_ble_eq_true rfl, Nat.le_of_ble_eq_true rfl⟩ ⟨Nat.le_refl _, Nat.le_refl _⟩ w [0, 1, 2, 3, 4, 5, 6, 7] rfl rfl rfl rfl (Nat.le_of_ble_eq_true rfl) dX5_cellRunning_2 (fun r_2 hr_2 => ?_)
  subst hr_2
  have d_2 := pc_dn01 S fa9
  refine jn (tgt := 33) (rest := []) (fun v9 => ∃ x9 : Nat, x9 = (if (1 - pc_dn S fa9) = 0 then 0 else (pc_far (S.2.1 0) (sp_pts S fa9 (S.2.1 4 fa9) (if fa9 = 0 then ma9 else ma9 - S.1 2)) (S.1 0 - 1))) ∧ v9 = nI x9) (fun v_ hv_ => ?_) (fun k_33 => ?_)
  · obtain ⟨x_33, ex_33, rfl⟩ := hv_
    exact re_p hx hb hr hk (by rw [ex_33]; unfold sp_cr; by_cases q : pc_dn S fa9 = 0; rw [if_pos q, if_neg (by omega)]; rw [if_neg q, if_pos (by omega)]) dX5_cellRunning_33
  · skip
    refine n_if_eq (tgt := 32) hx hb dX5_cellRunning_5 (by decide) (by omega) (fun c_5_2 => ?_) (fun c_5_2 => ?_)
    · skip
      refine lv_iconst (v := (nI 0)) hx hb dX5_cellRunning_32 (by decide) ?_
      exact k_33 _ ⟨_, by simp only [if_pos c_5_2], rfl⟩
    · skip
      refine lv_aload_n hx hb dX5_cellRunning_8 rfl (lv_at hl 0 rfl) ?_
      refine lv_aload_n hx hb dX5_cellRunning_9 rfl (lv_at hl 0 rfl) ?_
      refine lv_iload_n hx hb dX5_cellRunning_10 rfl (lv_at hl 1 rfl) ?_
      refine lv_aload_n hx hb dX5_cellRunning_11 rfl (lv_at hl 0 rfl) ?_
      refine ag_S_X5_31_this X w dX5_cellRunning_12 ?_
      refine lv_iload_n hx hb dX5_cellRunning_15 rfl (lv_at hl 1 rfl) ?_
      refine an_S_this_7 X w (by omega) dX5_cellRunning_16 ?_
      refine tp_i (show z.2.1 7 fa9 = (nI (S.2.1 4 fa9)) from cs_hu hz fa9 (by omega)) ?_
      refine lv_aload_n hx hb dX5_cellRunning_17 rfl (lv_at hl 0 rfl) ?_
      refine lv_iload_n hx hb dX5_cellRunning_18 rfl (lv_at hl 1 rfl) ?_
      refine lv_iload_n hx hb dX5_cellRunning_19 rfl (lv_at hl 2 rfl) ?_
      refine gc_p (C := RX5) (ci := 4) (rest := [.int (nI (S.2.1 4 fa9)), .int (nI fa9), .ref (a 0), .ref (a 0)]) X hml hl.1 (c5_momentsOut l G a z fa9 ma9 S hz ho (by omega) (by omega)) ok5_momentsOut wm_X5_93 ⟨Nat.le_of_ble_eq_true rfl, Nat.le_of_ble_eq_true rfl⟩ ⟨Nat.le_refl _, Nat.le_refl _⟩ w [0, 1, 2, 3, 4, 5, 6, 7] rfl rfl rfl rfl (Nat.le_of_ble_eq_true rfl) dX5_cellRunning_20 (fun r_20 hr_20 => ?_)
      subst hr_20
      have d_20 : (if fa9 = 0 then ma9 else ma9 - S.1 2) ≤ ma9 := by split <;> omega
      refine gc_p (C := RX5) (ci := 4) (rest := [.ref (a 0)]) X hml hl.1 (c5_pointsOf l G a z fa9 (S.2.1 4 fa9) (if fa9 = 0 then ma9 else ma9 - S.1 2) S hz ho (by omega) (by omega) (by omega)) ok5_pointsOf wm_X5_97 ⟨Nat.le_of_ble_eq_true rfl, Nat.le_of_ble_eq_true rfl⟩ ⟨Nat.le_refl _, Nat.le_refl _⟩ w [0, 1, 2, 3, 4, 5, 6, 7] rfl rfl rfl rfl (Nat.le_of_ble_eq_true rfl) dX5_cellRunning_23 (fun r_23 hr_23 => ?_)
      subst hr_23
      have d_23 := sp_pts_le S ho fa9 (S.2.1 4 fa9) (if fa9 = 0 then ma9 else ma9 - S.1 2)
      refine gc_p (C := RX5) (ci := 4) (rest := []) X hml hl.1 (c5_cellBy l G a z (sp_pts S fa9 (S.2.1 4 fa9) (if fa9 = 0 then ma9 else ma9 - S.1 2)) S hz ho (by omega)) ok5_cellBy wm_X5_100 ⟨Nat.le_of_ble_eq_true rfl, Nat.le_of_ble_eq_true rfl⟩ ⟨Nat.le_refl _, Nat.le_refl _⟩ w [0, 1, 2, 3, 4, 5, 6, 7] rfl rfl rfl rfl (Nat.le_of_ble_eq_true rfl) dX5_cellRunning_26 (fun r_26 hr_26 => ?_)
      subst hr_26
      have d_26 := pc_far_le (S.2.1 0) (sp_pts S fa9 (S.2.1 4 fa9) (if fa9 = 0 then ma9 else ma9 - S.1 2)) (S.1 0 - 1)
      refine lv_goto (tgt := 33) hx hb dX5_cellRunning_29 (by decide) ?_
      exact k_33 _ ⟨_, by simp only [if_neg c_5_2], rfl⟩

theorem ok5_comesTo : cOk RX5 yX5_comesTo cX5_comesTo 5 (some .int) 2 := ⟨wc_X5_comesTo, wi_X5_comesTo, ws_X5_comesTo, wn_X5, rfl, by decide, by decide, by decide +kernel⟩
set_option maxHeartbeats 4000000 in
set_option maxRecDepth 100000 in
theorem c5_comesTo (l : Launch) (G : CG) (a : Nat → Nat) (z : RS) (fa9 : Nat) (ca9 : Nat) (S : Sc) (hz : cSn z S) (ho : oSc S) (hf : fa9 < S.1 1) (hc : ca9 < S.1 0) : cMp G l yX5_comesTo cX5_comesTo 5 (some .int) 2 44 [.ref (a 0), .int (nI fa9), .int (nI ca9)] (w5 G a z) (fun r => r = nI (sp_com S 0 fa9 ca9)) := by
  refine cMp_in (by decide) rfl (Nat.le_of_ble_eq_true rfl) ?_
  intro p e s m args below meth c ls X hml hr hk hl w
  have hx := X.1
  have hb := X.2.1
  have hts := X.2.2.1
  have hown := X.2.2.2.1
  have hl : lv_has ls 5 [(0, .ref (a 0)), (1, .int (nI fa9)), (2, .int (nI ca9))] := hl
  obtain ⟨o1, o2, o3, o4, o5, o6, oso, oki, osr, opa, ohu, oco⟩ := id ho
  have q1 := ohu fa9
  have q2 := oki fa9
  have q3 := opa fa9
  have q4 := pc_cost_le oso ca9
  refine lv_aload_n hx hb dX5_comesTo_0 rfl (lv_at hl 0 rfl) ?_
  refine ag_S_X5_19_this X w dX5_comesTo_1 ?_
  refine lv_iload_n hx hb dX5_comesTo_4 rfl (lv_at hl 2 rfl) ?_
  refine an_S_this_2 X w (by omega) dX5_comesTo_5 ?_
  refine tp_i (show z.2.1 2 ca9 = (nI (pc_cost (S.2.1 0) ca9)) from cs_cs hz ca9 (by omega)) ?_
  refine lv_istore_n (lv' := [(3, .int (nI (pc_cost (S.2.1 0) ca9))), (0, .ref (a 0)), (1, .int (nI fa9)), (2, .int (nI ca9))]) hx hb dX5_comesTo_6 rfl hl (by decide) rfl (fun ls hl => ?_)
  refine lv_iload_n hx hb dX5_comesTo_7 rfl (lv_at hl 0 rfl) ?_
  refine n_if_ne (tgt := 13) hx hb dX5_comesTo_8 (by decide) (by omega) (fun c_8_1 => ?_) (fun c_8_1 => ?_)
  · skip
    refine lv_aload_n hx hb dX5_comesTo_13 rfl (lv_at hl 1 rfl) ?_
    refine ag_S_X5_22_this X w dX5_comesTo_14 ?_
    refine lv_iload_n hx hb dX5_comesTo_17 rfl (lv_at hl 2 rfl) ?_
    refine an_S_this_4 X w (by omega) dX5_comesTo_18 ?_
    refine tp_i (show z.2.1 4 fa9 = (nI (S.2.1 1 fa9)) from cs_ki hz fa9 (by omega)) ?_
    refine lv_istore (lv' := [(4, .int (nI (S.2.1 1 fa9))), (3, .int (nI (pc_cost (S.2.1 0) ca9))), (0, .ref (a 0)), (1, .int (nI fa9)), (2, .int (nI ca9))]) hx hb dX5_comesTo_19 hl (by decide) rfl (fun ls hl => ?_)
    refine lv_aload_n hx hb dX5_comesTo_21 rfl (lv_at hl 2 rfl) ?_
    refine ag_S_X5_46_this X w dX5_comesTo_22 ?_
    refine tp_i (show z.1 8 = (nI (S.1 2)) from cs_st hz) ?_
    refine lv_iload hx hb dX5_comesTo_25 (lv_at hl 0 rfl) ?_
    refine lv_iload hx hb dX5_comesTo_27 (lv_at hl 0 rfl) ?_
    refine lv_aload_n hx hb dX5_comesTo_29 rfl (lv_at hl 2 rfl) ?_
    refine ag_S_X5_28_this X w dX5_comesTo_30 ?_
    refine lv_iload_n hx hb dX5_comesTo_33 rfl (lv_at hl 3 rfl) ?_
    refine an_S_this_6 X w (by omega) dX5_comesTo_34 ?_
    refine tp_i (show z.2.1 6 fa9 = (nI (S.2.1 3 fa9)) from cs_pa hz fa9 (by omega)) ?_
    refine lv_aload_n hx hb dX5_comesTo_35 rfl (lv_at hl 2 rfl) ?_
    refine ag_S_X5_31_this X w dX5_comesTo_36 ?_
    refine lv_iload_n hx hb dX5_comesTo_39 rfl (lv_at hl 3 rfl) ?_
    refine an_S_this_7 X w (by omega) dX5_comesTo_40 ?_
    refine tp_i (show z.2.1 7 fa9 = (nI (S.2.1 4 fa9)) from cs_hu hz fa9 (by omega)) ?_
    refine gc_sx (C := RX3) (rest := [.int (nI (S.2.1 1 fa9)), .int (nI (S.1 2))]) ⟨X.1, X.2.1, X.2.2.1, X.2.2.2.1⟩ hml hl.1 (c3_stride l (S.2.1 1 fa9) (S.2.1 3 fa9) (S.2.1 4 fa9) (by omega) (by omega) (by omega)) ok3_stride wm_X5_87 ⟨Nat.le_of_ble_eq_true rfl, Nat.le_of_ble_eq_true rfl⟩ ⟨Nat.le_refl _, Nat.le_refl _⟩ rfl (Nat.le_of_ble_eq_true rfl) dX5_comesTo_41 (fun r_41 hr_41 => ?_)
    subst hr_41
    have d_41 := pc_pace_le (S.2.1 1 fa9) (S.2.1 3 fa9) (S.2.1 4 fa9) (by omega)
    have b_41 := pc_pace_ge (S.2.1 1 fa9) (S.2.1 3 fa9) (S.2.1 4 fa9)
    refine lv_iload_n hx hb dX5_comesTo_44 rfl (lv_at hl 1 rfl) ?_
    refine gc_sx (C := RX3) (rest := [.int (nI (S.1 2))]) ⟨X.1, X.2.1, X.2.2.1, X.2.2.2.1⟩ hml hl.1 (c3_momentsFor l (S.2.1 1 fa9) (pc_pace (S.2.1 1 fa9) (S.2.1 3 fa9) (S.2.1 4 fa9)) (pc_cost (S.2.1 0) ca9) (by omega) (by omega) (by omega) (by omega)) ok3_momentsFor wm_X5_119 ⟨Nat.le_of_ble_eq_true rfl, Nat.le_of_ble_eq_true rfl⟩ ⟨Nat.le_refl _, Nat.le_refl _⟩ rfl (Nat.le_of_ble_eq_true rfl) dX5_comesTo_45 (fun r_45 hr_45 => ?_)
    subst hr_45
    refine n_iadd hx hb dX5_comesTo_48 ?_
    exact re_p hx hb hr hk (congrArg nI (com_ok ho hc (by omega))) dX5_comesTo_49
  · skip
    refine lv_iconst (v := (nI 0)) hx hb dX5_comesTo_11 (by decide) ?_
    exact re_p hx hb hr hk (by unfold sp_com; rw [if_pos (by omega)]) dX5_comesTo_12

theorem ok5_isCaughtIn : cOk RX5 yX5_isCaughtIn cX5_isCaughtIn 5 (some .boolean) 1 := ⟨wc_X5_isCaughtIn, wi_X5_isCaughtIn, ws_X5_isCaughtIn, wn_X5, rfl, by decide, by decide, by decide +kernel⟩
set_option maxHeartbeats 4000000 in
set_option maxRecDepth 100000 in
theorem c5_isCaughtIn (l : Launch) (G : CG) (a : Nat → Nat) (z : RS) (ma9 : Nat) (S : Sc) (hz : cSn z S) (ho : oSc S) (h2 : 1 ≤ S.1 1) (hm : ma9 ≤ 100000) : cMp G l yX5_isCaughtIn cX5_isCaughtIn 5 (some .boolean) 4 90 [.ref (a 0), .int (nI ma9)] (w5 G a z) (fun r => r = nI (sp_ct S 0 ma9)) := by
  refine cMp_in (by decide) rfl (Nat.le_of_ble_eq_true rfl) ?_
  intro p e s m args below meth c ls X hml hr hk hl w
  have hx := X.1
  have hb := X.2.1
  have hts := X.2.2.1
  have hown := X.2.2.2.1
  have hl : lv_has ls 5 [(0, .ref (a 0)), (1, .int (nI ma9))] := hl
  obtain ⟨o1, o2, o3, o4, o5, o6, oso, oki, osr, opa, ohu, oco⟩ := id ho
  refine lv_aload_n hx hb dX5_isCaughtIn_0 rfl (lv_at hl 0 rfl) ?_
  refine lv_iconst (v := (nI 0)) hx hb dX5_isCaughtIn_1 (by decide) ?_
  refine lv_iload_n hx hb dX5_isCaughtIn_2 rfl (lv_at hl 1 rfl) ?_
  refine gc_p (C := RX5) (ci := 4) (rest := []) X hml hl.1 (c5_cellRunning l G a z 0 ma9 S hz ho (by omega) (by omega)) ok5_cellRunning wm_X5_112 ⟨Nat.le_of_ble_eq_true rfl, Nat.le_of_ble_eq_true rfl⟩ ⟨Nat.le_refl _, Nat.le_refl _⟩ w [0, 1, 2, 3, 4, 5, 6, 7] rfl rfl rfl rfl (Nat.le_of_ble_eq_true rfl) dX5_isCaughtIn_3 (fun r_3 hr_3 => ?_)
  subst hr_3
  refine tp_i (show nI (sp_cr S 0 ma9) = nI (sp_run S ma9) from rfl) ?_
  have d_3 := sp_run_lt S ho ma9
  refine lv_istore_n (lv' := [(2, .int (nI (sp_run S ma9))), (0, .ref (a 0)), (1, .int (nI ma9))]) hx hb dX5_isCaughtIn_6 rfl hl (by decide) rfl (fun ls hl => ?_)
  refine lv_iload_n hx hb dX5_isCaughtIn_7 rfl (lv_at hl 0 rfl) ?_
  refine lv_aload_n hx hb dX5_isCaughtIn_8 rfl (lv_at hl 1 rfl) ?_
  refine ag_S_X5_9_this X w dX5_isCaughtIn_9 ?_
  refine tp_i (show z.1 0 = (nI (S.1 0)) from cs_ce hz) ?_
  refine lv_iconst (v := (nI 1)) hx hb dX5_isCaughtIn_12 (by decide) ?_
  refine n_isub hx hb dX5_isCaughtIn_13 (by omega) ?_
  refine jn (tgt := 22) (rest := []) (fun v9 => ∃ x9 : Nat, x9 = (if (sp_run S ma9) = ((S.1 0) - 1) then 1 else 0) ∧ v9 = nI x9) (fun v_ hv_ => ?_) (fun k_22 => ?_)
  · obtain ⟨x_22, ex_22, rfl⟩ := hv_
    have q9 : x_22 ≤ 1 := by rw [ex_22]; split <;> omega
    refine lv_istore_n (lv' := [(3, .int (nI x_22)), (2, .int (nI (sp_run S ma9))), (0, .ref (a 0)), (1, .int (nI ma9))]) hx hb dX5_isCaughtIn_22 rfl hl (by decide) rfl (fun ls hl => ?_)
    refine lv_iconst (v := (nI 1)) hx hb dX5_isCaughtIn_23 (by decide) ?_
    refine lv_istore (lv' := [(4, .int (nI 1)), (3, .int (nI x_22)), (2, .int (nI (sp_run S ma9))), (0, .ref (a 0)), (1, .int (nI ma9))]) hx hb dX5_isCaughtIn_24 hl (by decide) rfl (fun ls hl => ?_)
    have lp_26 : ∀ (n_26 : Nat) (i : Nat) (hi : i ≤ S.1 1 - 1) (hm_26 : S.1 1 - i < n_26) (ls : Array Slot), lv_has ls 5 [(0, .ref (a 0)), (1, .int (nI ma9)), (2, .int (nI (sp_run S ma9))), (3, .int (nI (sp_ctL S 0 (pc_cost (S.2.1 0) (sp_run S ma9)) ma9 x_22 i))), (4, .int (nI (i + 1)))] → W p l e (ro_m 4 90) s m args below meth c s.heap [] 0 0 (MQ below (vp_Si (fun r => r = nI (sp_ct S 0 ma9))) args s 0 0 (fun _ => False)) (F0 m 26 ls []) := by
      intro n_26
      induction n_26 with
      | zero => intro i hi hm; exact absurd hm (Nat.not_lt_zero _)
      | succ n_26 ih_26 =>
        intro i hi hm_26 ls hl
        have q1 := sp_ctL01 S 0 (pc_cost (S.2.1 0) (sp_run S ma9)) ma9 x_22 q9 i
        refine lv_iload hx hb dX5_isCaughtIn_26 (lv_at hl 4 rfl) ?_
        refine lv_aload_n hx hb dX5_isCaughtIn_28 rfl (lv_at hl 0 rfl) ?_
        refine ag_S_X5_43_this X w dX5_isCaughtIn_29 ?_
        refine tp_i (show z.1 3 = (nI (S.1 1)) from cs_nf hz) ?_
        refine n_icmp_ge (tgt := 71) hx hb dX5_isCaughtIn_32 (by decide) (by omega) (by omega) (fun c_32_2 => ?_) (fun c_32_2 => ?_)
        · skip
          refine lv_iload_n hx hb dX5_isCaughtIn_71 rfl (lv_at hl 3 rfl) ?_
          exact re_pz hx hb hr hk (u01 (by omega)) (by first | (rw [show i = S.1 1 - 1 by omega, ex_22]; rfl) | (rw [← ctL_st (by omega) q9 (S.1 1 - 1 - i), show i + (S.1 1 - 1 - i) = S.1 1 - 1 by omega, ex_22]; rfl)) dX5_isCaughtIn_72
        · skip
          refine lv_iload_n hx hb dX5_isCaughtIn_35 rfl (lv_at hl 3 rfl) ?_
          refine n_if_ne (tgt := 71) hx hb dX5_isCaughtIn_36 (by decide) (by omega) (fun c_36_3 => ?_) (fun c_36_3 => ?_)
          · skip
            refine lv_iload_n hx hb dX5_isCaughtIn_71 rfl (lv_at hl 3 rfl) ?_
            exact re_pz hx hb hr hk (u01 (by omega)) (by first | (rw [show i = S.1 1 - 1 by omega, ex_22]; rfl) | (rw [← ctL_st (by omega) q9 (S.1 1 - 1 - i), show i + (S.1 1 - 1 - i) = S.1 1 - 1 by omega, ex_22]; rfl)) dX5_isCaughtIn_72
          · skip
            refine lv_aload_n hx hb dX5_isCaughtIn_39 rfl (lv_at hl 0 rfl) ?_
            refine lv_iload hx hb dX5_isCaughtIn_40 (lv_at hl 4 rfl) ?_
            refine gc_p (C := RX5) (ci := 4) (rest := []) X hml hl.1 (c5_isUp l G a z (i + 1) S hz ho (by omega)) ok5_isUp wm_X5_74 ⟨Nat.le_of_ble_eq_true rfl, Nat.le_of_ble_eq_true rfl⟩ ⟨Nat.le_refl _, Nat.le_refl _⟩ w [0, 1, 2, 3, 4, 5, 6, 7] rfl rfl rfl rfl (Nat.le_of_ble_eq_true rfl) dX5_isCaughtIn_42 (fun r_42 hr_42 => ?_)
            subst hr_42
            have d_42 := pc_dn01 S (i + 1)
            refine jn (tgt := 64) (rest := []) (fun v9 => ∃ x9 : Nat, x9 = (if (1 - pc_dn S (i + 1)) = 0 then 0 else (if ma9 < (sp_com S 0 (i + 1) (sp_run S ma9)) then 0 else 1)) ∧ v9 = nI x9) (fun v_ hv_ => ?_) (fun k_64 => ?_)
            · obtain ⟨x_64, ex_64, rfl⟩ := hv_
              refine lv_istore_n (lv' := [(3, .int (nI x_64)), (0, .ref (a 0)), (1, .int (nI ma9)), (2, .int (nI (sp_run S ma9))), (4, .int (nI (i + 1)))]) hx hb dX5_isCaughtIn_64 rfl hl (by decide) rfl (fun ls hl => ?_)
              refine lv_iinc (v := (nI (i + 1 + 1))) (lv' := [(4, .int (nI (i + 1 + 1))), (3, .int (nI x_64)), (0, .ref (a 0)), (1, .int (nI ma9)), (2, .int (nI (sp_run S ma9)))]) hx hb dX5_isCaughtIn_65 hl (k := 4) rfl (by first | exact nI_1 _ | (rw [show Int32.ofInt 1 = nI 1 from by decide, nI_add])) (by decide) rfl (fun ls hl => ?_)
              refine lv_goto (tgt := 26) hx hb dX5_isCaughtIn_68 (by decide) ?_
              have e64 := ct_s ho (by omega) (by omega) ex_64
              subst e64
              exact ih_26 (i + 1) (by omega) (by omega) ls (lv_sub hl [2, 3, 4, 1, 0] rfl)
            · skip
              refine n_if_eq (tgt := 63) hx hb dX5_isCaughtIn_45 (by decide) (by omega) (fun c_45_5 => ?_) (fun c_45_5 => ?_)
              · skip
                refine lv_iconst (v := (nI 0)) hx hb dX5_isCaughtIn_63 (by decide) ?_
                exact k_64 _ ⟨_, by simp only [if_pos c_45_5], rfl⟩
              · skip
                refine lv_aload_n hx hb dX5_isCaughtIn_48 rfl (lv_at hl 0 rfl) ?_
                refine lv_iload hx hb dX5_isCaughtIn_49 (lv_at hl 4 rfl) ?_
                refine lv_iload_n hx hb dX5_isCaughtIn_51 rfl (lv_at hl 2 rfl) ?_
                refine gc_p (C := RX5) (ci := 4) (rest := []) X hml hl.1 (c5_comesTo l G a z (i + 1) (sp_run S ma9) S hz ho (by omega) (by omega)) ok5_comesTo wm_X5_122 ⟨Nat.le_of_ble_eq_true rfl, Nat.le_of_ble_eq_true rfl⟩ ⟨Nat.le_refl _, Nat.le_refl _⟩ w [0, 1, 2, 3, 4, 5, 6, 7] rfl rfl rfl rfl (Nat.le_of_ble_eq_true rfl) dX5_isCaughtIn_52 (fun r_52 hr_52 => ?_)
                subst hr_52
                have d_52 := sp_com_le S ho 0 (i + 1) (sp_run S ma9) (by omega)
                refine lv_iload_n hx hb dX5_isCaughtIn_55 rfl (lv_at hl 1 rfl) ?_
                refine n_icmp_gt (tgt := 63) hx hb dX5_isCaughtIn_56 (by decide) (by omega) (by omega) (fun c_56_6 => ?_) (fun c_56_6 => ?_)
                · skip
                  refine lv_iconst (v := (nI 0)) hx hb dX5_isCaughtIn_63 (by decide) ?_
                  exact k_64 _ ⟨_, by simp only [if_neg c_45_5, if_pos c_56_6], rfl⟩
                · skip
                  refine lv_iconst (v := (nI 1)) hx hb dX5_isCaughtIn_59 (by decide) ?_
                  refine lv_goto (tgt := 64) hx hb dX5_isCaughtIn_60 (by decide) ?_
                  exact k_64 _ ⟨_, by simp only [if_neg c_45_5, if_neg c_56_6], rfl⟩
    exact lp_26 _ 0 (Nat.zero_le _) (Nat.lt_succ_self _) ls (lv_sub hl [3, 4, 2, 1, 0] rfl)
  · skip
    refine n_icmp_ne (tgt := 21) hx hb dX5_isCaughtIn_14 (by decide) (by omega) (by omega) (fun c_14_7 => ?_) (fun c_14_7 => ?_)
    · skip
      refine lv_iconst (v := (nI 0)) hx hb dX5_isCaughtIn_21 (by decide) ?_
      exact k_22 _ ⟨_, by simp only [if_neg c_14_7], rfl⟩
    · skip
      refine lv_iconst (v := (nI 1)) hx hb dX5_isCaughtIn_17 (by decide) ?_
      refine lv_goto (tgt := 22) hx hb dX5_isCaughtIn_18 (by decide) ?_
      exact k_22 _ ⟨_, by simp only [if_pos c_14_7], rfl⟩

theorem ok5_turnMoment : cOk RX5 yX5_turnMoment cX5_turnMoment 4 (some .int) 2 := ⟨wc_X5_turnMoment, wi_X5_turnMoment, ws_X5_turnMoment, wn_X5, rfl, by decide, by decide, by decide +kernel⟩
set_option maxHeartbeats 4000000 in
set_option maxRecDepth 100000 in
theorem c5_turnMoment (l : Launch) (G : CG) (a : Nat → Nat) (z : RS) (na9 : Nat) (ta9 : Nat) (S : Sc) (hz : cSn z S) (ho : oSc S) (h2 : 1 ≤ S.1 1) (hn : na9 ≤ 90000) (ht : ta9 ≤ 90000) : cMp G l yX5_turnMoment cX5_turnMoment 4 (some .int) 5 114 [.ref (a 0), .int (nI na9), .int (nI ta9)] (w5 G a z) (fun r => r = nI (sp_tm S 0 (ta9 - na9) na9)) := by
  refine cMp_in (by decide) rfl (Nat.le_of_ble_eq_true rfl) ?_
  intro p e s m args below meth c ls X hml hr hk hl w
  have hx := X.1
  have hb := X.2.1
  have hts := X.2.2.1
  have hown := X.2.2.2.1
  have hl : lv_has ls 4 [(0, .ref (a 0)), (1, .int (nI na9)), (2, .int (nI ta9))] := hl
  obtain ⟨o1, o2, o3, o4, o5, o6, oso, oki, osr, opa, ohu, oco⟩ := id ho
  refine lv_iload_n hx hb dX5_turnMoment_0 rfl (lv_at hl 1 rfl) ?_
  refine lv_istore_n (lv' := [(3, .int (nI na9)), (0, .ref (a 0)), (1, .int (nI na9)), (2, .int (nI ta9))]) hx hb dX5_turnMoment_1 rfl hl (by decide) rfl (fun ls hl => ?_)
  have lp_2 : ∀ (n_2 : Nat) (i : Nat) (hi : i ≤ 90000) (hi2 : sp_tm S 0 (ta9 - na9) na9 = sp_tm S 0 (ta9 - i) i) (hm_2 : ta9 - i < n_2) (ls : Array Slot), lv_has ls 4 [(0, .ref (a 0)), (1, .int (nI na9)), (2, .int (nI ta9)), (3, .int (nI i))] → W p l e (ro_m 5 114) s m args below meth c s.heap [] 0 0 (MQ below (vp_Si (fun r => r = nI (sp_tm S 0 (ta9 - na9) na9))) args s 0 0 (fun _ => False)) (F0 m 2 ls []) := by
    intro n_2
    induction n_2 with
    | zero => intro i hi hi2 hm; exact absurd hm (Nat.not_lt_zero _)
    | succ n_2 ih_2 =>
      intro i hi hi2 hm_2 ls hl
      refine lv_iload_n hx hb dX5_turnMoment_2 rfl (lv_at hl 3 rfl) ?_
      refine lv_iload_n hx hb dX5_turnMoment_3 rfl (lv_at hl 2 rfl) ?_
      refine n_icmp_ge (tgt := 20) hx hb dX5_turnMoment_4 (by decide) (by omega) (by omega) (fun c_4_1 => ?_) (fun c_4_1 => ?_)
      · skip
        refine lv_iload_n hx hb dX5_turnMoment_20 rfl (lv_at hl 3 rfl) ?_
        exact re_p hx hb hr hk (by rw [hi2, show ta9 - i = 0 by omega]; rfl) dX5_turnMoment_21
      · skip
        refine lv_iinc (v := (nI (i + 1))) (lv' := [(3, .int (nI (i + 1))), (0, .ref (a 0)), (1, .int (nI na9)), (2, .int (nI ta9))]) hx hb dX5_turnMoment_7 hl (k := 3) rfl (by first | exact nI_1 _ | (rw [show Int32.ofInt 1 = nI 1 from by decide, nI_add])) (by decide) rfl (fun ls hl => ?_)
        refine lv_aload_n hx hb dX5_turnMoment_10 rfl (lv_at hl 1 rfl) ?_
        refine lv_iload_n hx hb dX5_turnMoment_11 rfl (lv_at hl 0 rfl) ?_
        refine gc_p (C := RX5) (ci := 4) (rest := []) X hml hl.1 (c5_isCaughtIn l G a z (i + 1) S hz ho (by omega) (by omega)) ok5_isCaughtIn wm_X5_125 ⟨Nat.le_of_ble_eq_true rfl, Nat.le_of_ble_eq_true rfl⟩ ⟨Nat.le_refl _, Nat.le_refl _⟩ w [0, 1, 2, 3, 4, 5, 6, 7] rfl rfl rfl rfl (Nat.le_of_ble_eq_true rfl) dX5_turnMoment_12 (fun r_12 hr_12 => ?_)
        subst hr_12
        have d_12 := sp_ct01 S 0 (i + 1)
        refine n_if_eq (tgt := 2) hx hb dX5_turnMoment_15 (by decide) (by omega) (fun c_15_2 => ?_) (fun c_15_2 => ?_)
        · skip
          exact ih_2 (i + 1) (by omega) (by rw [hi2, tm_s (by omega), if_pos (by omega)]) (by omega) ls (lv_sub hl [1, 2, 3, 0] rfl)
        · skip
          refine lv_iload_n hx hb dX5_turnMoment_18 rfl (lv_at hl 0 rfl) ?_
          exact re_p hx hb hr hk (by rw [hi2, tm_s (by omega), if_neg (by omega)]) dX5_turnMoment_19
  exact lp_2 _ na9 (by omega) rfl (Nat.lt_succ_self _) ls (lv_sub hl [1, 2, 3, 0] rfl)
