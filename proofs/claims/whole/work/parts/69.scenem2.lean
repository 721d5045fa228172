section Lm_c5_cellBehindTurn
variable {p : Program} {l : Launch} {e : Env} {R : Room} {s : State} {m : MethodId} {args : Array Value} {below : List Frame} {meth : Method} {c : Code} {H : Heap} {locs : List Loc} {cells slots : Nat} {Q : State → Prop}
variable {cc : ByteArray} {pc : Nat} {ls : Array Slot} {rest : List Value} {G : CG} {A : Nat → Prop}
theorem ag_S_X5_37_this {a : Nat → Nat} {z : RS} (X : cX RX5 G A p c cc s args m) (w : va_P G.1 vwCl (w5 G a z) H) (hdg : decode cc pc = .ok (.getfield 37, 3)) (kk : W p l e R s m args below meth c H locs cells slots Q (F0 m (pc + 3) ls (.ref (a 12) :: rest))) : W p l e R s m args below meth c H locs cells slots Q (F0 m pc ls (.ref (a 0) :: rest)) :=
  va_get (D := G.1) (ci := 4) (v := .ref (a 12)) (C := RX5) (T := TX5) (N := 13) X.1 X.2.1 X.2.2.1 gX5 X.2.2.2.1 X.2.2.2.2.1.1 w 0 rfl rfl 11 (by decide) (X.2.2.1 _ wf_X5_37) (fun _ h9 => h9) rfl hdg kk
theorem an_S_this_11 {own : String} {a : Nat → Nat} {z : RS} {j : Nat} (X : cX own G A p c cc s args m) (w : va_P G.1 vwCl (w5 G a z) H) (hj : j < 5) (hdg : decode cc pc = .ok (.iaload, 1)) (kk : W p l e R s m args below meth c H locs cells slots Q (F0 m (pc + 1) ls (.int (z.2.1 11 j) :: rest))) : W p l e R s m args below meth c H locs cells slots Q (F0 m pc ls (.int (nI j) :: .ref (a 12) :: rest)) :=
  va_iald X.1 X.2.1 X.2.2.2.2.1.1 w 7 0 rfl rfl (vp_in_nI hj (by decide)) hdg (by rw [nI_clamp (by omega)]; exact kk)
theorem ag_S_X5_49_this {a : Nat → Nat} {z : RS} (X : cX RX5 G A p c cc s args m) (w : va_P G.1 vwCl (w5 G a z) H) (hdg : decode cc pc = .ok (.getfield 49, 3)) (kk : W p l e R s m args below meth c H locs cells slots Q (F0 m (pc + 3) ls (.int (z.1 9) :: rest))) : W p l e R s m args below meth c H locs cells slots Q (F0 m pc ls (.ref (a 0) :: rest)) :=
  va_get (D := G.1) (ci := 4) (v := .int (z.1 9)) (C := RX5) (T := TX5) (N := 13) X.1 X.2.1 X.2.2.1 gX5 X.2.2.2.1 X.2.2.2.2.1.1 w 0 rfl rfl 9 (by decide) (X.2.2.1 _ wf_X5_49) (fun _ h9 => h9) rfl hdg kk
end Lm_c5_cellBehindTurn
theorem ok5_cellBehindTurn : cOk RX5 yX5_cellBehindTurn cX5_cellBehindTurn 2 (some .int) 1 := ⟨wc_X5_cellBehindTurn, wi_X5_cellBehindTurn, ws_X5_cellBehindTurn, wn_X5, rfl, by decide, by decide, by decide +kernel⟩
set_option maxHeartbeats 4000000 in
set_option maxRecDepth 100000 in
theorem c5_cellBehindTurn (l : Launch) (G : CG) (a : Nat → Nat) (z : RS) (fa9 : Nat) (S : Sc) (hz : cSc z S) (ho : oSc S) (ht : ¬ S.1 4 = 0) (h1 : 1 ≤ fa9) (hf : fa9 < S.1 1) (hm : S.1 3 < 99999) (hI : tI S) : cMp G l yX5_cellBehindTurn cX5_cellBehindTurn 2 (some .int) 3 68 [.ref (a 0), .int (nI fa9)] (w5 G a z) (fun r => r = nI (sp_place S fa9)) := by
  refine cMp_in (by decide) rfl (Nat.le_of_ble_eq_true rfl) ?_
  intro p e s m args below meth c ls X hml hr hk hl w
  have hx := X.1
  have hb := X.2.1
  have hts := X.2.2.1
  have hown := X.2.2.2.1
  have hl : lv_has ls 2 [(0, .ref (a 0)), (1, .int (nI fa9))] := hl
  obtain ⟨o1, o2, o3, o4, o5, o6, oso, oki, osr, opa, ohu, oco⟩ := id ho
  have q1 := ohu fa9
  have q2 := oco fa9
  have q3 := nv_bd (oco fa9)
  have q4 := nv_le q2 hm
  have hI2 := hI ht fa9 h1 hf
  have e9 : pc_nv (S.2.1 5 fa9) = 1073741824 ↔ S.2.1 5 fa9 = 99999 := by unfold pc_nv; split <;> omega
  refine lv_aload_n hx hb dX5_cellBehindTurn_0 rfl (lv_at hl 0 rfl) ?_
  refine ag_S_X5_37_this X w dX5_cellBehindTurn_1 ?_
  refine lv_iload_n hx hb dX5_cellBehindTurn_4 rfl (lv_at hl 1 rfl) ?_
  refine an_S_this_11 X w (by omega) dX5_cellBehindTurn_5 ?_
  refine tp_i (show z.2.1 11 fa9 = (nI (pc_nv (S.2.1 5 fa9))) from cs_co hz fa9 (by first | assumption | omega) (by omega) (by omega)) ?_
  refine lv_ldc hx hb hown (hts _ wk_X5_118) dX5_cellBehindTurn_6 ?_
  refine tp_i (show (1073741824 : Int32) = (nI 1073741824) from by decide) ?_
  refine n_icmp_ne (tgt := 13) hx hb dX5_cellBehindTurn_8 (by decide) (by omega) (by omega) (fun c_8_1 => ?_) (fun c_8_1 => ?_)
  · skip
    refine lv_aload_n hx hb dX5_cellBehindTurn_13 rfl (lv_at hl 0 rfl) ?_
    refine ag_S_X5_37_this X w dX5_cellBehindTurn_14 ?_
    refine lv_iload_n hx hb dX5_cellBehindTurn_17 rfl (lv_at hl 1 rfl) ?_
    refine an_S_this_11 X w (by omega) dX5_cellBehindTurn_18 ?_
    refine tp_i (show z.2.1 11 fa9 = (nI (pc_nv (S.2.1 5 fa9))) from cs_co hz fa9 (by first | assumption | omega) (by omega) (by omega)) ?_
    refine lv_aload_n hx hb dX5_cellBehindTurn_19 rfl (lv_at hl 0 rfl) ?_
    refine ag_S_X5_49_this X w dX5_cellBehindTurn_20 ?_
    refine tp_i (show z.1 9 = (nI (S.1 3)) from cs_mo hz.1) ?_
    refine n_icmp_gt (tgt := 31) hx hb dX5_cellBehindTurn_23 (by decide) (by omega) (by omega) (fun c_23_2 => ?_) (fun c_23_2 => ?_)
    · skip
      refine lv_aload_n hx hb dX5_cellBehindTurn_31 rfl (lv_at hl 0 rfl) ?_
      refine lv_aload_n hx hb dX5_cellBehindTurn_32 rfl (lv_at hl 0 rfl) ?_
      refine lv_iload_n hx hb dX5_cellBehindTurn_33 rfl (lv_at hl 1 rfl) ?_
      refine lv_aload_n hx hb dX5_cellBehindTurn_34 rfl (lv_at hl 0 rfl) ?_
      refine ag_S_X5_31_this X w dX5_cellBehindTurn_35 ?_
      refine lv_iload_n hx hb dX5_cellBehindTurn_38 rfl (lv_at hl 1 rfl) ?_
      refine an_S_this_7 X w (by omega) dX5_cellBehindTurn_39 ?_
      refine tp_i (show z.2.1 7 fa9 = (nI (S.2.1 4 fa9)) from cs_hu hz.1 fa9 (by omega)) ?_
      refine lv_aload_n hx hb dX5_cellBehindTurn_40 rfl (lv_at hl 0 rfl) ?_
      refine lv_iload_n hx hb dX5_cellBehindTurn_41 rfl (lv_at hl 1 rfl) ?_
      refine lv_aload_n hx hb dX5_cellBehindTurn_42 rfl (lv_at hl 0 rfl) ?_
      refine ag_S_X5_49_this X w dX5_cellBehindTurn_43 ?_
      refine tp_i (show z.1 9 = (nI (S.1 3)) from cs_mo hz.1) ?_
      refine gc_p (C := RX5) (ci := 4) (rest := [.int (nI (S.2.1 4 fa9)), .int (nI fa9), .ref (a 0), .ref (a 0)]) X hml hl.1 (c5_momentsOut l G a z fa9 (S.1 3) S hz.1 ho (by omega) (by omega)) ok5_momentsOut wm_X5_93 ⟨Nat.le_of_ble_eq_true rfl, Nat.le_of_ble_eq_true rfl⟩ ⟨Nat.le_refl _, Nat.le_refl _⟩ w [0, 1, 2, 3, 4, 5, 6, 7] rfl rfl rfl rfl (Nat.le_of_ble_eq_true rfl) dX5_cellBehindTurn_46 (fun r_46 hr_46 => ?_)
      subst hr_46
      have d_46 : (if fa9 = 0 then (S.1 3) else (S.1 3) - S.1 2) ≤ (S.1 3) := by split <;> omega
      refine gc_p (C := RX5) (ci := 4) (rest := [.ref (a 0)]) X hml hl.1 (c5_pointsOf l G a z fa9 (S.2.1 4 fa9) (if fa9 = 0 then (S.1 3) else (S.1 3) - S.1 2) S hz.1 ho (by omega) (by omega) (by omega)) ok5_pointsOf wm_X5_97 ⟨Nat.le_of_ble_eq_true rfl, Nat.le_of_ble_eq_true rfl⟩ ⟨Nat.le_refl _, Nat.le_refl _⟩ w [0, 1, 2, 3, 4, 5, 6, 7] rfl rfl rfl rfl (Nat.le_of_ble_eq_true rfl) dX5_cellBehindTurn_49 (fun r_49 hr_49 => ?_)
      subst hr_49
      have d_49 := sp_pts_le S ho fa9 (S.2.1 4 fa9) (if fa9 = 0 then (S.1 3) else (S.1 3) - S.1 2)
      refine gc_p (C := RX5) (ci := 4) (rest := []) X hml hl.1 (c5_cellBy l G a z (sp_pts S fa9 (S.2.1 4 fa9) (if fa9 = 0 then (S.1 3) else (S.1 3) - S.1 2)) S hz.1 ho (by omega)) ok5_cellBy wm_X5_100 ⟨Nat.le_of_ble_eq_true rfl, Nat.le_of_ble_eq_true rfl⟩ ⟨Nat.le_refl _, Nat.le_refl _⟩ w [0, 1, 2, 3, 4, 5, 6, 7] rfl rfl rfl rfl (Nat.le_of_ble_eq_true rfl) dX5_cellBehindTurn_52 (fun r_52 hr_52 => ?_)
      subst hr_52
      have d_52 := pc_far_le (S.2.1 0) (sp_pts S fa9 (S.2.1 4 fa9) (if fa9 = 0 then (S.1 3) else (S.1 3) - S.1 2)) (S.1 0 - 1)
      exact re_p hx hb hr hk (by rw [pl_3 ho ht (by omega) (by omega) (by omega) (by omega)]) dX5_cellBehindTurn_55
    · skip
      refine lv_aload_n hx hb dX5_cellBehindTurn_26 rfl (lv_at hl 0 rfl) ?_
      refine ag_S_X5_34_this X w dX5_cellBehindTurn_27 ?_
      refine tp_i (show z.1 10 = (pc_sd (S.1 4)) from cs_sd hz.1) ?_
      exact re_p hx hb hr hk (by rw [pl_2 ht (by omega) (by omega)]; unfold pc_sd; rw [if_neg ht]) dX5_cellBehindTurn_30
  · skip
    refine lv_iconst (v := (nI 0)) hx hb dX5_cellBehindTurn_11 (by decide) ?_
    exact re_p hx hb hr hk (by rw [pl_1 ht (by omega) hm (by omega) (by omega)]) dX5_cellBehindTurn_12

theorem ok5_cellNow : cOk RX5 yX5_cellNow cX5_cellNow 2 (some .int) 1 := ⟨wc_X5_cellNow, wi_X5_cellNow, ws_X5_cellNow, wn_X5, rfl, by decide, by decide, by decide +kernel⟩
set_option maxHeartbeats 4000000 in
set_option maxRecDepth 100000 in
theorem c5_cellNow (l : Launch) (G : CG) (a : Nat → Nat) (z : RS) (fa9 : Nat) (S : Sc) (hz : cSc z S) (ho : oSc S) (hf : fa9 < S.1 1) (hm : S.1 3 < 99999) (hI : tI S) : cMp G l yX5_cellNow cX5_cellNow 2 (some .int) 4 90 [.ref (a 0), .int (nI fa9)] (w5 G a z) (fun r => r = nI (sp_place S fa9)) := by
  refine cMp_in (by decide) rfl (Nat.le_of_ble_eq_true rfl) ?_
  intro p e s m args below meth c ls X hml hr hk hl w
  have hx := X.1
  have hb := X.2.1
  have hts := X.2.2.1
  have hown := X.2.2.2.1
  have hl : lv_has ls 2 [(0, .ref (a 0)), (1, .int (nI fa9))] := hl
  obtain ⟨o1, o2, o3, o4, o5, o6, oso, oki, osr, opa, ohu, oco⟩ := id ho
  refine lv_aload_n hx hb dX5_cellNow_0 rfl (lv_at hl 0 rfl) ?_
  refine gc_p (C := RX5) (ci := 4) (rest := []) X hml hl.1 (c5_hasTurned l G a z  S hz.1 ho ) ok5_hasTurned wm_X5_108 ⟨Nat.le_of_ble_eq_true rfl, Nat.le_of_ble_eq_true rfl⟩ ⟨Nat.le_refl _, Nat.le_refl _⟩ w [0, 1, 2, 3, 4, 5, 6, 7] rfl rfl rfl rfl (Nat.le_of_ble_eq_true rfl) dX5_cellNow_1 (fun r_1 hr_1 => ?_)
  subst hr_1
  have d_1 := pc_td_ok S
  refine n_if_ne (tgt := 17) hx hb dX5_cellNow_4 (by decide) (by omega) (fun c_4_1 => ?_) (fun c_4_1 => ?_)
  · skip
    have ht : ¬ S.1 4 = 0 := by omega
    refine lv_iload_n hx hb dX5_cellNow_17 rfl (lv_at hl 1 rfl) ?_
    refine n_if_ne (tgt := 28) hx hb dX5_cellNow_18 (by decide) (by omega) (fun c_18_2 => ?_) (fun c_18_2 => ?_)
    · skip
      refine lv_aload_n hx hb dX5_cellNow_28 rfl (lv_at hl 0 rfl) ?_
      refine lv_iload_n hx hb dX5_cellNow_29 rfl (lv_at hl 1 rfl) ?_
      refine gc_p (C := RX5) (ci := 4) (rest := []) X hml hl.1 (c5_cellBehindTurn l G a z fa9 S hz ho ht (by omega) (by omega) (by omega) (by assumption)) ok5_cellBehindTurn wm_X5_115 ⟨Nat.le_of_ble_eq_true rfl, Nat.le_of_ble_eq_true rfl⟩ ⟨Nat.le_refl _, Nat.le_refl _⟩ w [0, 1, 2, 3, 4, 5, 6, 7] rfl rfl rfl rfl (Nat.le_of_ble_eq_true rfl) dX5_cellNow_30 (fun r_30 hr_30 => ?_)
      subst hr_30
      exact re_p hx hb hr hk (rfl) dX5_cellNow_33
    · skip
      refine lv_aload_n hx hb dX5_cellNow_21 rfl (lv_at hl 0 rfl) ?_
      refine ag_S_X5_34_this X w dX5_cellNow_22 ?_
      refine tp_i (show z.1 10 = (pc_sd (S.1 4)) from cs_sd hz.1) ?_
      refine lv_goto (tgt := 33) hx hb dX5_cellNow_25 (by decide) ?_
      exact re_p hx hb hr hk (by rw [show fa9 = 0 by omega, pl_st ht]; unfold pc_sd; rw [if_neg ht]) dX5_cellNow_33
  · skip
    refine lv_aload_n hx hb dX5_cellNow_7 rfl (lv_at hl 0 rfl) ?_
    refine lv_iload_n hx hb dX5_cellNow_8 rfl (lv_at hl 1 rfl) ?_
    refine lv_aload_n hx hb dX5_cellNow_9 rfl (lv_at hl 0 rfl) ?_
    refine ag_S_X5_49_this X w dX5_cellNow_10 ?_
    refine tp_i (show z.1 9 = (nI (S.1 3)) from cs_mo hz.1) ?_
    refine gc_p (C := RX5) (ci := 4) (rest := []) X hml hl.1 (c5_cellRunning l G a z fa9 (S.1 3) S hz.1 ho (by omega) (by omega)) ok5_cellRunning wm_X5_112 ⟨Nat.le_of_ble_eq_true rfl, Nat.le_of_ble_eq_true rfl⟩ ⟨Nat.le_refl _, Nat.le_refl _⟩ w [0, 1, 2, 3, 4, 5, 6, 7] rfl rfl rfl rfl (Nat.le_of_ble_eq_true rfl) dX5_cellNow_13 (fun r_13 hr_13 => ?_)
    subst hr_13
    exact re_p hx hb hr hk (by rw [pl_run (by omega)]) dX5_cellNow_16

theorem ok5_comingOf : cOk RX5 yX5_comingOf cX5_comingOf 2 (some .int) 1 := ⟨wc_X5_comingOf, wi_X5_comingOf, ws_X5_comingOf, wn_X5, rfl, by decide, by decide, by decide +kernel⟩
set_option maxHeartbeats 4000000 in
set_option maxRecDepth 100000 in
theorem c5_comingOf (l : Launch) (G : CG) (a : Nat → Nat) (z : RS) (fa9 : Nat) (S : Sc) (hz : cSc z S) (ho : oSc S) (hf : fa9 < S.1 1) (hI : tI S) : cMp G l yX5_comingOf cX5_comingOf 2 (some .int) 1 21 [.ref (a 0), .int (nI fa9)] (w5 G a z) (fun r => r = sp_of6 S fa9) := by
  refine cMp_in (by decide) rfl (Nat.le_of_ble_eq_true rfl) ?_
  intro p e s m args below meth c ls X hml hr hk hl w
  have hx := X.1
  have hb := X.2.1
  have hts := X.2.2.1
  have hown := X.2.2.2.1
  have hl : lv_has ls 2 [(0, .ref (a 0)), (1, .int (nI fa9))] := hl
  obtain ⟨o1, o2, o3, o4, o5, o6, oso, oki, osr, opa, ohu, oco⟩ := id ho
  have q1 := ohu fa9
  refine lv_aload_n hx hb dX5_comingOf_0 rfl (lv_at hl 0 rfl) ?_
  refine gc_p (C := RX5) (ci := 4) (rest := []) X hml hl.1 (c5_hasTurned l G a z  S hz.1 ho ) ok5_hasTurned wm_X5_108 ⟨Nat.le_of_ble_eq_true rfl, Nat.le_of_ble_eq_true rfl⟩ ⟨Nat.le_refl _, Nat.le_refl _⟩ w [0, 1, 2, 3, 4, 5, 6, 7] rfl rfl rfl rfl (Nat.le_of_ble_eq_true rfl) dX5_comingOf_1 (fun r_1 hr_1 => ?_)
  subst hr_1
  have d_1 := pc_td_ok S
  refine n_if_eq (tgt := 28) hx hb dX5_comingOf_4 (by decide) (by omega) (fun c_4_1 => ?_) (fun c_4_1 => ?_)
  · skip
    refine lv_bipush (v := (iZ (-4))) hx hb dX5_comingOf_28 (by decide) ?_
    exact re_p hx hb hr hk (of6_n (by omega)) dX5_comingOf_30
  · skip
    have ht : ¬ S.1 4 = 0 := by omega
    refine lv_iload_n hx hb dX5_comingOf_7 rfl (lv_at hl 1 rfl) ?_
    refine n_if_eq (tgt := 28) hx hb dX5_comingOf_8 (by decide) (by omega) (fun c_8_2 => ?_) (fun c_8_2 => ?_)
    · skip
      refine lv_bipush (v := (iZ (-4))) hx hb dX5_comingOf_28 (by decide) ?_
      exact re_p hx hb hr hk (of6_n (by omega)) dX5_comingOf_30
    · skip
      refine lv_aload_n hx hb dX5_comingOf_11 rfl (lv_at hl 0 rfl) ?_
      refine lv_iload_n hx hb dX5_comingOf_12 rfl (lv_at hl 1 rfl) ?_
      refine gc_p (C := RX5) (ci := 4) (rest := []) X hml hl.1 (c5_isUp l G a z fa9 S hz.1 ho (by omega)) ok5_isUp wm_X5_74 ⟨Nat.le_of_ble_eq_true rfl, Nat.le_of_ble_eq_true rfl⟩ ⟨Nat.le_refl _, Nat.le_refl _⟩ w [0, 1, 2, 3, 4, 5, 6, 7] rfl rfl rfl rfl (Nat.le_of_ble_eq_true rfl) dX5_comingOf_13 (fun r_13 hr_13 => ?_)
      subst hr_13
      have d_13 := pc_dn01 S fa9
      refine n_if_eq (tgt := 28) hx hb dX5_comingOf_16 (by decide) (by omega) (fun c_16_3 => ?_) (fun c_16_3 => ?_)
      · skip
        refine lv_bipush (v := (iZ (-4))) hx hb dX5_comingOf_28 (by decide) ?_
        exact re_p hx hb hr hk (of6_n (by omega)) dX5_comingOf_30
      · skip
        refine lv_aload_n hx hb dX5_comingOf_19 rfl (lv_at hl 0 rfl) ?_
        refine ag_S_X5_37_this X w dX5_comingOf_20 ?_
        refine lv_iload_n hx hb dX5_comingOf_23 rfl (lv_at hl 1 rfl) ?_
        refine an_S_this_11 X w (by omega) dX5_comingOf_24 ?_
        refine tp_i (show z.2.1 11 fa9 = (nI (pc_nv (S.2.1 5 fa9))) from cs_co hz fa9 (by first | assumption | omega) (by omega) (by omega)) ?_
        refine lv_goto (tgt := 30) hx hb dX5_comingOf_25 (by decide) ?_
        exact re_p hx hb hr hk (by unfold sp_of6; rw [if_neg (show ¬ fa9 = 0 by omega), if_neg ht, if_pos (show pc_dn S fa9 = 0 by omega)]; exact congrArg nI (nv_id (by have := hI ht fa9 (by omega) hf; omega))) dX5_comingOf_30

theorem ok5_isThere : cOk RX5 yX5_isThere cX5_isThere 2 (some .boolean) 1 := ⟨wc_X5_isThere, wi_X5_isThere, ws_X5_isThere, wn_X5, rfl, by decide, by decide, by decide +kernel⟩
set_option maxHeartbeats 4000000 in
set_option maxRecDepth 100000 in
theorem c5_isThere (l : Launch) (G : CG) (a : Nat → Nat) (z : RS) (fa9 : Nat) (S : Sc) (hz : cSc z S) (ho : oSc S) (ht : ¬ S.1 4 = 0) (h1 : 1 ≤ fa9) (hf : fa9 < S.1 1) (hm : S.1 3 < 99999) : cMp G l yX5_isThere cX5_isThere 2 (some .boolean) 1 21 [.ref (a 0), .int (nI fa9)] (w5 G a z) (fun r => r = nI (pc_th S fa9)) := by
  refine cMp_in (by decide) rfl (Nat.le_of_ble_eq_true rfl) ?_
  intro p e s m args below meth c ls X hml hr hk hl w
  have hx := X.1
  have hb := X.2.1
  have hts := X.2.2.1
  have hown := X.2.2.2.1
  have hl : lv_has ls 2 [(0, .ref (a 0)), (1, .int (nI fa9))] := hl
  obtain ⟨o1, o2, o3, o4, o5, o6, oso, oki, osr, opa, ohu, oco⟩ := id ho
  have q1 := ohu fa9
  have q3 := nv_bd (oco fa9)
  refine lv_aload_n hx hb dX5_isThere_0 rfl (lv_at hl 0 rfl) ?_
  refine lv_iload_n hx hb dX5_isThere_1 rfl (lv_at hl 1 rfl) ?_
  refine gc_p (C := RX5) (ci := 4) (rest := []) X hml hl.1 (c5_isUp l G a z fa9 S hz.1 ho (by omega)) ok5_isUp wm_X5_74 ⟨Nat.le_of_ble_eq_true rfl, Nat.le_of_ble_eq_true rfl⟩ ⟨Nat.le_refl _, Nat.le_refl _⟩ w [0, 1, 2, 3, 4, 5, 6, 7] rfl rfl rfl rfl (Nat.le_of_ble_eq_true rfl) dX5_isThere_2 (fun r_2 hr_2 => ?_)
  subst hr_2
  have d_2 := pc_dn01 S fa9
  refine jn (tgt := 26) (rest := []) (fun v9 => ∃ x9 : Nat, x9 = (if (1 - pc_dn S fa9) = 0 then 0 else (if (S.1 3) < (pc_nv (S.2.1 5 fa9)) then 0 else 1)) ∧ v9 = nI x9) (fun v_ hv_ => ?_) (fun k_26 => ?_)
  · obtain ⟨x_26, ex_26, rfl⟩ := hv_
    exact re_pz hx hb hr hk (by rw [ex_26]; split; exact Or.inl rfl; split; exact Or.inl rfl; exact Or.inr rfl) (by rw [th_s (oco fa9) hm ex_26]) dX5_isThere_26
  · skip
    refine n_if_eq (tgt := 25) hx hb dX5_isThere_5 (by decide) (by omega) (fun c_5_2 => ?_) (fun c_5_2 => ?_)
    · skip
      refine lv_iconst (v := (nI 0)) hx hb dX5_isThere_25 (by decide) ?_
      exact k_26 _ ⟨_, by simp only [if_pos c_5_2], rfl⟩
    · skip
      refine lv_aload_n hx hb dX5_isThere_8 rfl (lv_at hl 0 rfl) ?_
      refine ag_S_X5_37_this X w dX5_isThere_9 ?_
      refine lv_iload_n hx hb dX5_isThere_12 rfl (lv_at hl 1 rfl) ?_
      refine an_S_this_11 X w (by omega) dX5_isThere_13 ?_
      refine tp_i (show z.2.1 11 fa9 = (nI (pc_nv (S.2.1 5 fa9))) from cs_co hz fa9 (by first | assumption | omega) (by omega) (by omega)) ?_
      refine lv_aload_n hx hb dX5_isThere_14 rfl (lv_at hl 0 rfl) ?_
      refine ag_S_X5_49_this X w dX5_isThere_15 ?_
      refine tp_i (show z.1 9 = (nI (S.1 3)) from cs_mo hz.1) ?_
      refine n_icmp_gt (tgt := 25) hx hb dX5_isThere_18 (by decide) (by omega) (by omega) (fun c_18_3 => ?_) (fun c_18_3 => ?_)
      · skip
        refine lv_iconst (v := (nI 0)) hx hb dX5_isThere_25 (by decide) ?_
        exact k_26 _ ⟨_, by simp only [if_neg c_5_2, if_pos c_18_3], rfl⟩
      · skip
        refine lv_iconst (v := (nI 1)) hx hb dX5_isThere_21 (by decide) ?_
        refine lv_goto (tgt := 26) hx hb dX5_isThere_22 (by decide) ?_
        exact k_26 _ ⟨_, by simp only [if_neg c_5_2, if_neg c_18_3], rfl⟩

theorem ok5_countThere : cOk RX5 yX5_countThere cX5_countThere 3 (some .int) 0 := ⟨wc_X5_countThere, wi_X5_countThere, ws_X5_countThere, wn_X5, rfl, by decide, by decide, by decide +kernel⟩
set_option maxHeartbeats 4000000 in
set_option maxRecDepth 100000 in
theorem c5_countThere (l : Launch) (G : CG) (a : Nat → Nat) (z : RS)  (S : Sc) (hz : cSc z S) (ho : oSc S) (ht : ¬ S.1 4 = 0) (hm : S.1 3 < 99999) : cMp G l yX5_countThere cX5_countThere 3 (some .int) 2 42 [.ref (a 0)] (w5 G a z) (fun r => r = nI (sp_tc S (S.1 1 - 1))) := by
  refine cMp_in (by decide) rfl (Nat.le_of_ble_eq_true rfl) ?_
  intro p e s m args below meth c ls X hml hr hk hl w
  have hx := X.1
  have hb := X.2.1
  have hts := X.2.2.1
  have hown := X.2.2.2.1
  have hl : lv_has ls 3 [(0, .ref (a 0))] := hl
  obtain ⟨o1, o2, o3, o4, o5, o6, oso, oki, osr, opa, ohu, oco⟩ := id ho
  refine lv_iconst (v := (nI 0)) hx hb dX5_countThere_0 (by decide) ?_
  refine lv_istore_n (lv' := [(1, .int (nI 0)), (0, .ref (a 0))]) hx hb dX5_countThere_1 rfl hl (by decide) rfl (fun ls hl => ?_)
  refine lv_iconst (v := (nI 1)) hx hb dX5_countThere_2 (by decide) ?_
  refine lv_istore_n (lv' := [(2, .int (nI 1)), (1, .int (nI 0)), (0, .ref (a 0))]) hx hb dX5_countThere_3 rfl hl (by decide) rfl (fun ls hl => ?_)
  have lp_4 : ∀ (n_4 : Nat) (i : Nat) (hi : i ≤ S.1 1 - 1) (hm_4 : S.1 1 - i < n_4) (ls : Array Slot), lv_has ls 3 [(0, .ref (a 0)), (1, .int (nI (sp_tc S i))), (2, .int (nI (i + 1)))] → W p l e (ro_m 2 42) s m args below meth c s.heap [] 0 0 (MQ below (vp_Si (fun r => r = nI (sp_tc S (S.1 1 - 1)))) args s 0 0 (fun _ => False)) (F0 m 4 ls []) := by
    intro n_4
    induction n_4 with
    | zero => intro i hi hm; exact absurd hm (Nat.not_lt_zero _)
    | succ n_4 ih_4 =>
      intro i hi hm_4 ls hl
      have q1 := tc_le S i
      have q2 : sp_tc S (i + 1) = sp_tc S i + pc_th S (i + 1) := rfl
      refine lv_iload_n hx hb dX5_countThere_4 rfl (lv_at hl 2 rfl) ?_
      refine lv_aload_n hx hb dX5_countThere_5 rfl (lv_at hl 0 rfl) ?_
      refine ag_S_X5_43_this X w dX5_countThere_6 ?_
      refine tp_i (show z.1 3 = (nI (S.1 1)) from cs_nf hz.1) ?_
      refine n_icmp_ge (tgt := 29) hx hb dX5_countThere_9 (by decide) (by omega) (by omega) (fun c_9_1 => ?_) (fun c_9_1 => ?_)
      · skip
        refine lv_iload_n hx hb dX5_countThere_29 rfl (lv_at hl 1 rfl) ?_
        exact re_p hx hb hr hk (by rw [show i = S.1 1 - 1 by omega]) dX5_countThere_30
      · skip
        refine lv_aload_n hx hb dX5_countThere_12 rfl (lv_at hl 0 rfl) ?_
        refine lv_iload_n hx hb dX5_countThere_13 rfl (lv_at hl 2 rfl) ?_
        refine gc_p (C := RX5) (ci := 4) (rest := []) X hml hl.1 (c5_isThere l G a z (i + 1) S hz ho ht (by omega) (by omega) (by omega)) ok5_isThere wm_X5_128 ⟨Nat.le_of_ble_eq_true rfl, Nat.le_of_ble_eq_true rfl⟩ ⟨Nat.le_refl _, Nat.le_refl _⟩ w [0, 1, 2, 3, 4, 5, 6, 7] rfl rfl rfl rfl (Nat.le_of_ble_eq_true rfl) dX5_countThere_14 (fun r_14 hr_14 => ?_)
        subst hr_14
        have d_14 := th_01 S (i + 1)
        refine n_if_eq (tgt := 23) hx hb dX5_countThere_17 (by decide) (by omega) (fun c_17_2 => ?_) (fun c_17_2 => ?_)
        · skip
          have hl : lv_has ls 3 [(0, .ref (a 0)), (1, .int (nI (sp_tc S (i + 1)))), (2, .int (nI (i + 1)))] := by rw [show (nI (sp_tc S (i + 1))) = (nI (sp_tc S i)) from congrArg nI (by omega)]; exact hl
          refine lv_iinc (v := (nI (i + 1 + 1))) (lv' := [(2, .int (nI (i + 1 + 1))), (0, .ref (a 0)), (1, .int (nI (sp_tc S (i + 1))))]) hx hb dX5_countThere_23 hl (k := 2) rfl (by first | exact nI_1 _ | (rw [show Int32.ofInt 1 = nI 1 from by decide, nI_add])) (by decide) rfl (fun ls hl => ?_)
          refine lv_goto (tgt := 4) hx hb dX5_countThere_26 (by decide) ?_
          exact ih_4 (i + 1) (by omega) (by omega) ls (lv_sub hl [1, 2, 0] rfl)
        · skip
          refine lv_iinc (v := (nI (sp_tc S i + 1))) (lv' := [(1, .int (nI (sp_tc S i + 1))), (0, .ref (a 0)), (2, .int (nI (i + 1)))]) hx hb dX5_countThere_20 hl (k := 1) rfl (by first | exact nI_1 _ | (rw [show Int32.ofInt 1 = nI 1 from by decide, nI_add])) (by decide) rfl (fun ls hl => ?_)
          have hl : lv_has ls 3 [(1, .int (nI (sp_tc S (i + 1)))), (0, .ref (a 0)), (2, .int (nI (i + 1)))] := by rw [show (nI (sp_tc S (i + 1))) = (nI (sp_tc S i + 1)) from congrArg nI (by omega)]; exact hl
          refine lv_iinc (v := (nI (i + 1 + 1))) (lv' := [(2, .int (nI (i + 1 + 1))), (1, .int (nI (sp_tc S (i + 1)))), (0, .ref (a 0))]) hx hb dX5_countThere_23 hl (k := 2) rfl (by first | exact nI_1 _ | (rw [show Int32.ofInt 1 = nI 1 from by decide, nI_add])) (by decide) rfl (fun ls hl => ?_)
          refine lv_goto (tgt := 4) hx hb dX5_countThere_26 (by decide) ?_
          exact ih_4 (i + 1) (by omega) (by omega) ls (lv_sub hl [2, 1, 0] rfl)
  exact lp_4 _ 0 (Nat.zero_le _) (Nat.lt_succ_self _) ls (lv_sub hl [2, 1, 0] rfl)

theorem ok5_firstThere : cOk RX5 yX5_firstThere cX5_firstThere 3 (some .int) 0 := ⟨wc_X5_firstThere, wi_X5_firstThere, ws_X5_firstThere, wn_X5, rfl, by decide, by decide, by decide +kernel⟩
set_option maxHeartbeats 4000000 in
set_option maxRecDepth 100000 in
theorem c5_firstThere (l : Launch) (G : CG) (a : Nat → Nat) (z : RS)  (S : Sc) (hz : cSc z S) (ho : oSc S) (ht : ¬ S.1 4 = 0) (hm : S.1 3 < 99999) : cMp G l yX5_firstThere cX5_firstThere 3 (some .int) 2 42 [.ref (a 0)] (w5 G a z) (fun r => r = iZ (pc_f1 (sp_mt S (S.1 3)))) := by
  refine cMp_in (by decide) rfl (Nat.le_of_ble_eq_true rfl) ?_
  intro p e s m args below meth c ls X hml hr hk hl w
  have hx := X.1
  have hb := X.2.1
  have hts := X.2.2.1
  have hown := X.2.2.2.1
  have hl : lv_has ls 3 [(0, .ref (a 0))] := hl
  obtain ⟨o1, o2, o3, o4, o5, o6, oso, oki, osr, opa, ohu, oco⟩ := id ho
  refine lv_iconst (v := (iZ (-1))) hx hb dX5_firstThere_0 (by decide) ?_
  refine lv_istore_n (lv' := [(1, .int (iZ (-1))), (0, .ref (a 0))]) hx hb dX5_firstThere_1 rfl hl (by decide) rfl (fun ls hl => ?_)
  refine lv_iconst (v := (nI 1)) hx hb dX5_firstThere_2 (by decide) ?_
  refine lv_istore_n (lv' := [(2, .int (nI 1)), (1, .int (iZ (-1))), (0, .ref (a 0))]) hx hb dX5_firstThere_3 rfl hl (by decide) rfl (fun ls hl => ?_)
  have lp_4 : ∀ (n_4 : Nat) (i : Nat) (hi : i ≤ S.1 1 - 1) (hm_4 : S.1 1 - i < n_4) (ls : Array Slot), lv_has ls 3 [(0, .ref (a 0)), (1, .int (iZ (pc_f1 (sp_mtL S (S.1 3) i)))), (2, .int (nI (i + 1)))] → W p l e (ro_m 2 42) s m args below meth c s.heap [] 0 0 (MQ below (vp_Si (fun r => r = iZ (pc_f1 (sp_mt S (S.1 3))))) args s 0 0 (fun _ => False)) (F0 m 4 ls []) := by
    intro n_4
    induction n_4 with
    | zero => intro i hi hm; exact absurd hm (Nat.not_lt_zero _)
    | succ n_4 ih_4 =>
      intro i hi hm_4 ls hl
      have q1 := sp_mtL_le S (S.1 3) i
      have q2 := f1_b (sp_mtL S (S.1 3) i) (by omega)
      have q3 := nv_bd (oco (i + 1))
      have q4 := nv_bd (oco (sp_mtL S (S.1 3) i))
      refine lv_iload_n hx hb dX5_firstThere_4 rfl (lv_at hl 2 rfl) ?_
      refine lv_aload_n hx hb dX5_firstThere_5 rfl (lv_at hl 0 rfl) ?_
      refine ag_S_X5_43_this X w dX5_firstThere_6 ?_
      refine tp_i (show z.1 3 = (nI (S.1 1)) from cs_nf hz.1) ?_
      refine n_icmp_ge (tgt := 47) hx hb dX5_firstThere_9 (by decide) (by omega) (by omega) (fun c_9_1 => ?_) (fun c_9_1 => ?_)
      · skip
        refine lv_iload_n hx hb dX5_firstThere_47 rfl (lv_at hl 1 rfl) ?_
        exact re_p hx hb hr hk (by rw [show i = S.1 1 - 1 by omega]; rfl) dX5_firstThere_48
      · skip
        refine lv_aload_n hx hb dX5_firstThere_12 rfl (lv_at hl 0 rfl) ?_
        refine lv_iload_n hx hb dX5_firstThere_13 rfl (lv_at hl 2 rfl) ?_
        refine gc_p (C := RX5) (ci := 4) (rest := []) X hml hl.1 (c5_isThere l G a z (i + 1) S hz ho ht (by omega) (by omega) (by omega)) ok5_isThere wm_X5_128 ⟨Nat.le_of_ble_eq_true rfl, Nat.le_of_ble_eq_true rfl⟩ ⟨Nat.le_refl _, Nat.le_refl _⟩ w [0, 1, 2, 3, 4, 5, 6, 7] rfl rfl rfl rfl (Nat.le_of_ble_eq_true rfl) dX5_firstThere_14 (fun r_14 hr_14 => ?_)
        subst hr_14
        have d_14 := th_01 S (i + 1)
        refine n_if_eq (tgt := 41) hx hb dX5_firstThere_17 (by decide) (by omega) (fun c_17_2 => ?_) (fun c_17_2 => ?_)
        · skip
          have hl : lv_has ls 3 [(0, .ref (a 0)), (1, .int (iZ (pc_f1 (sp_mtL S (S.1 3) (i + 1))))), (2, .int (nI (i + 1)))] := by rw [show (iZ (pc_f1 (sp_mtL S (S.1 3) (i + 1)))) = (iZ (pc_f1 (sp_mtL S (S.1 3) i))) from congrArg (fun q9 => iZ (pc_f1 q9)) (mt_n1 (by omega))]; exact hl
          refine lv_iinc (v := (nI (i + 1 + 1))) (lv' := [(2, .int (nI (i + 1 + 1))), (0, .ref (a 0)), (1, .int (iZ (pc_f1 (sp_mtL S (S.1 3) (i + 1)))))]) hx hb dX5_firstThere_41 hl (k := 2) rfl (by first | exact nI_1 _ | (rw [show Int32.ofInt 1 = nI 1 from by decide, nI_add])) (by decide) rfl (fun ls hl => ?_)
          refine lv_goto (tgt := 4) hx hb dX5_firstThere_44 (by decide) ?_
          exact ih_4 (i + 1) (by omega) (by omega) ls (lv_sub hl [1, 2, 0] rfl)
        · skip
          refine lv_iload_n hx hb dX5_firstThere_20 rfl (lv_at hl 1 rfl) ?_
          refine z_if_lt (tgt := 39) hx hb dX5_firstThere_21 (by decide) (by omega) (by omega) (fun c_21_3 => ?_) (fun c_21_3 => ?_)
          · skip
            have hy : sp_mtL S (S.1 3) i = 0 ∨ S.2.1 5 (i + 1) < S.2.1 5 (sp_mtL S (S.1 3) i) := Or.inl (by omega)
            refine lv_iload_n hx hb dX5_firstThere_39 rfl (lv_at hl 2 rfl) ?_
            refine lv_istore_n (lv' := [(1, .int (nI (i + 1))), (0, .ref (a 0)), (2, .int (nI (i + 1)))]) hx hb dX5_firstThere_40 rfl hl (by decide) rfl (fun ls hl => ?_)
            have hl : lv_has ls 3 [(1, .int (iZ (pc_f1 (sp_mtL S (S.1 3) (i + 1))))), (0, .ref (a 0)), (2, .int (nI (i + 1)))] := by rw [show (iZ (pc_f1 (sp_mtL S (S.1 3) (i + 1)))) = (nI (i + 1)) from ((congrArg (fun q9 => iZ (pc_f1 q9)) (mt_y (by omega) hy)).trans (f1_n (by omega)))]; exact hl
            refine lv_iinc (v := (nI (i + 1 + 1))) (lv' := [(2, .int (nI (i + 1 + 1))), (1, .int (iZ (pc_f1 (sp_mtL S (S.1 3) (i + 1))))), (0, .ref (a 0))]) hx hb dX5_firstThere_41 hl (k := 2) rfl (by first | exact nI_1 _ | (rw [show Int32.ofInt 1 = nI 1 from by decide, nI_add])) (by decide) rfl (fun ls hl => ?_)
            refine lv_goto (tgt := 4) hx hb dX5_firstThere_44 (by decide) ?_
            exact ih_4 (i + 1) (by omega) (by omega) ls (lv_sub hl [2, 1, 0] rfl)
          · skip
            have hl : lv_has ls 3 [(0, .ref (a 0)), (1, .int (nI (sp_mtL S (S.1 3) i))), (2, .int (nI (i + 1)))] := by rw [show (nI (sp_mtL S (S.1 3) i)) = (iZ (pc_f1 (sp_mtL S (S.1 3) i))) from (f1_n (by omega)).symm]; exact hl
            refine lv_aload_n hx hb dX5_firstThere_24 rfl (lv_at hl 0 rfl) ?_
            refine ag_S_X5_37_this X w dX5_firstThere_25 ?_
            refine lv_iload_n hx hb dX5_firstThere_28 rfl (lv_at hl 2 rfl) ?_
            refine an_S_this_11 X w (by omega) dX5_firstThere_29 ?_
            refine tp_i (show z.2.1 11 (i + 1) = (nI (pc_nv (S.2.1 5 (i + 1)))) from cs_co hz (i + 1) (by first | assumption | omega) (by omega) (by omega)) ?_
            refine lv_aload_n hx hb dX5_firstThere_30 rfl (lv_at hl 0 rfl) ?_
            refine ag_S_X5_37_this X w dX5_firstThere_31 ?_
            refine lv_iload_n hx hb dX5_firstThere_34 rfl (lv_at hl 1 rfl) ?_
            refine an_S_this_11 X w (by omega) dX5_firstThere_35 ?_
            refine tp_i (show z.2.1 11 (sp_mtL S (S.1 3) i) = (nI (pc_nv (S.2.1 5 (sp_mtL S (S.1 3) i)))) from cs_co hz (sp_mtL S (S.1 3) i) (by first | assumption | omega) (by omega) (by omega)) ?_
            refine n_icmp_ge (tgt := 41) hx hb dX5_firstThere_36 (by decide) (by omega) (by omega) (fun c_36_4 => ?_) (fun c_36_4 => ?_)
            · skip
              have hy : S.2.1 5 (sp_mtL S (S.1 3) i) ≤ S.2.1 5 (i + 1) := by have := nv_lt (oco (i + 1)) (oco (sp_mtL S (S.1 3) i)); omega
              have hl : lv_has ls 3 [(0, .ref (a 0)), (1, .int (iZ (pc_f1 (sp_mtL S (S.1 3) (i + 1))))), (2, .int (nI (i + 1)))] := by rw [show (iZ (pc_f1 (sp_mtL S (S.1 3) (i + 1)))) = (nI (sp_mtL S (S.1 3) i)) from ((congrArg (fun q9 => iZ (pc_f1 q9)) (mt_n2 (by omega) hy)).trans (f1_n (by omega)))]; exact hl
              refine lv_iinc (v := (nI (i + 1 + 1))) (lv' := [(2, .int (nI (i + 1 + 1))), (0, .ref (a 0)), (1, .int (iZ (pc_f1 (sp_mtL S (S.1 3) (i + 1)))))]) hx hb dX5_firstThere_41 hl (k := 2) rfl (by first | exact nI_1 _ | (rw [show Int32.ofInt 1 = nI 1 from by decide, nI_add])) (by decide) rfl (fun ls hl => ?_)
              refine lv_goto (tgt := 4) hx hb dX5_firstThere_44 (by decide) ?_
              exact ih_4 (i + 1) (by omega) (by omega) ls (lv_sub hl [1, 2, 0] rfl)
            · skip
              have hy : sp_mtL S (S.1 3) i = 0 ∨ S.2.1 5 (i + 1) < S.2.1 5 (sp_mtL S (S.1 3) i) := Or.inr (by have := nv_lt (oco (i + 1)) (oco (sp_mtL S (S.1 3) i)); omega)
              refine lv_iload_n hx hb dX5_firstThere_39 rfl (lv_at hl 2 rfl) ?_
              refine lv_istore_n (lv' := [(1, .int (nI (i + 1))), (0, .ref (a 0)), (2, .int (nI (i + 1)))]) hx hb dX5_firstThere_40 rfl hl (by decide) rfl (fun ls hl => ?_)
              have hl : lv_has ls 3 [(1, .int (iZ (pc_f1 (sp_mtL S (S.1 3) (i + 1))))), (0, .ref (a 0)), (2, .int (nI (i + 1)))] := by rw [show (iZ (pc_f1 (sp_mtL S (S.1 3) (i + 1)))) = (nI (i + 1)) from ((congrArg (fun q9 => iZ (pc_f1 q9)) (mt_y (by omega) hy)).trans (f1_n (by omega)))]; exact hl
              refine lv_iinc (v := (nI (i + 1 + 1))) (lv' := [(2, .int (nI (i + 1 + 1))), (1, .int (iZ (pc_f1 (sp_mtL S (S.1 3) (i + 1))))), (0, .ref (a 0))]) hx hb dX5_firstThere_41 hl (k := 2) rfl (by first | exact nI_1 _ | (rw [show Int32.ofInt 1 = nI 1 from by decide, nI_add])) (by decide) rfl (fun ls hl => ?_)
              refine lv_goto (tgt := 4) hx hb dX5_firstThere_44 (by decide) ?_
              exact ih_4 (i + 1) (by omega) (by omega) ls (lv_sub hl [2, 1, 0] rfl)
  exact lp_4 _ 0 (Nat.zero_le _) (Nat.lt_succ_self _) ls (lv_sub hl [2, 1, 0] rfl)

theorem ok5_odds : cOkS RX5 yX5_odds cX5_odds 4 (some .int) 3 := ⟨wc_X5_odds, wt_X5_odds, wn_X5, rfl, by decide, by decide, by decide +kernel⟩
set_option maxHeartbeats 4000000 in
set_option maxRecDepth 100000 in
theorem c5_odds (l : Launch) (ra9 : Nat) (oa9 : Nat) (ba9 : Nat) (h1 : ra9 ≤ 100) (h2 : oa9 ≤ 100) (h3 : ba9 ≤ 100) : rMs l yX5_odds cX5_odds 4 (some .int) 0 0 [.int (nI ra9), .int (nI oa9), .int (nI ba9)] (fun r => r = nI (pc_btw ((8 + (ra9 : Int)) - (oa9 : Int) - ((2 * ba9 : Nat) : Int)))) := by
  refine cMs_in (by decide) rfl (Nat.le_of_ble_eq_true rfl) ?_
  intro p e s m args below meth c ls X hml hr hk hl
  have hx := X.1
  have hb := X.2.1
  have hts := X.2.2.1
  have hown := X.2.2.2
  have hl : lv_has ls 4 [(0, .int (nI ra9)), (1, .int (nI oa9)), (2, .int (nI ba9))] := hl
  refine lv_bipush (v := (nI 8)) hx hb dX5_odds_0 (by decide) ?_
  refine lv_iload_n hx hb dX5_odds_2 rfl (lv_at hl 0 rfl) ?_
  refine n_iadd hx hb dX5_odds_3 ?_
  refine lv_iload_n hx hb dX5_odds_4 rfl (lv_at hl 1 rfl) ?_
  refine tp_i (iZ_n oa9).symm ?_
  refine tp_i2 (iZ_n (8 + ra9)).symm ?_
  refine z_isub hx hb dX5_odds_5 ?_
  refine lv_iconst (v := (nI 2)) hx hb dX5_odds_6 (by decide) ?_
  refine lv_iload_n hx hb dX5_odds_7 rfl (lv_at hl 2 rfl) ?_
  refine n_imul hx hb dX5_odds_8 ?_
  refine tp_i (iZ_n (2 * ba9)).symm ?_
  refine z_isub hx hb dX5_odds_9 ?_
  refine lv_istore_n (lv' := [(3, .int (iZ (((((8 + ra9 : Nat) : Int)) - (((oa9 : Nat) : Int))) - (((2 * ba9 : Nat) : Int))))), (0, .int (nI ra9)), (1, .int (nI oa9)), (2, .int (nI ba9))]) hx hb dX5_odds_10 rfl hl (by decide) rfl (fun ls hl => ?_)
  refine lv_iload_n hx hb dX5_odds_11 rfl (lv_at hl 0 rfl) ?_
  refine lv_iconst (v := (nI 1)) hx hb dX5_odds_12 (by decide) ?_
  refine tp_i (show nI 1 = iZ (1 : Int) from by decide) ?_
  refine z_icmp_ge (tgt := 18) hx hb dX5_odds_13 (by decide) (by omega) (by omega) (by omega) (by omega) (fun c_13_1 => ?_) (fun c_13_1 => ?_)
  · skip
    refine lv_iload_n hx hb dX5_odds_18 rfl (lv_at hl 0 rfl) ?_
    refine lv_bipush (v := (nI 15)) hx hb dX5_odds_19 (by decide) ?_
    refine tp_i (show nI 15 = iZ (15 : Int) from by decide) ?_
    refine z_icmp_le (tgt := 29) hx hb dX5_odds_21 (by decide) (by omega) (by omega) (by omega) (by omega) (fun c_21_2 => ?_) (fun c_21_2 => ?_)
    · skip
      refine lv_iload_n hx hb dX5_odds_29 rfl (lv_at hl 0 rfl) ?_
      exact re_p hx hb hr hk (by rw [← pc_btw_ok]; first | (rw [if_neg (by omega)]; done) | (rw [if_neg (by omega)]; rfl) | (rw [if_pos (by omega), if_pos (by omega)]; exact congrArg iZ (by omega)) | (rw [if_pos (by omega), if_neg (by omega)]; rfl)) dX5_odds_30
    · skip
      refine lv_bipush (v := (nI 15)) hx hb dX5_odds_24 (by decide) ?_
      refine lv_goto (tgt := 30) hx hb dX5_odds_26 (by decide) ?_
      exact re_p hx hb hr hk (by rw [← pc_btw_ok]; first | (rw [if_neg (by omega)]; done) | (rw [if_neg (by omega)]; rfl) | (rw [if_pos (by omega), if_pos (by omega)]; exact congrArg iZ (by omega)) | (rw [if_pos (by omega), if_neg (by omega)]; rfl)) dX5_odds_30
  · skip
    refine lv_iconst (v := (nI 1)) hx hb dX5_odds_16 (by decide) ?_
    exact re_p hx hb hr hk (by rw [← pc_btw_ok]; first | (rw [if_neg (by omega)]; done) | (rw [if_neg (by omega)]; rfl) | (rw [if_pos (by omega), if_pos (by omega)]; exact congrArg iZ (by omega)) | (rw [if_pos (by omega), if_neg (by omega)]; rfl)) dX5_odds_17

section Lm_c5_drawOfSixteen
variable {p : Program} {l : Launch} {e : Env} {R : Room} {s : State} {m : MethodId} {args : Array Value} {below : List Frame} {meth : Method} {c : Code} {H : Heap} {locs : List Loc} {cells slots : Nat} {Q : State → Prop}
variable {cc : ByteArray} {pc : Nat} {ls : Array Slot} {rest : List Value} {G : CG} {A : Nat → Prop}
theorem ag_S_X5_40_this {a : Nat → Nat} {z : RS} (X : cX RX5 G A p c cc s args m) (w : va_P G.1 vwCl (w5 G a z) H) (hdg : decode cc pc = .ok (.getfield 40, 3)) (kk : W p l e R s m args below meth c H locs cells slots Q (F0 m (pc + 3) ls (.int (z.1 12) :: rest))) : W p l e R s m args below meth c H locs cells slots Q (F0 m pc ls (.ref (a 0) :: rest)) :=
  va_get (D := G.1) (ci := 4) (v := .int (z.1 12)) (C := RX5) (T := TX5) (N := 13) X.1 X.2.1 X.2.2.1 gX5 X.2.2.2.1 X.2.2.2.2.1.1 w 0 rfl rfl 12 (by decide) (X.2.2.1 _ wf_X5_40) (fun _ h9 => h9) rfl hdg kk
theorem ap_S_X5_40_this {a : Nat → Nat} {z : RS} {v : Int32} (X : cX RX5 G A p c cc s args m) (w : cW G A s (w5 G a z) H locs) (hdg : decode cc pc = .ok (.putfield 40, 3)) (kk : ∀ (z1 : RS) (H : Heap) (locs : List Loc), z1 = (sI z 12 v) → cW G A s (w5 G a z1) H locs → W p l e R s m args below meth c H locs cells slots Q (F0 m (pc + 3) ls rest)) : W p l e R s m args below meth c H locs cells slots Q (F0 m pc ls (.int v :: .ref (a 0) :: rest)) :=
  va_put (D := G.1) (ci := 4) (v := .int v) (ty := .int) (C := RX5) (T := TX5) (N := 13) X.1 X.2.1 X.2.2.1 gX5 tyX5 tyX5_ok nmX5 X.2.2.2.1 X.2.2.2.2.1.1 w.1 w.2.1 w.2.2 0 rfl rfl 12 (by decide) (X.2.2.1 _ wf_X5_40) (fun _ h9 => h9) rfl (by decide +kernel) rfl rfl (Nat.le_of_ble_eq_true rfl) hdg (fun H1 locs1 hP hD hS => kk _ H1 locs1 rfl ⟨hP, hD, hS⟩)
end Lm_c5_drawOfSixteen
theorem ok5_drawOfSixteen : cOk RX5 yX5_drawOfSixteen cX5_drawOfSixteen 1 (some .int) 0 := ⟨wc_X5_drawOfSixteen, wi_X5_drawOfSixteen, ws_X5_drawOfSixteen, wn_X5, rfl, by decide, by decide, by decide +kernel⟩
set_option maxHeartbeats 4000000 in
set_option maxRecDepth 100000 in
theorem c5_drawOfSixteen (l : Launch) (G : CG) (a : Nat → Nat) (z : RS)   : cMi G l yX5_drawOfSixteen cX5_drawOfSixteen 1 (some .int) 0 0 [.ref (a 0)] (fun q9 : RS => w5 G a q9) z (fun r z9 => r = pc_d16 (pc_nx (z.1 12)) ∧ z9 = sI z 12 (pc_nx (z.1 12))) := by
  refine cMi_in (by decide) rfl (Nat.le_of_ble_eq_true rfl) ?_
  intro p e s m args below meth c A ls X hml hr hk hl w
  have hx := X.1
  have hb := X.2.1
  have hts := X.2.2.1
  have hown := X.2.2.2.1
  have hl : lv_has ls 1 [(0, .ref (a 0))] := hl
  refine lv_aload_n hx hb dX5_drawOfSixteen_0 rfl (lv_at hl 0 rfl) ?_
  refine lv_aload_n hx hb dX5_drawOfSixteen_1 rfl (lv_at hl 0 rfl) ?_
  refine ag_S_X5_40_this X w.1 dX5_drawOfSixteen_2 ?_
  refine lv_ldc hx hb hown (hts _ wk_X5_146) dX5_drawOfSixteen_5 ?_
  refine tp_i (show (1103515245 : Int32) = (nI 1103515245) from by decide) ?_
  refine lv_imul hx hb dX5_drawOfSixteen_7 ?_
  refine lv_sipush (v := (nI 12345)) hx hb dX5_drawOfSixteen_8 (by decide) ?_
  refine lv_iadd hx hb dX5_drawOfSixteen_11 ?_
  refine lv_ldc hx hb hown (hts _ wk_X5_147) dX5_drawOfSixteen_12 ?_
  refine tp_i (show (2147483647 : Int32) = (nI 2147483647) from by decide) ?_
  refine lv_iand hx hb dX5_drawOfSixteen_14 ?_
  refine ap_S_X5_40_this X w dX5_drawOfSixteen_15 (fun z_15 H locs ez_15 w => ?_)
  refine lv_aload_n hx hb dX5_drawOfSixteen_18 rfl (lv_at hl 0 rfl) ?_
  refine ag_S_X5_40_this X w.1 dX5_drawOfSixteen_19 ?_
  refine lv_ldc hx hb hown (hts _ wk_X5_148) dX5_drawOfSixteen_22 ?_
  refine tp_i (show (65536 : Int32) = (nI 65536) from by decide) ?_
  refine lv_idiv hx hb dX5_drawOfSixteen_24 (by decide) ?_
  refine lv_bipush (v := (nI 16)) hx hb dX5_drawOfSixteen_25 (by decide) ?_
  refine lv_irem hx hb dX5_drawOfSixteen_27 (by decide) ?_
  exact ce_i (w := (fun q9 : RS => w5 G a q9)) (z := z_15) X hr hk w (by subst ez_15; exact ⟨rfl, rfl⟩) dX5_drawOfSixteen_28

section Lm_c5_fightFirst
variable {p : Program} {l : Launch} {e : Env} {R : Room} {s : State} {m : MethodId} {args : Array Value} {below : List Frame} {meth : Method} {c : Code} {H : Heap} {locs : List Loc} {cells slots : Nat} {Q : State → Prop}
variable {cc : ByteArray} {pc : Nat} {ls : Array Slot} {rest : List Value} {G : CG} {A : Nat → Prop}
theorem au_S_this_7 {own : String} {a : Nat → Nat} {z : RS} {j : Nat} {v : Int32} (X : cX own G A p c cc s args m) (w : cW G A s (w5 G a z) H locs) (hj : j < 5) (hdg : decode cc pc = .ok (.iastore, 1)) (kk : ∀ (z1 : RS) (H : Heap) (locs : List Loc), z1 = (sA z 7 j v) → cW G A s (w5 G a z1) H locs → W p l e R s m args below meth c H locs cells slots Q (F0 m (pc + 1) ls rest)) : W p l e R s m args below meth c H locs cells slots Q (F0 m pc ls (.int v :: .int (nI j) :: .ref (a 8) :: rest)) := by
  refine va_iast X.1 X.2.1 X.2.2.2.2.1.1 w.1 w.2.1 w.2.2 6 0 rfl rfl (vp_in_nI hj (by decide)) hdg ?_
  rw [nI_clamp (by omega)]
  exact fun H1 locs1 hP hD hS => kk _ H1 locs1 rfl ⟨hP, hD, hS⟩
end Lm_c5_fightFirst
theorem ok5_fightFirst : cOk RX5 yX5_fightFirst cX5_fightFirst 4 (some .int) 0 := ⟨wc_X5_fightFirst, wi_X5_fightFirst, ws_X5_fightFirst, wn_X5, rfl, by decide, by decide, by decide +kernel⟩
set_option maxHeartbeats 4000000 in
set_option maxRecDepth 100000 in
theorem c5_fightFirst (l : Launch) (G : CG) (a : Nat → Nat) (z : RS)  (S : Sc) (hz : cSc z S) (ho : oSc S) (ht : ¬ S.1 4 = 0) (hm : S.1 3 < 99999) (h0 : 1 ≤ S.1 1) : cMi G l yX5_fightFirst cX5_fightFirst 4 (some .int) 3 65 [.ref (a 0)] (fun q9 : RS => w5 G a q9) z (fun r z9 => r = sp_ffA S ∧ cSc z9 (sp_ffS S)) := by
  refine cMi_in (by decide) rfl (Nat.le_of_ble_eq_true rfl) ?_
  intro p e s m args below meth c A ls X hml hr hk hl w
  have hx := X.1
  have hb := X.2.1
  have hts := X.2.2.1
  have hown := X.2.2.2.1
  have hl : lv_has ls 4 [(0, .ref (a 0))] := hl
  obtain ⟨o1, o2, o3, o4, o5, o6, oso, oki, osr, opa, ohu, oco⟩ := id ho
  refine lv_aload_n hx hb dX5_fightFirst_0 rfl (lv_at hl 0 rfl) ?_
  refine gc_p (C := RX5) (ci := 4) (rest := []) X hml hl.1 (c5_firstThere l G a z  S hz ho ht (by omega)) ok5_firstThere wm_X5_131 ⟨Nat.le_of_ble_eq_true rfl, Nat.le_of_ble_eq_true rfl⟩ ⟨Nat.le_refl _, Nat.le_refl _⟩ w.1 [0, 1, 2, 3, 4, 5, 6, 7] rfl rfl rfl rfl (Nat.le_of_ble_eq_true rfl) dX5_fightFirst_1 (fun r_1 hr_1 => ?_)
  subst hr_1
  have d_1 := sp_mtL_le S (S.1 3) (S.1 1 - 1)
  have b_1 := f1_b (sp_mt S (S.1 3)) (by unfold sp_mt; omega)
  refine lv_istore_n (lv' := [(1, .int (iZ (pc_f1 (sp_mt S (S.1 3))))), (0, .ref (a 0))]) hx hb dX5_fightFirst_4 rfl hl (by decide) rfl (fun ls hl => ?_)
  refine lv_iload_n hx hb dX5_fightFirst_5 rfl (lv_at hl 0 rfl) ?_
  refine z_if_ge (tgt := 12) hx hb dX5_fightFirst_6 (by decide) (by omega) (by omega) (fun c_6_1 => ?_) (fun c_6_1 => ?_)
  · skip
    have hF : ¬ sp_mt S (S.1 3) = 0 := by omega
    have d1 : sp_mt S (S.1 3) ≤ S.1 1 - 1 := d_1
    have hl : lv_has ls 4 [(1, .int (nI (sp_mt S (S.1 3)))), (0, .ref (a 0))] := by rw [show (nI (sp_mt S (S.1 3))) = (iZ (pc_f1 (sp_mt S (S.1 3)))) from (f1_n hF).symm]; exact hl
    have hT := mt_th (S := S) _ hF
    have hT2 := tc_ot (S := S) (F := sp_mt S (S.1 3)) (by omega) hT (S.1 1 - 1)
    rw [if_pos d1] at hT2
    refine lv_aload_n hx hb dX5_fightFirst_12 rfl (lv_at hl 1 rfl) ?_
    refine lv_iconst (v := (nI 0)) hx hb dX5_fightFirst_13 (by decide) ?_
    refine gc_p (C := RX5) (ci := 4) (rest := []) X hml hl.1 (c5_forceOf l G a z 0 S hz.1 ho (by omega)) ok5_forceOf wm_X5_134 ⟨Nat.le_of_ble_eq_true rfl, Nat.le_of_ble_eq_true rfl⟩ ⟨Nat.le_refl _, Nat.le_refl _⟩ w.1 [0, 1, 2, 3, 4, 5, 6, 7] rfl rfl rfl rfl (Nat.le_of_ble_eq_true rfl) dX5_fightFirst_14 (fun r_14 hr_14 => ?_)
    subst hr_14
    have d_14 := sp_frc_le S ho 0
    refine lv_aload_n hx hb dX5_fightFirst_17 rfl (lv_at hl 1 rfl) ?_
    refine lv_iload_n hx hb dX5_fightFirst_18 rfl (lv_at hl 0 rfl) ?_
    refine gc_p (C := RX5) (ci := 4) (rest := [.int (nI (sp_frc S 0))]) X hml hl.1 (c5_forceOf l G a z (sp_mt S (S.1 3)) S hz.1 ho (by omega)) ok5_forceOf wm_X5_134 ⟨Nat.le_of_ble_eq_true rfl, Nat.le_of_ble_eq_true rfl⟩ ⟨Nat.le_refl _, Nat.le_refl _⟩ w.1 [0, 1, 2, 3, 4, 5, 6, 7] rfl rfl rfl rfl (Nat.le_of_ble_eq_true rfl) dX5_fightFirst_19 (fun r_19 hr_19 => ?_)
    subst hr_19
    have d_19 := sp_frc_le S ho (sp_mt S (S.1 3))
    refine lv_aload_n hx hb dX5_fightFirst_22 rfl (lv_at hl 1 rfl) ?_
    refine gc_p (C := RX5) (ci := 4) (rest := [.int (nI (sp_frc S (sp_mt S (S.1 3)))), .int (nI (sp_frc S 0))]) X hml hl.1 (c5_countThere l G a z  S hz ho ht (by omega)) ok5_countThere wm_X5_137 ⟨Nat.le_of_ble_eq_true rfl, Nat.le_of_ble_eq_true rfl⟩ ⟨Nat.le_refl _, Nat.le_refl _⟩ w.1 [0, 1, 2, 3, 4, 5, 6, 7] rfl rfl rfl rfl (Nat.le_of_ble_eq_true rfl) dX5_fightFirst_23 (fun r_23 hr_23 => ?_)
    subst hr_23
    have d_23 := tc_le S (S.1 1 - 1)
    refine lv_iconst (v := (nI 1)) hx hb dX5_fightFirst_26 (by decide) ?_
    refine n_isub hx hb dX5_fightFirst_27 (by omega) ?_
    refine gc_s (C := RX5) (rest := []) ⟨X.1, X.2.1, X.2.2.1, X.2.2.2.1⟩ hml hl.1 (c5_odds l (sp_frc S 0) (sp_frc S (sp_mt S (S.1 3))) ((sp_tc S (S.1 1 - 1)) - 1) (by omega) (by omega) (by omega)) ok5_odds wm_X5_140 ⟨Nat.le_of_ble_eq_true rfl, Nat.le_of_ble_eq_true rfl⟩ ⟨Nat.le_refl _, Nat.le_refl _⟩ rfl (Nat.le_of_ble_eq_true rfl) dX5_fightFirst_28 (fun r_28 hr_28 => ?_) rfl
    subst hr_28
    have d_28 := pc_btw_le ((8 + ((sp_frc S 0) : Int)) - ((sp_frc S (sp_mt S (S.1 3))) : Int) - ((2 * ((sp_tc S (S.1 1 - 1)) - 1) : Nat) : Int))
    refine lv_istore_n (lv' := [(2, .int (nI (pc_btw ((8 + ((sp_frc S 0) : Int)) - ((sp_frc S (sp_mt S (S.1 3))) : Int) - ((2 * ((sp_tc S (S.1 1 - 1)) - 1) : Nat) : Int))))), (1, .int (nI (sp_mt S (S.1 3)))), (0, .ref (a 0))]) hx hb dX5_fightFirst_31 rfl hl (by decide) rfl (fun ls hl => ?_)
    refine lv_iload_n hx hb dX5_fightFirst_32 rfl (lv_at hl 0 rfl) ?_
    refine lv_aload_n hx hb dX5_fightFirst_33 rfl (lv_at hl 2 rfl) ?_
    refine gc_i (C := RX5) (ci := 4) (rest := [.int (nI (pc_btw ((8 + ((sp_frc S 0) : Int)) - ((sp_frc S (sp_mt S (S.1 3))) : Int) - ((2 * ((sp_tc S (S.1 1 - 1)) - 1) : Nat) : Int))))]) (w := (fun q9 : RS => w5 G a q9)) (wr := []) (wn := (fun q9 : RS => w5 G a q9)) X hml hl.1 (c5_drawOfSixteen l G a z) ok5_drawOfSixteen wm_X5_143 ⟨Nat.le_of_ble_eq_true rfl, Nat.le_of_ble_eq_true rfl⟩ ⟨Nat.le_refl _, Nat.le_refl _⟩ w [0, 1, 2, 3, 4, 5, 6, 7] [] [0, 1, 2, 3, 4, 5, 6, 7] rfl (by decide) rfl (by decide) (by decide) (fun _ => rfl) (by decide) rfl rfl rfl (Nat.le_of_ble_eq_true rfl) dX5_fightFirst_34 (fun r_34 z_34 H locs hr_34 w => ?_)
    obtain ⟨hr_34, h9_34⟩ := hr_34
    rw [cs_dr hz.1] at hr_34 h9_34
    subst hr_34
    have hz1 : cSc z_34 (sD S (pc_nx S.2.2)) := by rw [h9_34]; exact cc_dr hz _
    refine jn (tgt := 45) (rest := []) (fun v9 => ∃ x9 : Nat, x9 = (if ((nI (pc_btw ((8 + ((sp_frc S 0) : Int)) - ((sp_frc S (sp_mt S (S.1 3))) : Int) - ((2 * ((sp_tc S (S.1 1 - 1)) - 1) : Nat) : Int))))) ≤ ((pc_d16 (pc_nx S.2.2))) then 0 else (sp_mt S (S.1 3))) ∧ v9 = nI x9) (fun v_ hv_ => ?_) (fun k_45 => ?_)
    · obtain ⟨x_45, ex_45, rfl⟩ := hv_
      have j1 : x_45 = sp_whc S (sp_mt S (S.1 3)) := by rw [ex_45]; unfold sp_whc sp_oddc; rfl
      have j2 : x_45 ≤ S.1 1 - 1 := by rw [ex_45]; exact it_le (Nat.zero_le _) d1
      have j3 := ohu x_45
      refine lv_istore_n (lv' := [(3, .int (nI x_45)), (2, .int (nI (pc_btw ((8 + ((sp_frc S 0) : Int)) - ((sp_frc S (sp_mt S (S.1 3))) : Int) - ((2 * ((sp_tc S (S.1 1 - 1)) - 1) : Nat) : Int))))), (1, .int (nI (sp_mt S (S.1 3)))), (0, .ref (a 0))]) hx hb dX5_fightFirst_45 rfl hl (by decide) rfl (fun ls hl => ?_)
      refine lv_aload_n hx hb dX5_fightFirst_46 rfl (lv_at hl 3 rfl) ?_
      refine ag_S_X5_31_this X w.1 dX5_fightFirst_47 ?_
      refine lv_iload_n hx hb dX5_fightFirst_50 rfl (lv_at hl 0 rfl) ?_
      refine lv_dup2_11 hx hb dX5_fightFirst_51 rfl rfl ?_
      refine an_S_this_7 X w.1 (by omega) dX5_fightFirst_52 ?_
      refine tp_i (show z_34.2.1 7 x_45 = (nI (S.2.1 4 x_45)) from cs_hu hz1.1 x_45 (show _ < S.1 1 by omega)) ?_
      refine lv_iconst (v := (nI 1)) hx hb dX5_fightFirst_53 (by decide) ?_
      refine n_iadd hx hb dX5_fightFirst_54 ?_
      refine au_S_this_7 X w (by omega) dX5_fightFirst_55 (fun z_55 H locs ez_55 w => ?_)
      refine lv_iload_n hx hb dX5_fightFirst_56 rfl (lv_at hl 0 rfl) ?_
      exact ce_i (w := (fun q9 : RS => w5 G a q9)) (z := z_55) X hr hk w (⟨by unfold sp_ffA; rw [if_neg hF, ← j1], by unfold sp_ffS; rw [if_neg hF, ← j1, ez_55]; exact cc_hu hz1 _ _⟩) dX5_fightFirst_57
    · skip
      refine lv_icmp_le (tgt := 44) hx hb dX5_fightFirst_37 (by decide) (fun c_37_3 => ?_) (fun c_37_3 => ?_)
      · skip
        refine lv_iconst (v := (nI 0)) hx hb dX5_fightFirst_44 (by decide) ?_
        exact k_45 _ ⟨_, by simp only [if_pos c_37_3], rfl⟩
      · skip
        refine lv_iload_n hx hb dX5_fightFirst_40 rfl (lv_at hl 1 rfl) ?_
        refine lv_goto (tgt := 45) hx hb dX5_fightFirst_41 (by decide) ?_
        exact k_45 _ ⟨_, by simp only [if_neg c_37_3], rfl⟩
  · skip
    refine lv_bipush (v := (iZ (-4))) hx hb dX5_fightFirst_9 (by decide) ?_
    exact ce_i (w := (fun q9 : RS => w5 G a q9)) (z := z) X hr hk w (⟨by unfold sp_ffA; rw [if_pos (by omega)], by unfold sp_ffS; rw [if_pos (by omega)]; exact hz⟩) dX5_fightFirst_11

section Lm_c5_waitForNext
variable {p : Program} {l : Launch} {e : Env} {R : Room} {s : State} {m : MethodId} {args : Array Value} {below : List Frame} {meth : Method} {c : Code} {H : Heap} {locs : List Loc} {cells slots : Nat} {Q : State → Prop}
variable {cc : ByteArray} {pc : Nat} {ls : Array Slot} {rest : List Value} {G : CG} {A : Nat → Prop}
theorem ap_S_X5_49_this {a : Nat → Nat} {z : RS} {v : Int32} (X : cX RX5 G A p c cc s args m) (w : cW G A s (w5 G a z) H locs) (hdg : decode cc pc = .ok (.putfield 49, 3)) (kk : ∀ (z1 : RS) (H : Heap) (locs : List Loc), z1 = (sI z 9 v) → cW G A s (w5 G a z1) H locs → W p l e R s m args below meth c H locs cells slots Q (F0 m (pc + 3) ls rest)) : W p l e R s m args below meth c H locs cells slots Q (F0 m pc ls (.int v :: .ref (a 0) :: rest)) :=
  va_put (D := G.1) (ci := 4) (v := .int v) (ty := .int) (C := RX5) (T := TX5) (N := 13) X.1 X.2.1 X.2.2.1 gX5 tyX5 tyX5_ok nmX5 X.2.2.2.1 X.2.2.2.2.1.1 w.1 w.2.1 w.2.2 0 rfl rfl 9 (by decide) (X.2.2.1 _ wf_X5_49) (fun _ h9 => h9) rfl (by decide +kernel) rfl rfl (Nat.le_of_ble_eq_true rfl) hdg (fun H1 locs1 hP hD hS => kk _ H1 locs1 rfl ⟨hP, hD, hS⟩)
end Lm_c5_waitForNext
theorem ok5_waitForNext : cOk RX5 yX5_waitForNext cX5_waitForNext 3 none 0 := ⟨wc_X5_waitForNext, wi_X5_waitForNext, ws_X5_waitForNext, wn_X5, rfl, by decide, by decide, by decide +kernel⟩
set_option maxHeartbeats 4000000 in
set_option maxRecDepth 100000 in
theorem c5_waitForNext (l : Launch) (G : CG) (a : Nat → Nat) (z : RS)  (S : Sc) (hz : cSc z S) (ho : oSc S) (ht : ¬ S.1 4 = 0) : cMv G l yX5_waitForNext cX5_waitForNext 3 none 1 21 [.ref (a 0)] (fun q9 : RS => w5 G a q9) z (fun z9 => cSc z9 (sN S 3 (max (S.1 3 + 1) (sp_nxL S (S.1 1 - 1))))) := by
  refine cMv_in (by decide) rfl (Nat.le_of_ble_eq_true rfl) ?_
  intro p e s m args below meth c A ls X hml hr hk hl w
  have hx := X.1
  have hb := X.2.1
  have hts := X.2.2.1
  have hown := X.2.2.2.1
  have hl : lv_has ls 3 [(0, .ref (a 0))] := hl
  obtain ⟨o1, o2, o3, o4, o5, o6, oso, oki, osr, opa, ohu, oco⟩ := id ho
  refine lv_ldc hx hb hown (hts _ wk_X5_118) dX5_waitForNext_0 ?_
  refine tp_i (show (1073741824 : Int32) = (nI 1073741824) from by decide) ?_
  refine lv_istore_n (lv' := [(1, .int (nI 1073741824)), (0, .ref (a 0))]) hx hb dX5_waitForNext_2 rfl hl (by decide) rfl (fun ls hl => ?_)
  refine lv_iconst (v := (nI 1)) hx hb dX5_waitForNext_3 (by decide) ?_
  refine lv_istore_n (lv' := [(2, .int (nI 1)), (1, .int (nI 1073741824)), (0, .ref (a 0))]) hx hb dX5_waitForNext_4 rfl hl (by decide) rfl (fun ls hl => ?_)
  have lp_5 : ∀ (n_5 : Nat) (i : Nat) (hi : i ≤ S.1 1 - 1) (hm_5 : S.1 1 - i < n_5) (ls : Array Slot), lv_has ls 3 [(0, .ref (a 0)), (1, .int (nI (sp_nxL S i))), (2, .int (nI (i + 1)))] → W p l e (ro_m 1 21) s m args below meth c s.heap [] 0 0 (MQ below (va_Qv (fun z9 => cSc z9 (sN S 3 (max (S.1 3 + 1) (sp_nxL S (S.1 1 - 1))))) (cB G (fun q9 : RS => w5 G a q9) A) A) args s 0 0 A) (F0 m 5 ls []) := by
    intro n_5
    induction n_5 with
    | zero => intro i hi hm; exact absurd hm (Nat.not_lt_zero _)
    | succ n_5 ih_5 =>
      intro i hi hm_5 ls hl
      have q1 := nxL_le S i
      have q3 := nv_bd (oco (i + 1))
      refine lv_iload_n hx hb dX5_waitForNext_5 rfl (lv_at hl 2 rfl) ?_
      refine lv_aload_n hx hb dX5_waitForNext_6 rfl (lv_at hl 0 rfl) ?_
      refine ag_S_X5_43_this X w.1 dX5_waitForNext_7 ?_
      refine tp_i (show z.1 3 = (nI (S.1 1)) from cs_nf hz.1) ?_
      refine n_icmp_ge (tgt := 38) hx hb dX5_waitForNext_10 (by decide) (by omega) (by omega) (fun c_10_1 => ?_) (fun c_10_1 => ?_)
      · skip
        refine lv_aload_n hx hb dX5_waitForNext_38 rfl (lv_at hl 0 rfl) ?_
        refine lv_aload_n hx hb dX5_waitForNext_39 rfl (lv_at hl 0 rfl) ?_
        refine ag_S_X5_49_this X w.1 dX5_waitForNext_40 ?_
        refine tp_i (show z.1 9 = (nI (S.1 3)) from cs_mo hz.1) ?_
        refine lv_iconst (v := (nI 1)) hx hb dX5_waitForNext_43 (by decide) ?_
        refine n_iadd hx hb dX5_waitForNext_44 ?_
        refine lv_iload_n hx hb dX5_waitForNext_45 rfl (lv_at hl 1 rfl) ?_
        refine tp_i (iZ_n (sp_nxL S i)).symm ?_
        refine tp_i2 (iZ_n ((S.1 3) + 1)).symm ?_
        refine gm_max (rest := [.ref (a 0)]) ⟨X.1, X.2.1, X.2.2.1, X.2.2.2.1⟩ hml hl.1 wm_X5_103 ⟨Nat.le_of_ble_eq_true rfl, Nat.le_of_ble_eq_true rfl⟩ ⟨Nat.le_refl _, Nat.le_refl _⟩ (Nat.le_of_ble_eq_true rfl) (by omega) (by omega) (by omega) (by omega) dX5_waitForNext_46 ?_
        refine tp_i (show iZ (max (((S.1 3) + 1 : Nat) : Int) ((sp_nxL S i : Nat) : Int)) = nI (max ((S.1 3) + 1) (sp_nxL S i)) from by rw [← iZ_n]; exact congrArg iZ (by omega)) ?_
        refine ap_S_X5_49_this X w dX5_waitForNext_49 (fun z_49 H locs ez_49 w => ?_)
        exact ce_v (w := (fun q9 : RS => w5 G a q9)) (z := z_49) X hr hk w (by rw [ez_49, show S.1 1 - 1 = i by omega]; exact cc_mo hz _) dX5_waitForNext_52
      · skip
        refine lv_aload_n hx hb dX5_waitForNext_13 rfl (lv_at hl 0 rfl) ?_
        refine lv_iload_n hx hb dX5_waitForNext_14 rfl (lv_at hl 2 rfl) ?_
        refine gc_p (C := RX5) (ci := 4) (rest := []) X hml hl.1 (c5_isUp l G a z (i + 1) S hz.1 ho (by omega)) ok5_isUp wm_X5_74 ⟨Nat.le_of_ble_eq_true rfl, Nat.le_of_ble_eq_true rfl⟩ ⟨Nat.le_refl _, Nat.le_refl _⟩ w.1 [0, 1, 2, 3, 4, 5, 6, 7] rfl rfl rfl rfl (Nat.le_of_ble_eq_true rfl) dX5_waitForNext_15 (fun r_15 hr_15 => ?_)
        subst hr_15
        have d_15 := pc_dn01 S (i + 1)
        refine n_if_eq (tgt := 32) hx hb dX5_waitForNext_18 (by decide) (by omega) (fun c_18_2 => ?_) (fun c_18_2 => ?_)
        · skip
          have hl : lv_has ls 3 [(0, .ref (a 0)), (1, .int (nI (sp_nxL S (i + 1)))), (2, .int (nI (i + 1)))] := by rw [show (nI (sp_nxL S (i + 1))) = (nI (sp_nxL S i)) from congrArg nI (by show (if pc_dn S (i + 1) = 0 then min (sp_nxL S i) (pc_nv (S.2.1 5 (i + 1))) else sp_nxL S i) = _; first | (rw [if_pos (show pc_dn S (i + 1) = 0 by omega)]; done) | (rw [if_neg (show ¬ pc_dn S (i + 1) = 0 by omega)]; done))]; exact hl
          refine lv_iinc (v := (nI (i + 1 + 1))) (lv' := [(2, .int (nI (i + 1 + 1))), (0, .ref (a 0)), (1, .int (nI (sp_nxL S (i + 1))))]) hx hb dX5_waitForNext_32 hl (k := 2) rfl (by first | exact nI_1 _ | (rw [show Int32.ofInt 1 = nI 1 from by decide, nI_add])) (by decide) rfl (fun ls hl => ?_)
          refine lv_goto (tgt := 5) hx hb dX5_waitForNext_35 (by decide) ?_
          exact ih_5 (i + 1) (by omega) (by omega) ls (lv_sub hl [1, 2, 0] rfl)
        · skip
          refine lv_iload_n hx hb dX5_waitForNext_21 rfl (lv_at hl 1 rfl) ?_
          refine lv_aload_n hx hb dX5_waitForNext_22 rfl (lv_at hl 0 rfl) ?_
          refine ag_S_X5_37_this X w.1 dX5_waitForNext_23 ?_
          refine lv_iload_n hx hb dX5_waitForNext_26 rfl (lv_at hl 2 rfl) ?_
          refine an_S_this_11 X w.1 (by omega) dX5_waitForNext_27 ?_
          refine tp_i (show z.2.1 11 (i + 1) = (nI (pc_nv (S.2.1 5 (i + 1)))) from cs_co hz (i + 1) (by first | assumption | omega) (by omega) (by omega)) ?_
          refine tp_i (iZ_n (pc_nv (S.2.1 5 (i + 1)))).symm ?_
          refine tp_i2 (iZ_n (sp_nxL S i)).symm ?_
          refine gm_min (rest := []) ⟨X.1, X.2.1, X.2.2.1, X.2.2.2.1⟩ hml hl.1 wm_X5_149 ⟨Nat.le_of_ble_eq_true rfl, Nat.le_of_ble_eq_true rfl⟩ ⟨Nat.le_refl _, Nat.le_refl _⟩ (Nat.le_of_ble_eq_true rfl) (by omega) (by omega) (by omega) (by omega) dX5_waitForNext_28 ?_
          refine tp_i (show iZ (min ((sp_nxL S i : Nat) : Int) ((pc_nv (S.2.1 5 (i + 1)) : Nat) : Int)) = nI (min (sp_nxL S i) (pc_nv (S.2.1 5 (i + 1)))) from by rw [← iZ_n]; exact congrArg iZ (by omega)) ?_
          refine lv_istore_n (lv' := [(1, .int (nI (min (sp_nxL S i) (pc_nv (S.2.1 5 (i + 1)))))), (0, .ref (a 0)), (2, .int (nI (i + 1)))]) hx hb dX5_waitForNext_31 rfl hl (by decide) rfl (fun ls hl => ?_)
          have hl : lv_has ls 3 [(1, .int (nI (sp_nxL S (i + 1)))), (0, .ref (a 0)), (2, .int (nI (i + 1)))] := by rw [show (nI (sp_nxL S (i + 1))) = (nI (min (sp_nxL S i) (pc_nv (S.2.1 5 (i + 1))))) from congrArg nI (by show (if pc_dn S (i + 1) = 0 then min (sp_nxL S i) (pc_nv (S.2.1 5 (i + 1))) else sp_nxL S i) = _; first | (rw [if_pos (show pc_dn S (i + 1) = 0 by omega)]; done) | (rw [if_neg (show ¬ pc_dn S (i + 1) = 0 by omega)]; done))]; exact hl
          refine lv_iinc (v := (nI (i + 1 + 1))) (lv' := [(2, .int (nI (i + 1 + 1))), (1, .int (nI (sp_nxL S (i + 1)))), (0, .ref (a 0))]) hx hb dX5_waitForNext_32 hl (k := 2) rfl (by first | exact nI_1 _ | (rw [show Int32.ofInt 1 = nI 1 from by decide, nI_add])) (by decide) rfl (fun ls hl => ?_)
          refine lv_goto (tgt := 5) hx hb dX5_waitForNext_35 (by decide) ?_
          exact ih_5 (i + 1) (by omega) (by omega) ls (lv_sub hl [2, 1, 0] rfl)
  exact lp_5 _ 0 (Nat.zero_le _) (Nat.lt_succ_self _) ls (lv_sub hl [2, 1, 0] rfl)

section Lm_c5_turnIn
variable {p : Program} {l : Launch} {e : Env} {R : Room} {s : State} {m : MethodId} {args : Array Value} {below : List Frame} {meth : Method} {c : Code} {H : Heap} {locs : List Loc} {cells slots : Nat} {Q : State → Prop}
variable {cc : ByteArray} {pc : Nat} {ls : Array Slot} {rest : List Value} {G : CG} {A : Nat → Prop}
theorem ap_S_X5_34_this {a : Nat → Nat} {z : RS} {v : Int32} (X : cX RX5 G A p c cc s args m) (w : cW G A s (w5 G a z) H locs) (hdg : decode cc pc = .ok (.putfield 34, 3)) (kk : ∀ (z1 : RS) (H : Heap) (locs : List Loc), z1 = (sI z 10 v) → cW G A s (w5 G a z1) H locs → W p l e R s m args below meth c H locs cells slots Q (F0 m (pc + 3) ls rest)) : W p l e R s m args below meth c H locs cells slots Q (F0 m pc ls (.int v :: .ref (a 0) :: rest)) :=
  va_put (D := G.1) (ci := 4) (v := .int v) (ty := .int) (C := RX5) (T := TX5) (N := 13) X.1 X.2.1 X.2.2.1 gX5 tyX5 tyX5_ok nmX5 X.2.2.2.1 X.2.2.2.2.1.1 w.1 w.2.1 w.2.2 0 rfl rfl 10 (by decide) (X.2.2.1 _ wf_X5_34) (fun _ h9 => h9) rfl (by decide +kernel) rfl rfl (Nat.le_of_ble_eq_true rfl) hdg (fun H1 locs1 hP hD hS => kk _ H1 locs1 rfl ⟨hP, hD, hS⟩)
theorem au_S_this_11 {own : String} {a : Nat → Nat} {z : RS} {j : Nat} {v : Int32} (X : cX own G A p c cc s args m) (w : cW G A s (w5 G a z) H locs) (hj : j < 5) (hdg : decode cc pc = .ok (.iastore, 1)) (kk : ∀ (z1 : RS) (H : Heap) (locs : List Loc), z1 = (sA z 11 j v) → cW G A s (w5 G a z1) H locs → W p l e R s m args below meth c H locs cells slots Q (F0 m (pc + 1) ls rest)) : W p l e R s m args below meth c H locs cells slots Q (F0 m pc ls (.int v :: .int (nI j) :: .ref (a 12) :: rest)) := by
  refine va_iast X.1 X.2.1 X.2.2.2.2.1.1 w.1 w.2.1 w.2.2 7 0 rfl rfl (vp_in_nI hj (by decide)) hdg ?_
  rw [nI_clamp (by omega)]
  exact fun H1 locs1 hP hD hS => kk _ H1 locs1 rfl ⟨hP, hD, hS⟩
end Lm_c5_turnIn
theorem ok5_turnIn : cOk RX5 yX5_turnIn cX5_turnIn 3 none 1 := ⟨wc_X5_turnIn, wi_X5_turnIn, ws_X5_turnIn, wn_X5, rfl, by decide, by decide, by decide +kernel⟩
set_option maxHeartbeats 4000000 in
set_option maxRecDepth 100000 in
theorem c5_turnIn (l : Launch) (G : CG) (a : Nat → Nat) (z : RS) (ma9 : Nat) (S : Sc) (hz : cSn z S) (ho : oSc S) (h0 : 1 ≤ S.1 1) (hm : ma9 ≤ 100000) : cMv G l yX5_turnIn cX5_turnIn 3 none 4 90 [.ref (a 0), .int (nI ma9)] (fun q9 : RS => w5 G a q9) z (fun z9 => cSc z9 (sp_turn S 0 ma9)) := by
  refine cMv_in (by decide) rfl (Nat.le_of_ble_eq_true rfl) ?_
  intro p e s m args below meth c A ls X hml hr hk hl w
  have hx := X.1
  have hb := X.2.1
  have hts := X.2.2.1
  have hown := X.2.2.2.1
  have hl : lv_has ls 3 [(0, .ref (a 0)), (1, .int (nI ma9))] := hl
  obtain ⟨o1, o2, o3, o4, o5, o6, oso, oki, osr, opa, ohu, oco⟩ := id ho
  have hoT := oSc_turn ho 0 hm
  have hR := sp_run_lt S ho ma9
  refine lv_aload_n hx hb dX5_turnIn_0 rfl (lv_at hl 0 rfl) ?_
  refine lv_aload_n hx hb dX5_turnIn_1 rfl (lv_at hl 0 rfl) ?_
  refine lv_iconst (v := (nI 0)) hx hb dX5_turnIn_2 (by decide) ?_
  refine lv_iload_n hx hb dX5_turnIn_3 rfl (lv_at hl 1 rfl) ?_
  refine gc_p (C := RX5) (ci := 4) (rest := [.ref (a 0)]) X hml hl.1 (c5_cellRunning l G a z 0 ma9 S hz ho (by omega) (by omega)) ok5_cellRunning wm_X5_112 ⟨Nat.le_of_ble_eq_true rfl, Nat.le_of_ble_eq_true rfl⟩ ⟨Nat.le_refl _, Nat.le_refl _⟩ w.1 [0, 1, 2, 3, 4, 5, 6, 7] rfl rfl rfl rfl (Nat.le_of_ble_eq_true rfl) dX5_turnIn_4 (fun r_4 hr_4 => ?_)
  subst hr_4
  refine tp_i (show nI (sp_cr S 0 ma9) = nI (sp_run S ma9) from rfl) ?_
  have d_4 := sp_run_lt S ho ma9
  refine ap_S_X5_34_this X w dX5_turnIn_7 (fun z_7 H locs ez_7 w => ?_)
  refine lv_aload_n hx hb dX5_turnIn_10 rfl (lv_at hl 0 rfl) ?_
  refine lv_iload_n hx hb dX5_turnIn_11 rfl (lv_at hl 1 rfl) ?_
  refine ap_S_X5_49_this X w dX5_turnIn_12 (fun z_12 H locs ez_12 w => ?_)
  refine lv_iconst (v := (nI 1)) hx hb dX5_turnIn_15 (by decide) ?_
  refine lv_istore_n (lv' := [(2, .int (nI 1)), (0, .ref (a 0)), (1, .int (nI ma9))]) hx hb dX5_turnIn_16 rfl hl (by decide) rfl (fun ls hl => ?_)
  have lp_17 : ∀ (n_17 : Nat) (i : Nat) (hi : i ≤ S.1 1 - 1) (hm_17 : S.1 1 - i < n_17) (ls : Array Slot) (zz : RS) (H : Heap) (locs : List Loc) (w : cW G A s (w5 G a zz) H locs) (hn : cSn zz (sp_turn S 0 ma9)) (hc : ∀ f, 1 ≤ f → f < i + 1 → zz.2.1 11 f = nI (pc_nv (sp_cm S 0 ma9 f))), lv_has ls 3 [(0, .ref (a 0)), (1, .int (nI ma9)), (2, .int (nI (i + 1)))] → W p l e (ro_m 4 90) s m args below meth c H locs 0 0 (MQ below (va_Qv (fun z9 => cSc z9 (sp_turn S 0 ma9)) (cB G (fun q9 : RS => w5 G a q9) A) A) args s 0 0 A) (F0 m 17 ls []) := by
    intro n_17
    induction n_17 with
    | zero => intro i hi hm; exact absurd hm (Nat.not_lt_zero _)
    | succ n_17 ih_17 =>
      intro i hi hm_17 ls zz H locs w hn hc hl
      refine lv_iload_n hx hb dX5_turnIn_17 rfl (lv_at hl 2 rfl) ?_
      refine lv_aload_n hx hb dX5_turnIn_18 rfl (lv_at hl 0 rfl) ?_
      refine ag_S_X5_43_this X w.1 dX5_turnIn_19 ?_
      refine tp_i (show zz.1 3 = (nI (S.1 1)) from (cs_nf (S := sp_turn S 0 ma9) hn)) ?_
      refine n_icmp_ge (tgt := 59) hx hb dX5_turnIn_22 (by decide) (by omega) (by omega) (fun c_22_1 => ?_) (fun c_22_1 => ?_)
      · skip
        exact ce_v (w := (fun q9 : RS => w5 G a q9)) (z := zz) X hr hk w (⟨hn, fun _ f h1 hf => hc f h1 (by have : f < S.1 1 := hf; omega)⟩) dX5_turnIn_59
      · skip
        refine lv_aload_n hx hb dX5_turnIn_25 rfl (lv_at hl 0 rfl) ?_
        refine ag_S_X5_37_this X w.1 dX5_turnIn_26 ?_
        refine lv_iload_n hx hb dX5_turnIn_29 rfl (lv_at hl 2 rfl) ?_
        refine lv_aload_n hx hb dX5_turnIn_30 rfl (lv_at hl 0 rfl) ?_
        refine lv_iload_n hx hb dX5_turnIn_31 rfl (lv_at hl 2 rfl) ?_
        refine gc_p (C := RX5) (ci := 4) (rest := [.int (nI (i + 1)), .ref (a 12)]) X hml hl.1 (c5_isUp l G a zz (i + 1) (sp_turn S 0 ma9) hn hoT (show i + 1 < S.1 1 by omega)) ok5_isUp wm_X5_74 ⟨Nat.le_of_ble_eq_true rfl, Nat.le_of_ble_eq_true rfl⟩ ⟨Nat.le_refl _, Nat.le_refl _⟩ w.1 [0, 1, 2, 3, 4, 5, 6, 7] rfl rfl rfl rfl (Nat.le_of_ble_eq_true rfl) dX5_turnIn_32 (fun r_32 hr_32 => ?_)
        subst hr_32
        refine tp_i (congrArg nI (by rw [ev_dn (ev_turn S 0 ma9)] : _ = 1 - pc_dn S (i + 1))) ?_
        have d_32 := pc_dn01 S (i + 1)
        refine jn (tgt := 52) (rest := [.int (nI (i + 1)), .ref (a 12)]) (fun v9 => ∃ x9 : Nat, x9 = (if (1 - pc_dn S (i + 1)) = 0 then 1073741824 else (sp_com S 0 (i + 1) (sp_run S ma9))) ∧ v9 = nI x9) (fun v_ hv_ => ?_) (fun k_52 => ?_)
        · obtain ⟨x_52, ex_52, rfl⟩ := hv_
          refine au_S_this_11 X w (by omega) dX5_turnIn_52 (fun z_52 H locs ez_52 w => ?_)
          refine lv_iinc (v := (nI (i + 1 + 1))) (lv' := [(2, .int (nI (i + 1 + 1))), (0, .ref (a 0)), (1, .int (nI ma9))]) hx hb dX5_turnIn_53 hl (k := 2) rfl (by first | exact nI_1 _ | (rw [show Int32.ofInt 1 = nI 1 from by decide, nI_add])) (by decide) rfl (fun ls hl => ?_)
          refine lv_goto (tgt := 17) hx hb dX5_turnIn_56 (by decide) ?_
          exact ih_17 (i + 1) (by omega) (by omega) ls z_52 _ _ w (by rw [ez_52]; exact cn_co hn _ _) (by rw [ez_52]; exact tn_s (by omega) (by omega) (pc_dn01 _ _) ho hc ex_52) (lv_sub hl [1, 2, 0] rfl)
        · skip
          refine n_if_eq (tgt := 50) hx hb dX5_turnIn_35 (by decide) (by omega) (fun c_35_3 => ?_) (fun c_35_3 => ?_)
          · skip
            refine lv_ldc hx hb hown (hts _ wk_X5_118) dX5_turnIn_50 ?_
            refine tp_i (show (1073741824 : Int32) = (nI 1073741824) from by decide) ?_
            exact k_52 _ ⟨_, by simp only [if_pos c_35_3], rfl⟩
          · skip
            refine lv_aload_n hx hb dX5_turnIn_38 rfl (lv_at hl 0 rfl) ?_
            refine lv_iload_n hx hb dX5_turnIn_39 rfl (lv_at hl 2 rfl) ?_
            refine lv_aload_n hx hb dX5_turnIn_40 rfl (lv_at hl 0 rfl) ?_
            refine ag_S_X5_34_this X w.1 dX5_turnIn_41 ?_
            refine tp_i (show zz.1 10 = (nI (sp_run S ma9)) from tn_sd hn) ?_
            refine gc_p (C := RX5) (ci := 4) (rest := [.int (nI (i + 1)), .ref (a 12)]) X hml hl.1 (c5_comesTo l G a zz (i + 1) (sp_run S ma9) (sp_turn S 0 ma9) hn hoT (show i + 1 < S.1 1 by omega) hR) ok5_comesTo wm_X5_122 ⟨Nat.le_of_ble_eq_true rfl, Nat.le_of_ble_eq_true rfl⟩ ⟨Nat.le_refl _, Nat.le_refl _⟩ w.1 [0, 1, 2, 3, 4, 5, 6, 7] rfl rfl rfl rfl (Nat.le_of_ble_eq_true rfl) dX5_turnIn_44 (fun r_44 hr_44 => ?_)
            subst hr_44
            refine tp_i (congrArg nI (by rw [ev_com (ev_turn S 0 ma9)] : _ = sp_com S 0 (i + 1) (sp_run S ma9))) ?_
            refine lv_goto (tgt := 52) hx hb dX5_turnIn_47 (by decide) ?_
            exact k_52 _ ⟨_, by simp only [if_neg c_35_3], rfl⟩
  exact lp_17 _ 0 (Nat.zero_le _) (Nat.lt_succ_self _) ls z_12 _ _ w (by rw [ez_12, ez_7]; exact tn_0 hz ma9) (fun f h1 h2 => by omega) (lv_sub hl [1, 2, 0] rfl)
