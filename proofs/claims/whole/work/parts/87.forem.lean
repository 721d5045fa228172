section Lm_c2_begin
variable {p : Program} {l : Launch} {e : Env} {R : Room} {s : State} {m : MethodId} {args : Array Value} {below : List Frame} {meth : Method} {c : Code} {H : Heap} {locs : List Loc} {cells slots : Nat} {Q : State → Prop}
variable {cc : ByteArray} {pc : Nat} {ls : Array Slot} {rest : List Value} {G : CG} {A : Nat → Prop}
theorem ag_FS_X2_12_this {a b d e9 : Nat → Nat} {zo : RS} {z : RS × RS × RS} (X : cX RX2 G A p c cc s args m) (w : va_P G.1 vwCl (wF G a b d z ++ w5 G e9 zo) H) (hdg : decode cc pc = .ok (.getfield 12, 3)) (kk : W p l e R s m args below meth c H locs cells slots Q (F0 m (pc + 3) ls (.ref (b 0) :: rest))) : W p l e R s m args below meth c H locs cells slots Q (F0 m pc ls (.ref (a 0) :: rest)) :=
  va_get (D := G.1) (ci := 2) (v := .ref (b 0)) (C := RX2) (T := TX2) (N := 3) X.1 X.2.1 X.2.2.1 gX2 X.2.2.2.1 X.2.2.2.2.1.1 w 0 rfl rfl 0 (by decide) (X.2.2.1 _ wf_X2_12) (fun _ h9 => h9) rfl hdg kk
theorem ag_FS_X2_21_this {a b d e9 : Nat → Nat} {zo : RS} {z : RS × RS × RS} (X : cX RX2 G A p c cc s args m) (w : va_P G.1 vwCl (wF G a b d z ++ w5 G e9 zo) H) (hdg : decode cc pc = .ok (.getfield 21, 3)) (kk : W p l e R s m args below meth c H locs cells slots Q (F0 m (pc + 3) ls (.ref (d 0) :: rest))) : W p l e R s m args below meth c H locs cells slots Q (F0 m pc ls (.ref (a 0) :: rest)) :=
  va_get (D := G.1) (ci := 2) (v := .ref (d 0)) (C := RX2) (T := TX2) (N := 3) X.1 X.2.1 X.2.2.1 gX2 X.2.2.2.1 X.2.2.2.2.1.1 w 0 rfl rfl 1 (by decide) (X.2.2.1 _ wf_X2_21) (fun _ h9 => h9) rfl hdg kk
end Lm_c2_begin
theorem ok2_begin : cOk RX2 yX2_begin cX2_begin 2 none 1 := ⟨wc_X2_begin, wi_X2_begin, ws_X2_begin, wn_X2, rfl, by decide, by decide, by decide +kernel⟩
set_option maxHeartbeats 4000000 in
set_option maxRecDepth 100000 in
theorem c2_begin (l : Launch) (G : CG) (a b d e9 : Nat → Nat) (zo : RS) (z : RS × RS × RS)   : cMv G l yX2_begin cX2_begin 2 none 3 142 [.ref (a 0), .ref (e9 0)] (fun q9 : RS × RS × RS => wF G a b d q9 ++ w5 G e9 zo) z (fun z9 => cEq z9.2.1 zo ∧ (∀ k, k < 128 → z9.2.2.2.1 10 k = iZ (-1)) ∧ z9.1 = z.1) := by
  refine cMv_in (by decide) rfl (Nat.le_of_ble_eq_true rfl) ?_
  intro p e s m args below meth c A ls X hml hr hk hl w
  have hx := X.1
  have hb := X.2.1
  have hts := X.2.2.1
  have hown := X.2.2.2.1
  have hl : lv_has ls 2 [(0, .ref (a 0)), (1, .ref (e9 0))] := hl
  refine lv_aload_n hx hb dX2_begin_0 rfl (lv_at hl 0 rfl) ?_
  refine ag_FS_X2_12_this X w.1 dX2_begin_1 ?_
  refine lv_aload_n hx hb dX2_begin_4 rfl (lv_at hl 1 rfl) ?_
  refine gc_v (C := RX5) (ci := 4) (rest := []) (w := (fun q9 : RS => w5 G b q9 ++ w5 G e9 zo)) (wr := [((a 0), .inr (2, [.ref (b 0), .ref (d 0), .ref (a 3)])), ((a 3), .inl (G.2.1, 61, .inl (z.1.2.1 2))), ((d 0), .inr (0, [.int (z.2.2.1 0), .ref (d 2), .ref (d 3), .ref (d 4), .ref (d 5), .ref (d 6), .ref (d 7), .ref (d 8), .ref (d 9), .ref (d 10), .ref (d 11), .ref (d 12)])), ((d 2), .inl (G.2.1, 4, .inl (z.2.2.2.1 1))), ((d 3), .inl (G.2.1, 5, .inl (z.2.2.2.1 2))), ((d 4), .inl (G.2.1, 4, .inl (z.2.2.2.1 3))), ((d 5), .inl (G.2.1, 5, .inl (z.2.2.2.1 4))), ((d 6), .inl (G.2.1, 4, .inl (z.2.2.2.1 5))), ((d 7), .inl (G.2.1, 24, .inl (z.2.2.2.1 6))), ((d 8), .inl (G.2.1, 24, .inl (z.2.2.2.1 7))), ((d 9), .inl (G.2.1, 6, .inl (z.2.2.2.1 8))), ((d 10), .inl (G.2.1, 175, .inl (z.2.2.2.1 9))), ((d 11), .inl (G.2.1, 128, .inl (z.2.2.2.1 10))), ((d 12), .inl (G.2.1, 128, .inl (z.2.2.2.1 11)))]) (wn := (fun u9 => wF G a b d ((z.1, u9, z.2.2)) ++ w5 G e9 zo)) X hml hl.1 (c5_takeFrom l G b e9 zo z.2.1) ok5_takeFrom wm_X2_29 ⟨Nat.le_of_ble_eq_true rfl, Nat.le_of_ble_eq_true rfl⟩ ⟨Nat.le_refl _, Nat.le_refl _⟩ w [2, 3, 4, 5, 6, 7, 8, 9, 22, 23, 24, 25, 26, 27, 28, 29] [0, 1, 10, 11, 12, 13, 14, 15, 16, 17, 18, 19, 20, 21] [0, 1, 14, 15, 16, 17, 18, 19, 20, 21, 2, 3, 4, 5, 6, 7, 8, 9, 10, 11, 12, 13, 22, 23, 24, 25, 26, 27, 28, 29] rfl (by decide) rfl (by decide) (by decide) (fun _ => rfl) (by decide) rfl rfl rfl (Nat.le_of_ble_eq_true rfl) dX2_begin_5 (fun u_5 H locs hr_5 w => ?_)
  obtain ⟨z_5, ez_5⟩ : ∃ q9 : RS × RS × RS, q9 = (z.1, u_5, z.2.2) := ⟨_, rfl⟩
  have w : cW G A s (wF G a b d z_5 ++ w5 G e9 zo) H locs := by rw [ez_5]; exact w
  have eu_5_trial : z_5.2.1 = u_5 := by rw [ez_5]
  rw [← eu_5_trial] at hr_5
  have ek_5_this : z_5.1 = z.1 := by rw [ez_5]
  have ek_5_chances : z_5.2.2 = z.2.2 := by rw [ez_5]
  refine lv_aload_n hx hb dX2_begin_8 rfl (lv_at hl 0 rfl) ?_
  refine ag_FS_X2_21_this X w.1 dX2_begin_9 ?_
  refine gc_v (C := RX0) (ci := 0) (rest := []) (w := (fun q9 : RS => w0 G d q9)) (wr := [((a 0), .inr (2, [.ref (b 0), .ref (d 0), .ref (a 3)])), ((a 3), .inl (G.2.1, 61, .inl (z_5.1.2.1 2))), ((b 0), .inr (4, [.int (z_5.2.1.1 0), .ref (b 2), .ref (b 3), .int (z_5.2.1.1 3), .ref (b 5), .ref (b 6), .ref (b 7), .ref (b 8), .int (z_5.2.1.1 8), .int (z_5.2.1.1 9), .int (z_5.2.1.1 10), .ref (b 12), .int (z_5.2.1.1 12)])), ((b 2), .inl (G.2.1, 40, .inl (z_5.2.1.2.1 1))), ((b 3), .inl (G.2.1, 40, .inl (z_5.2.1.2.1 2))), ((b 5), .inl (G.2.1, 5, .inl (z_5.2.1.2.1 4))), ((b 6), .inl (G.2.1, 5, .inl (z_5.2.1.2.1 5))), ((b 7), .inl (G.2.1, 5, .inl (z_5.2.1.2.1 6))), ((b 8), .inl (G.2.1, 5, .inl (z_5.2.1.2.1 7))), ((b 12), .inl (G.2.1, 5, .inl (z_5.2.1.2.1 11))), ((e9 0), .inr (4, [.int (zo.1 0), .ref (e9 2), .ref (e9 3), .int (zo.1 3), .ref (e9 5), .ref (e9 6), .ref (e9 7), .ref (e9 8), .int (zo.1 8), .int (zo.1 9), .int (zo.1 10), .ref (e9 12), .int (zo.1 12)])), ((e9 2), .inl (G.2.1, 40, .inl (zo.2.1 1))), ((e9 3), .inl (G.2.1, 40, .inl (zo.2.1 2))), ((e9 5), .inl (G.2.1, 5, .inl (zo.2.1 4))), ((e9 6), .inl (G.2.1, 5, .inl (zo.2.1 5))), ((e9 7), .inl (G.2.1, 5, .inl (zo.2.1 6))), ((e9 8), .inl (G.2.1, 5, .inl (zo.2.1 7))), ((e9 12), .inl (G.2.1, 5, .inl (zo.2.1 11)))]) (wn := (fun u9 => wF G a b d ((z_5.1, z_5.2.1, u9)) ++ w5 G e9 zo)) X hml hl.1 (c0_forget l G d z_5.2.2) ok0_forget wm_X2_33 ⟨Nat.le_of_ble_eq_true rfl, Nat.le_of_ble_eq_true rfl⟩ ⟨Nat.le_refl _, Nat.le_refl _⟩ w [10, 11, 12, 13, 14, 15, 16, 17, 18, 19, 20, 21] [0, 1, 2, 3, 4, 5, 6, 7, 8, 9, 22, 23, 24, 25, 26, 27, 28, 29] [0, 1, 2, 3, 4, 5, 6, 7, 8, 9, 18, 19, 20, 21, 22, 23, 24, 25, 26, 27, 28, 29, 10, 11, 12, 13, 14, 15, 16, 17] rfl (by decide) rfl (by decide) (by decide) (fun _ => rfl) (by decide) rfl rfl rfl (Nat.le_of_ble_eq_true rfl) dX2_begin_12 (fun u_12 H locs hr_12 w => ?_)
  obtain ⟨z_12, ez_12⟩ : ∃ q9 : RS × RS × RS, q9 = (z_5.1, z_5.2.1, u_12) := ⟨_, rfl⟩
  have w : cW G A s (wF G a b d z_12 ++ w5 G e9 zo) H locs := by rw [ez_12]; exact w
  have eu_12_chances : z_12.2.2 = u_12 := by rw [ez_12]
  rw [← eu_12_chances] at hr_12
  have ek_12_this : z_12.1 = z_5.1 := by rw [ez_12]
  have ek_12_trial : z_12.2.1 = z_5.2.1 := by rw [ez_12]
  exact ce_v (w := (fun q9 : RS × RS × RS => wF G a b d q9 ++ w5 G e9 zo)) (z := z_12) X hr hk w (⟨by rw [ek_12_trial]; exact hr_5, hr_12.1, by rw [ek_12_this, ek_5_this]⟩) dX2_begin_15

section Lm_c2_chanceBy
variable {p : Program} {l : Launch} {e : Env} {R : Room} {s : State} {m : MethodId} {args : Array Value} {below : List Frame} {meth : Method} {c : Code} {H : Heap} {locs : List Loc} {cells slots : Nat} {Q : State → Prop}
variable {cc : ByteArray} {pc : Nat} {ls : Array Slot} {rest : List Value} {G : CG} {A : Nat → Prop}
theorem ag_F_X2_12_this {a b d : Nat → Nat} {z : RS × RS × RS} (X : cX RX2 G A p c cc s args m) (w : va_P G.1 vwCl (wF G a b d z) H) (hdg : decode cc pc = .ok (.getfield 12, 3)) (kk : W p l e R s m args below meth c H locs cells slots Q (F0 m (pc + 3) ls (.ref (b 0) :: rest))) : W p l e R s m args below meth c H locs cells slots Q (F0 m pc ls (.ref (a 0) :: rest)) :=
  va_get (D := G.1) (ci := 2) (v := .ref (b 0)) (C := RX2) (T := TX2) (N := 3) X.1 X.2.1 X.2.2.1 gX2 X.2.2.2.1 X.2.2.2.2.1.1 w 0 rfl rfl 0 (by decide) (X.2.2.1 _ wf_X2_12) (fun _ h9 => h9) rfl hdg kk
theorem ag_F_X2_36_trial {a b d : Nat → Nat} {z : RS × RS × RS} (X : cX RX2 G A p c cc s args m) (w : va_P G.1 vwCl (wF G a b d z) H) (hdg : decode cc pc = .ok (.getfield 36, 3)) (kk : W p l e R s m args below meth c H locs cells slots Q (F0 m (pc + 3) ls (.int (z.2.1.1 9) :: rest))) : W p l e R s m args below meth c H locs cells slots Q (F0 m pc ls (.ref (b 0) :: rest)) :=
  va_getN (own := RX2) (ref := RX5) (host := "RunningThree") (D := G.1) (ci := 4) (v := .int (z.2.1.1 9)) (C := RX5) (T := TX5) (N := 13) X.1 X.2.1 X.2.2.1 gX5 X.2.2.2.1 X.2.2.2.2.1.1 w 2 rfl rfl 9 (by decide) (va_Nw.use rfl (X.2.2.2.2.1.2 _ wq_X2_36)) (fun _ h9 => h9) rfl hdg kk
theorem ag_F_X2_21_this {a b d : Nat → Nat} {z : RS × RS × RS} (X : cX RX2 G A p c cc s args m) (w : va_P G.1 vwCl (wF G a b d z) H) (hdg : decode cc pc = .ok (.getfield 21, 3)) (kk : W p l e R s m args below meth c H locs cells slots Q (F0 m (pc + 3) ls (.ref (d 0) :: rest))) : W p l e R s m args below meth c H locs cells slots Q (F0 m pc ls (.ref (a 0) :: rest)) :=
  va_get (D := G.1) (ci := 2) (v := .ref (d 0)) (C := RX2) (T := TX2) (N := 3) X.1 X.2.1 X.2.2.1 gX2 X.2.2.2.1 X.2.2.2.2.1.1 w 0 rfl rfl 1 (by decide) (X.2.2.1 _ wf_X2_21) (fun _ h9 => h9) rfl hdg kk
end Lm_c2_chanceBy
theorem ok2_chanceBy : cOk RX2 yX2_chanceBy cX2_chanceBy 3 (some .int) 1 := ⟨wc_X2_chanceBy, wi_X2_chanceBy, ws_X2_chanceBy, wn_X2, rfl, by decide, by decide, by decide +kernel⟩
set_option maxHeartbeats 4000000 in
set_option maxRecDepth 100000 in
theorem c2_chanceBy (l : Launch) (G : CG) (a b d : Nat → Nat) (z : RS × RS × RS) (ta9 : Nat) (S : Sc) (hT : cSc z.2.1 S) (ho : oSc S) (hM : chM S z.2.2) (h0 : sp_over S = 0) (hc420 : ¬ S.1 4 = 0 → sp_cm420 S) (ht : ta9 ≤ 400) (hm : S.1 3 ≤ 400) : cMi G l yX2_chanceBy cX2_chanceBy 3 (some .int) 6 137 [.ref (a 0), .int (nI ta9)] (fun q9 : RS × RS × RS => wF G a b d q9) z (fun r z9 => r = nI (sp_c (sp_rch S 0 ta9))) := by
  refine cMi_in (by decide) rfl (Nat.le_of_ble_eq_true rfl) ?_
  intro p e s m args below meth c A ls X hml hr hk hl w
  have hx := X.1
  have hb := X.2.1
  have hts := X.2.2.1
  have hown := X.2.2.2.1
  have hl : lv_has ls 3 [(0, .ref (a 0)), (1, .int (nI ta9))] := hl
  obtain ⟨o1, o2, o3, o4, o5, o6, oso, oki, osr, opa, ohu, oco⟩ := id ho
  obtain ⟨h2, hd0⟩ := ov_0 h0
  refine lv_aload_n hx hb dX2_chanceBy_0 rfl (lv_at hl 0 rfl) ?_
  refine ag_F_X2_12_this X w.1 dX2_chanceBy_1 ?_
  refine ag_F_X2_36_trial X w.1 dX2_chanceBy_4 ?_
  refine tp_i (show z.2.1.1 9 = (nI (S.1 3)) from (cs_mo hT.1)) ?_
  refine lv_istore_n (lv' := [(2, .int (nI (S.1 3))), (0, .ref (a 0)), (1, .int (nI ta9))]) hx hb dX2_chanceBy_7 rfl hl (by decide) rfl (fun ls hl => ?_)
  refine lv_aload_n hx hb dX2_chanceBy_8 rfl (lv_at hl 1 rfl) ?_
  refine ag_F_X2_12_this X w.1 dX2_chanceBy_9 ?_
  refine gc_p (C := RX5) (ci := 4) (rest := []) X hml hl.1 (c5_hasTurned l G b z.2.1  S hT.1 ho ) ok5_hasTurned wm_X2_40 ⟨Nat.le_of_ble_eq_true rfl, Nat.le_of_ble_eq_true rfl⟩ ⟨Nat.le_refl _, Nat.le_refl _⟩ w.1 [2, 3, 4, 5, 6, 7, 8, 9] rfl rfl rfl rfl (Nat.le_of_ble_eq_true rfl) dX2_chanceBy_12 (fun r_12 hr_12 => ?_)
  subst hr_12
  have d_12 := pc_td_ok S
  refine n_if_eq (tgt := 32) hx hb dX2_chanceBy_15 (by decide) (by omega) (fun c_15_1 => ?_) (fun c_15_1 => ?_)
  · skip
    have hnt : S.1 4 = 0 := by omega
    refine lv_aload_n hx hb dX2_chanceBy_32 rfl (lv_at hl 1 rfl) ?_
    refine ag_F_X2_12_this X w.1 dX2_chanceBy_33 ?_
    refine lv_iload_n hx hb dX2_chanceBy_36 rfl (lv_at hl 0 rfl) ?_
    refine lv_iload_n hx hb dX2_chanceBy_37 rfl (lv_at hl 2 rfl) ?_
    refine gc_p (C := RX5) (ci := 4) (rest := []) X hml hl.1 (c5_turnMoment l G b z.2.1 (S.1 3) ta9 S hT.1 ho (by omega) (by omega) (by omega)) ok5_turnMoment wm_X2_47 ⟨Nat.le_of_ble_eq_true rfl, Nat.le_of_ble_eq_true rfl⟩ ⟨Nat.le_refl _, Nat.le_refl _⟩ w.1 [2, 3, 4, 5, 6, 7, 8, 9] rfl rfl rfl rfl (Nat.le_of_ble_eq_true rfl) dX2_chanceBy_38 (fun r_38 hr_38 => ?_)
    subst hr_38
    have d_38 := sp_tm_le S 0 (ta9 - (S.1 3)) (S.1 3)
    refine lv_istore_n (lv' := [(2, .int (nI (sp_tm S 0 (ta9 - (S.1 3)) (S.1 3)))), (0, .ref (a 0)), (1, .int (nI ta9))]) hx hb dX2_chanceBy_41 rfl hl (by decide) rfl (fun ls hl => ?_)
    refine lv_aload_n hx hb dX2_chanceBy_42 rfl (lv_at hl 1 rfl) ?_
    refine ag_F_X2_21_this X w.1 dX2_chanceBy_43 ?_
    refine lv_aload_n hx hb dX2_chanceBy_46 rfl (lv_at hl 1 rfl) ?_
    refine ag_F_X2_12_this X w.1 dX2_chanceBy_47 ?_
    refine lv_iload_n hx hb dX2_chanceBy_50 rfl (lv_at hl 0 rfl) ?_
    refine gc_v (C := RX0) (ci := 0) (rest := []) (w := (fun q9 : RS => w0 G d q9 ++ w5 G b z.2.1)) (wr := [((a 0), .inr (2, [.ref (b 0), .ref (d 0), .ref (a 3)])), ((a 3), .inl (G.2.1, 61, .inl (z.1.2.1 2)))]) (wn := (fun u9 => wF G a b d ((z.1, z.2.1, u9)))) X hml hl.1 (c0_tellComing l G d b z.2.1 z.2.2 (sp_tm S 0 (ta9 - (S.1 3)) (S.1 3)) S hT.1 ho (by omega) (by omega)) ok0_tellComing wm_X2_51 ⟨Nat.le_of_ble_eq_true rfl, Nat.le_of_ble_eq_true rfl⟩ ⟨Nat.le_refl _, Nat.le_refl _⟩ w [10, 11, 12, 13, 14, 15, 16, 17, 18, 19, 20, 21, 2, 3, 4, 5, 6, 7, 8, 9] [0, 1] [0, 1, 14, 15, 16, 17, 18, 19, 20, 21, 2, 3, 4, 5, 6, 7, 8, 9, 10, 11, 12, 13] rfl (by decide) rfl (by decide) (by decide) (fun _ => rfl) (by decide) rfl rfl rfl (Nat.le_of_ble_eq_true rfl) dX2_chanceBy_51 (fun u_51 H locs hr_51 w => ?_)
    obtain ⟨z_51, ez_51⟩ : ∃ q9 : RS × RS × RS, q9 = (z.1, z.2.1, u_51) := ⟨_, rfl⟩
    have w : cW G A s (wF G a b d z_51) H locs := by rw [ez_51]; exact w
    have eu_51_chances : z_51.2.2 = u_51 := by rw [ez_51]
    rw [← eu_51_chances] at hr_51
    have ek_51_this : z_51.1 = z.1 := by rw [ez_51]
    have ek_51_trial : z_51.2.1 = z.2.1 := by rw [ez_51]
    have d51 := sp_run_lt S ho (sp_tm S 0 (ta9 - S.1 3) (S.1 3))
    have hT_51 : cSc z_51.2.1 S := by rw [ek_51_trial]; exact hT
    refine lv_aload_n hx hb dX2_chanceBy_54 rfl (lv_at hl 1 rfl) ?_
    refine ag_F_X2_21_this X w.1 dX2_chanceBy_55 ?_
    refine lv_aload_n hx hb dX2_chanceBy_58 rfl (lv_at hl 1 rfl) ?_
    refine ag_F_X2_12_this X w.1 dX2_chanceBy_59 ?_
    refine lv_iload_n hx hb dX2_chanceBy_62 rfl (lv_at hl 0 rfl) ?_
    refine gc_i (C := RX0) (ci := 0) (rest := []) (w := (fun q9 : RS => w0 G d q9 ++ w5 G b z_51.2.1)) (wr := [((a 0), .inr (2, [.ref (b 0), .ref (d 0), .ref (a 3)])), ((a 3), .inl (G.2.1, 61, .inl (z_51.1.2.1 2)))]) (wn := (fun u9 => wF G a b d ((z_51.1, z_51.2.1, u9)))) X hml hl.1 (c0_chanceFrom l G d b z_51.2.1 z_51.2.2 (sp_tm S 0 (ta9 - S.1 3) (S.1 3)) S hT_51.1 ho (by omega) hd0 (fun f => sp_com S 0 f (sp_run S (sp_tm S 0 (ta9 - S.1 3) (S.1 3)))) hr_51.1 (fun f => Nat.le_trans (sp_com_le S ho 0 f _ (by omega)) (by decide)) (chM_fr hM hr_51.2 (by decide) (by decide)) (by omega)) ok0_chanceFrom wm_X2_55 ⟨Nat.le_of_ble_eq_true rfl, Nat.le_of_ble_eq_true rfl⟩ ⟨Nat.le_refl _, Nat.le_refl _⟩ w [10, 11, 12, 13, 14, 15, 16, 17, 18, 19, 20, 21, 2, 3, 4, 5, 6, 7, 8, 9] [0, 1] [0, 1, 14, 15, 16, 17, 18, 19, 20, 21, 2, 3, 4, 5, 6, 7, 8, 9, 10, 11, 12, 13] rfl (by decide) rfl (by decide) (by decide) (fun _ => rfl) (by decide) rfl rfl rfl (Nat.le_of_ble_eq_true rfl) dX2_chanceBy_63 (fun r_63 u_63 H locs hr_63 w => ?_)
    obtain ⟨z_63, ez_63⟩ : ∃ q9 : RS × RS × RS, q9 = (z_51.1, z_51.2.1, u_63) := ⟨_, rfl⟩
    have w : cW G A s (wF G a b d z_63) H locs := by rw [ez_63]; exact w
    have eu_63_chances : z_63.2.2 = u_63 := by rw [ez_63]
    rw [← eu_63_chances] at hr_63
    have ek_63_this : z_63.1 = z_51.1 := by rw [ez_63]
    have ek_63_trial : z_63.2.1 = z_51.2.1 := by rw [ez_63]
    have v9 := hr_63.1 (sp_turn S 0 (sp_tm S 0 (ta9 - S.1 3) (S.1 3))) (ev_turn S 0 _) (fun f f1 f2 f3 => cm_up f1 f2 f3) rfl
    refine tp_i (show r_63 = nI (sp_c (sp_rch S 0 ta9)) from by rw [v9]; unfold sp_rch; rw [if_pos hnt]) ?_
    exact ce_i (w := (fun q9 : RS × RS × RS => wF G a b d q9)) (z := z_63) X hr hk w (rfl) dX2_chanceBy_66
  · skip
    have htd : ¬ S.1 4 = 0 := by omega
    refine lv_aload_n hx hb dX2_chanceBy_18 rfl (lv_at hl 1 rfl) ?_
    refine ag_F_X2_21_this X w.1 dX2_chanceBy_19 ?_
    refine lv_aload_n hx hb dX2_chanceBy_22 rfl (lv_at hl 1 rfl) ?_
    refine ag_F_X2_12_this X w.1 dX2_chanceBy_23 ?_
    refine gc_v (C := RX0) (ci := 0) (rest := []) (w := (fun q9 : RS => w0 G d q9 ++ w5 G b z.2.1)) (wr := [((a 0), .inr (2, [.ref (b 0), .ref (d 0), .ref (a 3)])), ((a 3), .inl (G.2.1, 61, .inl (z.1.2.1 2)))]) (wn := (fun u9 => wF G a b d ((z.1, z.2.1, u9)))) X hml hl.1 (c0_takeComing l G d b z.2.1 z.2.2) ok0_takeComing wm_X2_44 ⟨Nat.le_of_ble_eq_true rfl, Nat.le_of_ble_eq_true rfl⟩ ⟨Nat.le_refl _, Nat.le_refl _⟩ w [10, 11, 12, 13, 14, 15, 16, 17, 18, 19, 20, 21, 2, 3, 4, 5, 6, 7, 8, 9] [0, 1] [0, 1, 14, 15, 16, 17, 18, 19, 20, 21, 2, 3, 4, 5, 6, 7, 8, 9, 10, 11, 12, 13] rfl (by decide) rfl (by decide) (by decide) (fun _ => rfl) (by decide) rfl rfl rfl (Nat.le_of_ble_eq_true rfl) dX2_chanceBy_26 (fun u_26 H locs hr_26 w => ?_)
    obtain ⟨z_26, ez_26⟩ : ∃ q9 : RS × RS × RS, q9 = (z.1, z.2.1, u_26) := ⟨_, rfl⟩
    have w : cW G A s (wF G a b d z_26) H locs := by rw [ez_26]; exact w
    have eu_26_chances : z_26.2.2 = u_26 := by rw [ez_26]
    rw [← eu_26_chances] at hr_26
    have ek_26_this : z_26.1 = z.1 := by rw [ez_26]
    have ek_26_trial : z_26.2.1 = z.2.1 := by rw [ez_26]
    have hT_26 : cSc z_26.2.1 S := by rw [ek_26_trial]; exact hT
    refine lv_goto (tgt := 54) hx hb dX2_chanceBy_29 (by decide) ?_
    refine lv_aload_n hx hb dX2_chanceBy_54 rfl (lv_at hl 1 rfl) ?_
    refine ag_F_X2_21_this X w.1 dX2_chanceBy_55 ?_
    refine lv_aload_n hx hb dX2_chanceBy_58 rfl (lv_at hl 1 rfl) ?_
    refine ag_F_X2_12_this X w.1 dX2_chanceBy_59 ?_
    refine lv_iload_n hx hb dX2_chanceBy_62 rfl (lv_at hl 0 rfl) ?_
    refine gc_i (C := RX0) (ci := 0) (rest := []) (w := (fun q9 : RS => w0 G d q9 ++ w5 G b z_26.2.1)) (wr := [((a 0), .inr (2, [.ref (b 0), .ref (d 0), .ref (a 3)])), ((a 3), .inl (G.2.1, 61, .inl (z_26.1.2.1 2)))]) (wn := (fun u9 => wF G a b d ((z_26.1, z_26.2.1, u9)))) X hml hl.1 (c0_chanceFrom l G d b z_26.2.1 z_26.2.2 (S.1 3) S hT_26.1 ho (by omega) hd0 (fun f => if f < S.1 1 then pc_nv (S.2.1 5 f) else 0) (fun f f1 f2 => by show _ = nI (if f < S.1 1 then pc_nv (S.2.1 5 f) else 0); rw [hr_26, if_pos f2]; exact (cpy_in0 (by omega)).trans (hT.2 htd f f1 f2)) (fun f => it_le (Nat.le_trans (nv_bd (oco f)) (by decide)) (Nat.zero_le _)) (chM_fr (ks := [2]) (is := []) hM (by rw [hr_26]; exact ⟨fun _ _ => rfl, fun k hk => va_up_ne _ _ (by simpa using hk), rfl⟩) (by decide) (by decide)) (by omega)) ok0_chanceFrom wm_X2_55 ⟨Nat.le_of_ble_eq_true rfl, Nat.le_of_ble_eq_true rfl⟩ ⟨Nat.le_refl _, Nat.le_refl _⟩ w [10, 11, 12, 13, 14, 15, 16, 17, 18, 19, 20, 21, 2, 3, 4, 5, 6, 7, 8, 9] [0, 1] [0, 1, 14, 15, 16, 17, 18, 19, 20, 21, 2, 3, 4, 5, 6, 7, 8, 9, 10, 11, 12, 13] rfl (by decide) rfl (by decide) (by decide) (fun _ => rfl) (by decide) rfl rfl rfl (Nat.le_of_ble_eq_true rfl) dX2_chanceBy_63 (fun r_63 u_63 H locs hr_63 w => ?_)
    obtain ⟨z_63, ez_63⟩ : ∃ q9 : RS × RS × RS, q9 = (z_26.1, z_26.2.1, u_63) := ⟨_, rfl⟩
    have w : cW G A s (wF G a b d z_63) H locs := by rw [ez_63]; exact w
    have eu_63_chances : z_63.2.2 = u_63 := by rw [ez_63]
    rw [← eu_63_chances] at hr_63
    have ek_63_this : z_63.1 = z_26.1 := by rw [ez_63]
    have ek_63_trial : z_63.2.1 = z_26.2.1 := by rw [ez_63]
    have v9 := hr_63.1 S ⟨rfl, rfl, rfl, fun _ _ => rfl⟩ (fun f f1 f2 f3 => by show _ = (if f < S.1 1 then pc_nv (S.2.1 5 f) else 0); rw [if_pos f2]; have g1 := hc420 htd f f1 f2 f3; exact (nv_id (by omega)).symm) rfl
    refine tp_i (show r_63 = nI (sp_c (sp_rch S 0 ta9)) from by rw [v9]; unfold sp_rch; rw [if_neg htd]) ?_
    exact ce_i (w := (fun q9 : RS × RS × RS => wF G a b d q9)) (z := z_63) X hr hk w (rfl) dX2_chanceBy_66

theorem ok2_chanceTogether : cOk RX2 yX2_chanceTogether cX2_chanceTogether 1 (some .int) 0 := ⟨wc_X2_chanceTogether, wi_X2_chanceTogether, ws_X2_chanceTogether, wn_X2, rfl, by decide, by decide, by decide +kernel⟩
set_option maxHeartbeats 4000000 in
set_option maxRecDepth 100000 in
theorem c2_chanceTogether (l : Launch) (G : CG) (a b d : Nat → Nat) (z : RS × RS × RS)  (S : Sc) (hT : cSc z.2.1 S) (ho : oSc S) (hM : chM S z.2.2) (h0 : sp_over S = 0) (hm : S.1 3 ≤ 400) : cMi G l yX2_chanceTogether cX2_chanceTogether 1 (some .int) 5 128 [.ref (a 0)] (fun q9 : RS × RS × RS => wF G a b d q9) z (fun r z9 => r = nI (sp_c (sc_one S)) ∧ z9.1 = z.1 ∧ z9.2.1 = z.2.1 ∧ chM S z9.2.2) := by
  refine cMi_in (by decide) rfl (Nat.le_of_ble_eq_true rfl) ?_
  intro p e s m args below meth c A ls X hml hr hk hl w
  have hx := X.1
  have hb := X.2.1
  have hts := X.2.2.1
  have hown := X.2.2.2.1
  have hl : lv_has ls 1 [(0, .ref (a 0))] := hl
  obtain ⟨o1, o2, o3, o4, o5, o6, oso, oki, osr, opa, ohu, oco⟩ := id ho
  obtain ⟨h2, hd0⟩ := ov_0 h0
  refine lv_aload_n hx hb dX2_chanceTogether_0 rfl (lv_at hl 0 rfl) ?_
  refine ag_F_X2_21_this X w.1 dX2_chanceTogether_1 ?_
  refine gc_v (C := RX0) (ci := 0) (rest := []) (w := (fun q9 : RS => w0 G d q9)) (wr := [((a 0), .inr (2, [.ref (b 0), .ref (d 0), .ref (a 3)])), ((a 3), .inl (G.2.1, 61, .inl (z.1.2.1 2))), ((b 0), .inr (4, [.int (z.2.1.1 0), .ref (b 2), .ref (b 3), .int (z.2.1.1 3), .ref (b 5), .ref (b 6), .ref (b 7), .ref (b 8), .int (z.2.1.1 8), .int (z.2.1.1 9), .int (z.2.1.1 10), .ref (b 12), .int (z.2.1.1 12)])), ((b 2), .inl (G.2.1, 40, .inl (z.2.1.2.1 1))), ((b 3), .inl (G.2.1, 40, .inl (z.2.1.2.1 2))), ((b 5), .inl (G.2.1, 5, .inl (z.2.1.2.1 4))), ((b 6), .inl (G.2.1, 5, .inl (z.2.1.2.1 5))), ((b 7), .inl (G.2.1, 5, .inl (z.2.1.2.1 6))), ((b 8), .inl (G.2.1, 5, .inl (z.2.1.2.1 7))), ((b 12), .inl (G.2.1, 5, .inl (z.2.1.2.1 11)))]) (wn := (fun u9 => wF G a b d ((z.1, z.2.1, u9)))) X hml hl.1 (c0_tellAllAtOnce l G d z.2.2) ok0_tellAllAtOnce wm_X2_59 ⟨Nat.le_of_ble_eq_true rfl, Nat.le_of_ble_eq_true rfl⟩ ⟨Nat.le_refl _, Nat.le_refl _⟩ w [10, 11, 12, 13, 14, 15, 16, 17, 18, 19, 20, 21] [0, 1, 2, 3, 4, 5, 6, 7, 8, 9] [0, 1, 2, 3, 4, 5, 6, 7, 8, 9, 10, 11, 12, 13, 14, 15, 16, 17, 18, 19, 20, 21] rfl (by decide) rfl (by decide) (by decide) (fun _ => rfl) (by decide) rfl rfl rfl (Nat.le_of_ble_eq_true rfl) dX2_chanceTogether_4 (fun u_4 H locs hr_4 w => ?_)
  obtain ⟨z_4, ez_4⟩ : ∃ q9 : RS × RS × RS, q9 = (z.1, z.2.1, u_4) := ⟨_, rfl⟩
  have w : cW G A s (wF G a b d z_4) H locs := by rw [ez_4]; exact w
  have eu_4_chances : z_4.2.2 = u_4 := by rw [ez_4]
  rw [← eu_4_chances] at hr_4
  have ek_4_this : z_4.1 = z.1 := by rw [ez_4]
  have ek_4_trial : z_4.2.1 = z.2.1 := by rw [ez_4]
  have hT_4 : cSc z_4.2.1 S := by rw [ek_4_trial]; exact hT
  refine lv_aload_n hx hb dX2_chanceTogether_7 rfl (lv_at hl 0 rfl) ?_
  refine ag_F_X2_21_this X w.1 dX2_chanceTogether_8 ?_
  refine lv_aload_n hx hb dX2_chanceTogether_11 rfl (lv_at hl 0 rfl) ?_
  refine ag_F_X2_12_this X w.1 dX2_chanceTogether_12 ?_
  refine lv_aload_n hx hb dX2_chanceTogether_15 rfl (lv_at hl 0 rfl) ?_
  refine ag_F_X2_12_this X w.1 dX2_chanceTogether_16 ?_
  refine ag_F_X2_36_trial X w.1 dX2_chanceTogether_19 ?_
  refine tp_i (show z_4.2.1.1 9 = (nI (S.1 3)) from (cs_mo hT_4.1)) ?_
  refine gc_i (C := RX0) (ci := 0) (rest := []) (w := (fun q9 : RS => w0 G d q9 ++ w5 G b z_4.2.1)) (wr := [((a 0), .inr (2, [.ref (b 0), .ref (d 0), .ref (a 3)])), ((a 3), .inl (G.2.1, 61, .inl (z_4.1.2.1 2)))]) (wn := (fun u9 => wF G a b d ((z_4.1, z_4.2.1, u9)))) X hml hl.1 (c0_chanceFrom l G d b z_4.2.1 z_4.2.2 (S.1 3) S hT_4.1 ho (by omega) hd0 (fun _ => 0) (fun f f1 f2 => hr_4.1 f f1 (by omega)) (fun _ => Nat.zero_le _) (chM_fr hM hr_4.2 (by decide) (by decide)) (by omega)) ok0_chanceFrom wm_X2_55 ⟨Nat.le_of_ble_eq_true rfl, Nat.le_of_ble_eq_true rfl⟩ ⟨Nat.le_refl _, Nat.le_refl _⟩ w [10, 11, 12, 13, 14, 15, 16, 17, 18, 19, 20, 21, 2, 3, 4, 5, 6, 7, 8, 9] [0, 1] [0, 1, 14, 15, 16, 17, 18, 19, 20, 21, 2, 3, 4, 5, 6, 7, 8, 9, 10, 11, 12, 13] rfl (by decide) rfl (by decide) (by decide) (fun _ => rfl) (by decide) rfl rfl rfl (Nat.le_of_ble_eq_true rfl) dX2_chanceTogether_22 (fun r_22 u_22 H locs hr_22 w => ?_)
  obtain ⟨z_22, ez_22⟩ : ∃ q9 : RS × RS × RS, q9 = (z_4.1, z_4.2.1, u_22) := ⟨_, rfl⟩
  have w : cW G A s (wF G a b d z_22) H locs := by rw [ez_22]; exact w
  have eu_22_chances : z_22.2.2 = u_22 := by rw [ez_22]
  rw [← eu_22_chances] at hr_22
  have ek_22_this : z_22.1 = z_4.1 := by rw [ez_22]
  have ek_22_trial : z_22.2.1 = z_4.2.1 := by rw [ez_22]
  have v9 := hr_22.1 (sc_one S) (ev_one S) (fun f _ _ _ => rfl) rfl
  exact ce_i (w := (fun q9 : RS × RS × RS => wF G a b d q9)) (z := z_22) X hr hk w (⟨v9, by rw [ek_22_this, ek_4_this], by rw [ek_22_trial, ek_4_trial], hr_22.2⟩) dX2_chanceTogether_25

section Lm_c2_foresee
variable {p : Program} {l : Launch} {e : Env} {R : Room} {s : State} {m : MethodId} {args : Array Value} {below : List Frame} {meth : Method} {c : Code} {H : Heap} {locs : List Loc} {cells slots : Nat} {Q : State → Prop}
variable {cc : ByteArray} {pc : Nat} {ls : Array Slot} {rest : List Value} {G : CG} {A : Nat → Prop}
theorem ag_F_X2_25_this {a b d : Nat → Nat} {z : RS × RS × RS} (X : cX RX2 G A p c cc s args m) (w : va_P G.1 vwCl (wF G a b d z) H) (hdg : decode cc pc = .ok (.getfield 25, 3)) (kk : W p l e R s m args below meth c H locs cells slots Q (F0 m (pc + 3) ls (.ref (a 3) :: rest))) : W p l e R s m args below meth c H locs cells slots Q (F0 m pc ls (.ref (a 0) :: rest)) :=
  va_get (D := G.1) (ci := 2) (v := .ref (a 3)) (C := RX2) (T := TX2) (N := 3) X.1 X.2.1 X.2.2.1 gX2 X.2.2.2.1 X.2.2.2.2.1.1 w 0 rfl rfl 2 (by decide) (X.2.2.1 _ wf_X2_25) (fun _ h9 => h9) rfl hdg kk
theorem au_F_this_2 {own : String} {a b d : Nat → Nat} {z : RS × RS × RS} {j : Nat} {v : Int32} (X : cX own G A p c cc s args m) (w : cW G A s (wF G a b d z) H locs) (hj : j < 61) (hdg : decode cc pc = .ok (.iastore, 1)) (kk : ∀ (z1 : RS × RS × RS) (H : Heap) (locs : List Loc), z1 = ((sA z.1 2 j v), z.2) → cW G A s (wF G a b d z1) H locs → W p l e R s m args below meth c H locs cells slots Q (F0 m (pc + 1) ls rest)) : W p l e R s m args below meth c H locs cells slots Q (F0 m pc ls (.int v :: .int (nI j) :: .ref (a 3) :: rest)) := by
  refine va_iast X.1 X.2.1 X.2.2.2.2.1.1 w.1 w.2.1 w.2.2 1 0 rfl rfl (vp_in_nI hj (by decide)) hdg ?_
  rw [nI_clamp (by omega)]
  exact fun H1 locs1 hP hD hS => kk _ H1 locs1 rfl ⟨hP, hD, hS⟩
end Lm_c2_foresee
theorem ok2_foresee : cOk RX2 yX2_foresee cX2_foresee 7 (some .int) 1 := ⟨wc_X2_foresee, wi_X2_foresee, ws_X2_foresee, wn_X2, rfl, by decide, by decide, by decide +kernel⟩
set_option maxHeartbeats 4000000 in
set_option maxRecDepth 100000 in
theorem c2_foresee (l : Launch) (G : CG) (a b d : Nat → Nat) (z : RS × RS × RS) (na9 : Nat) (S : Sc) (hT : cSc z.2.1 S) (ho : oSc S) (hM : chM S z.2.2) (h2 : 2 ≤ S.1 1) (hd0 : pc_dn S 0 = 0) (hnt : S.1 4 = 0) (hn : na9 ≤ 61) (hm : S.1 3 ≤ 400) : cMi G l yX2_foresee cX2_foresee 7 (some .int) 5 128 [.ref (a 0), .int (nI na9)] (fun q9 : RS × RS × RS => wF G a b d q9) z (fun r z9 => r = nI (sp_mq S 0 na9 - 1) ∧ (∀ k, k < na9 → z9.1.2.1 2 k = nI (sp_byv S 0 k)) ∧ z9.2.1 = z.2.1 ∧ chM S z9.2.2) := by
  refine cMi_in (by decide) rfl (Nat.le_of_ble_eq_true rfl) ?_
  intro p e s m args below meth c A ls X hml hr hk hl w
  have hx := X.1
  have hb := X.2.1
  have hts := X.2.2.1
  have hown := X.2.2.2.1
  have hl : lv_has ls 7 [(0, .ref (a 0)), (1, .int (nI na9))] := hl
  obtain ⟨o1, o2, o3, o4, o5, o6, oso, oki, osr, opa, ohu, oco⟩ := id ho
  refine lv_iconst (v := (nI 0)) hx hb dX2_foresee_0 (by decide) ?_
  refine lv_istore_n (lv' := [(2, .int (nI 0)), (0, .ref (a 0)), (1, .int (nI na9))]) hx hb dX2_foresee_1 rfl hl (by decide) rfl (fun ls hl => ?_)
  refine lv_iconst (v := (nI 0)) hx hb dX2_foresee_2 (by decide) ?_
  refine lv_istore_n (lv' := [(3, .int (nI 0)), (2, .int (nI 0)), (0, .ref (a 0)), (1, .int (nI na9))]) hx hb dX2_foresee_3 rfl hl (by decide) rfl (fun ls hl => ?_)
  refine lv_iconst (v := (nI 0)) hx hb dX2_foresee_4 (by decide) ?_
  refine lv_istore (lv' := [(4, .int (nI 0)), (3, .int (nI 0)), (2, .int (nI 0)), (0, .ref (a 0)), (1, .int (nI na9))]) hx hb dX2_foresee_5 hl (by decide) rfl (fun ls hl => ?_)
  refine lv_iconst (v := (nI 0)) hx hb dX2_foresee_7 (by decide) ?_
  refine lv_istore (lv' := [(5, .int (nI 0)), (4, .int (nI 0)), (3, .int (nI 0)), (2, .int (nI 0)), (0, .ref (a 0)), (1, .int (nI na9))]) hx hb dX2_foresee_8 hl (by decide) rfl (fun ls hl => ?_)
  have lp_10 : ∀ (n_10 : Nat) (i : Nat) (hi : i ≤ na9) (hm_10 : na9 - i < n_10) (ls : Array Slot) (zz : RS × RS × RS) (H : Heap) (locs : List Loc) (w : cW G A s (wF G a b d zz) H locs) (hq : (∀ k, k < i → zz.1.2.1 2 k = nI (sp_byv S 0 k)) ∧ zz.2.1 = z.2.1 ∧ chM S zz.2.2), lv_has ls 7 [(0, .ref (a 0)), (1, .int (nI na9)), (2, .int (nI (sp_mq S 0 i - 1))), (3, .int (nI (if i = 0 then 0 else sp_byv S 0 (i - 1)))), (4, .int (nI (sp_lkc S 0 i))), (5, .int (nI i))] → W p l e (ro_m 5 128) s m args below meth c H locs 0 0 (MQ below (va_Qi (fun r z9 => r = nI (sp_mq S 0 na9 - 1) ∧ (∀ k, k < na9 → z9.1.2.1 2 k = nI (sp_byv S 0 k)) ∧ z9.2.1 = z.2.1 ∧ chM S z9.2.2) (cB G (fun q9 : RS × RS × RS => wF G a b d q9) A) A) args s 0 0 A) (F0 m 10 ls []) := by
    intro n_10
    induction n_10 with
    | zero => intro i hi hm; exact absurd hm (Nat.not_lt_zero _)
    | succ n_10 ih_10 =>
      intro i hi hm_10 ls zz H locs w hq hl
      have q1 := lkc_le S 0 i
      have q2 := mq_le S 0 i
      have q3 := byv_le S 0 i
      have q4 := byv_le S 0 (i - 1)
      have hTz : cSc zz.2.1 S := by rw [hq.2.1]; exact hT
      have q5 := sp_ct01 S 0 (S.1 3 + i)
      refine lv_iload hx hb dX2_foresee_10 (lv_at hl 5 rfl) ?_
      refine lv_iload_n hx hb dX2_foresee_12 rfl (lv_at hl 1 rfl) ?_
      refine n_icmp_ge (tgt := 111) hx hb dX2_foresee_13 (by decide) (by omega) (by omega) (fun c_13_1 => ?_) (fun c_13_1 => ?_)
      · skip
        refine lv_iload_n hx hb dX2_foresee_111 rfl (lv_at hl 2 rfl) ?_
        exact ce_i (w := (fun q9 : RS × RS × RS => wF G a b d q9)) (z := zz) X hr hk w (⟨by rw [show na9 = i by omega], fun k hk => hq.1 k (by omega), hq.2.1, hq.2.2⟩) dX2_foresee_112
      · skip
        refine lv_iload hx hb dX2_foresee_16 (lv_at hl 5 rfl) ?_
        refine lv_bipush (v := (nI 61)) hx hb dX2_foresee_18 (by decide) ?_
        refine n_icmp_ge (tgt := 111) hx hb dX2_foresee_20 (by decide) (by omega) (by omega) (fun c_20_2 => ?_) (fun c_20_2 => ?_)
        · skip
          refine lv_iload_n hx hb dX2_foresee_111 rfl (lv_at hl 2 rfl) ?_
          exact ce_i (w := (fun q9 : RS × RS × RS => wF G a b d q9)) (z := zz) X hr hk w (⟨by rw [show na9 = i by omega], fun k hk => hq.1 k (by omega), hq.2.1, hq.2.2⟩) dX2_foresee_112
        · skip
          refine lv_iload hx hb dX2_foresee_23 (lv_at hl 4 rfl) ?_
          refine n_if_ne (tgt := 91) hx hb dX2_foresee_25 (by decide) (by omega) (fun c_25_3 => ?_) (fun c_25_3 => ?_)
          · skip
            have hlk : ¬ sp_lkc S 0 i = 0 := by omega
            have hk9 := byv_c hlk
            have hl : lv_has ls 7 [(0, .ref (a 0)), (1, .int (nI na9)), (2, .int (nI (sp_mq S 0 i - 1))), (3, .int (nI (sp_byv S 0 i))), (4, .int (nI (sp_lkc S 0 i))), (5, .int (nI i))] := by rw [show (nI (sp_byv S 0 i)) = (nI (if i = 0 then 0 else sp_byv S 0 (i - 1))) from congrArg nI (by rw [if_neg (by omega)]; exact hk9.2)]; exact hl
            have hl : lv_has ls 7 [(0, .ref (a 0)), (1, .int (nI na9)), (2, .int (nI (sp_mq S 0 i - 1))), (3, .int (nI (sp_byv S 0 i))), (4, .int (nI (sp_lkc S 0 (i + 1)))), (5, .int (nI i))] := by rw [show (nI (sp_lkc S 0 (i + 1))) = (nI (sp_lkc S 0 i)) from congrArg nI (lkc_1 hlk)]; exact hl
            refine lv_aload_n hx hb dX2_foresee_91 rfl (lv_at hl 0 rfl) ?_
            refine ag_F_X2_25_this X w.1 dX2_foresee_92 ?_
            refine lv_iload hx hb dX2_foresee_95 (lv_at hl 5 rfl) ?_
            refine lv_iload_n hx hb dX2_foresee_97 rfl (lv_at hl 3 rfl) ?_
            refine au_F_this_2 X w (by omega) dX2_foresee_98 (fun z_98 H locs ez_98 w => ?_)
            refine lv_iload_n hx hb dX2_foresee_99 rfl (lv_at hl 2 rfl) ?_
            refine lv_iload_n hx hb dX2_foresee_100 rfl (lv_at hl 3 rfl) ?_
            refine tp_i (iZ_n (sp_byv S 0 i)).symm ?_
            refine tp_i2 (iZ_n (sp_mq S 0 i - 1)).symm ?_
            refine gm_max (rest := []) ⟨X.1, X.2.1, X.2.2.1, X.2.2.2.1⟩ hml hl.1 wm_X2_66 ⟨Nat.le_of_ble_eq_true rfl, Nat.le_of_ble_eq_true rfl⟩ ⟨Nat.le_refl _, Nat.le_refl _⟩ (Nat.le_of_ble_eq_true rfl) (by omega) (by omega) (by omega) (by omega) dX2_foresee_101 ?_
            refine tp_i (show iZ (max ((sp_mq S 0 i - 1 : Nat) : Int) ((sp_byv S 0 i : Nat) : Int)) = nI (max (sp_mq S 0 i - 1) (sp_byv S 0 i)) from by rw [← iZ_n]; exact congrArg iZ (by omega)) ?_
            refine lv_istore_n (lv' := [(2, .int (nI (max (sp_mq S 0 i - 1) (sp_byv S 0 i)))), (0, .ref (a 0)), (1, .int (nI na9)), (3, .int (nI (sp_byv S 0 i))), (4, .int (nI (sp_lkc S 0 (i + 1)))), (5, .int (nI i))]) hx hb dX2_foresee_104 rfl hl (by decide) rfl (fun ls hl => ?_)
            have hl : lv_has ls 7 [(2, .int (nI (sp_mq S 0 (i + 1) - 1))), (0, .ref (a 0)), (1, .int (nI na9)), (3, .int (nI (sp_byv S 0 i))), (4, .int (nI (sp_lkc S 0 (i + 1)))), (5, .int (nI i))] := by rw [show (nI (sp_mq S 0 (i + 1) - 1)) = (nI (max (sp_mq S 0 i - 1) (sp_byv S 0 i))) from congrArg nI (mq_s i).symm]; exact hl
            have hl : lv_has ls 7 [(2, .int (nI (sp_mq S 0 (i + 1) - 1))), (0, .ref (a 0)), (1, .int (nI na9)), (3, .int (nI (if i + 1 = 0 then 0 else sp_byv S 0 (i + 1 - 1)))), (4, .int (nI (sp_lkc S 0 (i + 1)))), (5, .int (nI i))] := by rw [show (nI (if i + 1 = 0 then 0 else sp_byv S 0 (i + 1 - 1))) = (nI (sp_byv S 0 i)) from congrArg nI (by rw [if_neg (by omega), Nat.add_sub_cancel])]; exact hl
            refine lv_iinc (v := (nI (i + 1))) (lv' := [(5, .int (nI (i + 1))), (2, .int (nI (sp_mq S 0 (i + 1) - 1))), (0, .ref (a 0)), (1, .int (nI na9)), (3, .int (nI (if i + 1 = 0 then 0 else sp_byv S 0 (i + 1 - 1)))), (4, .int (nI (sp_lkc S 0 (i + 1))))]) hx hb dX2_foresee_105 hl (k := 5) rfl (by first | exact nI_1 _ | (rw [show Int32.ofInt 1 = nI 1 from by decide, nI_add])) (by decide) rfl (fun ls hl => ?_)
            refine lv_goto (tgt := 10) hx hb dX2_foresee_108 (by decide) ?_
            exact ih_10 (i + 1) (by omega) (by omega) ls z_98 _ _ w (by rw [ez_98]; exact ⟨fs_r hq.1 _ rfl, hq.2.1, hq.2.2⟩) (lv_sub hl [2, 3, 1, 4, 5, 0] rfl)
          · skip
            have hlk : sp_lkc S 0 i = 0 := by omega
            refine lv_aload_n hx hb dX2_foresee_28 rfl (lv_at hl 0 rfl) ?_
            refine ag_F_X2_12_this X w.1 dX2_foresee_29 ?_
            refine ag_F_X2_36_trial X w.1 dX2_foresee_32 ?_
            refine tp_i (show zz.2.1.1 9 = (nI (S.1 3)) from (cs_mo hTz.1)) ?_
            refine lv_iload hx hb dX2_foresee_35 (lv_at hl 5 rfl) ?_
            refine n_iadd hx hb dX2_foresee_37 ?_
            refine lv_istore (lv' := [(6, .int (nI ((S.1 3) + i))), (0, .ref (a 0)), (1, .int (nI na9)), (2, .int (nI (sp_mq S 0 i - 1))), (3, .int (nI (if i = 0 then 0 else sp_byv S 0 (i - 1)))), (4, .int (nI (sp_lkc S 0 i))), (5, .int (nI i))]) hx hb dX2_foresee_38 hl (by decide) rfl (fun ls hl => ?_)
            refine lv_aload_n hx hb dX2_foresee_40 rfl (lv_at hl 1 rfl) ?_
            refine ag_F_X2_21_this X w.1 dX2_foresee_41 ?_
            refine lv_aload_n hx hb dX2_foresee_44 rfl (lv_at hl 1 rfl) ?_
            refine ag_F_X2_12_this X w.1 dX2_foresee_45 ?_
            refine lv_iload hx hb dX2_foresee_48 (lv_at hl 0 rfl) ?_
            refine gc_v (C := RX0) (ci := 0) (rest := []) (w := (fun q9 : RS => w0 G d q9 ++ w5 G b zz.2.1)) (wr := [((a 0), .inr (2, [.ref (b 0), .ref (d 0), .ref (a 3)])), ((a 3), .inl (G.2.1, 61, .inl (zz.1.2.1 2)))]) (wn := (fun u9 => wF G a b d ((zz.1, zz.2.1, u9)))) X hml hl.1 (c0_tellComing l G d b zz.2.1 zz.2.2 ((S.1 3) + i) S hTz.1 ho (by omega) (by omega)) ok0_tellComing wm_X2_51 ⟨Nat.le_of_ble_eq_true rfl, Nat.le_of_ble_eq_true rfl⟩ ⟨Nat.le_refl _, Nat.le_refl _⟩ w [10, 11, 12, 13, 14, 15, 16, 17, 18, 19, 20, 21, 2, 3, 4, 5, 6, 7, 8, 9] [0, 1] [0, 1, 14, 15, 16, 17, 18, 19, 20, 21, 2, 3, 4, 5, 6, 7, 8, 9, 10, 11, 12, 13] rfl (by decide) rfl (by decide) (by decide) (fun _ => rfl) (by decide) rfl rfl rfl (Nat.le_of_ble_eq_true rfl) dX2_foresee_50 (fun u_50 H locs hr_50 w => ?_)
            obtain ⟨z_50, ez_50⟩ : ∃ q9 : RS × RS × RS, q9 = (zz.1, zz.2.1, u_50) := ⟨_, rfl⟩
            have w : cW G A s (wF G a b d z_50) H locs := by rw [ez_50]; exact w
            have eu_50_chances : z_50.2.2 = u_50 := by rw [ez_50]
            rw [← eu_50_chances] at hr_50
            have ek_50_this : z_50.1 = zz.1 := by rw [ez_50]
            have ek_50_trial : z_50.2.1 = zz.2.1 := by rw [ez_50]
            have d50 := sp_run_lt S ho (S.1 3 + i)
            have hT_50 : cSc z_50.2.1 S := by rw [ek_50_trial]; exact hTz
            refine lv_aload_n hx hb dX2_foresee_53 rfl (lv_at hl 1 rfl) ?_
            refine ag_F_X2_21_this X w.1 dX2_foresee_54 ?_
            refine lv_aload_n hx hb dX2_foresee_57 rfl (lv_at hl 1 rfl) ?_
            refine ag_F_X2_12_this X w.1 dX2_foresee_58 ?_
            refine lv_iload hx hb dX2_foresee_61 (lv_at hl 0 rfl) ?_
            refine gc_i (C := RX0) (ci := 0) (rest := []) (w := (fun q9 : RS => w0 G d q9 ++ w5 G b z_50.2.1)) (wr := [((a 0), .inr (2, [.ref (b 0), .ref (d 0), .ref (a 3)])), ((a 3), .inl (G.2.1, 61, .inl (z_50.1.2.1 2)))]) (wn := (fun u9 => wF G a b d ((z_50.1, z_50.2.1, u9)))) X hml hl.1 (c0_chanceFrom l G d b z_50.2.1 z_50.2.2 (S.1 3 + i) S hT_50.1 ho (by omega) hd0 (fun f => sp_com S 0 f (sp_run S (S.1 3 + i))) hr_50.1 (fun f => Nat.le_trans (sp_com_le S ho 0 f _ (by omega)) (by decide)) (chM_fr hq.2.2 hr_50.2 (by decide) (by decide)) (by omega)) ok0_chanceFrom wm_X2_55 ⟨Nat.le_of_ble_eq_true rfl, Nat.le_of_ble_eq_true rfl⟩ ⟨Nat.le_refl _, Nat.le_refl _⟩ w [10, 11, 12, 13, 14, 15, 16, 17, 18, 19, 20, 21, 2, 3, 4, 5, 6, 7, 8, 9] [0, 1] [0, 1, 14, 15, 16, 17, 18, 19, 20, 21, 2, 3, 4, 5, 6, 7, 8, 9, 10, 11, 12, 13] rfl (by decide) rfl (by decide) (by decide) (fun _ => rfl) (by decide) rfl rfl rfl (Nat.le_of_ble_eq_true rfl) dX2_foresee_63 (fun r_63 u_63 H locs hr_63 w => ?_)
            obtain ⟨z_63, ez_63⟩ : ∃ q9 : RS × RS × RS, q9 = (z_50.1, z_50.2.1, u_63) := ⟨_, rfl⟩
            have w : cW G A s (wF G a b d z_63) H locs := by rw [ez_63]; exact w
            have eu_63_chances : z_63.2.2 = u_63 := by rw [ez_63]
            rw [← eu_63_chances] at hr_63
            have ek_63_this : z_63.1 = z_50.1 := by rw [ez_63]
            have ek_63_trial : z_63.2.1 = z_50.2.1 := by rw [ez_63]
            have v9 := hr_63.1 (sp_turn S 0 (S.1 3 + i)) (ev_turn S 0 _) (fun f f1 f2 f3 => cm_up f1 f2 f3) rfl
            refine tp_i (show r_63 = nI (sp_byv S 0 i) from by rw [v9, byv_t hnt hlk]) ?_
            have hT_63 : cSc z_63.2.1 S := by rw [ek_63_trial]; exact hT_50
            refine lv_istore_n (lv' := [(3, .int (nI (sp_byv S 0 i))), (6, .int (nI ((S.1 3) + i))), (0, .ref (a 0)), (1, .int (nI na9)), (2, .int (nI (sp_mq S 0 i - 1))), (4, .int (nI (sp_lkc S 0 i))), (5, .int (nI i))]) hx hb dX2_foresee_66 rfl hl (by decide) rfl (fun ls hl => ?_)
            refine lv_iload hx hb dX2_foresee_67 (lv_at hl 6 rfl) ?_
            refine jn (tgt := 89) (rest := []) (fun v9 => ∃ x9 : Nat, x9 = (if i ≤ 0 then 0 else (if (sp_ct S 0 ((S.1 3) + i)) = 0 then 0 else 1)) ∧ v9 = nI x9) (fun v_ hv_ => ?_) (fun k_89 => ?_)
            · obtain ⟨x_89, ex_89, rfl⟩ := hv_
              have ej : x_89 = sp_lkc S 0 (i + 1) := by rw [ex_89, lkc_n hlk]; by_cases g1 : i = 0; rw [if_pos g1, if_pos (by omega)]; rw [if_neg g1, if_neg (by omega)]; by_cases g2 : sp_ct S 0 (S.1 3 + i) = 0; rw [if_pos g2, g2]; rw [if_neg g2]; omega
              refine lv_istore (lv' := [(4, .int (nI x_89)), (3, .int (nI (sp_byv S 0 i))), (6, .int (nI ((S.1 3) + i))), (0, .ref (a 0)), (1, .int (nI na9)), (2, .int (nI (sp_mq S 0 i - 1))), (5, .int (nI i))]) hx hb dX2_foresee_89 hl (by decide) rfl (fun ls hl => ?_)
              have hl : lv_has ls 7 [(4, .int (nI (sp_lkc S 0 (i + 1)))), (3, .int (nI (sp_byv S 0 i))), (6, .int (nI ((S.1 3) + i))), (0, .ref (a 0)), (1, .int (nI na9)), (2, .int (nI (sp_mq S 0 i - 1))), (5, .int (nI i))] := by rw [show (nI (sp_lkc S 0 (i + 1))) = (nI x_89) from congrArg nI ej.symm]; exact hl
              refine lv_aload_n hx hb dX2_foresee_91 rfl (lv_at hl 3 rfl) ?_
              refine ag_F_X2_25_this X w.1 dX2_foresee_92 ?_
              refine lv_iload hx hb dX2_foresee_95 (lv_at hl 6 rfl) ?_
              refine lv_iload_n hx hb dX2_foresee_97 rfl (lv_at hl 1 rfl) ?_
              refine au_F_this_2 X w (by omega) dX2_foresee_98 (fun z_98 H locs ez_98 w => ?_)
              refine lv_iload_n hx hb dX2_foresee_99 rfl (lv_at hl 5 rfl) ?_
              refine lv_iload_n hx hb dX2_foresee_100 rfl (lv_at hl 1 rfl) ?_
              refine tp_i (iZ_n (sp_byv S 0 i)).symm ?_
              refine tp_i2 (iZ_n (sp_mq S 0 i - 1)).symm ?_
              refine gm_max (rest := []) ⟨X.1, X.2.1, X.2.2.1, X.2.2.2.1⟩ hml hl.1 wm_X2_66 ⟨Nat.le_of_ble_eq_true rfl, Nat.le_of_ble_eq_true rfl⟩ ⟨Nat.le_refl _, Nat.le_refl _⟩ (Nat.le_of_ble_eq_true rfl) (by omega) (by omega) (by omega) (by omega) dX2_foresee_101 ?_
              refine tp_i (show iZ (max ((sp_mq S 0 i - 1 : Nat) : Int) ((sp_byv S 0 i : Nat) : Int)) = nI (max (sp_mq S 0 i - 1) (sp_byv S 0 i)) from by rw [← iZ_n]; exact congrArg iZ (by omega)) ?_
              refine lv_istore_n (lv' := [(2, .int (nI (max (sp_mq S 0 i - 1) (sp_byv S 0 i)))), (4, .int (nI (sp_lkc S 0 (i + 1)))), (3, .int (nI (sp_byv S 0 i))), (6, .int (nI ((S.1 3) + i))), (0, .ref (a 0)), (1, .int (nI na9)), (5, .int (nI i))]) hx hb dX2_foresee_104 rfl hl (by decide) rfl (fun ls hl => ?_)
              have hl : lv_has ls 7 [(2, .int (nI (sp_mq S 0 (i + 1) - 1))), (4, .int (nI (sp_lkc S 0 (i + 1)))), (3, .int (nI (sp_byv S 0 i))), (6, .int (nI ((S.1 3) + i))), (0, .ref (a 0)), (1, .int (nI na9)), (5, .int (nI i))] := by rw [show (nI (sp_mq S 0 (i + 1) - 1)) = (nI (max (sp_mq S 0 i - 1) (sp_byv S 0 i))) from congrArg nI (mq_s i).symm]; exact hl
              have hl : lv_has ls 7 [(2, .int (nI (sp_mq S 0 (i + 1) - 1))), (4, .int (nI (sp_lkc S 0 (i + 1)))), (3, .int (nI (if i + 1 = 0 then 0 else sp_byv S 0 (i + 1 - 1)))), (6, .int (nI ((S.1 3) + i))), (0, .ref (a 0)), (1, .int (nI na9)), (5, .int (nI i))] := by rw [show (nI (if i + 1 = 0 then 0 else sp_byv S 0 (i + 1 - 1))) = (nI (sp_byv S 0 i)) from congrArg nI (by rw [if_neg (by omega), Nat.add_sub_cancel])]; exact hl
              refine lv_iinc (v := (nI (i + 1))) (lv' := [(5, .int (nI (i + 1))), (2, .int (nI (sp_mq S 0 (i + 1) - 1))), (4, .int (nI (sp_lkc S 0 (i + 1)))), (3, .int (nI (if i + 1 = 0 then 0 else sp_byv S 0 (i + 1 - 1)))), (6, .int (nI ((S.1 3) + i))), (0, .ref (a 0)), (1, .int (nI na9))]) hx hb dX2_foresee_105 hl (k := 6) rfl (by first | exact nI_1 _ | (rw [show Int32.ofInt 1 = nI 1 from by decide, nI_add])) (by decide) rfl (fun ls hl => ?_)
              refine lv_goto (tgt := 10) hx hb dX2_foresee_108 (by decide) ?_
              exact ih_10 (i + 1) (by omega) (by omega) ls z_98 _ _ w (by rw [ez_98]; exact ⟨fs_r (fun k hk => by rw [ek_63_this, ek_50_this]; exact hq.1 k hk) _ rfl, by rw [ek_63_trial, ek_50_trial]; exact hq.2.1, hr_63.2⟩) (lv_sub hl [5, 6, 1, 3, 2, 0] rfl)
            · skip
              refine n_if_le (tgt := 88) hx hb dX2_foresee_69 (by decide) (by omega) (fun c_69_5 => ?_) (fun c_69_5 => ?_)
              · skip
                refine lv_iconst (v := (nI 0)) hx hb dX2_foresee_88 (by decide) ?_
                exact k_89 _ ⟨_, by simp only [if_pos c_69_5], rfl⟩
              · skip
                refine lv_aload_n hx hb dX2_foresee_72 rfl (lv_at hl 2 rfl) ?_
                refine ag_F_X2_12_this X w.1 dX2_foresee_73 ?_
                refine lv_iload hx hb dX2_foresee_76 (lv_at hl 1 rfl) ?_
                refine gc_p (C := RX5) (ci := 4) (rest := []) X hml hl.1 (c5_isCaughtIn l G b z_63.2.1 ((S.1 3) + i) S hT_63.1 ho (by omega) (by omega)) ok5_isCaughtIn wm_X2_62 ⟨Nat.le_of_ble_eq_true rfl, Nat.le_of_ble_eq_true rfl⟩ ⟨Nat.le_refl _, Nat.le_refl _⟩ w.1 [2, 3, 4, 5, 6, 7, 8, 9] rfl rfl rfl rfl (Nat.le_of_ble_eq_true rfl) dX2_foresee_78 (fun r_78 hr_78 => ?_)
                subst hr_78
                have d_78 := sp_ct01 S 0 ((S.1 3) + i)
                refine n_if_eq (tgt := 88) hx hb dX2_foresee_81 (by decide) (by omega) (fun c_81_6 => ?_) (fun c_81_6 => ?_)
                · skip
                  refine lv_iconst (v := (nI 0)) hx hb dX2_foresee_88 (by decide) ?_
                  exact k_89 _ ⟨_, by simp only [if_neg c_69_5, if_pos c_81_6], rfl⟩
                · skip
                  refine lv_iconst (v := (nI 1)) hx hb dX2_foresee_84 (by decide) ?_
                  refine lv_goto (tgt := 89) hx hb dX2_foresee_85 (by decide) ?_
                  exact k_89 _ ⟨_, by simp only [if_neg c_69_5, if_neg c_81_6], rfl⟩
  exact lp_10 _ 0 (Nat.zero_le _) (Nat.lt_succ_self _) ls z _ _ w ⟨fun k hk => absurd hk (Nat.not_lt_zero _), rfl, hM⟩ (lv_sub hl [4, 5, 3, 2, 1, 0] rfl)

section Lm_c2_foreseen
variable {p : Program} {l : Launch} {e : Env} {R : Room} {s : State} {m : MethodId} {args : Array Value} {below : List Frame} {meth : Method} {c : Code} {H : Heap} {locs : List Loc} {cells slots : Nat} {Q : State → Prop}
variable {cc : ByteArray} {pc : Nat} {ls : Array Slot} {rest : List Value} {G : CG} {A : Nat → Prop}
theorem an_F_this_2 {own : String} {a b d : Nat → Nat} {z : RS × RS × RS} {j : Nat} (X : cX own G A p c cc s args m) (w : va_P G.1 vwCl (wF G a b d z) H) (hj : j < 61) (hdg : decode cc pc = .ok (.iaload, 1)) (kk : W p l e R s m args below meth c H locs cells slots Q (F0 m (pc + 1) ls (.int (z.1.2.1 2 j) :: rest))) : W p l e R s m args below meth c H locs cells slots Q (F0 m pc ls (.int (nI j) :: .ref (a 3) :: rest)) :=
  va_iald X.1 X.2.1 X.2.2.2.2.1.1 w 1 0 rfl rfl (vp_in_nI hj (by decide)) hdg (by rw [nI_clamp (by omega)]; exact kk)
end Lm_c2_foreseen
theorem ok2_foreseen : cOk RX2 yX2_foreseen cX2_foreseen 2 (some .int) 1 := ⟨wc_X2_foreseen, wi_X2_foreseen, ws_X2_foreseen, wn_X2, rfl, by decide, by decide, by decide +kernel⟩
set_option maxHeartbeats 4000000 in
set_option maxRecDepth 100000 in
theorem c2_foreseen (l : Launch) (G : CG) (a b d : Nat → Nat) (z : RS × RS × RS) (ka9 : Nat) (S : Sc) (hT : cSc z.2.1 S) (ho : oSc S) (hw : z.1.2.1 2 ka9 = nI (sp_byv S 0 ka9)) (hk : ka9 < 61) : cMp G l yX2_foreseen cX2_foreseen 2 (some .int) 1 22 [.ref (a 0), .int (nI ka9)] (wF G a b d z) (fun r => r = nI (sp_byv S 0 ka9)) := by
  refine cMp_in (by decide) rfl (Nat.le_of_ble_eq_true rfl) ?_
  intro p e s m args below meth c ls X hml hr hk hl w
  have hx := X.1
  have hb := X.2.1
  have hts := X.2.2.1
  have hown := X.2.2.2.1
  have hl : lv_has ls 2 [(0, .ref (a 0)), (1, .int (nI ka9))] := hl
  obtain ⟨o1, o2, o3, o4, o5, o6, oso, oki, osr, opa, ohu, oco⟩ := id ho
  refine lv_iload_n hx hb dX2_foreseen_0 rfl (lv_at hl 1 rfl) ?_
  refine lv_iconst (v := (nI 0)) hx hb dX2_foreseen_1 (by decide) ?_
  refine lv_bipush (v := (nI 60)) hx hb dX2_foreseen_2 (by decide) ?_
  refine gc_sn (host := "RunningThree") (C := RX7) (rest := []) ⟨X.1, X.2.1, X.2.2.1, X.2.2.2.1⟩ X.2.2.2.2.1.2 hml hl.1 (c7_within l (nI ka9) (nI 0) (nI 60)) ok7_within wp_X2_71 ⟨Nat.le_of_ble_eq_true rfl, Nat.le_of_ble_eq_true rfl⟩ ⟨Nat.le_refl _, Nat.le_refl _⟩ rfl (Nat.le_of_ble_eq_true rfl) dX2_foreseen_4 (fun r_4 hr_4 => ?_)
  subst hr_4
  refine tp_i (congrArg nI (w3_I (nI_toInt (by omega)) (by decide) (by decide) : _ = pc_inI (((ka9 : Nat) : Int)) ((0 : Int)) ((60 : Int)))) ?_
  have d_4 := pc_inI_ok (((ka9 : Nat) : Int)) ((0 : Int)) ((60 : Int))
  refine jn (tgt := 20) (rest := []) (fun v9 => ∃ x9 : Nat, x9 = (if (pc_inI (((ka9 : Nat) : Int)) ((0 : Int)) ((60 : Int))) = 0 then 0 else (sp_byv S 0 ka9)) ∧ v9 = nI x9) (fun v_ hv_ => ?_) (fun k_20 => ?_)
  · obtain ⟨x_20, ex_20, rfl⟩ := hv_
    exact re_p hx hb hr hk (by rw [ex_20, if_neg (by omega)]) dX2_foreseen_20
  · skip
    refine n_if_eq (tgt := 19) hx hb dX2_foreseen_7 (by decide) (by omega) (fun c_7_2 => ?_) (fun c_7_2 => ?_)
    · skip
      refine lv_iconst (v := (nI 0)) hx hb dX2_foreseen_19 (by decide) ?_
      exact k_20 _ ⟨_, by simp only [if_pos c_7_2], rfl⟩
    · skip
      refine lv_aload_n hx hb dX2_foreseen_10 rfl (lv_at hl 0 rfl) ?_
      refine ag_F_X2_25_this X w dX2_foreseen_11 ?_
      refine lv_iload_n hx hb dX2_foreseen_14 rfl (lv_at hl 1 rfl) ?_
      refine an_F_this_2 X w (by omega) dX2_foreseen_15 ?_
      refine tp_i (show z.1.2.1 2 ka9 = (nI (sp_byv S 0 ka9)) from hw) ?_
      refine lv_goto (tgt := 20) hx hb dX2_foreseen_16 (by decide) ?_
      exact k_20 _ ⟨_, by simp only [if_neg c_7_2], rfl⟩

theorem ok2_firstWith : cOk RX2 yX2_firstWith cX2_firstWith 3 (some .int) 1 := ⟨wc_X2_firstWith, wi_X2_firstWith, ws_X2_firstWith, wn_X2, rfl, by decide, by decide, by decide +kernel⟩
set_option maxHeartbeats 4000000 in
set_option maxRecDepth 100000 in
theorem c2_firstWith (l : Launch) (G : CG) (a b d : Nat → Nat) (z : RS × RS × RS) (va9 : Nat) (S : Sc) (hT : cSc z.2.1 S) (ho : oSc S) (hv : va9 = sp_mq S 0 61 - 1) (hm : S.1 3 ≤ 400) (hw : ∀ k, k < 61 → z.1.2.1 2 k = nI (sp_byv S 0 k)) : cMp G l yX2_firstWith cX2_firstWith 3 (some .int) 0 0 [.ref (a 0), .int (nI va9)] (wF G a b d z) (fun r => r = nI (sp_fs S 0)) := by
  refine cMp_in (by decide) rfl (Nat.le_of_ble_eq_true rfl) ?_
  intro p e s m args below meth c ls X hml hr hk hl w
  have hx := X.1
  have hb := X.2.1
  have hts := X.2.2.1
  have hown := X.2.2.2.1
  have hl : lv_has ls 3 [(0, .ref (a 0)), (1, .int (nI va9))] := hl
  obtain ⟨o1, o2, o3, o4, o5, o6, oso, oki, osr, opa, ohu, oco⟩ := id ho
  have q9 := mq_le S 0 61
  refine lv_iconst (v := (nI 0)) hx hb dX2_firstWith_0 (by decide) ?_
  refine lv_istore_n (lv' := [(2, .int (nI 0)), (0, .ref (a 0)), (1, .int (nI va9))]) hx hb dX2_firstWith_1 rfl hl (by decide) rfl (fun ls hl => ?_)
  have lp_2 : ∀ (n_2 : Nat) (i : Nat) (hi : i ≤ 61) (hi2 : ∀ k, k < i → sp_byv S 0 k < sp_mq S 0 61 - 1) (hm_2 : 61 - i < n_2) (ls : Array Slot), lv_has ls 3 [(0, .ref (a 0)), (1, .int (nI va9)), (2, .int (nI i))] → W p l e (ro_m 0 0) s m args below meth c s.heap [] 0 0 (MQ below (vp_Si (fun r => r = nI (sp_fs S 0))) args s 0 0 (fun _ => False)) (F0 m 2 ls []) := by
    intro n_2
    induction n_2 with
    | zero => intro i hi hi2 hm; exact absurd hm (Nat.not_lt_zero _)
    | succ n_2 ih_2 =>
      intro i hi hi2 hm_2 ls hl
      have q3 := byv_le S 0 i
      refine lv_iload_n hx hb dX2_firstWith_2 rfl (lv_at hl 2 rfl) ?_
      refine lv_bipush (v := (nI 61)) hx hb dX2_firstWith_3 (by decide) ?_
      refine n_icmp_ge (tgt := 34) hx hb dX2_firstWith_5 (by decide) (by omega) (by omega) (fun c_5_1 => ?_) (fun c_5_1 => ?_)
      · skip
        refine lv_bipush (v := (iZ (-4))) hx hb dX2_firstWith_34 (by decide) ?_
        exact re_p hx hb hr hk ((fs_ex (S := S) (tg := 0) (fun k hk => hi2 k (by omega))).elim) dX2_firstWith_36
      · skip
        refine lv_aload_n hx hb dX2_firstWith_8 rfl (lv_at hl 0 rfl) ?_
        refine ag_F_X2_25_this X w dX2_firstWith_9 ?_
        refine lv_iload_n hx hb dX2_firstWith_12 rfl (lv_at hl 2 rfl) ?_
        refine an_F_this_2 X w (by omega) dX2_firstWith_13 ?_
        refine tp_i (show z.1.2.1 2 i = (nI (sp_byv S 0 i)) from (hw i (by omega))) ?_
        refine lv_iload_n hx hb dX2_firstWith_14 rfl (lv_at hl 1 rfl) ?_
        refine n_icmp_lt (tgt := 28) hx hb dX2_firstWith_15 (by decide) (by omega) (by omega) (fun c_15_2 => ?_) (fun c_15_2 => ?_)
        · skip
          refine lv_iinc (v := (nI (i + 1))) (lv' := [(2, .int (nI (i + 1))), (0, .ref (a 0)), (1, .int (nI va9))]) hx hb dX2_firstWith_28 hl (k := 2) rfl (by first | exact nI_1 _ | (rw [show Int32.ofInt 1 = nI 1 from by decide, nI_add])) (by decide) rfl (fun ls hl => ?_)
          refine lv_goto (tgt := 2) hx hb dX2_firstWith_31 (by decide) ?_
          exact ih_2 (i + 1) (by omega) (fun k hk => by by_cases ek : k = i; rw [ek]; omega; exact hi2 k (by omega)) (by omega) ls (lv_sub hl [1, 2, 0] rfl)
        · skip
          refine lv_aload_n hx hb dX2_firstWith_18 rfl (lv_at hl 0 rfl) ?_
          refine ag_F_X2_12_this X w dX2_firstWith_19 ?_
          refine ag_F_X2_36_trial X w dX2_firstWith_22 ?_
          refine tp_i (show z.2.1.1 9 = (nI (S.1 3)) from (cs_mo hT.1)) ?_
          refine lv_iload_n hx hb dX2_firstWith_25 rfl (lv_at hl 2 rfl) ?_
          refine n_iadd hx hb dX2_firstWith_26 ?_
          exact re_p hx hb hr hk (by rw [fs_at (k := i) (by omega) (by omega) hi2]) dX2_firstWith_27
  exact lp_2 _ 0 (Nat.zero_le _) (fun k hk => absurd hk (Nat.not_lt_zero _)) (Nat.lt_succ_self _) ls (lv_sub hl [1, 2, 0] rfl)

theorem ok2_lastWith : cOk RX2 yX2_lastWith cX2_lastWith 3 (some .int) 1 := ⟨wc_X2_lastWith, wi_X2_lastWith, ws_X2_lastWith, wn_X2, rfl, by decide, by decide, by decide +kernel⟩
set_option maxHeartbeats 4000000 in
set_option maxRecDepth 100000 in
theorem c2_lastWith (l : Launch) (G : CG) (a b d : Nat → Nat) (z : RS × RS × RS) (va9 : Nat) (S : Sc) (hT : cSc z.2.1 S) (ho : oSc S) (hm : S.1 3 ≤ 400) (hv : va9 ≤ 1000000) (hw : ∀ k, k < 61 → z.1.2.1 2 k = nI (sp_byv S 0 k)) : cMp G l yX2_lastWith cX2_lastWith 3 (some .int) 0 0 [.ref (a 0), .int (nI va9)] (wF G a b d z) (fun r => r = pc_lf S (sp_lt S 0 va9 61)) := by
  refine cMp_in (by decide) rfl (Nat.le_of_ble_eq_true rfl) ?_
  intro p e s m args below meth c ls X hml hr hk hl w
  have hx := X.1
  have hb := X.2.1
  have hts := X.2.2.1
  have hown := X.2.2.2.1
  have hl : lv_has ls 3 [(0, .ref (a 0)), (1, .int (nI va9))] := hl
  obtain ⟨o1, o2, o3, o4, o5, o6, oso, oki, osr, opa, ohu, oco⟩ := id ho
  refine lv_bipush (v := (nI 60)) hx hb dX2_lastWith_0 (by decide) ?_
  refine lv_istore_n (lv' := [(2, .int (nI 60)), (0, .ref (a 0)), (1, .int (nI va9))]) hx hb dX2_lastWith_2 rfl hl (by decide) rfl (fun ls hl => ?_)
  have hl : lv_has ls 3 [(2, .int (iZ (((61 : Nat) : Int) - (1 : Int)))), (0, .ref (a 0)), (1, .int (nI va9))] := by rw [show (iZ (((61 : Nat) : Int) - (1 : Int))) = (nI 60) from by decide]; exact hl
  have lp_3 : ∀ (n_3 : Nat) (yk9 : Nat) (hyk : yk9 ≤ 61) (hi2 : ∀ k, yk9 ≤ k → k < 61 → sp_byv S 0 k < va9) (hm_3 : yk9 < n_3) (ls : Array Slot), lv_has ls 3 [(0, .ref (a 0)), (1, .int (nI va9)), (2, .int (iZ (((yk9 : Nat) : Int) - (1 : Int))))] → W p l e (ro_m 0 0) s m args below meth c s.heap [] 0 0 (MQ below (vp_Si (fun r => r = pc_lf S (sp_lt S 0 va9 61))) args s 0 0 (fun _ => False)) (F0 m 3 ls []) := by
    intro n_3
    induction n_3 with
    | zero => intro yk9 hyk hi2 hm; exact absurd hm (Nat.not_lt_zero _)
    | succ n_3 ih_3 =>
      intro yk9 hyk hi2 hm_3 ls hl
      refine lv_iload_n hx hb dX2_lastWith_3 rfl (lv_at hl 2 rfl) ?_
      refine z_if_lt (tgt := 33) hx hb dX2_lastWith_4 (by decide) (by omega) (by omega) (fun c_4_1 => ?_) (fun c_4_1 => ?_)
      · skip
        refine lv_bipush (v := (iZ (-4))) hx hb dX2_lastWith_33 (by decide) ?_
        exact re_p hx hb hr hk (by rw [lt_at (n := 0) (by omega) (fun k k1 k2 => hi2 k (by omega) k2)]; rfl) dX2_lastWith_35
      · skip
        obtain ⟨k9, rfl⟩ : ∃ k9, yk9 = k9 + 1 := ⟨yk9 - 1, by omega⟩
        have hl : lv_has ls 3 [(0, .ref (a 0)), (1, .int (nI va9)), (2, .int (nI k9))] := by rw [zn1 k9]; exact hl
        have q3 := byv_le S 0 k9
        refine lv_aload_n hx hb dX2_lastWith_7 rfl (lv_at hl 0 rfl) ?_
        refine ag_F_X2_25_this X w dX2_lastWith_8 ?_
        refine lv_iload_n hx hb dX2_lastWith_11 rfl (lv_at hl 2 rfl) ?_
        refine an_F_this_2 X w (by omega) dX2_lastWith_12 ?_
        refine tp_i (show z.1.2.1 2 k9 = (nI (sp_byv S 0 k9)) from (hw k9 (by omega))) ?_
        refine lv_iload_n hx hb dX2_lastWith_13 rfl (lv_at hl 1 rfl) ?_
        refine n_icmp_lt (tgt := 27) hx hb dX2_lastWith_14 (by decide) (by omega) (by omega) (fun c_14_2 => ?_) (fun c_14_2 => ?_)
        · skip
          refine lv_iinc (v := (iZ (((k9 : Nat) : Int) - (1 : Int)))) (lv' := [(2, .int (iZ (((k9 : Nat) : Int) - (1 : Int)))), (0, .ref (a 0)), (1, .int (nI va9))]) hx hb dX2_lastWith_27 hl (k := 2) rfl (dec_z _) (by decide) rfl (fun ls hl => ?_)
          refine lv_goto (tgt := 3) hx hb dX2_lastWith_30 (by decide) ?_
          exact ih_3 k9 (by omega) (fun k k1 k2 => by by_cases ek : k = k9; rw [ek]; omega; exact hi2 k (by omega) k2) (by omega) ls (lv_sub hl [1, 2, 0] rfl)
        · skip
          refine lv_aload_n hx hb dX2_lastWith_17 rfl (lv_at hl 0 rfl) ?_
          refine ag_F_X2_12_this X w dX2_lastWith_18 ?_
          refine ag_F_X2_36_trial X w dX2_lastWith_21 ?_
          refine tp_i (show z.2.1.1 9 = (nI (S.1 3)) from (cs_mo hT.1)) ?_
          refine lv_iload_n hx hb dX2_lastWith_24 rfl (lv_at hl 2 rfl) ?_
          refine n_iadd hx hb dX2_lastWith_25 ?_
          exact re_p hx hb hr hk (by rw [lt_at (n := k9 + 1) hyk hi2, show sp_lt S 0 va9 (k9 + 1) = k9 + 1 from if_neg (by omega)]; rfl) dX2_lastWith_26
  exact lp_3 _ 61 (Nat.le_refl _) (fun k k1 k2 => by omega) (Nat.lt_succ_self _) ls (lv_sub hl [1, 2, 0] rfl)

theorem ok2_suppose : cOk RX2 yX2_suppose cX2_suppose 3 none 2 := ⟨wc_X2_suppose, wi_X2_suppose, ws_X2_suppose, wn_X2, rfl, by decide, by decide, by decide +kernel⟩
set_option maxHeartbeats 4000000 in
set_option maxRecDepth 100000 in
theorem c2_suppose (l : Launch) (G : CG) (a b d : Nat → Nat) (z : RS × RS × RS) (ca9 : Nat) (va9 : Nat) (S : Sc) (hT : cSc z.2.1 S) (ho : oSc S) (h1 : 1 ≤ ca9) (hc : ca9 < S.1 0) (hv : va9 ≤ 2) : cMv G l yX2_suppose cX2_suppose 3 none 3 67 [.ref (a 0), .int (nI ca9), .int (nI va9)] (fun q9 : RS × RS × RS => wF G a b d q9) z (fun z9 => cSc z9.2.1 (sR S 0 ca9 va9) ∧ z9.1 = z.1 ∧ z9.2.2 = z.2.2) := by
  refine cMv_in (by decide) rfl (Nat.le_of_ble_eq_true rfl) ?_
  intro p e s m args below meth c A ls X hml hr hk hl w
  have hx := X.1
  have hb := X.2.1
  have hts := X.2.2.1
  have hown := X.2.2.2.1
  have hl : lv_has ls 3 [(0, .ref (a 0)), (1, .int (nI ca9)), (2, .int (nI va9))] := hl
  obtain ⟨o1, o2, o3, o4, o5, o6, oso, oki, osr, opa, ohu, oco⟩ := id ho
  refine lv_aload_n hx hb dX2_suppose_0 rfl (lv_at hl 0 rfl) ?_
  refine ag_F_X2_12_this X w.1 dX2_suppose_1 ?_
  refine lv_iload_n hx hb dX2_suppose_4 rfl (lv_at hl 1 rfl) ?_
  refine lv_iload_n hx hb dX2_suppose_5 rfl (lv_at hl 2 rfl) ?_
  refine gc_v (C := RX5) (ci := 4) (rest := []) (w := (fun q9 : RS => w5 G b q9)) (wr := [((a 0), .inr (2, [.ref (b 0), .ref (d 0), .ref (a 3)])), ((a 3), .inl (G.2.1, 61, .inl (z.1.2.1 2))), ((d 0), .inr (0, [.int (z.2.2.1 0), .ref (d 2), .ref (d 3), .ref (d 4), .ref (d 5), .ref (d 6), .ref (d 7), .ref (d 8), .ref (d 9), .ref (d 10), .ref (d 11), .ref (d 12)])), ((d 2), .inl (G.2.1, 4, .inl (z.2.2.2.1 1))), ((d 3), .inl (G.2.1, 5, .inl (z.2.2.2.1 2))), ((d 4), .inl (G.2.1, 4, .inl (z.2.2.2.1 3))), ((d 5), .inl (G.2.1, 5, .inl (z.2.2.2.1 4))), ((d 6), .inl (G.2.1, 4, .inl (z.2.2.2.1 5))), ((d 7), .inl (G.2.1, 24, .inl (z.2.2.2.1 6))), ((d 8), .inl (G.2.1, 24, .inl (z.2.2.2.1 7))), ((d 9), .inl (G.2.1, 6, .inl (z.2.2.2.1 8))), ((d 10), .inl (G.2.1, 175, .inl (z.2.2.2.1 9))), ((d 11), .inl (G.2.1, 128, .inl (z.2.2.2.1 10))), ((d 12), .inl (G.2.1, 128, .inl (z.2.2.2.1 11)))]) (wn := (fun u9 => wF G a b d ((z.1, u9, z.2.2)))) X hml hl.1 (c5_changeSort l G b z.2.1 ca9 va9 S hT ho h1 hc hv) ok5_changeSort wm_X2_75 ⟨Nat.le_of_ble_eq_true rfl, Nat.le_of_ble_eq_true rfl⟩ ⟨Nat.le_refl _, Nat.le_refl _⟩ w [2, 3, 4, 5, 6, 7, 8, 9] [0, 1, 10, 11, 12, 13, 14, 15, 16, 17, 18, 19, 20, 21] [0, 1, 14, 15, 16, 17, 18, 19, 20, 21, 2, 3, 4, 5, 6, 7, 8, 9, 10, 11, 12, 13] rfl (by decide) rfl (by decide) (by decide) (fun _ => rfl) (by decide) rfl rfl rfl (Nat.le_of_ble_eq_true rfl) dX2_suppose_6 (fun u_6 H locs hr_6 w => ?_)
  obtain ⟨z_6, ez_6⟩ : ∃ q9 : RS × RS × RS, q9 = (z.1, u_6, z.2.2) := ⟨_, rfl⟩
  have w : cW G A s (wF G a b d z_6) H locs := by rw [ez_6]; exact w
  have eu_6_trial : z_6.2.1 = u_6 := by rw [ez_6]
  rw [← eu_6_trial] at hr_6
  have ek_6_this : z_6.1 = z.1 := by rw [ez_6]
  have ek_6_chances : z_6.2.2 = z.2.2 := by rw [ez_6]
  exact ce_v (w := (fun q9 : RS × RS × RS => wF G a b d q9)) (z := z_6) X hr hk w (⟨hr_6, ek_6_this, ek_6_chances⟩) dX2_suppose_9

section Lm_c2_supposeHurt
variable {p : Program} {l : Launch} {e : Env} {R : Room} {s : State} {m : MethodId} {args : Array Value} {below : List Frame} {meth : Method} {c : Code} {H : Heap} {locs : List Loc} {cells slots : Nat} {Q : State → Prop}
variable {cc : ByteArray} {pc : Nat} {ls : Array Slot} {rest : List Value} {G : CG} {A : Nat → Prop}
theorem ag_F_X2_82_trial {a b d : Nat → Nat} {z : RS × RS × RS} (X : cX RX2 G A p c cc s args m) (w : va_P G.1 vwCl (wF G a b d z) H) (hdg : decode cc pc = .ok (.getfield 82, 3)) (kk : W p l e R s m args below meth c H locs cells slots Q (F0 m (pc + 3) ls (.ref (b 8) :: rest))) : W p l e R s m args below meth c H locs cells slots Q (F0 m pc ls (.ref (b 0) :: rest)) :=
  va_getN (own := RX2) (ref := RX5) (host := "RunningThree") (D := G.1) (ci := 4) (v := .ref (b 8)) (C := RX5) (T := TX5) (N := 13) X.1 X.2.1 X.2.2.1 gX5 X.2.2.2.1 X.2.2.2.2.1.1 w 2 rfl rfl 7 (by decide) (va_Nw.use rfl (X.2.2.2.2.1.2 _ wq_X2_82)) (fun _ h9 => h9) rfl hdg kk
theorem au_F_trial_7 {own : String} {a b d : Nat → Nat} {z : RS × RS × RS} {j : Nat} {v : Int32} (X : cX own G A p c cc s args m) (w : cW G A s (wF G a b d z) H locs) (hj : j < 5) (hdg : decode cc pc = .ok (.iastore, 1)) (kk : ∀ (z1 : RS × RS × RS) (H : Heap) (locs : List Loc), z1 = (z.1, (sA z.2.1 7 j v), z.2.2) → cW G A s (wF G a b d z1) H locs → W p l e R s m args below meth c H locs cells slots Q (F0 m (pc + 1) ls rest)) : W p l e R s m args below meth c H locs cells slots Q (F0 m pc ls (.int v :: .int (nI j) :: .ref (b 8) :: rest)) := by
  refine va_iast X.1 X.2.1 X.2.2.2.2.1.1 w.1 w.2.1 w.2.2 8 0 rfl rfl (vp_in_nI hj (by decide)) hdg ?_
  rw [nI_clamp (by omega)]
  exact fun H1 locs1 hP hD hS => kk _ H1 locs1 rfl ⟨hP, hD, hS⟩
end Lm_c2_supposeHurt
theorem ok2_supposeHurt : cOk RX2 yX2_supposeHurt cX2_supposeHurt 3 none 2 := ⟨wc_X2_supposeHurt, wi_X2_supposeHurt, ws_X2_supposeHurt, wn_X2, rfl, by decide, by decide, by decide +kernel⟩
set_option maxHeartbeats 4000000 in
set_option maxRecDepth 100000 in
theorem c2_supposeHurt (l : Launch) (G : CG) (a b d : Nat → Nat) (z : RS × RS × RS) (fa9 : Nat) (va9 : Nat) (S : Sc) (hT : cSc z.2.1 S) (ho : oSc S) (hf : fa9 < S.1 1) : cMv G l yX2_supposeHurt cX2_supposeHurt 3 none 2 43 [.ref (a 0), .int (nI fa9), .int (nI va9)] (fun q9 : RS × RS × RS => wF G a b d q9) z (fun z9 => cSc z9.2.1 (sR S 4 fa9 va9) ∧ z9.1 = z.1 ∧ ∀ k, k < 128 → z9.2.2.2.1 10 k = iZ (-1)) := by
  refine cMv_in (by decide) rfl (Nat.le_of_ble_eq_true rfl) ?_
  intro p e s m args below meth c A ls X hml hr hk hl w
  have hx := X.1
  have hb := X.2.1
  have hts := X.2.2.1
  have hown := X.2.2.2.1
  have hl : lv_has ls 3 [(0, .ref (a 0)), (1, .int (nI fa9)), (2, .int (nI va9))] := hl
  obtain ⟨o1, o2, o3, o4, o5, o6, oso, oki, osr, opa, ohu, oco⟩ := id ho
  refine lv_aload_n hx hb dX2_supposeHurt_0 rfl (lv_at hl 0 rfl) ?_
  refine ag_F_X2_12_this X w.1 dX2_supposeHurt_1 ?_
  refine lv_iload_n hx hb dX2_supposeHurt_4 rfl (lv_at hl 1 rfl) ?_
  refine gc_p (C := RX5) (ci := 4) (rest := []) X hml hl.1 (c5_exists l G b z.2.1 (nI fa9) S hT.1 ho) ok5_exists wm_X2_79 ⟨Nat.le_of_ble_eq_true rfl, Nat.le_of_ble_eq_true rfl⟩ ⟨Nat.le_refl _, Nat.le_refl _⟩ w.1 [2, 3, 4, 5, 6, 7, 8, 9] rfl rfl rfl rfl (Nat.le_of_ble_eq_true rfl) dX2_supposeHurt_5 (fun r_5 hr_5 => ?_)
  subst hr_5
  refine tp_i (congrArg nI (by rw [nI_toInt (by omega)] : _ = pc_inI (((fa9 : Nat) : Int)) 0 (((S.1 1 : Nat) : Int) - 1))) ?_
  have d_5 := pc_inI_ok (((fa9 : Nat) : Int)) 0 (((S.1 1 : Nat) : Int) - 1)
  refine n_if_eq (tgt := 28) hx hb dX2_supposeHurt_8 (by decide) (by omega) (fun c_8_1 => ?_) (fun c_8_1 => ?_)
  · skip
    exact absurd hf (by omega)
  · skip
    refine lv_aload_n hx hb dX2_supposeHurt_11 rfl (lv_at hl 0 rfl) ?_
    refine ag_F_X2_12_this X w.1 dX2_supposeHurt_12 ?_
    refine ag_F_X2_82_trial X w.1 dX2_supposeHurt_15 ?_
    refine lv_iload_n hx hb dX2_supposeHurt_18 rfl (lv_at hl 1 rfl) ?_
    refine lv_iload_n hx hb dX2_supposeHurt_19 rfl (lv_at hl 2 rfl) ?_
    refine au_F_trial_7 X w (by omega) dX2_supposeHurt_20 (fun z_20 H locs ez_20 w => ?_)
    refine lv_aload_n hx hb dX2_supposeHurt_21 rfl (lv_at hl 0 rfl) ?_
    refine ag_F_X2_21_this X w.1 dX2_supposeHurt_22 ?_
    refine gc_v (C := RX0) (ci := 0) (rest := []) (w := (fun q9 : RS => w0 G d q9)) (wr := [((a 0), .inr (2, [.ref (b 0), .ref (d 0), .ref (a 3)])), ((a 3), .inl (G.2.1, 61, .inl (z_20.1.2.1 2))), ((b 0), .inr (4, [.int (z_20.2.1.1 0), .ref (b 2), .ref (b 3), .int (z_20.2.1.1 3), .ref (b 5), .ref (b 6), .ref (b 7), .ref (b 8), .int (z_20.2.1.1 8), .int (z_20.2.1.1 9), .int (z_20.2.1.1 10), .ref (b 12), .int (z_20.2.1.1 12)])), ((b 2), .inl (G.2.1, 40, .inl (z_20.2.1.2.1 1))), ((b 3), .inl (G.2.1, 40, .inl (z_20.2.1.2.1 2))), ((b 5), .inl (G.2.1, 5, .inl (z_20.2.1.2.1 4))), ((b 6), .inl (G.2.1, 5, .inl (z_20.2.1.2.1 5))), ((b 7), .inl (G.2.1, 5, .inl (z_20.2.1.2.1 6))), ((b 8), .inl (G.2.1, 5, .inl (z_20.2.1.2.1 7))), ((b 12), .inl (G.2.1, 5, .inl (z_20.2.1.2.1 11)))]) (wn := (fun u9 => wF G a b d ((z_20.1, z_20.2.1, u9)))) X hml hl.1 (c0_forget l G d z_20.2.2) ok0_forget wm_X2_33 ⟨Nat.le_of_ble_eq_true rfl, Nat.le_of_ble_eq_true rfl⟩ ⟨Nat.le_refl _, Nat.le_refl _⟩ w [10, 11, 12, 13, 14, 15, 16, 17, 18, 19, 20, 21] [0, 1, 2, 3, 4, 5, 6, 7, 8, 9] [0, 1, 2, 3, 4, 5, 6, 7, 8, 9, 10, 11, 12, 13, 14, 15, 16, 17, 18, 19, 20, 21] rfl (by decide) rfl (by decide) (by decide) (fun _ => rfl) (by decide) rfl rfl rfl (Nat.le_of_ble_eq_true rfl) dX2_supposeHurt_25 (fun u_25 H locs hr_25 w => ?_)
    obtain ⟨z_25, ez_25⟩ : ∃ q9 : RS × RS × RS, q9 = (z_20.1, z_20.2.1, u_25) := ⟨_, rfl⟩
    have w : cW G A s (wF G a b d z_25) H locs := by rw [ez_25]; exact w
    have eu_25_chances : z_25.2.2 = u_25 := by rw [ez_25]
    rw [← eu_25_chances] at hr_25
    have ek_25_this : z_25.1 = z_20.1 := by rw [ez_25]
    have ek_25_trial : z_25.2.1 = z_20.2.1 := by rw [ez_25]
    exact ce_v (w := (fun q9 : RS × RS × RS => wF G a b d q9)) (z := z_25) X hr hk w (⟨by rw [ek_25_trial, ez_20]; exact cc_hu hT _ _, by rw [ek_25_this, ez_20], hr_25.1⟩) dX2_supposeHurt_28

theorem ok2_winsOne : cOk RX2 yX2_winsOne cX2_winsOne 2 (some .boolean) 0 := ⟨wc_X2_winsOne, wi_X2_winsOne, ws_X2_winsOne, wn_X2, rfl, by decide, by decide, by decide +kernel⟩
set_option maxHeartbeats 4000000 in
set_option maxRecDepth 100000 in
theorem c2_winsOne (l : Launch) (G : CG) (a b d : Nat → Nat) (z : RS × RS × RS)  (S : Sc) (hT : cSc z.2.1 S) (hg : gdo S) (ht : ¬ S.1 4 = 0) (h1 : 1 ≤ S.1 1) : cMi G l yX2_winsOne cX2_winsOne 2 (some .boolean) 4 88 [.ref (a 0)] (fun q9 : RS × RS × RS => wF G a b d q9) z (fun r z9 => r = nI (if sp_over (sp_wr S) = 1 then 1 else 0) ∧ cSc z9.2.1 (sp_wr S)) := by
  refine cMi_in (by decide) rfl (Nat.le_of_ble_eq_true rfl) ?_
  intro p e s m args below meth c A ls X hml hr hk hl w
  have hx := X.1
  have hb := X.2.1
  have hts := X.2.2.1
  have hown := X.2.2.2.1
  have hl : lv_has ls 2 [(0, .ref (a 0))] := hl
  refine lv_iconst (v := (nI 0)) hx hb dX2_winsOne_0 (by decide) ?_
  refine lv_istore_n (lv' := [(1, .int (nI 0)), (0, .ref (a 0))]) hx hb dX2_winsOne_1 rfl hl (by decide) rfl (fun ls hl => ?_)
  have lp_2 : ∀ (n_2 : Nat) (i : Nat) (T : Sc) (hg9 : gdo T) (hhs : i + sp_hs S ≤ sp_hs T) (hwr : sp_wr T = sp_wr S) (ht9 : ¬ T.1 4 = 0) (h19 : 1 ≤ T.1 1) (hm_2 : 100 - i < n_2) (ls : Array Slot) (zz : RS × RS × RS) (H : Heap) (locs : List Loc) (w : cW G A s (wF G a b d zz) H locs) (hTz : cSc zz.2.1 T), lv_has ls 2 [(0, .ref (a 0)), (1, .int (nI i))] → W p l e (ro_m 4 88) s m args below meth c H locs 0 0 (MQ below (va_Qi (fun r z9 => r = nI (if sp_over (sp_wr S) = 1 then 1 else 0) ∧ cSc z9.2.1 (sp_wr S)) (cB G (fun q9 : RS × RS × RS => wF G a b d q9) A) A) args s 0 0 A) (F0 m 2 ls []) := by
    intro n_2
    induction n_2 with
    | zero => intro i T hg9 hhs hwr ht9 h19 hm; exact absurd hm (Nat.not_lt_zero _)
    | succ n_2 ih_2 =>
      intro i T hg9 hhs hwr ht9 h19 hm_2 ls zz H locs w hTz hl
      have hl9 := hs_le hg9.1
      refine lv_iload_n hx hb dX2_winsOne_2 rfl (lv_at hl 1 rfl) ?_
      refine lv_bipush (v := (nI 40)) hx hb dX2_winsOne_3 (by decide) ?_
      refine n_icmp_ge (tgt := 39) hx hb dX2_winsOne_5 (by decide) (by omega) (by omega) (fun c_5_1 => ?_) (fun c_5_1 => ?_)
      · skip
        exact absurd hl9 (by omega)
        skip
      · skip
        refine lv_aload_n hx hb dX2_winsOne_8 rfl (lv_at hl 0 rfl) ?_
        refine ag_F_X2_12_this X w.1 dX2_winsOne_9 ?_
        refine gc_p (C := RX5) (ci := 4) (rest := []) X hml hl.1 (c5_outcome l G b zz.2.1  T hTz.1 hg9.1 ) ok5_outcome wm_X2_98 ⟨Nat.le_of_ble_eq_true rfl, Nat.le_of_ble_eq_true rfl⟩ ⟨Nat.le_refl _, Nat.le_refl _⟩ w.1 [2, 3, 4, 5, 6, 7, 8, 9] rfl rfl rfl rfl (Nat.le_of_ble_eq_true rfl) dX2_winsOne_12 (fun r_12 hr_12 => ?_)
        subst hr_12
        have d_12 := sp_over_le T
        refine n_if_ne (tgt := 39) hx hb dX2_winsOne_15 (by decide) (by omega) (fun c_15_2 => ?_) (fun c_15_2 => ?_)
        · skip
          refine lv_aload_n hx hb dX2_winsOne_39 rfl (lv_at hl 0 rfl) ?_
          refine ag_F_X2_12_this X w.1 dX2_winsOne_40 ?_
          refine gc_p (C := RX5) (ci := 4) (rest := []) X hml hl.1 (c5_outcome l G b zz.2.1  T hTz.1 hg9.1 ) ok5_outcome wm_X2_98 ⟨Nat.le_of_ble_eq_true rfl, Nat.le_of_ble_eq_true rfl⟩ ⟨Nat.le_refl _, Nat.le_refl _⟩ w.1 [2, 3, 4, 5, 6, 7, 8, 9] rfl rfl rfl rfl (Nat.le_of_ble_eq_true rfl) dX2_winsOne_43 (fun r_43 hr_43 => ?_)
          subst hr_43
          have d_43 := sp_over_le T
          refine lv_iconst (v := (nI 1)) hx hb dX2_winsOne_46 (by decide) ?_
          refine jn (tgt := 55) (rest := []) (fun v9 => ∃ x9 : Nat, x9 = (if (sp_over T) = 1 then 1 else 0) ∧ v9 = nI x9) (fun v_ hv_ => ?_) (fun k_55 => ?_)
          · obtain ⟨x_55, ex_55, rfl⟩ := hv_
            exact ce_iz (w := (fun q9 : RS × RS × RS => wF G a b d q9)) (z := zz) X hr hk w (by rw [ex_55]; split; exact Or.inr rfl; exact Or.inl rfl) (⟨by rw [ex_55, ← hwr, wr_e (by omega)], by rw [← hwr, wr_e (by omega)]; exact hTz⟩) dX2_winsOne_55
          · skip
            refine n_icmp_ne (tgt := 54) hx hb dX2_winsOne_47 (by decide) (by omega) (by omega) (fun c_47_4 => ?_) (fun c_47_4 => ?_)
            · skip
              refine lv_iconst (v := (nI 0)) hx hb dX2_winsOne_54 (by decide) ?_
              exact k_55 _ ⟨_, by simp only [if_neg c_47_4], rfl⟩
            · skip
              refine lv_iconst (v := (nI 1)) hx hb dX2_winsOne_50 (by decide) ?_
              refine lv_goto (tgt := 55) hx hb dX2_winsOne_51 (by decide) ?_
              exact k_55 _ ⟨_, by simp only [if_pos c_47_4], rfl⟩
        · skip
          refine lv_aload_n hx hb dX2_winsOne_18 rfl (lv_at hl 0 rfl) ?_
          refine ag_F_X2_12_this X w.1 dX2_winsOne_19 ?_
          refine gc_v (C := RX5) (ci := 4) (rest := []) (w := (fun q9 : RS => w5 G b q9)) (wr := [((a 0), .inr (2, [.ref (b 0), .ref (d 0), .ref (a 3)])), ((a 3), .inl (G.2.1, 61, .inl (zz.1.2.1 2))), ((d 0), .inr (0, [.int (zz.2.2.1 0), .ref (d 2), .ref (d 3), .ref (d 4), .ref (d 5), .ref (d 6), .ref (d 7), .ref (d 8), .ref (d 9), .ref (d 10), .ref (d 11), .ref (d 12)])), ((d 2), .inl (G.2.1, 4, .inl (zz.2.2.2.1 1))), ((d 3), .inl (G.2.1, 5, .inl (zz.2.2.2.1 2))), ((d 4), .inl (G.2.1, 4, .inl (zz.2.2.2.1 3))), ((d 5), .inl (G.2.1, 5, .inl (zz.2.2.2.1 4))), ((d 6), .inl (G.2.1, 4, .inl (zz.2.2.2.1 5))), ((d 7), .inl (G.2.1, 24, .inl (zz.2.2.2.1 6))), ((d 8), .inl (G.2.1, 24, .inl (zz.2.2.2.1 7))), ((d 9), .inl (G.2.1, 6, .inl (zz.2.2.2.1 8))), ((d 10), .inl (G.2.1, 175, .inl (zz.2.2.2.1 9))), ((d 11), .inl (G.2.1, 128, .inl (zz.2.2.2.1 10))), ((d 12), .inl (G.2.1, 128, .inl (zz.2.2.2.1 11)))]) (wn := (fun u9 => wF G a b d ((zz.1, u9, zz.2.2)))) X hml hl.1 (c5_waitForNext l G b zz.2.1 T hTz hg9.1 ht9) ok5_waitForNext wm_X2_102 ⟨Nat.le_of_ble_eq_true rfl, Nat.le_of_ble_eq_true rfl⟩ ⟨Nat.le_refl _, Nat.le_refl _⟩ w [2, 3, 4, 5, 6, 7, 8, 9] [0, 1, 10, 11, 12, 13, 14, 15, 16, 17, 18, 19, 20, 21] [0, 1, 14, 15, 16, 17, 18, 19, 20, 21, 2, 3, 4, 5, 6, 7, 8, 9, 10, 11, 12, 13] rfl (by decide) rfl (by decide) (by decide) (fun _ => rfl) (by decide) rfl rfl rfl (Nat.le_of_ble_eq_true rfl) dX2_winsOne_22 (fun u_22 H locs hr_22 w => ?_)
          obtain ⟨z_22, ez_22⟩ : ∃ q9 : RS × RS × RS, q9 = (zz.1, u_22, zz.2.2) := ⟨_, rfl⟩
          have w : cW G A s (wF G a b d z_22) H locs := by rw [ez_22]; exact w
          have eu_22_trial : z_22.2.1 = u_22 := by rw [ez_22]
          rw [← eu_22_trial] at hr_22
          have ek_22_this : z_22.1 = zz.1 := by rw [ez_22]
          have ek_22_chances : z_22.2.2 = zz.2.2 := by rw [ez_22]
          obtain ⟨M9, m1, m2, m3, m4, m5, m6⟩ := wr_next hg9 (show sp_over T = 0 by omega)
          rw [m1] at hr_22
          refine lv_aload_n hx hb dX2_winsOne_25 rfl (lv_at hl 0 rfl) ?_
          refine ag_F_X2_12_this X w.1 dX2_winsOne_26 ?_
          refine gc_i (C := RX5) (ci := 4) (rest := []) (w := (fun q9 : RS => w5 G b q9)) (wr := [((a 0), .inr (2, [.ref (b 0), .ref (d 0), .ref (a 3)])), ((a 3), .inl (G.2.1, 61, .inl (z_22.1.2.1 2))), ((d 0), .inr (0, [.int (z_22.2.2.1 0), .ref (d 2), .ref (d 3), .ref (d 4), .ref (d 5), .ref (d 6), .ref (d 7), .ref (d 8), .ref (d 9), .ref (d 10), .ref (d 11), .ref (d 12)])), ((d 2), .inl (G.2.1, 4, .inl (z_22.2.2.2.1 1))), ((d 3), .inl (G.2.1, 5, .inl (z_22.2.2.2.1 2))), ((d 4), .inl (G.2.1, 4, .inl (z_22.2.2.2.1 3))), ((d 5), .inl (G.2.1, 5, .inl (z_22.2.2.2.1 4))), ((d 6), .inl (G.2.1, 4, .inl (z_22.2.2.2.1 5))), ((d 7), .inl (G.2.1, 24, .inl (z_22.2.2.2.1 6))), ((d 8), .inl (G.2.1, 24, .inl (z_22.2.2.2.1 7))), ((d 9), .inl (G.2.1, 6, .inl (z_22.2.2.2.1 8))), ((d 10), .inl (G.2.1, 175, .inl (z_22.2.2.2.1 9))), ((d 11), .inl (G.2.1, 128, .inl (z_22.2.2.2.1 10))), ((d 12), .inl (G.2.1, 128, .inl (z_22.2.2.2.1 11)))]) (wn := (fun u9 => wF G a b d ((z_22.1, u9, z_22.2.2)))) X hml hl.1 (c5_fightFirst l G b z_22.2.1 (sN T 3 (M9 + 1)) hr_22 (oSc_mo hg9.1 (by omega)) ht9 (show M9 + 1 < 99999 by omega) h19) ok5_fightFirst wm_X2_105 ⟨Nat.le_of_ble_eq_true rfl, Nat.le_of_ble_eq_true rfl⟩ ⟨Nat.le_refl _, Nat.le_refl _⟩ w [2, 3, 4, 5, 6, 7, 8, 9] [0, 1, 10, 11, 12, 13, 14, 15, 16, 17, 18, 19, 20, 21] [0, 1, 14, 15, 16, 17, 18, 19, 20, 21, 2, 3, 4, 5, 6, 7, 8, 9, 10, 11, 12, 13] rfl (by decide) rfl (by decide) (by decide) (fun _ => rfl) (by decide) rfl rfl rfl (Nat.le_of_ble_eq_true rfl) dX2_winsOne_29 (fun r_29 u_29 H locs hr_29 w => ?_)
          obtain ⟨z_29, ez_29⟩ : ∃ q9 : RS × RS × RS, q9 = (z_22.1, u_29, z_22.2.2) := ⟨_, rfl⟩
          have w : cW G A s (wF G a b d z_29) H locs := by rw [ez_29]; exact w
          have eu_29_trial : z_29.2.1 = u_29 := by rw [ez_29]
          rw [← eu_29_trial] at hr_29
          have ek_29_this : z_29.1 = z_22.1 := by rw [ez_29]
          have ek_29_chances : z_29.2.2 = z_22.2.2 := by rw [ez_29]
          have hW29 : cSc z_29.2.1 (sp_fgS (sN T 3 M9)) := by have e9 := (ff_fg (S := sN T 3 M9) (T := sN T 3 (M9 + 1)) (by show _ = sN (sN T 3 M9) 3 (M9 + 1); rw [sN_mo])).2; rw [← e9]; exact hr_29.2
          refine lv_pop hx hb dX2_winsOne_32 rfl ?_
          refine lv_iinc (v := (nI (i + 1))) (lv' := [(1, .int (nI (i + 1))), (0, .ref (a 0))]) hx hb dX2_winsOne_33 hl (k := 1) rfl (by first | exact nI_1 _ | (rw [show Int32.ofInt 1 = nI 1 from by decide, nI_add])) (by decide) rfl (fun ls hl => ?_)
          refine lv_goto (tgt := 2) hx hb dX2_winsOne_36 (by decide) ?_
          exact ih_2 (i + 1) (sp_fgS (sN T 3 M9)) m5 (by omega) (m4.trans hwr) (by rw [(sr_tr (sr_fg _) (sr_mo T M9)).1 4 (by decide)]; exact ht9) (by rw [(sr_tr (sr_fg _) (sr_mo T M9)).1 1 (by decide)]; exact h19) (by omega) ls z_29 _ _ w hW29 (lv_sub hl [1, 0] rfl)
  exact lp_2 _ 0 S hg (by omega) rfl ht h1 (Nat.lt_succ_self _) ls z _ _ w hT (lv_sub hl [1, 0] rfl)
