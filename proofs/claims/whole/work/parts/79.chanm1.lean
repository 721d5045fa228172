section Lm_c0_forget
variable {p : Program} {l : Launch} {e : Env} {R : Room} {s : State} {m : MethodId} {args : Array Value} {below : List Frame} {meth : Method} {c : Code} {H : Heap} {locs : List Loc} {cells slots : Nat} {Q : State → Prop}
variable {cc : ByteArray} {pc : Nat} {ls : Array Slot} {rest : List Value} {G : CG} {A : Nat → Prop}
theorem ag_C_X0_39_this {a : Nat → Nat} {z : RS} (X : cX RX0 G A p c cc s args m) (w : va_P G.1 vwCl (w0 G a z) H) (hdg : decode cc pc = .ok (.getfield 39, 3)) (kk : W p l e R s m args below meth c H locs cells slots Q (F0 m (pc + 3) ls (.ref (a 11) :: rest))) : W p l e R s m args below meth c H locs cells slots Q (F0 m pc ls (.ref (a 0) :: rest)) :=
  va_get (D := G.1) (ci := 0) (v := .ref (a 11)) (C := RX0) (T := TX0) (N := 12) X.1 X.2.1 X.2.2.1 gX0 X.2.2.2.1 X.2.2.2.2.1.1 w 0 rfl rfl 10 (by decide) (X.2.2.1 _ wf_X0_39) (fun _ h9 => h9) rfl hdg kk
theorem au_C_this_10 {own : String} {a : Nat → Nat} {z : RS} {j : Nat} {v : Int32} (X : cX own G A p c cc s args m) (w : cW G A s (w0 G a z) H locs) (hj : j < 128) (hdg : decode cc pc = .ok (.iastore, 1)) (kk : ∀ (z1 : RS) (H : Heap) (locs : List Loc), z1 = (sA z 10 j v) → cW G A s (w0 G a z1) H locs → W p l e R s m args below meth c H locs cells slots Q (F0 m (pc + 1) ls rest)) : W p l e R s m args below meth c H locs cells slots Q (F0 m pc ls (.int v :: .int (nI j) :: .ref (a 11) :: rest)) := by
  refine va_iast X.1 X.2.1 X.2.2.2.2.1.1 w.1 w.2.1 w.2.2 10 0 rfl rfl (vp_in_nI hj (by decide)) hdg ?_
  rw [nI_clamp (by omega)]
  exact fun H1 locs1 hP hD hS => kk _ H1 locs1 rfl ⟨hP, hD, hS⟩
end Lm_c0_forget
theorem ok0_forget : cOk RX0 yX0_forget cX0_forget 2 none 0 := ⟨wc_X0_forget, wi_X0_forget, ws_X0_forget, wn_X0, rfl, by decide, by decide, by decide +kernel⟩
set_option maxHeartbeats 4000000 in
set_option maxRecDepth 100000 in
theorem c0_forget (l : Launch) (G : CG) (a : Nat → Nat) (z : RS)   : cMv G l yX0_forget cX0_forget 2 none 0 0 [.ref (a 0)] (fun q9 : RS => w0 G a q9) z (fun z9 => (∀ k, k < 128 → z9.2.1 10 k = iZ (-1)) ∧ rFr [] [10] z z9) := by
  refine cMv_in (by decide) rfl (Nat.le_of_ble_eq_true rfl) ?_
  intro p e s m args below meth c A ls X hml hr hk hl w
  have hx := X.1
  have hb := X.2.1
  have hts := X.2.2.1
  have hown := X.2.2.2.1
  have hl : lv_has ls 2 [(0, .ref (a 0))] := hl
  refine lv_iconst (v := (nI 0)) hx hb dX0_forget_0 (by decide) ?_
  refine lv_istore_n (lv' := [(1, .int (nI 0)), (0, .ref (a 0))]) hx hb dX0_forget_1 rfl hl (by decide) rfl (fun ls hl => ?_)
  have lp_2 : ∀ (n_2 : Nat) (i : Nat) (hi : i ≤ 128) (hm_2 : 128 - i < n_2) (ls : Array Slot) (zz : RS) (H : Heap) (locs : List Loc) (w : cW G A s (w0 G a zz) H locs) (hq : (∀ k, k < i → zz.2.1 10 k = iZ (-1)) ∧ rFr [] [10] z zz), lv_has ls 2 [(0, .ref (a 0)), (1, .int (nI i))] → W p l e (ro_m 0 0) s m args below meth c H locs 0 0 (MQ below (va_Qv (fun z9 => (∀ k, k < 128 → z9.2.1 10 k = iZ (-1)) ∧ rFr [] [10] z z9) (cB G (fun q9 : RS => w0 G a q9) A) A) args s 0 0 A) (F0 m 2 ls []) := by
    intro n_2
    induction n_2 with
    | zero => intro i hi hm; exact absurd hm (Nat.not_lt_zero _)
    | succ n_2 ih_2 =>
      intro i hi hm_2 ls zz H locs w hq hl
      refine lv_iload_n hx hb dX0_forget_2 rfl (lv_at hl 1 rfl) ?_
      refine lv_sipush (v := (nI 128)) hx hb dX0_forget_3 (by decide) ?_
      refine n_icmp_ge (tgt := 22) hx hb dX0_forget_6 (by decide) (by omega) (by omega) (fun c_6_1 => ?_) (fun c_6_1 => ?_)
      · skip
        exact ce_v (w := (fun q9 : RS => w0 G a q9)) (z := zz) X hr hk w (⟨fun k hk => hq.1 k (by omega), hq.2⟩) dX0_forget_22
      · skip
        refine lv_aload_n hx hb dX0_forget_9 rfl (lv_at hl 0 rfl) ?_
        refine ag_C_X0_39_this X w.1 dX0_forget_10 ?_
        refine lv_iload_n hx hb dX0_forget_13 rfl (lv_at hl 1 rfl) ?_
        refine lv_iconst (v := (iZ (-1))) hx hb dX0_forget_14 (by decide) ?_
        refine au_C_this_10 X w (by omega) dX0_forget_15 (fun z_15 H locs ez_15 w => ?_)
        refine lv_iinc (v := (nI (i + 1))) (lv' := [(1, .int (nI (i + 1))), (0, .ref (a 0))]) hx hb dX0_forget_16 hl (k := 1) rfl (by first | exact nI_1 _ | (rw [show Int32.ofInt 1 = nI 1 from by decide, nI_add])) (by decide) rfl (fun ls hl => ?_)
        refine lv_goto (tgt := 2) hx hb dX0_forget_19 (by decide) ?_
        exact ih_2 (i + 1) (by omega) (by omega) ls z_15 _ _ w (by rw [ez_15]; refine ⟨fun k hk => ?_, rFr_tr hq.2 (rFr_A _ (by decide))⟩; show upd (zz.2.1 10) i (iZ (-1)) k = _; by_cases ej : k = i; rw [ej, pk_us]; rw [pk_un ej]; exact hq.1 k (by omega)) (lv_sub hl [1, 0] rfl)
  exact lp_2 _ 0 (Nat.zero_le _) (Nat.lt_succ_self _) ls z _ _ w ⟨fun _ hj => absurd hj (Nat.not_lt_zero _), rFr_rf _ _ _⟩ (lv_sub hl [1, 0] rfl)

section Lm_c0_takeComing
variable {p : Program} {l : Launch} {e : Env} {R : Room} {s : State} {m : MethodId} {args : Array Value} {below : List Frame} {meth : Method} {c : Code} {H : Heap} {locs : List Loc} {cells slots : Nat} {Q : State → Prop}
variable {cc : ByteArray} {pc : Nat} {ls : Array Slot} {rest : List Value} {G : CG} {A : Nat → Prop}
theorem ag_CS_X0_45_scn {a b : Nat → Nat} {zo : RS} {z : RS} (X : cX RX0 G A p c cc s args m) (w : va_P G.1 vwCl (w0 G a z ++ w5 G b zo) H) (hdg : decode cc pc = .ok (.getfield 45, 3)) (kk : W p l e R s m args below meth c H locs cells slots Q (F0 m (pc + 3) ls (.ref (b 12) :: rest))) : W p l e R s m args below meth c H locs cells slots Q (F0 m pc ls (.ref (b 0) :: rest)) :=
  va_getN (own := RX0) (ref := RX5) (host := "RunningThree") (D := G.1) (ci := 4) (v := .ref (b 12)) (C := RX5) (T := TX5) (N := 13) X.1 X.2.1 X.2.2.1 gX5 X.2.2.2.1 X.2.2.2.2.1.1 w 12 rfl rfl 11 (by decide) (va_Nw.use rfl (X.2.2.2.2.1.2 _ wq_X0_45)) (fun _ h9 => h9) rfl hdg kk
theorem ag_CS_X0_15_this {a b : Nat → Nat} {zo : RS} {z : RS} (X : cX RX0 G A p c cc s args m) (w : va_P G.1 vwCl (w0 G a z ++ w5 G b zo) H) (hdg : decode cc pc = .ok (.getfield 15, 3)) (kk : W p l e R s m args below meth c H locs cells slots Q (F0 m (pc + 3) ls (.ref (a 3) :: rest))) : W p l e R s m args below meth c H locs cells slots Q (F0 m pc ls (.ref (a 0) :: rest)) :=
  va_get (D := G.1) (ci := 0) (v := .ref (a 3)) (C := RX0) (T := TX0) (N := 12) X.1 X.2.1 X.2.2.1 gX0 X.2.2.2.1 X.2.2.2.2.1.1 w 0 rfl rfl 2 (by decide) (X.2.2.1 _ wf_X0_15) (fun _ h9 => h9) rfl hdg kk
end Lm_c0_takeComing
theorem ok0_takeComing : cOk RX0 yX0_takeComing cX0_takeComing 2 none 1 := ⟨wc_X0_takeComing, wi_X0_takeComing, ws_X0_takeComing, wn_X0, rfl, by decide, by decide, by decide +kernel⟩
set_option maxHeartbeats 4000000 in
set_option maxRecDepth 100000 in
theorem c0_takeComing (l : Launch) (G : CG) (a b : Nat → Nat) (zo : RS) (z : RS)   : cMv G l yX0_takeComing cX0_takeComing 2 none 1 100 [.ref (a 0), .ref (b 0)] (fun q9 : RS => w0 G a q9 ++ w5 G b zo) z (fun z9 => z9 = sC z 2 (va_cpy (zo.2.1 11) (z.2.1 2) 0 0 5)) := by
  refine cMv_in (by decide) rfl (Nat.le_of_ble_eq_true rfl) ?_
  intro p e s m args below meth c A ls X hml hr hk hl w
  have hx := X.1
  have hb := X.2.1
  have hts := X.2.2.1
  have hown := X.2.2.2.1
  have hl : lv_has ls 2 [(0, .ref (a 0)), (1, .ref (b 0))] := hl
  refine lv_aload_n hx hb dX0_takeComing_0 rfl (lv_at hl 1 rfl) ?_
  refine ag_CS_X0_45_scn X w.1 dX0_takeComing_1 ?_
  refine lv_iconst (v := (nI 0)) hx hb dX0_takeComing_4 (by decide) ?_
  refine lv_aload_n hx hb dX0_takeComing_5 rfl (lv_at hl 0 rfl) ?_
  refine ag_CS_X0_15_this X w.1 dX0_takeComing_6 ?_
  refine lv_iconst (v := (nI 0)) hx hb dX0_takeComing_9 (by decide) ?_
  refine lv_iconst (v := (nI 5)) hx hb dX0_takeComing_10 (by decide) ?_
  refine gcp_i (rest := []) X hml hl.1 wm_X0_48 ⟨Nat.le_of_ble_eq_true rfl, Nat.le_of_ble_eq_true rfl⟩ w 19 2 rfl rfl (by omega) (by omega) (by decide) (Nat.le_of_ble_eq_true rfl) dX0_takeComing_11 (fun H locs w => ?_)
  obtain ⟨z_11, ez_11⟩ : ∃ q9 : RS, q9 = (sC z 2 (va_cpy (zo.2.1 11) (z.2.1 2) 0 0 5)) := ⟨_, rfl⟩
  have w : cW G A s (w0 G a z_11 ++ w5 G b zo) H locs := by rw [ez_11]; exact w
  exact ce_v (w := (fun q9 : RS => w0 G a q9 ++ w5 G b zo)) (z := z_11) X hr hk w (ez_11) dX0_takeComing_14

section Lm_c0_tellComing
variable {p : Program} {l : Launch} {e : Env} {R : Room} {s : State} {m : MethodId} {args : Array Value} {below : List Frame} {meth : Method} {c : Code} {H : Heap} {locs : List Loc} {cells slots : Nat} {Q : State → Prop}
variable {cc : ByteArray} {pc : Nat} {ls : Array Slot} {rest : List Value} {G : CG} {A : Nat → Prop}
theorem ag_CS_X0_58_scn {a b : Nat → Nat} {zo : RS} {z : RS} (X : cX RX0 G A p c cc s args m) (w : va_P G.1 vwCl (w0 G a z ++ w5 G b zo) H) (hdg : decode cc pc = .ok (.getfield 58, 3)) (kk : W p l e R s m args below meth c H locs cells slots Q (F0 m (pc + 3) ls (.int (zo.1 3) :: rest))) : W p l e R s m args below meth c H locs cells slots Q (F0 m pc ls (.ref (b 0) :: rest)) :=
  va_getN (own := RX0) (ref := RX5) (host := "RunningThree") (D := G.1) (ci := 4) (v := .int (zo.1 3)) (C := RX5) (T := TX5) (N := 13) X.1 X.2.1 X.2.2.1 gX5 X.2.2.2.1 X.2.2.2.2.1.1 w 12 rfl rfl 3 (by decide) (va_Nw.use rfl (X.2.2.2.2.1.2 _ wq_X0_58)) (fun _ h9 => h9) rfl hdg kk
theorem au_CS_this_2 {own : String} {a b : Nat → Nat} {zo : RS} {z : RS} {j : Nat} {v : Int32} (X : cX own G A p c cc s args m) (w : cW G A s (w0 G a z ++ w5 G b zo) H locs) (hj : j < 5) (hdg : decode cc pc = .ok (.iastore, 1)) (kk : ∀ (z1 : RS) (H : Heap) (locs : List Loc), z1 = (sA z 2 j v) → cW G A s (w0 G a z1 ++ w5 G b zo) H locs → W p l e R s m args below meth c H locs cells slots Q (F0 m (pc + 1) ls rest)) : W p l e R s m args below meth c H locs cells slots Q (F0 m pc ls (.int v :: .int (nI j) :: .ref (a 3) :: rest)) := by
  refine va_iast X.1 X.2.1 X.2.2.2.2.1.1 w.1 w.2.1 w.2.2 2 0 rfl rfl (vp_in_nI hj (by decide)) hdg ?_
  rw [nI_clamp (by omega)]
  exact fun H1 locs1 hP hD hS => kk _ H1 locs1 rfl ⟨hP, hD, hS⟩
end Lm_c0_tellComing
theorem ok0_tellComing : cOk RX0 yX0_tellComing cX0_tellComing 5 none 2 := ⟨wc_X0_tellComing, wi_X0_tellComing, ws_X0_tellComing, wn_X0, rfl, by decide, by decide, by decide +kernel⟩
set_option maxHeartbeats 4000000 in
set_option maxRecDepth 100000 in
theorem c0_tellComing (l : Launch) (G : CG) (a b : Nat → Nat) (zo : RS) (z : RS) (ma9 : Nat) (S : Sc) (hz : cSn zo S) (ho : oSc S) (h1 : 1 ≤ S.1 1) (hm : ma9 ≤ 100000) : cMv G l yX0_tellComing cX0_tellComing 5 none 4 90 [.ref (a 0), .ref (b 0), .int (nI ma9)] (fun q9 : RS => w0 G a q9 ++ w5 G b zo) z (fun z9 => (∀ f, 1 ≤ f → f < S.1 1 → z9.2.1 2 f = nI (sp_com S 0 f (sp_run S ma9))) ∧ rFr [] [2] z z9) := by
  refine cMv_in (by decide) rfl (Nat.le_of_ble_eq_true rfl) ?_
  intro p e s m args below meth c A ls X hml hr hk hl w
  have hx := X.1
  have hb := X.2.1
  have hts := X.2.2.1
  have hown := X.2.2.2.1
  have hl : lv_has ls 5 [(0, .ref (a 0)), (1, .ref (b 0)), (2, .int (nI ma9))] := hl
  obtain ⟨o1, o2, o3, o4, o5, o6, oso, oki, osr, opa, ohu, oco⟩ := id ho
  refine lv_aload_n hx hb dX0_tellComing_0 rfl (lv_at hl 1 rfl) ?_
  refine lv_iconst (v := (nI 0)) hx hb dX0_tellComing_1 (by decide) ?_
  refine lv_iload_n hx hb dX0_tellComing_2 rfl (lv_at hl 2 rfl) ?_
  refine gc_p (C := RX5) (ci := 4) (rest := []) X hml hl.1 (c5_cellRunning l G b zo 0 ma9 S hz ho (by omega) (by omega)) ok5_cellRunning wm_X0_54 ⟨Nat.le_of_ble_eq_true rfl, Nat.le_of_ble_eq_true rfl⟩ ⟨Nat.le_refl _, Nat.le_refl _⟩ w.1 [12, 13, 14, 15, 16, 17, 18, 19] rfl rfl rfl rfl (Nat.le_of_ble_eq_true rfl) dX0_tellComing_3 (fun r_3 hr_3 => ?_)
  subst hr_3
  refine tp_i (show nI (sp_cr S 0 ma9) = nI (sp_run S ma9) from rfl) ?_
  have d_3 := sp_run_lt S ho ma9
  refine lv_istore_n (lv' := [(3, .int (nI (sp_run S ma9))), (0, .ref (a 0)), (1, .ref (b 0)), (2, .int (nI ma9))]) hx hb dX0_tellComing_6 rfl hl (by decide) rfl (fun ls hl => ?_)
  refine lv_iconst (v := (nI 1)) hx hb dX0_tellComing_7 (by decide) ?_
  refine lv_istore (lv' := [(4, .int (nI 1)), (3, .int (nI (sp_run S ma9))), (0, .ref (a 0)), (1, .ref (b 0)), (2, .int (nI ma9))]) hx hb dX0_tellComing_8 hl (by decide) rfl (fun ls hl => ?_)
  have lp_10 : ∀ (n_10 : Nat) (i : Nat) (hi : i ≤ S.1 1 - 1) (hm_10 : S.1 1 - i < n_10) (ls : Array Slot) (zz : RS) (H : Heap) (locs : List Loc) (w : cW G A s (w0 G a zz ++ w5 G b zo) H locs) (hq : (∀ f, 1 ≤ f → f < i + 1 → zz.2.1 2 f = nI (sp_com S 0 f (sp_run S ma9))) ∧ rFr [] [2] z zz), lv_has ls 5 [(0, .ref (a 0)), (1, .ref (b 0)), (2, .int (nI ma9)), (3, .int (nI (sp_run S ma9))), (4, .int (nI (i + 1)))] → W p l e (ro_m 4 90) s m args below meth c H locs 0 0 (MQ below (va_Qv (fun z9 => (∀ f, 1 ≤ f → f < S.1 1 → z9.2.1 2 f = nI (sp_com S 0 f (sp_run S ma9))) ∧ rFr [] [2] z z9) (cB G (fun q9 : RS => w0 G a q9 ++ w5 G b zo) A) A) args s 0 0 A) (F0 m 10 ls []) := by
    intro n_10
    induction n_10 with
    | zero => intro i hi hm; exact absurd hm (Nat.not_lt_zero _)
    | succ n_10 ih_10 =>
      intro i hi hm_10 ls zz H locs w hq hl
      refine lv_iload hx hb dX0_tellComing_10 (lv_at hl 4 rfl) ?_
      refine lv_aload_n hx hb dX0_tellComing_12 rfl (lv_at hl 1 rfl) ?_
      refine ag_CS_X0_58_scn X w.1 dX0_tellComing_13 ?_
      refine tp_i (show zo.1 3 = (nI (S.1 1)) from cs_nf hz) ?_
      refine n_icmp_ge (tgt := 39) hx hb dX0_tellComing_16 (by decide) (by omega) (by omega) (fun c_16_1 => ?_) (fun c_16_1 => ?_)
      · skip
        exact ce_v (w := (fun q9 : RS => w0 G a q9 ++ w5 G b zo)) (z := zz) X hr hk w (⟨fun k k1 k2 => hq.1 k k1 (by omega), hq.2⟩) dX0_tellComing_39
      · skip
        refine lv_aload_n hx hb dX0_tellComing_19 rfl (lv_at hl 0 rfl) ?_
        refine ag_CS_X0_15_this X w.1 dX0_tellComing_20 ?_
        refine lv_iload hx hb dX0_tellComing_23 (lv_at hl 4 rfl) ?_
        refine lv_aload_n hx hb dX0_tellComing_25 rfl (lv_at hl 1 rfl) ?_
        refine lv_iload hx hb dX0_tellComing_26 (lv_at hl 4 rfl) ?_
        refine lv_iload_n hx hb dX0_tellComing_28 rfl (lv_at hl 3 rfl) ?_
        refine gc_p (C := RX5) (ci := 4) (rest := [.int (nI (i + 1)), .ref (a 3)]) X hml hl.1 (c5_comesTo l G b zo (i + 1) (sp_run S ma9) S hz ho (by omega) (by omega)) ok5_comesTo wm_X0_62 ⟨Nat.le_of_ble_eq_true rfl, Nat.le_of_ble_eq_true rfl⟩ ⟨Nat.le_refl _, Nat.le_refl _⟩ w.1 [12, 13, 14, 15, 16, 17, 18, 19] rfl rfl rfl rfl (Nat.le_of_ble_eq_true rfl) dX0_tellComing_29 (fun r_29 hr_29 => ?_)
        subst hr_29
        have d_29 := sp_com_le S ho 0 (i + 1) (sp_run S ma9) (by omega)
        refine au_CS_this_2 X w (by omega) dX0_tellComing_32 (fun z_32 H locs ez_32 w => ?_)
        refine lv_iinc (v := (nI (i + 1 + 1))) (lv' := [(4, .int (nI (i + 1 + 1))), (0, .ref (a 0)), (1, .ref (b 0)), (2, .int (nI ma9)), (3, .int (nI (sp_run S ma9)))]) hx hb dX0_tellComing_33 hl (k := 4) rfl (by first | exact nI_1 _ | (rw [show Int32.ofInt 1 = nI 1 from by decide, nI_add])) (by decide) rfl (fun ls hl => ?_)
        refine lv_goto (tgt := 10) hx hb dX0_tellComing_36 (by decide) ?_
        exact ih_10 (i + 1) (by omega) (by omega) ls z_32 _ _ w (by rw [ez_32]; refine ⟨fun k k1 k2 => ?_, rFr_tr hq.2 (rFr_A _ (by decide))⟩; show upd (zz.2.1 2) (i + 1) _ k = _; by_cases ej : k = i + 1; rw [ej, pk_us]; rw [pk_un ej]; exact hq.1 k k1 (by omega)) (lv_sub hl [1, 2, 3, 4, 0] rfl)
  exact lp_10 _ 0 (Nat.zero_le _) (Nat.lt_succ_self _) ls z _ _ w ⟨fun f f1 f2 => by omega, rFr_rf _ _ _⟩ (lv_sub hl [2, 3, 4, 1, 0] rfl)

section Lm_c0_tellAllAtOnce
variable {p : Program} {l : Launch} {e : Env} {R : Room} {s : State} {m : MethodId} {args : Array Value} {below : List Frame} {meth : Method} {c : Code} {H : Heap} {locs : List Loc} {cells slots : Nat} {Q : State → Prop}
variable {cc : ByteArray} {pc : Nat} {ls : Array Slot} {rest : List Value} {G : CG} {A : Nat → Prop}
theorem ag_C_X0_15_this {a : Nat → Nat} {z : RS} (X : cX RX0 G A p c cc s args m) (w : va_P G.1 vwCl (w0 G a z) H) (hdg : decode cc pc = .ok (.getfield 15, 3)) (kk : W p l e R s m args below meth c H locs cells slots Q (F0 m (pc + 3) ls (.ref (a 3) :: rest))) : W p l e R s m args below meth c H locs cells slots Q (F0 m pc ls (.ref (a 0) :: rest)) :=
  va_get (D := G.1) (ci := 0) (v := .ref (a 3)) (C := RX0) (T := TX0) (N := 12) X.1 X.2.1 X.2.2.1 gX0 X.2.2.2.1 X.2.2.2.2.1.1 w 0 rfl rfl 2 (by decide) (X.2.2.1 _ wf_X0_15) (fun _ h9 => h9) rfl hdg kk
theorem au_C_this_2 {own : String} {a : Nat → Nat} {z : RS} {j : Nat} {v : Int32} (X : cX own G A p c cc s args m) (w : cW G A s (w0 G a z) H locs) (hj : j < 5) (hdg : decode cc pc = .ok (.iastore, 1)) (kk : ∀ (z1 : RS) (H : Heap) (locs : List Loc), z1 = (sA z 2 j v) → cW G A s (w0 G a z1) H locs → W p l e R s m args below meth c H locs cells slots Q (F0 m (pc + 1) ls rest)) : W p l e R s m args below meth c H locs cells slots Q (F0 m pc ls (.int v :: .int (nI j) :: .ref (a 3) :: rest)) := by
  refine va_iast X.1 X.2.1 X.2.2.2.2.1.1 w.1 w.2.1 w.2.2 2 0 rfl rfl (vp_in_nI hj (by decide)) hdg ?_
  rw [nI_clamp (by omega)]
  exact fun H1 locs1 hP hD hS => kk _ H1 locs1 rfl ⟨hP, hD, hS⟩
end Lm_c0_tellAllAtOnce
theorem ok0_tellAllAtOnce : cOk RX0 yX0_tellAllAtOnce cX0_tellAllAtOnce 2 none 0 := ⟨wc_X0_tellAllAtOnce, wi_X0_tellAllAtOnce, ws_X0_tellAllAtOnce, wn_X0, rfl, by decide, by decide, by decide +kernel⟩
set_option maxHeartbeats 4000000 in
set_option maxRecDepth 100000 in
theorem c0_tellAllAtOnce (l : Launch) (G : CG) (a : Nat → Nat) (z : RS)   : cMv G l yX0_tellAllAtOnce cX0_tellAllAtOnce 2 none 0 0 [.ref (a 0)] (fun q9 : RS => w0 G a q9) z (fun z9 => (∀ f, 1 ≤ f → f < 5 → z9.2.1 2 f = nI 0) ∧ rFr [] [2] z z9) := by
  refine cMv_in (by decide) rfl (Nat.le_of_ble_eq_true rfl) ?_
  intro p e s m args below meth c A ls X hml hr hk hl w
  have hx := X.1
  have hb := X.2.1
  have hts := X.2.2.1
  have hown := X.2.2.2.1
  have hl : lv_has ls 2 [(0, .ref (a 0))] := hl
  refine lv_iconst (v := (nI 1)) hx hb dX0_tellAllAtOnce_0 (by decide) ?_
  refine lv_istore_n (lv' := [(1, .int (nI 1)), (0, .ref (a 0))]) hx hb dX0_tellAllAtOnce_1 rfl hl (by decide) rfl (fun ls hl => ?_)
  have lp_2 : ∀ (n_2 : Nat) (i : Nat) (hi : i ≤ 4) (hm_2 : 5 - i < n_2) (ls : Array Slot) (zz : RS) (H : Heap) (locs : List Loc) (w : cW G A s (w0 G a zz) H locs) (hq : (∀ f, 1 ≤ f → f < i + 1 → zz.2.1 2 f = nI 0) ∧ rFr [] [2] z zz), lv_has ls 2 [(0, .ref (a 0)), (1, .int (nI (i + 1)))] → W p l e (ro_m 0 0) s m args below meth c H locs 0 0 (MQ below (va_Qv (fun z9 => (∀ f, 1 ≤ f → f < 5 → z9.2.1 2 f = nI 0) ∧ rFr [] [2] z z9) (cB G (fun q9 : RS => w0 G a q9) A) A) args s 0 0 A) (F0 m 2 ls []) := by
    intro n_2
    induction n_2 with
    | zero => intro i hi hm; exact absurd hm (Nat.not_lt_zero _)
    | succ n_2 ih_2 =>
      intro i hi hm_2 ls zz H locs w hq hl
      refine lv_iload_n hx hb dX0_tellAllAtOnce_2 rfl (lv_at hl 1 rfl) ?_
      refine lv_iconst (v := (nI 5)) hx hb dX0_tellAllAtOnce_3 (by decide) ?_
      refine n_icmp_ge (tgt := 20) hx hb dX0_tellAllAtOnce_4 (by decide) (by omega) (by omega) (fun c_4_1 => ?_) (fun c_4_1 => ?_)
      · skip
        exact ce_v (w := (fun q9 : RS => w0 G a q9)) (z := zz) X hr hk w (⟨fun k k1 k2 => hq.1 k k1 (by omega), hq.2⟩) dX0_tellAllAtOnce_20
      · skip
        refine lv_aload_n hx hb dX0_tellAllAtOnce_7 rfl (lv_at hl 0 rfl) ?_
        refine ag_C_X0_15_this X w.1 dX0_tellAllAtOnce_8 ?_
        refine lv_iload_n hx hb dX0_tellAllAtOnce_11 rfl (lv_at hl 1 rfl) ?_
        refine lv_iconst (v := (nI 0)) hx hb dX0_tellAllAtOnce_12 (by decide) ?_
        refine au_C_this_2 X w (by omega) dX0_tellAllAtOnce_13 (fun z_13 H locs ez_13 w => ?_)
        refine lv_iinc (v := (nI (i + 1 + 1))) (lv' := [(1, .int (nI (i + 1 + 1))), (0, .ref (a 0))]) hx hb dX0_tellAllAtOnce_14 hl (k := 1) rfl (by first | exact nI_1 _ | (rw [show Int32.ofInt 1 = nI 1 from by decide, nI_add])) (by decide) rfl (fun ls hl => ?_)
        refine lv_goto (tgt := 2) hx hb dX0_tellAllAtOnce_17 (by decide) ?_
        exact ih_2 (i + 1) (by omega) (by omega) ls z_13 _ _ w (by rw [ez_13]; refine ⟨fun k k1 k2 => ?_, rFr_tr hq.2 (rFr_A _ (by decide))⟩; show upd (zz.2.1 2) (i + 1) _ k = _; by_cases ej : k = i + 1; rw [ej, pk_us]; rw [pk_un ej]; exact hq.1 k k1 (by omega)) (lv_sub hl [1, 0] rfl)
  exact lp_2 _ 0 (Nat.zero_le _) (Nat.lt_succ_self _) ls z _ _ w ⟨fun f f1 f2 => by omega, rFr_rf _ _ _⟩ (lv_sub hl [1, 0] rfl)

section Lm_c0_putInOrder
variable {p : Program} {l : Launch} {e : Env} {R : Room} {s : State} {m : MethodId} {args : Array Value} {below : List Frame} {meth : Method} {c : Code} {H : Heap} {locs : List Loc} {cells slots : Nat} {Q : State → Prop}
variable {cc : ByteArray} {pc : Nat} {ls : Array Slot} {rest : List Value} {G : CG} {A : Nat → Prop}
theorem ap_CS_X0_69_this {a b : Nat → Nat} {zo : RS} {z : RS} {v : Int32} (X : cX RX0 G A p c cc s args m) (w : cW G A s (w0 G a z ++ w5 G b zo) H locs) (hdg : decode cc pc = .ok (.putfield 69, 3)) (kk : ∀ (z1 : RS) (H : Heap) (locs : List Loc), z1 = (sI z 0 v) → cW G A s (w0 G a z1 ++ w5 G b zo) H locs → W p l e R s m args below meth c H locs cells slots Q (F0 m (pc + 3) ls rest)) : W p l e R s m args below meth c H locs cells slots Q (F0 m pc ls (.int v :: .ref (a 0) :: rest)) :=
  va_put (D := G.1) (ci := 0) (v := .int v) (ty := .int) (C := RX0) (T := TX0) (N := 12) X.1 X.2.1 X.2.2.1 gX0 tyX0 tyX0_ok nmX0 X.2.2.2.1 X.2.2.2.2.1.1 w.1 w.2.1 w.2.2 0 rfl rfl 0 (by decide) (X.2.2.1 _ wf_X0_69) (fun _ h9 => h9) rfl (by decide +kernel) rfl rfl (Nat.le_of_ble_eq_true rfl) hdg (fun H1 locs1 hP hD hS => kk _ H1 locs1 rfl ⟨hP, hD, hS⟩)
theorem ag_CS_X0_69_this {a b : Nat → Nat} {zo : RS} {z : RS} (X : cX RX0 G A p c cc s args m) (w : va_P G.1 vwCl (w0 G a z ++ w5 G b zo) H) (hdg : decode cc pc = .ok (.getfield 69, 3)) (kk : W p l e R s m args below meth c H locs cells slots Q (F0 m (pc + 3) ls (.int (z.1 0) :: rest))) : W p l e R s m args below meth c H locs cells slots Q (F0 m pc ls (.ref (a 0) :: rest)) :=
  va_get (D := G.1) (ci := 0) (v := .int (z.1 0)) (C := RX0) (T := TX0) (N := 12) X.1 X.2.1 X.2.2.1 gX0 X.2.2.2.1 X.2.2.2.2.1.1 w 0 rfl rfl 0 (by decide) (X.2.2.1 _ wf_X0_69) (fun _ h9 => h9) rfl hdg kk
theorem ag_CS_X0_11_this {a b : Nat → Nat} {zo : RS} {z : RS} (X : cX RX0 G A p c cc s args m) (w : va_P G.1 vwCl (w0 G a z ++ w5 G b zo) H) (hdg : decode cc pc = .ok (.getfield 11, 3)) (kk : W p l e R s m args below meth c H locs cells slots Q (F0 m (pc + 3) ls (.ref (a 2) :: rest))) : W p l e R s m args below meth c H locs cells slots Q (F0 m pc ls (.ref (a 0) :: rest)) :=
  va_get (D := G.1) (ci := 0) (v := .ref (a 2)) (C := RX0) (T := TX0) (N := 12) X.1 X.2.1 X.2.2.1 gX0 X.2.2.2.1 X.2.2.2.2.1.1 w 0 rfl rfl 1 (by decide) (X.2.2.1 _ wf_X0_11) (fun _ h9 => h9) rfl hdg kk
theorem au_CS_this_1 {own : String} {a b : Nat → Nat} {zo : RS} {z : RS} {j : Nat} {v : Int32} (X : cX own G A p c cc s args m) (w : cW G A s (w0 G a z ++ w5 G b zo) H locs) (hj : j < 4) (hdg : decode cc pc = .ok (.iastore, 1)) (kk : ∀ (z1 : RS) (H : Heap) (locs : List Loc), z1 = (sA z 1 j v) → cW G A s (w0 G a z1 ++ w5 G b zo) H locs → W p l e R s m args below meth c H locs cells slots Q (F0 m (pc + 1) ls rest)) : W p l e R s m args below meth c H locs cells slots Q (F0 m pc ls (.int v :: .int (nI j) :: .ref (a 2) :: rest)) := by
  refine va_iast X.1 X.2.1 X.2.2.2.2.1.1 w.1 w.2.1 w.2.2 1 0 rfl rfl (vp_in_nI hj (by decide)) hdg ?_
  rw [nI_clamp (by omega)]
  exact fun H1 locs1 hP hD hS => kk _ H1 locs1 rfl ⟨hP, hD, hS⟩
theorem an_CS_this_1 {own : String} {a b : Nat → Nat} {zo : RS} {z : RS} {j : Nat} (X : cX own G A p c cc s args m) (w : va_P G.1 vwCl (w0 G a z ++ w5 G b zo) H) (hj : j < 4) (hdg : decode cc pc = .ok (.iaload, 1)) (kk : W p l e R s m args below meth c H locs cells slots Q (F0 m (pc + 1) ls (.int (z.2.1 1 j) :: rest))) : W p l e R s m args below meth c H locs cells slots Q (F0 m pc ls (.int (nI j) :: .ref (a 2) :: rest)) :=
  va_iald X.1 X.2.1 X.2.2.2.2.1.1 w 1 0 rfl rfl (vp_in_nI hj (by decide)) hdg (by rw [nI_clamp (by omega)]; exact kk)
theorem an_CS_this_2 {own : String} {a b : Nat → Nat} {zo : RS} {z : RS} {j : Nat} (X : cX own G A p c cc s args m) (w : va_P G.1 vwCl (w0 G a z ++ w5 G b zo) H) (hj : j < 5) (hdg : decode cc pc = .ok (.iaload, 1)) (kk : W p l e R s m args below meth c H locs cells slots Q (F0 m (pc + 1) ls (.int (z.2.1 2 j) :: rest))) : W p l e R s m args below meth c H locs cells slots Q (F0 m pc ls (.int (nI j) :: .ref (a 3) :: rest)) :=
  va_iald X.1 X.2.1 X.2.2.2.2.1.1 w 2 0 rfl rfl (vp_in_nI hj (by decide)) hdg (by rw [nI_clamp (by omega)]; exact kk)
end Lm_c0_putInOrder
theorem ok0_putInOrder : cOk RX0 yX0_putInOrder cX0_putInOrder 4 none 1 := ⟨wc_X0_putInOrder, wi_X0_putInOrder, ws_X0_putInOrder, wn_X0, rfl, by decide, by decide, by decide +kernel⟩
set_option maxHeartbeats 4000000 in
set_option maxRecDepth 100000 in
theorem c0_putInOrder (l : Launch) (G : CG) (a b : Nat → Nat) (zo : RS) (z : RS)  (S : Sc) (hz : cSn zo S) (ho : oSc S) (h1 : 1 ≤ S.1 1) (cf : Nat → Nat) (hcf : ∀ f, 1 ≤ f → f < S.1 1 → z.2.1 2 f = nI (cf f)) (hcb : ∀ f, cf f ≤ 2000000000) : cMv G l yX0_putInOrder cX0_putInOrder 4 none 1 21 [.ref (a 0), .ref (b 0)] (fun q9 : RS => w0 G a q9 ++ w5 G b zo) z (fun z9 => ∃ na ro, z9.1 0 = nI na ∧ (∀ j, j < na → z9.2.1 1 j = nI (ro j)) ∧ oOrd S cf (S.1 1 - 1) na ro ∧ rFr [0] [1] z z9) := by
  refine cMv_in (by decide) rfl (Nat.le_of_ble_eq_true rfl) ?_
  intro p e s m args below meth c A ls X hml hr hk hl w
  have hx := X.1
  have hb := X.2.1
  have hts := X.2.2.1
  have hown := X.2.2.2.1
  have hl : lv_has ls 4 [(0, .ref (a 0)), (1, .ref (b 0))] := hl
  obtain ⟨o1, o2, o3, o4, o5, o6, oso, oki, osr, opa, ohu, oco⟩ := id ho
  refine lv_aload_n hx hb dX0_putInOrder_0 rfl (lv_at hl 0 rfl) ?_
  refine lv_iconst (v := (nI 0)) hx hb dX0_putInOrder_1 (by decide) ?_
  refine ap_CS_X0_69_this X w dX0_putInOrder_2 (fun z_2 H locs ez_2 w => ?_)
  refine lv_iconst (v := (nI 1)) hx hb dX0_putInOrder_5 (by decide) ?_
  refine lv_istore_n (lv' := [(2, .int (nI 1)), (0, .ref (a 0)), (1, .ref (b 0))]) hx hb dX0_putInOrder_6 rfl hl (by decide) rfl (fun ls hl => ?_)
  have lp_7 : ∀ (n_7 : Nat) (i : Nat) (hi : i ≤ S.1 1 - 1) (na : Nat) (ro : Nat → Nat) (hO : oOrd S cf i na ro) (hm_7 : S.1 1 - i < n_7) (ls : Array Slot) (zz : RS) (H : Heap) (locs : List Loc) (w : cW G A s (w0 G a zz ++ w5 G b zo) H locs) (hq : zz.1 0 = nI na ∧ (∀ j, j < na → zz.2.1 1 j = nI (ro j)) ∧ rFr [0] [1] z zz), lv_has ls 4 [(0, .ref (a 0)), (1, .ref (b 0)), (2, .int (nI (i + 1)))] → W p l e (ro_m 1 21) s m args below meth c H locs 0 0 (MQ below (va_Qv (fun z9 => ∃ na ro, z9.1 0 = nI na ∧ (∀ j, j < na → z9.2.1 1 j = nI (ro j)) ∧ oOrd S cf (S.1 1 - 1) na ro ∧ rFr [0] [1] z z9) (cB G (fun q9 : RS => w0 G a q9 ++ w5 G b zo) A) A) args s 0 0 A) (F0 m 7 ls []) := by
    intro n_7
    induction n_7 with
    | zero => intro i hi na ro hO hm; exact absurd hm (Nat.not_lt_zero _)
    | succ n_7 ih_7 =>
      intro i hi na ro hO hm_7 ls zz H locs w hq hl
      refine lv_iload_n hx hb dX0_putInOrder_7 rfl (lv_at hl 2 rfl) ?_
      refine lv_aload_n hx hb dX0_putInOrder_8 rfl (lv_at hl 1 rfl) ?_
      refine ag_CS_X0_58_scn X w.1 dX0_putInOrder_9 ?_
      refine tp_i (show zo.1 3 = (nI (S.1 1)) from cs_nf hz) ?_
      refine n_icmp_ge (tgt := 97) hx hb dX0_putInOrder_12 (by decide) (by omega) (by omega) (fun c_12_1 => ?_) (fun c_12_1 => ?_)
      · skip
        exact ce_v (w := (fun q9 : RS => w0 G a q9 ++ w5 G b zo)) (z := zz) X hr hk w (⟨na, ro, hq.1, hq.2.1, by rw [show S.1 1 - 1 = i by omega]; exact hO, hq.2.2⟩) dX0_putInOrder_97
      · skip
        refine lv_aload_n hx hb dX0_putInOrder_15 rfl (lv_at hl 1 rfl) ?_
        refine lv_iload_n hx hb dX0_putInOrder_16 rfl (lv_at hl 2 rfl) ?_
        refine gc_p (C := RX5) (ci := 4) (rest := []) X hml hl.1 (c5_isUp l G b zo (i + 1) S hz ho (by omega)) ok5_isUp wm_X0_73 ⟨Nat.le_of_ble_eq_true rfl, Nat.le_of_ble_eq_true rfl⟩ ⟨Nat.le_refl _, Nat.le_refl _⟩ w.1 [12, 13, 14, 15, 16, 17, 18, 19] rfl rfl rfl rfl (Nat.le_of_ble_eq_true rfl) dX0_putInOrder_17 (fun r_17 hr_17 => ?_)
        subst hr_17
        have d_17 := pc_dn01 S (i + 1)
        refine n_if_eq (tgt := 91) hx hb dX0_putInOrder_20 (by decide) (by omega) (fun c_20_2 => ?_) (fun c_20_2 => ?_)
        · skip
          refine lv_iinc (v := (nI (i + 1 + 1))) (lv' := [(2, .int (nI (i + 1 + 1))), (0, .ref (a 0)), (1, .ref (b 0))]) hx hb dX0_putInOrder_91 hl (k := 2) rfl (by first | exact nI_1 _ | (rw [show Int32.ofInt 1 = nI 1 from by decide, nI_add])) (by decide) rfl (fun ls hl => ?_)
          refine lv_goto (tgt := 7) hx hb dX0_putInOrder_94 (by decide) ?_
          exact ih_7 (i + 1) (by omega) na ro (ord_n hO (by omega)) (by omega) ls zz _ _ w hq (lv_sub hl [1, 2, 0] rfl)
        · skip
          have na4 : na ≤ 3 := by have e1 := hO.1; have e2 := ou_le S i; omega
          have ho9 : ∀ j, j < na → 1 ≤ ro j ∧ ro j < S.1 1 := fun j hj => by have e1 := hO.2.1 j hj; omega
          refine lv_aload_n hx hb dX0_putInOrder_23 rfl (lv_at hl 0 rfl) ?_
          refine ag_CS_X0_69_this X w.1 dX0_putInOrder_24 ?_
          refine tp_i (show zz.1 0 = (nI na) from hq.1) ?_
          refine lv_istore_n (lv' := [(3, .int (nI na)), (0, .ref (a 0)), (1, .ref (b 0)), (2, .int (nI (i + 1)))]) hx hb dX0_putInOrder_27 rfl hl (by decide) rfl (fun ls hl => ?_)
          have lp_28 : ∀ (n_28 : Nat) (y : Nat) (hyn : y ≤ na) (hyb : ∀ j, y ≤ j → j < na → cf (i + 1) < cf (ro j)) (hm_28 : y < n_28) (ls : Array Slot) (zy : RS) (H : Heap) (locs : List Loc) (w : cW G A s (w0 G a zy ++ w5 G b zo) H locs) (hy : (∀ j, j < y → zy.2.1 1 j = nI (ro j)) ∧ (∀ j, y < j → j < na + 1 → zy.2.1 1 j = nI (ro (j - 1))) ∧ zy.1 0 = nI na ∧ rFr [0] [1] z zy), lv_has ls 4 [(0, .ref (a 0)), (1, .ref (b 0)), (2, .int (nI (i + 1))), (3, .int (nI y))] → W p l e (ro_m 1 21) s m args below meth c H locs 0 0 (MQ below (va_Qv (fun z9 => ∃ na ro, z9.1 0 = nI na ∧ (∀ j, j < na → z9.2.1 1 j = nI (ro j)) ∧ oOrd S cf (S.1 1 - 1) na ro ∧ rFr [0] [1] z z9) (cB G (fun q9 : RS => w0 G a q9 ++ w5 G b zo) A) A) args s 0 0 A) (F0 m 28 ls []) := by
            intro n_28
            induction n_28 with
            | zero => intro y hyn hyb hm; exact absurd hm (Nat.not_lt_zero _)
            | succ n_28 ih_28 =>
              intro y hyn hyb hm_28 ls zy H locs w hy hl
              refine lv_iload_n hx hb dX0_putInOrder_28 rfl (lv_at hl 3 rfl) ?_
              refine n_if_le (tgt := 74) hx hb dX0_putInOrder_29 (by decide) (by omega) (fun c_29_3 => ?_) (fun c_29_3 => ?_)
              · skip
                have hya : y = 0 ∨ cf (ro (y - 1)) ≤ cf (i + 1) := Or.inl (by omega)
                refine lv_aload_n hx hb dX0_putInOrder_74 rfl (lv_at hl 0 rfl) ?_
                refine ag_CS_X0_11_this X w.1 dX0_putInOrder_75 ?_
                refine lv_iload_n hx hb dX0_putInOrder_78 rfl (lv_at hl 3 rfl) ?_
                refine lv_iload_n hx hb dX0_putInOrder_79 rfl (lv_at hl 2 rfl) ?_
                refine au_CS_this_1 X w (by omega) dX0_putInOrder_80 (fun z_80 H locs ez_80 w => ?_)
                refine lv_aload_n hx hb dX0_putInOrder_81 rfl (lv_at hl 0 rfl) ?_
                refine lv_dup hx hb dX0_putInOrder_82 rfl ?_
                refine ag_CS_X0_69_this X w.1 dX0_putInOrder_83 ?_
                refine tp_i (show z_80.1 0 = (nI na) from (by rw [ez_80]; exact hy.2.2.1)) ?_
                refine lv_iconst (v := (nI 1)) hx hb dX0_putInOrder_86 (by decide) ?_
                refine n_iadd hx hb dX0_putInOrder_87 ?_
                refine ap_CS_X0_69_this X w dX0_putInOrder_88 (fun z_88 H locs ez_88 w => ?_)
                refine lv_iinc (v := (nI (i + 1 + 1))) (lv' := [(2, .int (nI (i + 1 + 1))), (0, .ref (a 0)), (1, .ref (b 0)), (3, .int (nI y))]) hx hb dX0_putInOrder_91 hl (k := 2) rfl (by first | exact nI_1 _ | (rw [show Int32.ofInt 1 = nI 1 from by decide, nI_add])) (by decide) rfl (fun ls hl => ?_)
                refine lv_goto (tgt := 7) hx hb dX0_putInOrder_94 (by decide) ?_
                exact ih_7 (i + 1) (by omega) (na + 1) (insO ro y (i + 1)) (ord_y hO (by omega) hyn hyb hya) (by omega) ls z_88 _ _ w (by rw [ez_88, ez_80]; exact po_e hyn hy) (lv_sub hl [1, 2, 0] rfl)
              · skip
                have r1 := ho9 (y - 1) (by omega)
                have b1 := hcb (ro (y - 1))
                have b2 := hcb (i + 1)
                refine lv_aload_n hx hb dX0_putInOrder_32 rfl (lv_at hl 0 rfl) ?_
                refine ag_CS_X0_15_this X w.1 dX0_putInOrder_33 ?_
                refine lv_aload_n hx hb dX0_putInOrder_36 rfl (lv_at hl 0 rfl) ?_
                refine ag_CS_X0_11_this X w.1 dX0_putInOrder_37 ?_
                refine lv_iload_n hx hb dX0_putInOrder_40 rfl (lv_at hl 3 rfl) ?_
                refine lv_iconst (v := (nI 1)) hx hb dX0_putInOrder_41 (by decide) ?_
                refine n_isub hx hb dX0_putInOrder_42 (by omega) ?_
                refine an_CS_this_1 X w.1 (by omega) dX0_putInOrder_43 ?_
                refine tp_i (show zy.2.1 1 (y - 1) = (nI (ro (y - 1))) from (hy.1 (y - 1) (by omega))) ?_
                refine an_CS_this_2 X w.1 (by omega) dX0_putInOrder_44 ?_
                refine tp_i (show zy.2.1 2 (ro (y - 1)) = (nI (cf (ro (y - 1)))) from (po_c hcf hy.2.2.2 (ro (y - 1)) (by first | omega | exact (ho9 _ (by omega)).1) (by first | omega | exact (ho9 _ (by omega)).2))) ?_
                refine lv_aload_n hx hb dX0_putInOrder_45 rfl (lv_at hl 0 rfl) ?_
                refine ag_CS_X0_15_this X w.1 dX0_putInOrder_46 ?_
                refine lv_iload_n hx hb dX0_putInOrder_49 rfl (lv_at hl 2 rfl) ?_
                refine an_CS_this_2 X w.1 (by omega) dX0_putInOrder_50 ?_
                refine tp_i (show zy.2.1 2 (i + 1) = (nI (cf (i + 1))) from (po_c hcf hy.2.2.2 (i + 1) (by first | omega | exact (ho9 _ (by omega)).1) (by first | omega | exact (ho9 _ (by omega)).2))) ?_
                refine n_icmp_le (tgt := 74) hx hb dX0_putInOrder_51 (by decide) (by omega) (by omega) (fun c_51_4 => ?_) (fun c_51_4 => ?_)
                · skip
                  have hya : y = 0 ∨ cf (ro (y - 1)) ≤ cf (i + 1) := Or.inr (by omega)
                  refine lv_aload_n hx hb dX0_putInOrder_74 rfl (lv_at hl 0 rfl) ?_
                  refine ag_CS_X0_11_this X w.1 dX0_putInOrder_75 ?_
                  refine lv_iload_n hx hb dX0_putInOrder_78 rfl (lv_at hl 3 rfl) ?_
                  refine lv_iload_n hx hb dX0_putInOrder_79 rfl (lv_at hl 2 rfl) ?_
                  refine au_CS_this_1 X w (by omega) dX0_putInOrder_80 (fun z_80 H locs ez_80 w => ?_)
                  refine lv_aload_n hx hb dX0_putInOrder_81 rfl (lv_at hl 0 rfl) ?_
                  refine lv_dup hx hb dX0_putInOrder_82 rfl ?_
                  refine ag_CS_X0_69_this X w.1 dX0_putInOrder_83 ?_
                  refine tp_i (show z_80.1 0 = (nI na) from (by rw [ez_80]; exact hy.2.2.1)) ?_
                  refine lv_iconst (v := (nI 1)) hx hb dX0_putInOrder_86 (by decide) ?_
                  refine n_iadd hx hb dX0_putInOrder_87 ?_
                  refine ap_CS_X0_69_this X w dX0_putInOrder_88 (fun z_88 H locs ez_88 w => ?_)
                  refine lv_iinc (v := (nI (i + 1 + 1))) (lv' := [(2, .int (nI (i + 1 + 1))), (0, .ref (a 0)), (1, .ref (b 0)), (3, .int (nI y))]) hx hb dX0_putInOrder_91 hl (k := 2) rfl (by first | exact nI_1 _ | (rw [show Int32.ofInt 1 = nI 1 from by decide, nI_add])) (by decide) rfl (fun ls hl => ?_)
                  refine lv_goto (tgt := 7) hx hb dX0_putInOrder_94 (by decide) ?_
                  exact ih_7 (i + 1) (by omega) (na + 1) (insO ro y (i + 1)) (ord_y hO (by omega) hyn hyb hya) (by omega) ls z_88 _ _ w (by rw [ez_88, ez_80]; exact po_e hyn hy) (lv_sub hl [1, 2, 0] rfl)
                · skip
                  refine lv_aload_n hx hb dX0_putInOrder_54 rfl (lv_at hl 0 rfl) ?_
                  refine ag_CS_X0_11_this X w.1 dX0_putInOrder_55 ?_
                  refine lv_iload_n hx hb dX0_putInOrder_58 rfl (lv_at hl 3 rfl) ?_
                  refine lv_aload_n hx hb dX0_putInOrder_59 rfl (lv_at hl 0 rfl) ?_
                  refine ag_CS_X0_11_this X w.1 dX0_putInOrder_60 ?_
                  refine lv_iload_n hx hb dX0_putInOrder_63 rfl (lv_at hl 3 rfl) ?_
                  refine lv_iconst (v := (nI 1)) hx hb dX0_putInOrder_64 (by decide) ?_
                  refine n_isub hx hb dX0_putInOrder_65 (by omega) ?_
                  refine an_CS_this_1 X w.1 (by omega) dX0_putInOrder_66 ?_
                  refine tp_i (show zy.2.1 1 (y - 1) = (nI (ro (y - 1))) from (hy.1 (y - 1) (by omega))) ?_
                  refine au_CS_this_1 X w (by omega) dX0_putInOrder_67 (fun z_67 H locs ez_67 w => ?_)
                  refine lv_iinc (v := (nI (y - 1))) (lv' := [(3, .int (nI (y - 1))), (0, .ref (a 0)), (1, .ref (b 0)), (2, .int (nI (i + 1)))]) hx hb dX0_putInOrder_68 hl (k := 3) rfl (by rw [show Int32.ofInt (-1) = -1 from by decide]; exact dec_n (by omega)) (by decide) rfl (fun ls hl => ?_)
                  refine lv_goto (tgt := 28) hx hb dX0_putInOrder_71 (by decide) ?_
                  exact ih_28 (y - 1) (by omega) (fun j k1 k2 => by by_cases ej : j = y - 1; rw [ej]; omega; exact hyb j (by omega) k2) (by omega) ls z_67 _ _ w (by rw [ez_67]; exact po_s (by omega) hyn hy) (lv_sub hl [1, 2, 3, 0] rfl)
          exact lp_28 _ na (Nat.le_refl _) (fun j k1 k2 => by omega) (Nat.lt_succ_self _) ls zz _ _ w ⟨hq.2.1, fun j k1 k2 => by omega, hq.1, hq.2.2⟩ (lv_sub hl [1, 2, 3, 0] rfl)
  exact lp_7 _ 0 (Nat.zero_le _) 0 (fun _ => 0) (ord_0 S cf _) (Nat.lt_succ_self _) ls z_2 _ _ w (by rw [ez_2]; exact ⟨rfl, fun j hj => absurd hj (Nat.not_lt_zero _), rFr_I _ (by decide)⟩) (lv_sub hl [1, 2, 0] rfl)
