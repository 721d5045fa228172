theorem ok_notesRow2 : rOk yX8_notesRow cX8_notesRow 4 (some .int) 2 := ⟨wc_X8_notesRow, wi_X8_notesRow, ws_X8_notesRow, rfl, by decide, by decide, by decide +kernel⟩
set_option maxHeartbeats 4000000 in
set_option maxRecDepth 100000 in
theorem k_notesRow2 (l : Launch) (g : RG) (z : RS) (ka9 : Nat) (hka : ka9 + 40 ≤ 177) : rMi g l yX8_notesRow cX8_notesRow 4 (some .int) 0 0 [.ref (g.2.2.2.2 2), .int (nI ka9)] z (fun r z' => r = nI (ka9 + 40) ∧ fl (z'.2.1 24) (z.2.1 2) (z.2.1 24) ka9 40 ∧ rFr [] [24] z z') := by
  refine rMi_in (by decide) rfl (Nat.le_of_ble_eq_true rfl) ?_
  intro p e s m args below meth c A ls X hml hr hk hl w
  have hx := X.1
  have hb := X.2.1
  have hts := X.2.2.1
  have hown := X.2.2.2.1
  have hl : lv_has ls 4 [(0, .ref g.2.2.2.1), (1, .ref (g.2.2.2.2 2)), (2, .int (nI ka9))] := hl
  refine lv_iconst (v := (nI 0)) hx hb dX8_notesRow_0 (by decide) ?_
  refine lv_istore_n (lv' := [(3, .int (nI 0)), (0, .ref g.2.2.2.1), (1, .ref (g.2.2.2.2 2)), (2, .int (nI ka9))]) hx hb dX8_notesRow_1 rfl hl (by decide) rfl (fun ls hl => ?_)
  have lp_2 : ∀ (n_2 : Nat) (i9a : Nat) (hi9a : i9a ≤ 40) (hm_2 : 40 - i9a < n_2) (ls : Array Slot) (zz : RS) (H : Heap) (locs : List Loc) (w : rW g A s zz H locs) (hfl : fl (zz.2.1 24) (z.2.1 2) (z.2.1 24) ka9 i9a) (hfz : rFr [] [24] z zz), lv_has ls 4 [(0, .ref g.2.2.2.1), (1, .ref (g.2.2.2.2 2)), (2, .int (nI ka9)), (3, .int (nI i9a))] → W p l e (ro_m 0 0) s m args below meth c H locs 0 0 (MQ below (va_Qi (fun r z' => r = nI (ka9 + 40) ∧ fl (z'.2.1 24) (z.2.1 2) (z.2.1 24) ka9 40 ∧ rFr [] [24] z z') (rB g A) A) args s 0 0 A) (F0 m 2 ls []) := by
    intro n_2
    induction n_2 with
    | zero => intro i9a hi9a hm; exact absurd hm (Nat.not_lt_zero _)
    | succ n_2 ih_2 =>
      intro i9a hi9a hm_2 ls zz H locs w hfl hfz hl
      refine lv_iload_n hx hb dX8_notesRow_2 rfl (lv_at hl 3 rfl) ?_
      refine lv_aload_n hx hb dX8_notesRow_3 rfl (lv_at hl 1 rfl) ?_
      refine rl_2 X w.1 dX8_notesRow_4 ?_
      refine n_icmp_ge (tgt := 25) hx hb dX8_notesRow_5 (by decide) (by omega) (by omega) (fun c_5_1 => ?_) (fun c_5_1 => ?_)
      · skip
        refine lv_iload_n hx hb dX8_notesRow_25 rfl (lv_at hl 2 rfl) ?_
        refine lv_aload_n hx hb dX8_notesRow_26 rfl (lv_at hl 1 rfl) ?_
        refine rl_2 X w.1 dX8_notesRow_27 ?_
        refine n_iadd hx hb dX8_notesRow_28 ?_
        exact re_i X hr hk w (by have e8 : i9a = 40 := (by omega); subst e8; exact ⟨rfl, hfl, hfz⟩) dX8_notesRow_29
      · skip
        refine lv_aload_n hx hb dX8_notesRow_8 rfl (lv_at hl 0 rfl) ?_
        refine rg_24 X w.1 dX8_notesRow_9 ?_
        refine lv_iload_n hx hb dX8_notesRow_12 rfl (lv_at hl 2 rfl) ?_
        refine lv_iload_n hx hb dX8_notesRow_13 rfl (lv_at hl 3 rfl) ?_
        refine n_iadd hx hb dX8_notesRow_14 ?_
        refine lv_aload_n hx hb dX8_notesRow_15 rfl (lv_at hl 1 rfl) ?_
        refine lv_iload_n hx hb dX8_notesRow_16 rfl (lv_at hl 3 rfl) ?_
        refine rn_2 X w.1 (by omega) dX8_notesRow_17 ?_
        refine ru_24 X w (by omega) dX8_notesRow_18 (fun z_18 H locs ez_18 w => ?_)
        refine lv_iinc (v := (nI (i9a + 1))) (lv' := [(3, .int (nI (i9a + 1))), (0, .ref g.2.2.2.1), (1, .ref (g.2.2.2.2 2)), (2, .int (nI ka9))]) hx hb dX8_notesRow_19 hl (k := 3) rfl (by first | exact nI_1 _ | (rw [show Int32.ofInt 1 = nI 1 from by decide, nI_add])) (by decide) rfl (fun ls hl => ?_)
        refine lv_goto (tgt := 2) hx hb dX8_notesRow_22 (by decide) ?_
        exact ih_2 (i9a + 1) (by omega) (by omega) ls z_18 _ _ w (by rw [ez_18]; exact fl_s hfl (congrFun (hfz.2.1 2 (by decide)) i9a)) (by rw [ez_18]; exact rFr_tr hfz (rFr_A _ (by decide))) (lv_sub hl [1, 2, 3, 0] rfl)
  exact lp_2 _ 0 (Nat.zero_le _) (Nat.lt_succ_self _) ls z _ _ w (fl_0 _ _ _) (rFr_rf _ _ _) (lv_sub hl [1, 2, 3, 0] rfl)

theorem ok_gives2 : rOk yX8_gives cX8_gives 4 (some .int) 2 := ⟨wc_X8_gives, wi_X8_gives, ws_X8_gives, rfl, by decide, by decide, by decide +kernel⟩
set_option maxHeartbeats 4000000 in
set_option maxRecDepth 100000 in
theorem k_gives2 (l : Launch) (g : RG) (z : RS) (ka9 : Nat) (hka : ka9 + 40 ≤ 177) : rMi g l yX8_gives cX8_gives 4 (some .int) 0 0 [.int (nI ka9), .ref (g.2.2.2.2 2)] z (fun r z' => r = nI (ka9 + 40) ∧ fl (z'.2.1 2) (fun q => z.2.1 24 (ka9 + q)) (z.2.1 2) 0 40 ∧ rFr [] [2] z z') := by
  refine rMi_in (by decide) rfl (Nat.le_of_ble_eq_true rfl) ?_
  intro p e s m args below meth c A ls X hml hr hk hl w
  have hx := X.1
  have hb := X.2.1
  have hts := X.2.2.1
  have hown := X.2.2.2.1
  have hl : lv_has ls 4 [(0, .ref g.2.2.2.1), (1, .int (nI ka9)), (2, .ref (g.2.2.2.2 2))] := hl
  refine lv_iconst (v := (nI 0)) hx hb dX8_gives_0 (by decide) ?_
  refine lv_istore_n (lv' := [(3, .int (nI 0)), (0, .ref g.2.2.2.1), (1, .int (nI ka9)), (2, .ref (g.2.2.2.2 2))]) hx hb dX8_gives_1 rfl hl (by decide) rfl (fun ls hl => ?_)
  have lp_2 : ∀ (n_2 : Nat) (i9a : Nat) (hi9a : i9a ≤ 40) (hm_2 : 40 - i9a < n_2) (ls : Array Slot) (zz : RS) (H : Heap) (locs : List Loc) (w : rW g A s zz H locs) (hfl : fl (zz.2.1 2) (fun q => z.2.1 24 (ka9 + q)) (z.2.1 2) 0 i9a) (hfz : rFr [] [2] z zz), lv_has ls 4 [(0, .ref g.2.2.2.1), (1, .int (nI ka9)), (2, .ref (g.2.2.2.2 2)), (3, .int (nI i9a))] → W p l e (ro_m 0 0) s m args below meth c H locs 0 0 (MQ below (va_Qi (fun r z' => r = nI (ka9 + 40) ∧ fl (z'.2.1 2) (fun q => z.2.1 24 (ka9 + q)) (z.2.1 2) 0 40 ∧ rFr [] [2] z z') (rB g A) A) args s 0 0 A) (F0 m 2 ls []) := by
    intro n_2
    induction n_2 with
    | zero => intro i9a hi9a hm; exact absurd hm (Nat.not_lt_zero _)
    | succ n_2 ih_2 =>
      intro i9a hi9a hm_2 ls zz H locs w hfl hfz hl
      refine lv_iload_n hx hb dX8_gives_2 rfl (lv_at hl 3 rfl) ?_
      refine lv_aload_n hx hb dX8_gives_3 rfl (lv_at hl 2 rfl) ?_
      refine rl_2 X w.1 dX8_gives_4 ?_
      refine n_icmp_ge (tgt := 25) hx hb dX8_gives_5 (by decide) (by omega) (by omega) (fun c_5_1 => ?_) (fun c_5_1 => ?_)
      · skip
        refine lv_iload_n hx hb dX8_gives_25 rfl (lv_at hl 1 rfl) ?_
        refine lv_aload_n hx hb dX8_gives_26 rfl (lv_at hl 2 rfl) ?_
        refine rl_2 X w.1 dX8_gives_27 ?_
        refine n_iadd hx hb dX8_gives_28 ?_
        exact re_i X hr hk w (by have e8 : i9a = 40 := (by omega); subst e8; exact ⟨rfl, hfl, hfz⟩) dX8_gives_29
      · skip
        refine lv_aload_n hx hb dX8_gives_8 rfl (lv_at hl 2 rfl) ?_
        refine lv_iload_n hx hb dX8_gives_9 rfl (lv_at hl 3 rfl) ?_
        refine lv_aload_n hx hb dX8_gives_10 rfl (lv_at hl 0 rfl) ?_
        refine rg_24 X w.1 dX8_gives_11 ?_
        refine lv_iload_n hx hb dX8_gives_14 rfl (lv_at hl 1 rfl) ?_
        refine lv_iload_n hx hb dX8_gives_15 rfl (lv_at hl 3 rfl) ?_
        refine n_iadd hx hb dX8_gives_16 ?_
        refine rn_24 X w.1 (by omega) dX8_gives_17 ?_
        refine ru_2 X w (by omega) dX8_gives_18 (fun z_18 H locs ez_18 w => ?_)
        refine lv_iinc (v := (nI (i9a + 1))) (lv' := [(3, .int (nI (i9a + 1))), (0, .ref g.2.2.2.1), (1, .int (nI ka9)), (2, .ref (g.2.2.2.2 2))]) hx hb dX8_gives_19 hl (k := 3) rfl (by first | exact nI_1 _ | (rw [show Int32.ofInt 1 = nI 1 from by decide, nI_add])) (by decide) rfl (fun ls hl => ?_)
        refine lv_goto (tgt := 2) hx hb dX8_gives_22 (by decide) ?_
        exact ih_2 (i9a + 1) (by omega) (by omega) ls z_18 _ _ w (by rw [ez_18]; exact fl_s0 hfl (congrFun (hfz.2.1 24 (by decide)) _)) (by rw [ez_18]; exact rFr_tr hfz (rFr_A _ (by decide))) (lv_sub hl [1, 2, 3, 0] rfl)
  exact lp_2 _ 0 (Nat.zero_le _) (Nat.lt_succ_self _) ls z _ _ w (fl_0 _ _ _) (rFr_rf _ _ _) (lv_sub hl [1, 2, 3, 0] rfl)

theorem ok_notesRow3 : rOk yX8_notesRow cX8_notesRow 4 (some .int) 2 := ⟨wc_X8_notesRow, wi_X8_notesRow, ws_X8_notesRow, rfl, by decide, by decide, by decide +kernel⟩
set_option maxHeartbeats 4000000 in
set_option maxRecDepth 100000 in
theorem k_notesRow3 (l : Launch) (g : RG) (z : RS) (ka9 : Nat) (hka : ka9 + 15 ≤ 177) : rMi g l yX8_notesRow cX8_notesRow 4 (some .int) 0 0 [.ref (g.2.2.2.2 3), .int (nI ka9)] z (fun r z' => r = nI (ka9 + 15) ∧ fl (z'.2.1 24) (z.2.1 3) (z.2.1 24) ka9 15 ∧ rFr [] [24] z z') := by
  refine rMi_in (by decide) rfl (Nat.le_of_ble_eq_true rfl) ?_
  intro p e s m args below meth c A ls X hml hr hk hl w
  have hx := X.1
  have hb := X.2.1
  have hts := X.2.2.1
  have hown := X.2.2.2.1
  have hl : lv_has ls 4 [(0, .ref g.2.2.2.1), (1, .ref (g.2.2.2.2 3)), (2, .int (nI ka9))] := hl
  refine lv_iconst (v := (nI 0)) hx hb dX8_notesRow_0 (by decide) ?_
  refine lv_istore_n (lv' := [(3, .int (nI 0)), (0, .ref g.2.2.2.1), (1, .ref (g.2.2.2.2 3)), (2, .int (nI ka9))]) hx hb dX8_notesRow_1 rfl hl (by decide) rfl (fun ls hl => ?_)
  have lp_2 : ∀ (n_2 : Nat) (i9a : Nat) (hi9a : i9a ≤ 15) (hm_2 : 15 - i9a < n_2) (ls : Array Slot) (zz : RS) (H : Heap) (locs : List Loc) (w : rW g A s zz H locs) (hfl : fl (zz.2.1 24) (z.2.1 3) (z.2.1 24) ka9 i9a) (hfz : rFr [] [24] z zz), lv_has ls 4 [(0, .ref g.2.2.2.1), (1, .ref (g.2.2.2.2 3)), (2, .int (nI ka9)), (3, .int (nI i9a))] → W p l e (ro_m 0 0) s m args below meth c H locs 0 0 (MQ below (va_Qi (fun r z' => r = nI (ka9 + 15) ∧ fl (z'.2.1 24) (z.2.1 3) (z.2.1 24) ka9 15 ∧ rFr [] [24] z z') (rB g A) A) args s 0 0 A) (F0 m 2 ls []) := by
    intro n_2
    induction n_2 with
    | zero => intro i9a hi9a hm; exact absurd hm (Nat.not_lt_zero _)
    | succ n_2 ih_2 =>
      intro i9a hi9a hm_2 ls zz H locs w hfl hfz hl
      refine lv_iload_n hx hb dX8_notesRow_2 rfl (lv_at hl 3 rfl) ?_
      refine lv_aload_n hx hb dX8_notesRow_3 rfl (lv_at hl 1 rfl) ?_
      refine rl_3 X w.1 dX8_notesRow_4 ?_
      refine n_icmp_ge (tgt := 25) hx hb dX8_notesRow_5 (by decide) (by omega) (by omega) (fun c_5_1 => ?_) (fun c_5_1 => ?_)
      · skip
        refine lv_iload_n hx hb dX8_notesRow_25 rfl (lv_at hl 2 rfl) ?_
        refine lv_aload_n hx hb dX8_notesRow_26 rfl (lv_at hl 1 rfl) ?_
        refine rl_3 X w.1 dX8_notesRow_27 ?_
        refine n_iadd hx hb dX8_notesRow_28 ?_
        exact re_i X hr hk w (by have e8 : i9a = 15 := (by omega); subst e8; exact ⟨rfl, hfl, hfz⟩) dX8_notesRow_29
      · skip
        refine lv_aload_n hx hb dX8_notesRow_8 rfl (lv_at hl 0 rfl) ?_
        refine rg_24 X w.1 dX8_notesRow_9 ?_
        refine lv_iload_n hx hb dX8_notesRow_12 rfl (lv_at hl 2 rfl) ?_
        refine lv_iload_n hx hb dX8_notesRow_13 rfl (lv_at hl 3 rfl) ?_
        refine n_iadd hx hb dX8_notesRow_14 ?_
        refine lv_aload_n hx hb dX8_notesRow_15 rfl (lv_at hl 1 rfl) ?_
        refine lv_iload_n hx hb dX8_notesRow_16 rfl (lv_at hl 3 rfl) ?_
        refine rn_3 X w.1 (by omega) dX8_notesRow_17 ?_
        refine ru_24 X w (by omega) dX8_notesRow_18 (fun z_18 H locs ez_18 w => ?_)
        refine lv_iinc (v := (nI (i9a + 1))) (lv' := [(3, .int (nI (i9a + 1))), (0, .ref g.2.2.2.1), (1, .ref (g.2.2.2.2 3)), (2, .int (nI ka9))]) hx hb dX8_notesRow_19 hl (k := 3) rfl (by first | exact nI_1 _ | (rw [show Int32.ofInt 1 = nI 1 from by decide, nI_add])) (by decide) rfl (fun ls hl => ?_)
        refine lv_goto (tgt := 2) hx hb dX8_notesRow_22 (by decide) ?_
        exact ih_2 (i9a + 1) (by omega) (by omega) ls z_18 _ _ w (by rw [ez_18]; exact fl_s hfl (congrFun (hfz.2.1 3 (by decide)) i9a)) (by rw [ez_18]; exact rFr_tr hfz (rFr_A _ (by decide))) (lv_sub hl [1, 2, 3, 0] rfl)
  exact lp_2 _ 0 (Nat.zero_le _) (Nat.lt_succ_self _) ls z _ _ w (fl_0 _ _ _) (rFr_rf _ _ _) (lv_sub hl [1, 2, 3, 0] rfl)

theorem ok_gives3 : rOk yX8_gives cX8_gives 4 (some .int) 2 := ⟨wc_X8_gives, wi_X8_gives, ws_X8_gives, rfl, by decide, by decide, by decide +kernel⟩
set_option maxHeartbeats 4000000 in
set_option maxRecDepth 100000 in
theorem k_gives3 (l : Launch) (g : RG) (z : RS) (ka9 : Nat) (hka : ka9 + 15 ≤ 177) : rMi g l yX8_gives cX8_gives 4 (some .int) 0 0 [.int (nI ka9), .ref (g.2.2.2.2 3)] z (fun r z' => r = nI (ka9 + 15) ∧ fl (z'.2.1 3) (fun q => z.2.1 24 (ka9 + q)) (z.2.1 3) 0 15 ∧ rFr [] [3] z z') := by
  refine rMi_in (by decide) rfl (Nat.le_of_ble_eq_true rfl) ?_
  intro p e s m args below meth c A ls X hml hr hk hl w
  have hx := X.1
  have hb := X.2.1
  have hts := X.2.2.1
  have hown := X.2.2.2.1
  have hl : lv_has ls 4 [(0, .ref g.2.2.2.1), (1, .int (nI ka9)), (2, .ref (g.2.2.2.2 3))] := hl
  refine lv_iconst (v := (nI 0)) hx hb dX8_gives_0 (by decide) ?_
  refine lv_istore_n (lv' := [(3, .int (nI 0)), (0, .ref g.2.2.2.1), (1, .int (nI ka9)), (2, .ref (g.2.2.2.2 3))]) hx hb dX8_gives_1 rfl hl (by decide) rfl (fun ls hl => ?_)
  have lp_2 : ∀ (n_2 : Nat) (i9a : Nat) (hi9a : i9a ≤ 15) (hm_2 : 15 - i9a < n_2) (ls : Array Slot) (zz : RS) (H : Heap) (locs : List Loc) (w : rW g A s zz H locs) (hfl : fl (zz.2.1 3) (fun q => z.2.1 24 (ka9 + q)) (z.2.1 3) 0 i9a) (hfz : rFr [] [3] z zz), lv_has ls 4 [(0, .ref g.2.2.2.1), (1, .int (nI ka9)), (2, .ref (g.2.2.2.2 3)), (3, .int (nI i9a))] → W p l e (ro_m 0 0) s m args below meth c H locs 0 0 (MQ below (va_Qi (fun r z' => r = nI (ka9 + 15) ∧ fl (z'.2.1 3) (fun q => z.2.1 24 (ka9 + q)) (z.2.1 3) 0 15 ∧ rFr [] [3] z z') (rB g A) A) args s 0 0 A) (F0 m 2 ls []) := by
    intro n_2
    induction n_2 with
    | zero => intro i9a hi9a hm; exact absurd hm (Nat.not_lt_zero _)
    | succ n_2 ih_2 =>
      intro i9a hi9a hm_2 ls zz H locs w hfl hfz hl
      refine lv_iload_n hx hb dX8_gives_2 rfl (lv_at hl 3 rfl) ?_
      refine lv_aload_n hx hb dX8_gives_3 rfl (lv_at hl 2 rfl) ?_
      refine rl_3 X w.1 dX8_gives_4 ?_
      refine n_icmp_ge (tgt := 25) hx hb dX8_gives_5 (by decide) (by omega) (by omega) (fun c_5_1 => ?_) (fun c_5_1 => ?_)
      · skip
        refine lv_iload_n hx hb dX8_gives_25 rfl (lv_at hl 1 rfl) ?_
        refine lv_aload_n hx hb dX8_gives_26 rfl (lv_at hl 2 rfl) ?_
        refine rl_3 X w.1 dX8_gives_27 ?_
        refine n_iadd hx hb dX8_gives_28 ?_
        exact re_i X hr hk w (by have e8 : i9a = 15 := (by omega); subst e8; exact ⟨rfl, hfl, hfz⟩) dX8_gives_29
      · skip
        refine lv_aload_n hx hb dX8_gives_8 rfl (lv_at hl 2 rfl) ?_
        refine lv_iload_n hx hb dX8_gives_9 rfl (lv_at hl 3 rfl) ?_
        refine lv_aload_n hx hb dX8_gives_10 rfl (lv_at hl 0 rfl) ?_
        refine rg_24 X w.1 dX8_gives_11 ?_
        refine lv_iload_n hx hb dX8_gives_14 rfl (lv_at hl 1 rfl) ?_
        refine lv_iload_n hx hb dX8_gives_15 rfl (lv_at hl 3 rfl) ?_
        refine n_iadd hx hb dX8_gives_16 ?_
        refine rn_24 X w.1 (by omega) dX8_gives_17 ?_
        refine ru_3 X w (by omega) dX8_gives_18 (fun z_18 H locs ez_18 w => ?_)
        refine lv_iinc (v := (nI (i9a + 1))) (lv' := [(3, .int (nI (i9a + 1))), (0, .ref g.2.2.2.1), (1, .int (nI ka9)), (2, .ref (g.2.2.2.2 3))]) hx hb dX8_gives_19 hl (k := 3) rfl (by first | exact nI_1 _ | (rw [show Int32.ofInt 1 = nI 1 from by decide, nI_add])) (by decide) rfl (fun ls hl => ?_)
        refine lv_goto (tgt := 2) hx hb dX8_gives_22 (by decide) ?_
        exact ih_2 (i9a + 1) (by omega) (by omega) ls z_18 _ _ w (by rw [ez_18]; exact fl_s0 hfl (congrFun (hfz.2.1 24 (by decide)) _)) (by rw [ez_18]; exact rFr_tr hfz (rFr_A _ (by decide))) (lv_sub hl [1, 2, 3, 0] rfl)
  exact lp_2 _ 0 (Nat.zero_le _) (Nat.lt_succ_self _) ls z _ _ w (fl_0 _ _ _) (rFr_rf _ _ _) (lv_sub hl [1, 2, 3, 0] rfl)

theorem ok_notesRow5 : rOk yX8_notesRow cX8_notesRow 4 (some .int) 2 := ⟨wc_X8_notesRow, wi_X8_notesRow, ws_X8_notesRow, rfl, by decide, by decide, by decide +kernel⟩
set_option maxHeartbeats 4000000 in
set_option maxRecDepth 100000 in
theorem k_notesRow5 (l : Launch) (g : RG) (z : RS) (ka9 : Nat) (hka : ka9 + 13 ≤ 177) : rMi g l yX8_notesRow cX8_notesRow 4 (some .int) 0 0 [.ref (g.2.2.2.2 5), .int (nI ka9)] z (fun r z' => r = nI (ka9 + 13) ∧ fl (z'.2.1 24) (z.2.1 5) (z.2.1 24) ka9 13 ∧ rFr [] [24] z z') := by
  refine rMi_in (by decide) rfl (Nat.le_of_ble_eq_true rfl) ?_
  intro p e s m args below meth c A ls X hml hr hk hl w
  have hx := X.1
  have hb := X.2.1
  have hts := X.2.2.1
  have hown := X.2.2.2.1
  have hl : lv_has ls 4 [(0, .ref g.2.2.2.1), (1, .ref (g.2.2.2.2 5)), (2, .int (nI ka9))] := hl
  refine lv_iconst (v := (nI 0)) hx hb dX8_notesRow_0 (by decide) ?_
  refine lv_istore_n (lv' := [(3, .int (nI 0)), (0, .ref g.2.2.2.1), (1, .ref (g.2.2.2.2 5)), (2, .int (nI ka9))]) hx hb dX8_notesRow_1 rfl hl (by decide) rfl (fun ls hl => ?_)
  have lp_2 : ∀ (n_2 : Nat) (i9a : Nat) (hi9a : i9a ≤ 13) (hm_2 : 13 - i9a < n_2) (ls : Array Slot) (zz : RS) (H : Heap) (locs : List Loc) (w : rW g A s zz H locs) (hfl : fl (zz.2.1 24) (z.2.1 5) (z.2.1 24) ka9 i9a) (hfz : rFr [] [24] z zz), lv_has ls 4 [(0, .ref g.2.2.2.1), (1, .ref (g.2.2.2.2 5)), (2, .int (nI ka9)), (3, .int (nI i9a))] → W p l e (ro_m 0 0) s m args below meth c H locs 0 0 (MQ below (va_Qi (fun r z' => r = nI (ka9 + 13) ∧ fl (z'.2.1 24) (z.2.1 5) (z.2.1 24) ka9 13 ∧ rFr [] [24] z z') (rB g A) A) args s 0 0 A) (F0 m 2 ls []) := by
    intro n_2
    induction n_2 with
    | zero => intro i9a hi9a hm; exact absurd hm (Nat.not_lt_zero _)
    | succ n_2 ih_2 =>
      intro i9a hi9a hm_2 ls zz H locs w hfl hfz hl
      refine lv_iload_n hx hb dX8_notesRow_2 rfl (lv_at hl 3 rfl) ?_
      refine lv_aload_n hx hb dX8_notesRow_3 rfl (lv_at hl 1 rfl) ?_
      refine rl_5 X w.1 dX8_notesRow_4 ?_
      refine n_icmp_ge (tgt := 25) hx hb dX8_notesRow_5 (by decide) (by omega) (by omega) (fun c_5_1 => ?_) (fun c_5_1 => ?_)
      · skip
        refine lv_iload_n hx hb dX8_notesRow_25 rfl (lv_at hl 2 rfl) ?_
        refine lv_aload_n hx hb dX8_notesRow_26 rfl (lv_at hl 1 rfl) ?_
        refine rl_5 X w.1 dX8_notesRow_27 ?_
        refine n_iadd hx hb dX8_notesRow_28 ?_
        exact re_i X hr hk w (by have e8 : i9a = 13 := (by omega); subst e8; exact ⟨rfl, hfl, hfz⟩) dX8_notesRow_29
      · skip
        refine lv_aload_n hx hb dX8_notesRow_8 rfl (lv_at hl 0 rfl) ?_
        refine rg_24 X w.1 dX8_notesRow_9 ?_
        refine lv_iload_n hx hb dX8_notesRow_12 rfl (lv_at hl 2 rfl) ?_
        refine lv_iload_n hx hb dX8_notesRow_13 rfl (lv_at hl 3 rfl) ?_
        refine n_iadd hx hb dX8_notesRow_14 ?_
        refine lv_aload_n hx hb dX8_notesRow_15 rfl (lv_at hl 1 rfl) ?_
        refine lv_iload_n hx hb dX8_notesRow_16 rfl (lv_at hl 3 rfl) ?_
        refine rn_5 X w.1 (by omega) dX8_notesRow_17 ?_
        refine ru_24 X w (by omega) dX8_notesRow_18 (fun z_18 H locs ez_18 w => ?_)
        refine lv_iinc (v := (nI (i9a + 1))) (lv' := [(3, .int (nI (i9a + 1))), (0, .ref g.2.2.2.1), (1, .ref (g.2.2.2.2 5)), (2, .int (nI ka9))]) hx hb dX8_notesRow_19 hl (k := 3) rfl (by first | exact nI_1 _ | (rw [show Int32.ofInt 1 = nI 1 from by decide, nI_add])) (by decide) rfl (fun ls hl => ?_)
        refine lv_goto (tgt := 2) hx hb dX8_notesRow_22 (by decide) ?_
        exact ih_2 (i9a + 1) (by omega) (by omega) ls z_18 _ _ w (by rw [ez_18]; exact fl_s hfl (congrFun (hfz.2.1 5 (by decide)) i9a)) (by rw [ez_18]; exact rFr_tr hfz (rFr_A _ (by decide))) (lv_sub hl [1, 2, 3, 0] rfl)
  exact lp_2 _ 0 (Nat.zero_le _) (Nat.lt_succ_self _) ls z _ _ w (fl_0 _ _ _) (rFr_rf _ _ _) (lv_sub hl [1, 2, 3, 0] rfl)

theorem ok_gives5 : rOk yX8_gives cX8_gives 4 (some .int) 2 := ⟨wc_X8_gives, wi_X8_gives, ws_X8_gives, rfl, by decide, by decide, by decide +kernel⟩
set_option maxHeartbeats 4000000 in
set_option maxRecDepth 100000 in
theorem k_gives5 (l : Launch) (g : RG) (z : RS) (ka9 : Nat) (hka : ka9 + 13 ≤ 177) : rMi g l yX8_gives cX8_gives 4 (some .int) 0 0 [.int (nI ka9), .ref (g.2.2.2.2 5)] z (fun r z' => r = nI (ka9 + 13) ∧ fl (z'.2.1 5) (fun q => z.2.1 24 (ka9 + q)) (z.2.1 5) 0 13 ∧ rFr [] [5] z z') := by
  refine rMi_in (by decide) rfl (Nat.le_of_ble_eq_true rfl) ?_
  intro p e s m args below meth c A ls X hml hr hk hl w
  have hx := X.1
  have hb := X.2.1
  have hts := X.2.2.1
  have hown := X.2.2.2.1
  have hl : lv_has ls 4 [(0, .ref g.2.2.2.1), (1, .int (nI ka9)), (2, .ref (g.2.2.2.2 5))] := hl
  refine lv_iconst (v := (nI 0)) hx hb dX8_gives_0 (by decide) ?_
  refine lv_istore_n (lv' := [(3, .int (nI 0)), (0, .ref g.2.2.2.1), (1, .int (nI ka9)), (2, .ref (g.2.2.2.2 5))]) hx hb dX8_gives_1 rfl hl (by decide) rfl (fun ls hl => ?_)
  have lp_2 : ∀ (n_2 : Nat) (i9a : Nat) (hi9a : i9a ≤ 13) (hm_2 : 13 - i9a < n_2) (ls : Array Slot) (zz : RS) (H : Heap) (locs : List Loc) (w : rW g A s zz H locs) (hfl : fl (zz.2.1 5) (fun q => z.2.1 24 (ka9 + q)) (z.2.1 5) 0 i9a) (hfz : rFr [] [5] z zz), lv_has ls 4 [(0, .ref g.2.2.2.1), (1, .int (nI ka9)), (2, .ref (g.2.2.2.2 5)), (3, .int (nI i9a))] → W p l e (ro_m 0 0) s m args below meth c H locs 0 0 (MQ below (va_Qi (fun r z' => r = nI (ka9 + 13) ∧ fl (z'.2.1 5) (fun q => z.2.1 24 (ka9 + q)) (z.2.1 5) 0 13 ∧ rFr [] [5] z z') (rB g A) A) args s 0 0 A) (F0 m 2 ls []) := by
    intro n_2
    induction n_2 with
    | zero => intro i9a hi9a hm; exact absurd hm (Nat.not_lt_zero _)
    | succ n_2 ih_2 =>
      intro i9a hi9a hm_2 ls zz H locs w hfl hfz hl
      refine lv_iload_n hx hb dX8_gives_2 rfl (lv_at hl 3 rfl) ?_
      refine lv_aload_n hx hb dX8_gives_3 rfl (lv_at hl 2 rfl) ?_
      refine rl_5 X w.1 dX8_gives_4 ?_
      refine n_icmp_ge (tgt := 25) hx hb dX8_gives_5 (by decide) (by omega) (by omega) (fun c_5_1 => ?_) (fun c_5_1 => ?_)
      · skip
        refine lv_iload_n hx hb dX8_gives_25 rfl (lv_at hl 1 rfl) ?_
        refine lv_aload_n hx hb dX8_gives_26 rfl (lv_at hl 2 rfl) ?_
        refine rl_5 X w.1 dX8_gives_27 ?_
        refine n_iadd hx hb dX8_gives_28 ?_
        exact re_i X hr hk w (by have e8 : i9a = 13 := (by omega); subst e8; exact ⟨rfl, hfl, hfz⟩) dX8_gives_29
      · skip
        refine lv_aload_n hx hb dX8_gives_8 rfl (lv_at hl 2 rfl) ?_
        refine lv_iload_n hx hb dX8_gives_9 rfl (lv_at hl 3 rfl) ?_
        refine lv_aload_n hx hb dX8_gives_10 rfl (lv_at hl 0 rfl) ?_
        refine rg_24 X w.1 dX8_gives_11 ?_
        refine lv_iload_n hx hb dX8_gives_14 rfl (lv_at hl 1 rfl) ?_
        refine lv_iload_n hx hb dX8_gives_15 rfl (lv_at hl 3 rfl) ?_
        refine n_iadd hx hb dX8_gives_16 ?_
        refine rn_24 X w.1 (by omega) dX8_gives_17 ?_
        refine ru_5 X w (by omega) dX8_gives_18 (fun z_18 H locs ez_18 w => ?_)
        refine lv_iinc (v := (nI (i9a + 1))) (lv' := [(3, .int (nI (i9a + 1))), (0, .ref g.2.2.2.1), (1, .int (nI ka9)), (2, .ref (g.2.2.2.2 5))]) hx hb dX8_gives_19 hl (k := 3) rfl (by first | exact nI_1 _ | (rw [show Int32.ofInt 1 = nI 1 from by decide, nI_add])) (by decide) rfl (fun ls hl => ?_)
        refine lv_goto (tgt := 2) hx hb dX8_gives_22 (by decide) ?_
        exact ih_2 (i9a + 1) (by omega) (by omega) ls z_18 _ _ w (by rw [ez_18]; exact fl_s0 hfl (congrFun (hfz.2.1 24 (by decide)) _)) (by rw [ez_18]; exact rFr_tr hfz (rFr_A _ (by decide))) (lv_sub hl [1, 2, 3, 0] rfl)
  exact lp_2 _ 0 (Nat.zero_le _) (Nat.lt_succ_self _) ls z _ _ w (fl_0 _ _ _) (rFr_rf _ _ _) (lv_sub hl [1, 2, 3, 0] rfl)

theorem ok_notesRow15 : rOk yX8_notesRow cX8_notesRow 4 (some .int) 2 := ⟨wc_X8_notesRow, wi_X8_notesRow, ws_X8_notesRow, rfl, by decide, by decide, by decide +kernel⟩
set_option maxHeartbeats 4000000 in
set_option maxRecDepth 100000 in
theorem k_notesRow15 (l : Launch) (g : RG) (z : RS) (ka9 : Nat) (hka : ka9 + 104 ≤ 177) : rMi g l yX8_notesRow cX8_notesRow 4 (some .int) 0 0 [.ref (g.2.2.2.2 15), .int (nI ka9)] z (fun r z' => r = nI (ka9 + 104) ∧ fl (z'.2.1 24) (z.2.1 15) (z.2.1 24) ka9 104 ∧ rFr [] [24] z z') := by
  refine rMi_in (by decide) rfl (Nat.le_of_ble_eq_true rfl) ?_
  intro p e s m args below meth c A ls X hml hr hk hl w
  have hx := X.1
  have hb := X.2.1
  have hts := X.2.2.1
  have hown := X.2.2.2.1
  have hl : lv_has ls 4 [(0, .ref g.2.2.2.1), (1, .ref (g.2.2.2.2 15)), (2, .int (nI ka9))] := hl
  refine lv_iconst (v := (nI 0)) hx hb dX8_notesRow_0 (by decide) ?_
  refine lv_istore_n (lv' := [(3, .int (nI 0)), (0, .ref g.2.2.2.1), (1, .ref (g.2.2.2.2 15)), (2, .int (nI ka9))]) hx hb dX8_notesRow_1 rfl hl (by decide) rfl (fun ls hl => ?_)
  have lp_2 : ∀ (n_2 : Nat) (i9a : Nat) (hi9a : i9a ≤ 104) (hm_2 : 104 - i9a < n_2) (ls : Array Slot) (zz : RS) (H : Heap) (locs : List Loc) (w : rW g A s zz H locs) (hfl : fl (zz.2.1 24) (z.2.1 15) (z.2.1 24) ka9 i9a) (hfz : rFr [] [24] z zz), lv_has ls 4 [(0, .ref g.2.2.2.1), (1, .ref (g.2.2.2.2 15)), (2, .int (nI ka9)), (3, .int (nI i9a))] → W p l e (ro_m 0 0) s m args below meth c H locs 0 0 (MQ below (va_Qi (fun r z' => r = nI (ka9 + 104) ∧ fl (z'.2.1 24) (z.2.1 15) (z.2.1 24) ka9 104 ∧ rFr [] [24] z z') (rB g A) A) args s 0 0 A) (F0 m 2 ls []) := by
    intro n_2
    induction n_2 with
    | zero => intro i9a hi9a hm; exact absurd hm (Nat.not_lt_zero _)
    | succ n_2 ih_2 =>
      intro i9a hi9a hm_2 ls zz H locs w hfl hfz hl
      refine lv_iload_n hx hb dX8_notesRow_2 rfl (lv_at hl 3 rfl) ?_
      refine lv_aload_n hx hb dX8_notesRow_3 rfl (lv_at hl 1 rfl) ?_
      refine rl_15 X w.1 dX8_notesRow_4 ?_
      refine n_icmp_ge (tgt := 25) hx hb dX8_notesRow_5 (by decide) (by omega) (by omega) (fun c_5_1 => ?_) (fun c_5_1 => ?_)
      · skip
        refine lv_iload_n hx hb dX8_notesRow_25 rfl (lv_at hl 2 rfl) ?_
        refine lv_aload_n hx hb dX8_notesRow_26 rfl (lv_at hl 1 rfl) ?_
        refine rl_15 X w.1 dX8_notesRow_27 ?_
        refine n_iadd hx hb dX8_notesRow_28 ?_
        exact re_i X hr hk w (by have e8 : i9a = 104 := (by omega); subst e8; exact ⟨rfl, hfl, hfz⟩) dX8_notesRow_29
      · skip
        refine lv_aload_n hx hb dX8_notesRow_8 rfl (lv_at hl 0 rfl) ?_
        refine rg_24 X w.1 dX8_notesRow_9 ?_
        refine lv_iload_n hx hb dX8_notesRow_12 rfl (lv_at hl 2 rfl) ?_
        refine lv_iload_n hx hb dX8_notesRow_13 rfl (lv_at hl 3 rfl) ?_
        refine n_iadd hx hb dX8_notesRow_14 ?_
        refine lv_aload_n hx hb dX8_notesRow_15 rfl (lv_at hl 1 rfl) ?_
        refine lv_iload_n hx hb dX8_notesRow_16 rfl (lv_at hl 3 rfl) ?_
        refine rn_15 X w.1 (by omega) dX8_notesRow_17 ?_
        refine ru_24 X w (by omega) dX8_notesRow_18 (fun z_18 H locs ez_18 w => ?_)
        refine lv_iinc (v := (nI (i9a + 1))) (lv' := [(3, .int (nI (i9a + 1))), (0, .ref g.2.2.2.1), (1, .ref (g.2.2.2.2 15)), (2, .int (nI ka9))]) hx hb dX8_notesRow_19 hl (k := 3) rfl (by first | exact nI_1 _ | (rw [show Int32.ofInt 1 = nI 1 from by decide, nI_add])) (by decide) rfl (fun ls hl => ?_)
        refine lv_goto (tgt := 2) hx hb dX8_notesRow_22 (by decide) ?_
        exact ih_2 (i9a + 1) (by omega) (by omega) ls z_18 _ _ w (by rw [ez_18]; exact fl_s hfl (congrFun (hfz.2.1 15 (by decide)) i9a)) (by rw [ez_18]; exact rFr_tr hfz (rFr_A _ (by decide))) (lv_sub hl [1, 2, 3, 0] rfl)
  exact lp_2 _ 0 (Nat.zero_le _) (Nat.lt_succ_self _) ls z _ _ w (fl_0 _ _ _) (rFr_rf _ _ _) (lv_sub hl [1, 2, 3, 0] rfl)

theorem ok_gives15 : rOk yX8_gives cX8_gives 4 (some .int) 2 := ⟨wc_X8_gives, wi_X8_gives, ws_X8_gives, rfl, by decide, by decide, by decide +kernel⟩
set_option maxHeartbeats 4000000 in
set_option maxRecDepth 100000 in
theorem k_gives15 (l : Launch) (g : RG) (z : RS) (ka9 : Nat) (hka : ka9 + 104 ≤ 177) : rMi g l yX8_gives cX8_gives 4 (some .int) 0 0 [.int (nI ka9), .ref (g.2.2.2.2 15)] z (fun r z' => r = nI (ka9 + 104) ∧ fl (z'.2.1 15) (fun q => z.2.1 24 (ka9 + q)) (z.2.1 15) 0 104 ∧ rFr [] [15] z z') := by
  refine rMi_in (by decide) rfl (Nat.le_of_ble_eq_true rfl) ?_
  intro p e s m args below meth c A ls X hml hr hk hl w
  have hx := X.1
  have hb := X.2.1
  have hts := X.2.2.1
  have hown := X.2.2.2.1
  have hl : lv_has ls 4 [(0, .ref g.2.2.2.1), (1, .int (nI ka9)), (2, .ref (g.2.2.2.2 15))] := hl
  refine lv_iconst (v := (nI 0)) hx hb dX8_gives_0 (by decide) ?_
  refine lv_istore_n (lv' := [(3, .int (nI 0)), (0, .ref g.2.2.2.1), (1, .int (nI ka9)), (2, .ref (g.2.2.2.2 15))]) hx hb dX8_gives_1 rfl hl (by decide) rfl (fun ls hl => ?_)
  have lp_2 : ∀ (n_2 : Nat) (i9a : Nat) (hi9a : i9a ≤ 104) (hm_2 : 104 - i9a < n_2) (ls : Array Slot) (zz : RS) (H : Heap) (locs : List Loc) (w : rW g A s zz H locs) (hfl : fl (zz.2.1 15) (fun q => z.2.1 24 (ka9 + q)) (z.2.1 15) 0 i9a) (hfz : rFr [] [15] z zz), lv_has ls 4 [(0, .ref g.2.2.2.1), (1, .int (nI ka9)), (2, .ref (g.2.2.2.2 15)), (3, .int (nI i9a))] → W p l e (ro_m 0 0) s m args below meth c H locs 0 0 (MQ below (va_Qi (fun r z' => r = nI (ka9 + 104) ∧ fl (z'.2.1 15) (fun q => z.2.1 24 (ka9 + q)) (z.2.1 15) 0 104 ∧ rFr [] [15] z z') (rB g A) A) args s 0 0 A) (F0 m 2 ls []) := by
    intro n_2
    induction n_2 with
    | zero => intro i9a hi9a hm; exact absurd hm (Nat.not_lt_zero _)
    | succ n_2 ih_2 =>
      intro i9a hi9a hm_2 ls zz H locs w hfl hfz hl
      refine lv_iload_n hx hb dX8_gives_2 rfl (lv_at hl 3 rfl) ?_
      refine lv_aload_n hx hb dX8_gives_3 rfl (lv_at hl 2 rfl) ?_
      refine rl_15 X w.1 dX8_gives_4 ?_
      refine n_icmp_ge (tgt := 25) hx hb dX8_gives_5 (by decide) (by omega) (by omega) (fun c_5_1 => ?_) (fun c_5_1 => ?_)
      · skip
        refine lv_iload_n hx hb dX8_gives_25 rfl (lv_at hl 1 rfl) ?_
        refine lv_aload_n hx hb dX8_gives_26 rfl (lv_at hl 2 rfl) ?_
        refine rl_15 X w.1 dX8_gives_27 ?_
        refine n_iadd hx hb dX8_gives_28 ?_
        exact re_i X hr hk w (by have e8 : i9a = 104 := (by omega); subst e8; exact ⟨rfl, hfl, hfz⟩) dX8_gives_29
      · skip
        refine lv_aload_n hx hb dX8_gives_8 rfl (lv_at hl 2 rfl) ?_
        refine lv_iload_n hx hb dX8_gives_9 rfl (lv_at hl 3 rfl) ?_
        refine lv_aload_n hx hb dX8_gives_10 rfl (lv_at hl 0 rfl) ?_
        refine rg_24 X w.1 dX8_gives_11 ?_
        refine lv_iload_n hx hb dX8_gives_14 rfl (lv_at hl 1 rfl) ?_
        refine lv_iload_n hx hb dX8_gives_15 rfl (lv_at hl 3 rfl) ?_
        refine n_iadd hx hb dX8_gives_16 ?_
        refine rn_24 X w.1 (by omega) dX8_gives_17 ?_
        refine ru_15 X w (by omega) dX8_gives_18 (fun z_18 H locs ez_18 w => ?_)
        refine lv_iinc (v := (nI (i9a + 1))) (lv' := [(3, .int (nI (i9a + 1))), (0, .ref g.2.2.2.1), (1, .int (nI ka9)), (2, .ref (g.2.2.2.2 15))]) hx hb dX8_gives_19 hl (k := 3) rfl (by first | exact nI_1 _ | (rw [show Int32.ofInt 1 = nI 1 from by decide, nI_add])) (by decide) rfl (fun ls hl => ?_)
        refine lv_goto (tgt := 2) hx hb dX8_gives_22 (by decide) ?_
        exact ih_2 (i9a + 1) (by omega) (by omega) ls z_18 _ _ w (by rw [ez_18]; exact fl_s0 hfl (congrFun (hfz.2.1 24 (by decide)) _)) (by rw [ez_18]; exact rFr_tr hfz (rFr_A _ (by decide))) (lv_sub hl [1, 2, 3, 0] rfl)
  exact lp_2 _ 0 (Nat.zero_le _) (Nat.lt_succ_self _) ls z _ _ w (fl_0 _ _ _) (rFr_rf _ _ _) (lv_sub hl [1, 2, 3, 0] rfl)

theorem ok_image : rOk yX8_image cX8_image 2 (some .int) 0 := ⟨wc_X8_image, wi_X8_image, ws_X8_image, rfl, by decide, by decide, by decide +kernel⟩
set_option maxHeartbeats 4000000 in
set_option maxRecDepth 100000 in
theorem k_image (l : Launch) (g : RG) (z : RS)   : rMi g l yX8_image cX8_image 2 (some .int) 1 23 [] z (fun r z' => r = nI 1 ∧ rIm z' z ∧ z'.1 25 = nI 1 ∧ rFr [25] [24] z z') := by
  refine rMi_in (by decide) rfl (Nat.le_of_ble_eq_true rfl) ?_
  intro p e s m args below meth c A ls X hml hr hk hl w
  have hx := X.1
  have hb := X.2.1
  have hts := X.2.2.1
  have hown := X.2.2.2.1
  have hl : lv_has ls 2 [(0, .ref g.2.2.2.1)] := hl
  refine lv_aload_n hx hb dX8_image_0 rfl (lv_at hl 0 rfl) ?_
  refine rg_24 X w.1 dX8_image_1 ?_
  refine lv_iconst (v := (nI 0)) hx hb dX8_image_4 (by decide) ?_
  refine lv_aload_n hx hb dX8_image_5 rfl (lv_at hl 0 rfl) ?_
  refine rg_0 X w.1 dX8_image_6 ?_
  refine ru_24 X w (by omega) dX8_image_9 (fun z_9 H locs ez_9 w => ?_)
  refine lv_aload_n hx hb dX8_image_10 rfl (lv_at hl 0 rfl) ?_
  refine rg_24 X w.1 dX8_image_11 ?_
  refine lv_iconst (v := (nI 1)) hx hb dX8_image_14 (by decide) ?_
  refine lv_aload_n hx hb dX8_image_15 rfl (lv_at hl 0 rfl) ?_
  refine rg_1 X w.1 dX8_image_16 ?_
  refine ru_24 X w (by omega) dX8_image_19 (fun z_19 H locs ez_19 w => ?_)
  refine lv_aload_n hx hb dX8_image_20 rfl (lv_at hl 0 rfl) ?_
  refine rg_24 X w.1 dX8_image_21 ?_
  refine lv_iconst (v := (nI 2)) hx hb dX8_image_24 (by decide) ?_
  refine lv_aload_n hx hb dX8_image_25 rfl (lv_at hl 0 rfl) ?_
  refine rg_4 X w.1 dX8_image_26 ?_
  refine ru_24 X w (by omega) dX8_image_29 (fun z_29 H locs ez_29 w => ?_)
  refine lv_aload_n hx hb dX8_image_30 rfl (lv_at hl 0 rfl) ?_
  refine rg_24 X w.1 dX8_image_31 ?_
  refine lv_iconst (v := (nI 3)) hx hb dX8_image_34 (by decide) ?_
  refine lv_aload_n hx hb dX8_image_35 rfl (lv_at hl 0 rfl) ?_
  refine rg_16 X w.1 dX8_image_36 ?_
  refine ru_24 X w (by omega) dX8_image_39 (fun z_39 H locs ez_39 w => ?_)
  have e39 : z_39.2.1 24 0 = z.1 0 ∧ z_39.2.1 24 1 = z.1 1 ∧ z_39.2.1 24 2 = z.1 4 ∧ z_39.2.1 24 3 = z.1 16 := by rw [ez_39, ez_29, ez_19, ez_9]; exact ⟨rfl, rfl, rfl, rfl⟩
  have f39 : rFr [] [24] z z_39 := by rw [ez_39, ez_29, ez_19, ez_9]; exact rFr_tr (rFr_tr (rFr_tr (rFr_A _ (by decide)) (rFr_A _ (by decide))) (rFr_A _ (by decide))) (rFr_A _ (by decide))
  refine lv_aload_n hx hb dX8_image_40 rfl (lv_at hl 0 rfl) ?_
  refine lv_aload_n hx hb dX8_image_41 rfl (lv_at hl 0 rfl) ?_
  refine rg_2 X w.1 dX8_image_42 ?_
  refine lv_iconst (v := (nI 4)) hx hb dX8_image_45 (by decide) ?_
  refine rc_i (rest := []) X hml hl.1 (k_notesRow2 l g z_39 4 (by omega)) ok_notesRow2 wm_X8_253 ⟨Nat.le_of_ble_eq_true rfl, Nat.le_of_ble_eq_true rfl⟩ ⟨Nat.le_refl _, Nat.le_refl _⟩ w rfl (Nat.le_of_ble_eq_true rfl) dX8_image_46 (fun r_46 z_46 H locs hr_46 w => ?_)
  obtain ⟨h9, fl_46, fz_46⟩ := hr_46
  have h8 : r_46 = nI 44 := h9
  subst h8
  refine lv_istore_n (lv' := [(1, .int (nI 44)), (0, .ref g.2.2.2.1)]) hx hb dX8_image_49 rfl hl (by decide) rfl (fun ls hl => ?_)
  refine lv_aload_n hx hb dX8_image_50 rfl (lv_at hl 1 rfl) ?_
  refine lv_aload_n hx hb dX8_image_51 rfl (lv_at hl 1 rfl) ?_
  refine rg_3 X w.1 dX8_image_52 ?_
  refine lv_iload_n hx hb dX8_image_55 rfl (lv_at hl 0 rfl) ?_
  refine rc_i (rest := []) X hml hl.1 (k_notesRow3 l g z_46 44 (by omega)) ok_notesRow2 wm_X8_253 ⟨Nat.le_of_ble_eq_true rfl, Nat.le_of_ble_eq_true rfl⟩ ⟨Nat.le_refl _, Nat.le_refl _⟩ w rfl (Nat.le_of_ble_eq_true rfl) dX8_image_56 (fun r_56 z_56 H locs hr_56 w => ?_)
  obtain ⟨h9, fl_56, fz_56⟩ := hr_56
  have h8 : r_56 = nI 59 := h9
  subst h8
  refine lv_istore_n (lv' := [(1, .int (nI 59)), (0, .ref g.2.2.2.1)]) hx hb dX8_image_59 rfl hl (by decide) rfl (fun ls hl => ?_)
  refine lv_aload_n hx hb dX8_image_60 rfl (lv_at hl 1 rfl) ?_
  refine lv_aload_n hx hb dX8_image_61 rfl (lv_at hl 1 rfl) ?_
  refine rg_5 X w.1 dX8_image_62 ?_
  refine lv_iload_n hx hb dX8_image_65 rfl (lv_at hl 0 rfl) ?_
  refine rc_i (rest := []) X hml hl.1 (k_notesRow5 l g z_56 59 (by omega)) ok_notesRow2 wm_X8_253 ⟨Nat.le_of_ble_eq_true rfl, Nat.le_of_ble_eq_true rfl⟩ ⟨Nat.le_refl _, Nat.le_refl _⟩ w rfl (Nat.le_of_ble_eq_true rfl) dX8_image_66 (fun r_66 z_66 H locs hr_66 w => ?_)
  obtain ⟨h9, fl_66, fz_66⟩ := hr_66
  have h8 : r_66 = nI 72 := h9
  subst h8
  refine lv_istore_n (lv' := [(1, .int (nI 72)), (0, .ref g.2.2.2.1)]) hx hb dX8_image_69 rfl hl (by decide) rfl (fun ls hl => ?_)
  refine lv_aload_n hx hb dX8_image_70 rfl (lv_at hl 1 rfl) ?_
  refine lv_aload_n hx hb dX8_image_71 rfl (lv_at hl 1 rfl) ?_
  refine rg_15 X w.1 dX8_image_72 ?_
  refine lv_iload_n hx hb dX8_image_75 rfl (lv_at hl 0 rfl) ?_
  refine rc_i (rest := []) X hml hl.1 (k_notesRow15 l g z_66 72 (by omega)) ok_notesRow2 wm_X8_253 ⟨Nat.le_of_ble_eq_true rfl, Nat.le_of_ble_eq_true rfl⟩ ⟨Nat.le_refl _, Nat.le_refl _⟩ w rfl (Nat.le_of_ble_eq_true rfl) dX8_image_76 (fun r_76 z_76 H locs hr_76 w => ?_)
  obtain ⟨h9, fl_76, fz_76⟩ := hr_76
  have h8 : r_76 = nI 176 := h9
  subst h8
  refine lv_pop hx hb dX8_image_79 rfl ?_
  refine lv_aload_n hx hb dX8_image_80 rfl (lv_at hl 1 rfl) ?_
  refine lv_iconst (v := (nI 1)) hx hb dX8_image_81 (by decide) ?_
  refine rp_25 X w (by first | exact Or.inl rfl | exact Or.inr rfl) dX8_image_82 (fun z_82 H locs ez_82 w => ?_)
  refine lv_iconst (v := (nI 1)) hx hb dX8_image_85 (by decide) ?_
  exact re_i X hr hk w (⟨rfl, by rw [ez_82]; exact im_all e39 f39 fl_46 fz_46 fl_56 fz_56 fl_66 fz_66 fl_76, by first | (rw [ez_82]; done) | (rw [ez_82]; rfl), by rw [ez_82]; exact rFr_tr (rFr_w (is' := [25]) (rFr_tr (rFr_tr (rFr_tr (rFr_tr f39 fz_46) fz_56) fz_66) fz_76) (by simp) (fun _ q => q)) (rFr_I _ (by decide))⟩) dX8_image_86
