theorem ok_isSheet : rOkS yX8_isSheet cX8_isSheet 1 (some .boolean) 1 := ⟨wc_X8_isSheet, wt_X8_isSheet, rfl, by decide, by decide, by decide +kernel⟩
set_option maxHeartbeats 4000000 in
set_option maxRecDepth 100000 in
theorem k_isSheet (l : Launch) (x : Int32)  : rMs l yX8_isSheet cX8_isSheet 1 (some .boolean) 1 25 [.int x] (fun r => r = nI (pc_inI x.toInt 0 3)) := by
  refine rMs_in (by decide) rfl (Nat.le_of_ble_eq_true rfl) ?_
  intro p e s m args below meth c ls X hml hr hk hl
  have hx := X.1
  have hb := X.2.1
  have hts := X.2.2.1
  have hown := X.2.2.2
  have hl : lv_has ls 1 [(0, .int x)] := hl
  refine lv_iload_n hx hb dX8_isSheet_0 rfl (lv_at hl 0 rfl) ?_
  refine lv_i2l (v := x.toInt64) hx hb dX8_isSheet_1 rfl ?_
  refine lv_lconst (v := 0) hx hb dX8_isSheet_2 (by decide) ?_
  refine lv_ldc2 hx hb hown (hts _ wk_X8_74) dX8_isSheet_3 ?_
  refine rc_s (rest := []) X hml hl.1 (k_in l x.toInt64 0 3) ok_in wm_X8_69 ⟨Nat.le_of_ble_eq_true rfl, Nat.le_of_ble_eq_true rfl⟩ ⟨Nat.le_refl _, Nat.le_refl _⟩ rfl (Nat.le_of_ble_eq_true rfl) dX8_isSheet_6 (fun r_6 hr_6 => ?_)
  have h9 : r_6 = nI (pc_inI x.toInt (0) (3)) := by rw [hr_6]; exact congrArg nI (pc_in_I (in_toI _) (by decide) (by decide))
  subst h9
  have i_6 := pc_inI_ok x.toInt (0) (3)
  exact re_pz hx hb hr hk (by rcases i_6 with q | q <;> rw [q.1]; exact Or.inr rfl; exact Or.inl rfl) (rfl) dX8_isSheet_9

theorem ok_isLane : rOkS yX8_isLane cX8_isLane 1 (some .boolean) 1 := ⟨wc_X8_isLane, wt_X8_isLane, rfl, by decide, by decide, by decide +kernel⟩
set_option maxHeartbeats 4000000 in
set_option maxRecDepth 100000 in
theorem k_isLane (l : Launch) (x : Int32)  : rMs l yX8_isLane cX8_isLane 1 (some .boolean) 1 25 [.int x] (fun r => r = nI (pc_inI x.toInt 0 3)) := by
  refine rMs_in (by decide) rfl (Nat.le_of_ble_eq_true rfl) ?_
  intro p e s m args below meth c ls X hml hr hk hl
  have hx := X.1
  have hb := X.2.1
  have hts := X.2.2.1
  have hown := X.2.2.2
  have hl : lv_has ls 1 [(0, .int x)] := hl
  refine lv_iload_n hx hb dX8_isLane_0 rfl (lv_at hl 0 rfl) ?_
  refine lv_i2l (v := x.toInt64) hx hb dX8_isLane_1 rfl ?_
  refine lv_lconst (v := 0) hx hb dX8_isLane_2 (by decide) ?_
  refine lv_ldc2 hx hb hown (hts _ wk_X8_74) dX8_isLane_3 ?_
  refine rc_s (rest := []) X hml hl.1 (k_in l x.toInt64 0 3) ok_in wm_X8_69 ⟨Nat.le_of_ble_eq_true rfl, Nat.le_of_ble_eq_true rfl⟩ ⟨Nat.le_refl _, Nat.le_refl _⟩ rfl (Nat.le_of_ble_eq_true rfl) dX8_isLane_6 (fun r_6 hr_6 => ?_)
  have h9 : r_6 = nI (pc_inI x.toInt (0) (3)) := by rw [hr_6]; exact congrArg nI (pc_in_I (in_toI _) (by decide) (by decide))
  subst h9
  have i_6 := pc_inI_ok x.toInt (0) (3)
  exact re_pz hx hb hr hk (by rcases i_6 with q | q <;> rw [q.1]; exact Or.inr rfl; exact Or.inl rfl) (rfl) dX8_isLane_9

theorem ok_why : rOk yX8_why cX8_why 5 (some .int) 4 := ⟨wc_X8_why, wi_X8_why, ws_X8_why, rfl, by decide, by decide, by decide +kernel⟩
set_option maxHeartbeats 4000000 in
set_option maxRecDepth 100000 in
theorem k_why (l : Launch) (g : RG) (z : RS) (ta9 : Nat) (la : Nat) (ia9 : Int32) (na9 : Nat) (L N9 : Nat → Nat) (I9 : Nat → Nat → Int64) (hsh : rSh z L N9 I9) (ht : ta9 < 4) (hla : la < 4) (hn : na9 < 2147483648) : rMp g l yX8_why cX8_why 5 (some .int) 0 0 [.int (nI ta9), .int (nI la), .int ia9, .int (nI na9)] z (fun r => r = iZ (pw_why L N9 ta9 la ia9.toInt na9)) := by
  refine rMp_in (by decide) rfl (Nat.le_of_ble_eq_true rfl) ?_
  intro p e s m args below meth c ls X hml hr hk hl w
  have hx := X.1
  have hb := X.2.1
  have hts := X.2.2.1
  have hown := X.2.2.2.1
  have hl : lv_has ls 5 [(0, .ref g.2.2.2.1), (1, .int (nI ta9)), (2, .int (nI la)), (3, .int ia9), (4, .int (nI na9))] := hl
  have q1 := (hsh ta9 ht).2.2.1
  have q2 := (hsh ta9 ht).2.2.2.1
  refine lv_aload_n hx hb dX8_why_0 rfl (lv_at hl 0 rfl) ?_
  refine rg_26 X w dX8_why_1 ?_
  refine lv_iload_n hx hb dX8_why_4 rfl (lv_at hl 1 rfl) ?_
  refine rn_26 X w (by omega) dX8_why_5 ?_
  refine tp_i (show z.2.1 26 ta9 = (iZ (((L ta9 : Nat) : Int) - (1 : Int))) from (hsh ta9 (by omega)).1) ?_
  refine z_if_ge (tgt := 12) hx hb dX8_why_6 (by decide) (by omega) (by omega) (fun c_6_1 => ?_) (fun c_6_1 => ?_)
  · skip
    refine lv_aload_n hx hb dX8_why_12 rfl (lv_at hl 0 rfl) ?_
    refine rg_26 X w dX8_why_13 ?_
    refine lv_iload_n hx hb dX8_why_16 rfl (lv_at hl 1 rfl) ?_
    refine rn_26 X w (by omega) dX8_why_17 ?_
    refine tp_i (show z.2.1 26 ta9 = (iZ (((L ta9 : Nat) : Int) - (1 : Int))) from (hsh ta9 (by omega)).1) ?_
    refine lv_iload_n hx hb dX8_why_18 rfl (lv_at hl 2 rfl) ?_
    refine tp_i (iZ_n la).symm ?_
    refine z_icmp_eq (tgt := 25) hx hb dX8_why_19 (by decide) (by omega) (by omega) (by omega) (by omega) (fun c_19_2 => ?_) (fun c_19_2 => ?_)
    · skip
      refine lv_iload_n hx hb dX8_why_25 rfl (lv_at hl 3 rfl) ?_
      refine lv_if_lt (tgt := 46) hx hb dX8_why_26 (by decide) (fun c_26_3 => ?_) (fun c_26_3 => ?_)
      · skip
        refine lv_bipush (v := (iZ (-13))) hx hb dX8_why_46 (by decide) ?_
        refine lv_goto (tgt := 52) hx hb dX8_why_48 (by decide) ?_
        exact re_p hx hb hr hk (by unfold pw_why; rw [if_neg (by omega), if_pos (by omega), if_pos (i_lt0.mp c_26_3)] <;> rfl) dX8_why_52
      · skip
        refine lv_iload_n hx hb dX8_why_29 rfl (lv_at hl 3 rfl) ?_
        refine lv_i2l (v := ia9.toInt64) hx hb dX8_why_30 rfl ?_
        refine lv_iload hx hb dX8_why_31 (lv_at hl 4 rfl) ?_
        refine lv_i2l (v := (nI na9).toInt64) hx hb dX8_why_33 rfl ?_
        refine lv_ladd hx hb dX8_why_34 ?_
        refine lv_aload_n hx hb dX8_why_35 rfl (lv_at hl 0 rfl) ?_
        refine rg_27 X w dX8_why_36 ?_
        refine lv_iload_n hx hb dX8_why_39 rfl (lv_at hl 1 rfl) ?_
        refine rn_27 X w (by omega) dX8_why_40 ?_
        refine tp_i (show z.2.1 27 ta9 = (nI (N9 ta9)) from (hsh ta9 (by omega)).2.1) ?_
        refine lv_i2l (v := (nI (N9 ta9)).toInt64) hx hb dX8_why_41 rfl ?_
        refine W.lcmp hx hb dX8_why_42 ?_
        refine lv_if_le (tgt := 51) hx hb dX8_why_43 (by decide) (fun c_43_4 => ?_) (fun c_43_4 => ?_)
        · skip
          refine lv_iconst (v := (nI 0)) hx hb dX8_why_51 (by decide) ?_
          exact re_p hx hb hr hk (by have q3 := mt i_lt0.mpr c_26_3; have q4 := c_43_4; rw [cmp_l hn (by omega)] at q4; unfold pw_why; rw [if_neg (by omega), if_pos (by omega), if_neg (by omega), if_neg (by omega)] <;> rfl) dX8_why_52
        · skip
          refine lv_bipush (v := (iZ (-13))) hx hb dX8_why_46 (by decide) ?_
          refine lv_goto (tgt := 52) hx hb dX8_why_48 (by decide) ?_
          exact re_p hx hb hr hk (by have q3 := mt i_lt0.mpr c_26_3; have q4 := c_43_4; rw [cmp_l hn (by omega)] at q4; unfold pw_why; rw [if_neg (by omega), if_pos (by omega), if_neg (by omega), if_pos (by omega)] <;> rfl) dX8_why_52
    · skip
      refine lv_bipush (v := (iZ (-12))) hx hb dX8_why_22 (by decide) ?_
      exact re_p hx hb hr hk (by unfold pw_why; rw [if_neg (by omega), if_neg (by omega)] <;> rfl) dX8_why_24
  · skip
    refine lv_bipush (v := (iZ (-11))) hx hb dX8_why_9 (by decide) ?_
    exact re_p hx hb hr hk (by unfold pw_why; rw [if_pos (by omega)] <;> rfl) dX8_why_11

theorem ok_puts : rOk yX8_puts cX8_puts 6 none 3 := ⟨wc_X8_puts, wi_X8_puts, ws_X8_puts, rfl, by decide, by decide, by decide +kernel⟩
set_option maxHeartbeats 4000000 in
set_option maxRecDepth 100000 in
theorem k_puts (l : Launch) (g : RG) (z : RS) (ta9 : Nat) (ia9 : Nat) (va9 : Int64) (L N9 : Nat → Nat) (I9 : Nat → Nat → Int64) (hsh : rSh z L N9 I9) (ht : ta9 < 4) (hi : ia9 < 24) : rMv g l yX8_puts cX8_puts 6 none 0 0 [.int (nI ta9), .int (nI ia9), .long (va9)] z (fun z' => rSh z' L N9 (va_up I9 ta9 (va_up (I9 ta9) ia9 (pw_low (L ta9) va9))) ∧ rFx [] [] [28] z z') := by
  refine rMv_in (by decide) rfl (Nat.le_of_ble_eq_true rfl) ?_
  intro p e s m args below meth c A ls X hml hr hk hl w
  have hx := X.1
  have hb := X.2.1
  have hts := X.2.2.1
  have hown := X.2.2.2.1
  have hl : lv_has ls 6 [(0, .ref g.2.2.2.1), (1, .int (nI ta9)), (2, .int (nI ia9)), (3, .long (va9))] := hl
  have q1 := (hsh ta9 ht).2.2.1
  refine lv_aload_n hx hb dX8_puts_0 rfl (lv_at hl 0 rfl) ?_
  refine rg_26 X w.1 dX8_puts_1 ?_
  refine lv_iload_n hx hb dX8_puts_4 rfl (lv_at hl 1 rfl) ?_
  refine rn_26 X w.1 (by omega) dX8_puts_5 ?_
  refine tp_i (show z.2.1 26 ta9 = (iZ (((L ta9 : Nat) : Int) - (1 : Int))) from (hsh ta9 (by omega)).1) ?_
  refine lv_istore (lv' := [(5, .int (iZ (((L ta9 : Nat) : Int) - (1 : Int)))), (0, .ref g.2.2.2.1), (1, .int (nI ta9)), (2, .int (nI ia9)), (3, .long (va9))]) hx hb dX8_puts_6 hl (by decide) rfl (fun ls hl => ?_)
  refine lv_aload_n hx hb dX8_puts_8 rfl (lv_at hl 1 rfl) ?_
  refine rg_28 X w.1 dX8_puts_9 ?_
  refine lv_bipush (v := (nI 24)) hx hb dX8_puts_12 (by decide) ?_
  refine lv_iload_n hx hb dX8_puts_14 rfl (lv_at hl 2 rfl) ?_
  refine n_imul hx hb dX8_puts_15 ?_
  refine lv_iload_n hx hb dX8_puts_16 rfl (lv_at hl 3 rfl) ?_
  refine n_iadd hx hb dX8_puts_17 ?_
  refine lv_iload hx hb dX8_puts_18 (lv_at hl 0 rfl) ?_
  refine z_if_ne (tgt := 30) hx hb dX8_puts_20 (by decide) (by omega) (by omega) (fun c_20_1 => ?_) (fun c_20_1 => ?_)
  · skip
    refine lv_iload hx hb dX8_puts_30 (lv_at hl 0 rfl) ?_
    refine lv_iconst (v := (nI 1)) hx hb dX8_puts_32 (by decide) ?_
    refine tp_i (show nI 1 = iZ (1 : Int) from by decide) ?_
    refine z_icmp_ne (tgt := 43) hx hb dX8_puts_33 (by decide) (by omega) (by omega) (by omega) (by omega) (fun c_33_2 => ?_) (fun c_33_2 => ?_)
    · skip
      refine lv_iload hx hb dX8_puts_43 (lv_at hl 0 rfl) ?_
      refine lv_iconst (v := (nI 2)) hx hb dX8_puts_45 (by decide) ?_
      refine tp_i (show nI 2 = iZ (2 : Int) from by decide) ?_
      refine z_icmp_ne (tgt := 55) hx hb dX8_puts_46 (by decide) (by omega) (by omega) (by omega) (by omega) (fun c_46_3 => ?_) (fun c_46_3 => ?_)
      · skip
        refine lv_lload_n hx hb dX8_puts_55 rfl (lv_at hl 4 rfl) ?_
        refine ru_28 X w (by omega) dX8_puts_56 (fun z_56 H locs ez_56 w => ?_)
        exact re_v X hr hk w (⟨by rw [ez_56]; unfold pw_low; simp only [if_neg c_20_1, if_neg c_33_2, if_neg c_46_3]; exact rw_it hsh ht hi _, by rw [ez_56]; exact rFx_L _ (by decide)⟩) dX8_puts_57
      · skip
        refine lv_lload_n hx hb dX8_puts_49 rfl (lv_at hl 4 rfl) ?_
        refine lv_l2i (v := (va9).toInt32) hx hb dX8_puts_50 rfl ?_
        refine lv_i2l (v := (va9).toInt32.toInt64) hx hb dX8_puts_51 rfl ?_
        refine lv_goto (tgt := 56) hx hb dX8_puts_52 (by decide) ?_
        refine ru_28 X w (by omega) dX8_puts_56 (fun z_56 H locs ez_56 w => ?_)
        exact re_v X hr hk w (⟨by rw [ez_56]; unfold pw_low; simp only [if_neg c_20_1, if_neg c_33_2, if_pos c_46_3]; exact rw_it hsh ht hi _, by rw [ez_56]; exact rFx_L _ (by decide)⟩) dX8_puts_57
    · skip
      refine lv_lload_n hx hb dX8_puts_36 rfl (lv_at hl 4 rfl) ?_
      refine lv_l2i (v := (va9).toInt32) hx hb dX8_puts_37 rfl ?_
      refine lv_i2s (v := ((va9).toInt32).toInt16.toInt32) hx hb dX8_puts_38 rfl ?_
      refine lv_i2l (v := ((va9).toInt32).toInt16.toInt32.toInt64) hx hb dX8_puts_39 rfl ?_
      refine lv_goto (tgt := 56) hx hb dX8_puts_40 (by decide) ?_
      refine ru_28 X w (by omega) dX8_puts_56 (fun z_56 H locs ez_56 w => ?_)
      exact re_v X hr hk w (⟨by rw [ez_56]; unfold pw_low; simp only [if_neg c_20_1, if_pos c_33_2]; exact rw_it hsh ht hi _, by rw [ez_56]; exact rFx_L _ (by decide)⟩) dX8_puts_57
  · skip
    refine lv_lload_n hx hb dX8_puts_23 rfl (lv_at hl 4 rfl) ?_
    refine lv_l2i (v := (va9).toInt32) hx hb dX8_puts_24 rfl ?_
    refine lv_i2b (v := ((va9).toInt32).toInt8.toInt32) hx hb dX8_puts_25 rfl ?_
    refine lv_i2l (v := ((va9).toInt32).toInt8.toInt32.toInt64) hx hb dX8_puts_26 rfl ?_
    refine lv_goto (tgt := 56) hx hb dX8_puts_27 (by decide) ?_
    refine ru_28 X w (by omega) dX8_puts_56 (fun z_56 H locs ez_56 w => ?_)
    exact re_v X hr hk w (⟨by rw [ez_56]; unfold pw_low; simp only [if_pos c_20_1]; exact rw_it hsh ht hi _, by rw [ez_56]; exact rFx_L _ (by decide)⟩) dX8_puts_57

theorem ok_sheet : rOk yX8_sheet cX8_sheet 5 (some .int) 3 := ⟨wc_X8_sheet, wi_X8_sheet, ws_X8_sheet, rfl, by decide, by decide, by decide +kernel⟩
set_option maxHeartbeats 4000000 in
set_option maxRecDepth 100000 in
theorem k_sheet (l : Launch) (g : RG) (z : RS) (xa9 : Int32) (xb9 : Int32) (xc9 : Int32) (L N9 : Nat → Nat) (I9 : Nat → Nat → Int64) (hsh : rSh z L N9 I9) : rMi g l yX8_sheet cX8_sheet 5 (some .int) 2 45 [.int xa9, .int xb9, .int xc9] z (fun r z' => r = an_sheet xa9 xb9 xc9 ∧ (od_sheet xa9 xb9 xc9 → rSh z' (va_up L xa9.toInt.toNat (xb9.toInt.toNat + 1)) (va_up N9 xa9.toInt.toNat xc9.toInt.toNat) (va_up I9 xa9.toInt.toNat (fun _ => 0))) ∧ (¬ od_sheet xa9 xb9 xc9 → z' = z) ∧ rFx [] [26, 27] [28] z z') := by
  refine rMi_in (by decide) rfl (Nat.le_of_ble_eq_true rfl) ?_
  intro p e s m args below meth c A ls X hml hr hk hl w
  have hx := X.1
  have hb := X.2.1
  have hts := X.2.2.1
  have hown := X.2.2.2.1
  have hl : lv_has ls 5 [(0, .ref g.2.2.2.1), (1, .int xa9), (2, .int xb9), (3, .int xc9)] := hl
  refine lv_iload_n hx hb dX8_sheet_0 rfl (lv_at hl 1 rfl) ?_
  refine rc_s (rest := []) ⟨X.1, X.2.1, X.2.2.1, X.2.2.2.1⟩ hml hl.1 (k_isSheet l xa9) ok_isSheet wm_X8_264 ⟨Nat.le_of_ble_eq_true rfl, Nat.le_of_ble_eq_true rfl⟩ ⟨Nat.le_refl _, Nat.le_refl _⟩ rfl (Nat.le_of_ble_eq_true rfl) dX8_sheet_1 (fun r_1 hr_1 => ?_)
  subst hr_1
  have i_1 := pc_inI_ok xa9.toInt 0 3
  refine n_if_eq (tgt := 20) hx hb dX8_sheet_4 (by decide) (by omega) (fun c_4_1 => ?_) (fun c_4_1 => ?_)
  · skip
    refine lv_iconst (v := (iZ (-1))) hx hb dX8_sheet_20 (by decide) ?_
    exact re_i X hr hk w (⟨by unfold an_sheet; rw [if_neg (by omega)], fun q => absurd q (by unfold od_sheet; omega), fun _ => rfl, rFx_rf _ _ _ _⟩) dX8_sheet_21
  · skip
    refine lv_iload_n hx hb dX8_sheet_7 rfl (lv_at hl 2 rfl) ?_
    refine rc_s (rest := []) ⟨X.1, X.2.1, X.2.2.1, X.2.2.2.1⟩ hml hl.1 (k_isLane l xb9) ok_isLane wm_X8_267 ⟨Nat.le_of_ble_eq_true rfl, Nat.le_of_ble_eq_true rfl⟩ ⟨Nat.le_refl _, Nat.le_refl _⟩ rfl (Nat.le_of_ble_eq_true rfl) dX8_sheet_8 (fun r_8 hr_8 => ?_)
    subst hr_8
    have i_8 := pc_inI_ok xb9.toInt 0 3
    refine n_if_eq (tgt := 20) hx hb dX8_sheet_11 (by decide) (by omega) (fun c_11_2 => ?_) (fun c_11_2 => ?_)
    · skip
      refine lv_iconst (v := (iZ (-1))) hx hb dX8_sheet_20 (by decide) ?_
      exact re_i X hr hk w (⟨by unfold an_sheet; rw [if_neg (by omega)], fun q => absurd q (by unfold od_sheet; omega), fun _ => rfl, rFx_rf _ _ _ _⟩) dX8_sheet_21
    · skip
      refine lv_iload_n hx hb dX8_sheet_14 rfl (lv_at hl 3 rfl) ?_
      refine lv_bipush (v := (nI 24)) hx hb dX8_sheet_15 (by decide) ?_
      refine lv_icmp_le (tgt := 22) hx hb dX8_sheet_17 (by decide) (fun c_17_3 => ?_) (fun c_17_3 => ?_)
      · skip
        have q3 : xc9.toInt ≤ 24 := by have q4 := Int32.le_iff_toInt_le.mp c_17_3; rw [nI_toInt (by decide)] at q4; exact q4
        refine lv_iload_n hx hb dX8_sheet_22 rfl (lv_at hl 3 rfl) ?_
        refine lv_if_ge (tgt := 29) hx hb dX8_sheet_23 (by decide) (fun c_23_4 => ?_) (fun c_23_4 => ?_)
        · skip
          have q5 : 0 ≤ xc9.toInt := Int32.le_iff_toInt_le.mp c_23_4
          obtain ⟨ka9, hq_ka9, rfl⟩ := iv_n (x := xa9) (by omega)
          obtain ⟨kb9, hq_kb9, rfl⟩ := iv_n (x := xb9) (by omega)
          obtain ⟨kc9, hq_kc9, rfl⟩ := iv_n (x := xc9) (by omega)
          refine lv_aload_n hx hb dX8_sheet_29 rfl (lv_at hl 0 rfl) ?_
          refine rg_26 X w.1 dX8_sheet_30 ?_
          refine lv_iload_n hx hb dX8_sheet_33 rfl (lv_at hl 1 rfl) ?_
          refine lv_iload_n hx hb dX8_sheet_34 rfl (lv_at hl 2 rfl) ?_
          refine ru_26 X w (by omega) dX8_sheet_35 (fun z_35 H locs ez_35 w => ?_)
          refine lv_aload_n hx hb dX8_sheet_36 rfl (lv_at hl 0 rfl) ?_
          refine rg_27 X w.1 dX8_sheet_37 ?_
          refine lv_iload_n hx hb dX8_sheet_40 rfl (lv_at hl 1 rfl) ?_
          refine lv_iload_n hx hb dX8_sheet_41 rfl (lv_at hl 3 rfl) ?_
          refine ru_27 X w (by omega) dX8_sheet_42 (fun z_42 H locs ez_42 w => ?_)
          refine lv_iconst (v := (nI 0)) hx hb dX8_sheet_43 (by decide) ?_
          refine lv_istore (lv' := [(4, .int (nI 0)), (0, .ref g.2.2.2.1), (1, .int (nI ka9)), (2, .int (nI kb9)), (3, .int (nI kc9))]) hx hb dX8_sheet_44 hl (by decide) rfl (fun ls hl => ?_)
          have lp_46 : ∀ (n_46 : Nat) (i : Nat) (hi : i ≤ 24) (hm_46 : 24 - i < n_46) (ls : Array Slot) (zz : RS) (H : Heap) (locs : List Loc) (w : rW g A s zz H locs) (hss : rSh zz (va_up L ka9 (kb9 + 1)) (va_up N9 ka9 kc9) (va_up I9 ka9 (fun j => if j < i then 0 else I9 ka9 j))) (hfz : rFx [] [26, 27] [28] z zz), lv_has ls 5 [(0, .ref g.2.2.2.1), (1, .int (nI ka9)), (2, .int (nI kb9)), (3, .int (nI kc9)), (4, .int (nI i))] → W p l e (ro_m 2 45) s m args below meth c H locs 0 0 (MQ below (va_Qi (fun r z' => r = an_sheet (nI ka9) (nI kb9) (nI kc9) ∧ (od_sheet (nI ka9) (nI kb9) (nI kc9) → rSh z' (va_up L (nI ka9).toInt.toNat ((nI kb9).toInt.toNat + 1)) (va_up N9 (nI ka9).toInt.toNat (nI kc9).toInt.toNat) (va_up I9 (nI ka9).toInt.toNat (fun _ => 0))) ∧ (¬ od_sheet (nI ka9) (nI kb9) (nI kc9) → z' = z) ∧ rFx [] [26, 27] [28] z z') (rB g A) A) args s 0 0 A) (F0 m 46 ls []) := by
            intro n_46
            induction n_46 with
            | zero => intro i hi hm; exact absurd hm (Nat.not_lt_zero _)
            | succ n_46 ih_46 =>
              intro i hi hm_46 ls zz H locs w hss hfz hl
              refine lv_iload hx hb dX8_sheet_46 (lv_at hl 4 rfl) ?_
              refine lv_bipush (v := (nI 24)) hx hb dX8_sheet_48 (by decide) ?_
              refine n_icmp_ge (tgt := 72) hx hb dX8_sheet_50 (by decide) (by omega) (by omega) (fun c_50_5 => ?_) (fun c_50_5 => ?_)
              · skip
                refine lv_iload_n hx hb dX8_sheet_72 rfl (lv_at hl 3 rfl) ?_
                exact re_i X hr hk w (⟨by unfold an_sheet; rw [if_pos (by omega), if_neg (by omega)], fun _ => by rw [show (nI ka9).toInt.toNat = ka9 by omega, show (nI kb9).toInt.toNat = kb9 by omega, show (nI kc9).toInt.toNat = kc9 by omega]; exact sh_e hss (by omega), fun q => absurd (show od_sheet _ _ _ by unfold od_sheet; omega) q, hfz⟩) dX8_sheet_73
              · skip
                refine lv_aload_n hx hb dX8_sheet_53 rfl (lv_at hl 0 rfl) ?_
                refine rg_28 X w.1 dX8_sheet_54 ?_
                refine lv_bipush (v := (nI 24)) hx hb dX8_sheet_57 (by decide) ?_
                refine lv_iload_n hx hb dX8_sheet_59 rfl (lv_at hl 1 rfl) ?_
                refine n_imul hx hb dX8_sheet_60 ?_
                refine lv_iload hx hb dX8_sheet_61 (lv_at hl 4 rfl) ?_
                refine n_iadd hx hb dX8_sheet_63 ?_
                refine lv_lconst (v := 0) hx hb dX8_sheet_64 (by decide) ?_
                refine ru_28 X w (by omega) dX8_sheet_65 (fun z_65 H locs ez_65 w => ?_)
                refine lv_iinc (v := (nI (i + 1))) (lv' := [(4, .int (nI (i + 1))), (0, .ref g.2.2.2.1), (1, .int (nI ka9)), (2, .int (nI kb9)), (3, .int (nI kc9))]) hx hb dX8_sheet_66 hl (k := 4) rfl (by first | exact nI_1 _ | (rw [show Int32.ofInt 1 = nI 1 from by decide, nI_add])) (by decide) rfl (fun ls hl => ?_)
                refine lv_goto (tgt := 46) hx hb dX8_sheet_69 (by decide) ?_
                exact ih_46 (i + 1) (by omega) (by omega) ls z_65 _ _ w (by rw [ez_65]; exact sh_s hss (by omega) (by omega)) (by rw [ez_65]; exact rFx_tr hfz (rFx_L _ (by decide))) (lv_sub hl [1, 2, 3, 4, 0] rfl)
          exact lp_46 _ 0 (by omega) (Nat.lt_succ_self _) ls z_42 _ _ w (by rw [ez_42, ez_35]; exact sh_0 (rw_sz (rw_ln hsh (by omega) (by omega) (by rw [← iZ_n]; congr 1; omega)) (by omega) (by omega))) (by rw [ez_42, ez_35]; exact rFx_tr (rFx_A _ (by decide)) (rFx_A _ (by decide))) (lv_sub hl [1, 2, 3, 4, 0] rfl)
        · skip
          have q5 : ¬ 0 ≤ xc9.toInt := fun q => c_23_4 (Int32.le_iff_toInt_le.mpr q)
          refine lv_bipush (v := (iZ (-14))) hx hb dX8_sheet_26 (by decide) ?_
          exact re_i X hr hk w (⟨by unfold an_sheet; rw [if_pos (by omega), if_pos (by omega)], fun q => absurd q (by unfold od_sheet; omega), fun _ => rfl, rFx_rf _ _ _ _⟩) dX8_sheet_28
      · skip
        have q3 : ¬ xc9.toInt ≤ 24 := fun q => c_17_3 (Int32.le_iff_toInt_le.mpr (by rw [nI_toInt (by decide)]; exact q))
        refine lv_iconst (v := (iZ (-1))) hx hb dX8_sheet_20 (by decide) ?_
        exact re_i X hr hk w (⟨by unfold an_sheet; rw [if_neg (by omega)], fun q => absurd q (by unfold od_sheet; omega), fun _ => rfl, rFx_rf _ _ _ _⟩) dX8_sheet_21

theorem ok_drop : rOk yX8_drop cX8_drop 2 (some .int) 1 := ⟨wc_X8_drop, wi_X8_drop, ws_X8_drop, rfl, by decide, by decide, by decide +kernel⟩
set_option maxHeartbeats 4000000 in
set_option maxRecDepth 100000 in
theorem k_drop (l : Launch) (g : RG) (z : RS) (xa9 : Int32) (L N9 : Nat → Nat) (I9 : Nat → Nat → Int64) (hsh : rSh z L N9 I9) : rMi g l yX8_drop cX8_drop 2 (some .int) 2 45 [.int xa9] z (fun r z' => r = an_drop L N9 xa9 ∧ rSh z' (nl_drop L xa9) N9 I9 ∧ rFx [] [26] [] z z') := by
  refine rMi_in (by decide) rfl (Nat.le_of_ble_eq_true rfl) ?_
  intro p e s m args below meth c A ls X hml hr hk hl w
  have hx := X.1
  have hb := X.2.1
  have hts := X.2.2.1
  have hown := X.2.2.2.1
  have hl : lv_has ls 2 [(0, .ref g.2.2.2.1), (1, .int xa9)] := hl
  refine lv_iload_n hx hb dX8_drop_0 rfl (lv_at hl 1 rfl) ?_
  refine rc_s (rest := []) ⟨X.1, X.2.1, X.2.2.1, X.2.2.2.1⟩ hml hl.1 (k_isSheet l xa9) ok_isSheet wm_X8_264 ⟨Nat.le_of_ble_eq_true rfl, Nat.le_of_ble_eq_true rfl⟩ ⟨Nat.le_refl _, Nat.le_refl _⟩ rfl (Nat.le_of_ble_eq_true rfl) dX8_drop_1 (fun r_1 hr_1 => ?_)
  subst hr_1
  have i_1 := pc_inI_ok xa9.toInt 0 3
  refine n_if_ne (tgt := 9) hx hb dX8_drop_4 (by decide) (by omega) (fun c_4_1 => ?_) (fun c_4_1 => ?_)
  · skip
    obtain ⟨ka9, hq_ka9, rfl⟩ := iv_n (x := xa9) (by omega)
    have q1 := (hsh ka9 (by omega)).2.2.1
    refine lv_aload_n hx hb dX8_drop_9 rfl (lv_at hl 0 rfl) ?_
    refine rg_26 X w.1 dX8_drop_10 ?_
    refine lv_iload_n hx hb dX8_drop_13 rfl (lv_at hl 1 rfl) ?_
    refine rn_26 X w.1 (by omega) dX8_drop_14 ?_
    refine tp_i (show z.2.1 26 ka9 = (iZ (((L ka9 : Nat) : Int) - (1 : Int))) from (hsh ka9 (by omega)).1) ?_
    refine z_if_ge (tgt := 21) hx hb dX8_drop_15 (by decide) (by omega) (by omega) (fun c_15_2 => ?_) (fun c_15_2 => ?_)
    · skip
      refine lv_aload_n hx hb dX8_drop_21 rfl (lv_at hl 0 rfl) ?_
      refine rg_26 X w.1 dX8_drop_22 ?_
      refine lv_iload_n hx hb dX8_drop_25 rfl (lv_at hl 1 rfl) ?_
      refine lv_iconst (v := (iZ (-1))) hx hb dX8_drop_26 (by decide) ?_
      refine ru_26 X w (by omega) dX8_drop_27 (fun z_27 H locs ez_27 w => ?_)
      refine lv_aload_n hx hb dX8_drop_28 rfl (lv_at hl 0 rfl) ?_
      refine rg_27 X w.1 dX8_drop_29 ?_
      refine lv_iload_n hx hb dX8_drop_32 rfl (lv_at hl 1 rfl) ?_
      refine rn_27 X w.1 (by omega) dX8_drop_33 ?_
      refine tp_i (show z_27.2.1 27 ka9 = (nI (N9 ka9)) from by rw [ez_27]; exact (hsh ka9 (by omega)).2.1) ?_
      exact re_i X hr hk w (⟨by unfold an_drop; rw [if_pos (by omega), show (nI ka9).toInt.toNat = ka9 by omega, if_neg (by omega)], by unfold nl_drop; rw [if_pos (by omega), show (nI ka9).toInt.toNat = ka9 by omega, ez_27]; exact rw_ln hsh (by omega) (by omega) (by decide), by rw [ez_27]; exact rFx_A _ (by decide)⟩) dX8_drop_34
    · skip
      refine lv_bipush (v := (iZ (-11))) hx hb dX8_drop_18 (by decide) ?_
      exact re_i X hr hk w (⟨by unfold an_drop; rw [if_pos (by omega), show (nI ka9).toInt.toNat = ka9 by omega, if_pos (by omega)], by unfold nl_drop; rw [if_pos (by omega), show (nI ka9).toInt.toNat = ka9 by omega]; exact sh_id hsh (by omega), rFx_rf _ _ _ _⟩) dX8_drop_20
  · skip
    refine lv_iconst (v := (iZ (-1))) hx hb dX8_drop_7 (by decide) ?_
    exact re_i X hr hk w (⟨by unfold an_drop; rw [if_neg (by omega)], by unfold nl_drop; rw [if_neg (by omega)]; exact hsh, rFx_rf _ _ _ _⟩) dX8_drop_8

theorem ok_item : rOk yX8_item cX8_item 7 (some .int) 4 := ⟨wc_X8_item, wi_X8_item, ws_X8_item, rfl, by decide, by decide, by decide +kernel⟩
set_option maxHeartbeats 4000000 in
set_option maxRecDepth 100000 in
theorem k_item (l : Launch) (g : RG) (z : RS) (xa9 : Int32) (xb9 : Int32) (xc9 : Int32) (va9 : Int64) (L N9 : Nat → Nat) (I9 : Nat → Nat → Int64) (hsh : rSh z L N9 I9) : rMi g l yX8_item cX8_item 7 (some .int) 2 45 [.int xa9, .int xb9, .int xc9, .long (va9)] z (fun r z' => r = an_item L N9 xa9 xb9 xc9 ∧ rSh z' L N9 (ni_item L N9 I9 xa9 xb9 xc9 va9) ∧ rFx [] [] [28] z z') := by
  refine rMi_in (by decide) rfl (Nat.le_of_ble_eq_true rfl) ?_
  intro p e s m args below meth c A ls X hml hr hk hl w
  have hx := X.1
  have hb := X.2.1
  have hts := X.2.2.1
  have hown := X.2.2.2.1
  have hl : lv_has ls 7 [(0, .ref g.2.2.2.1), (1, .int xa9), (2, .int xb9), (3, .int xc9), (4, .long (va9))] := hl
  refine lv_iload_n hx hb dX8_item_0 rfl (lv_at hl 1 rfl) ?_
  refine rc_s (rest := []) ⟨X.1, X.2.1, X.2.2.1, X.2.2.2.1⟩ hml hl.1 (k_isSheet l xa9) ok_isSheet wm_X8_264 ⟨Nat.le_of_ble_eq_true rfl, Nat.le_of_ble_eq_true rfl⟩ ⟨Nat.le_refl _, Nat.le_refl _⟩ rfl (Nat.le_of_ble_eq_true rfl) dX8_item_1 (fun r_1 hr_1 => ?_)
  subst hr_1
  have i_1 := pc_inI_ok xa9.toInt 0 3
  refine n_if_eq (tgt := 14) hx hb dX8_item_4 (by decide) (by omega) (fun c_4_1 => ?_) (fun c_4_1 => ?_)
  · skip
    refine lv_iconst (v := (iZ (-1))) hx hb dX8_item_14 (by decide) ?_
    exact re_i X hr hk w (⟨by unfold an_item; rw [if_neg (by omega)], by unfold ni_item; rw [if_neg (by omega)]; exact hsh, rFx_rf _ _ _ _⟩) dX8_item_15
  · skip
    refine lv_iload_n hx hb dX8_item_7 rfl (lv_at hl 2 rfl) ?_
    refine rc_s (rest := []) ⟨X.1, X.2.1, X.2.2.1, X.2.2.2.1⟩ hml hl.1 (k_isLane l xb9) ok_isLane wm_X8_267 ⟨Nat.le_of_ble_eq_true rfl, Nat.le_of_ble_eq_true rfl⟩ ⟨Nat.le_refl _, Nat.le_refl _⟩ rfl (Nat.le_of_ble_eq_true rfl) dX8_item_8 (fun r_8 hr_8 => ?_)
    subst hr_8
    have i_8 := pc_inI_ok xb9.toInt 0 3
    refine n_if_ne (tgt := 16) hx hb dX8_item_11 (by decide) (by omega) (fun c_11_2 => ?_) (fun c_11_2 => ?_)
    · skip
      obtain ⟨ka9, hq_ka9, rfl⟩ := iv_n (x := xa9) (by omega)
      obtain ⟨kb9, hq_kb9, rfl⟩ := iv_n (x := xb9) (by omega)
      have q2 := (hsh ka9 (by omega)).2.2.2.1
      refine lv_aload_n hx hb dX8_item_16 rfl (lv_at hl 0 rfl) ?_
      refine lv_iload_n hx hb dX8_item_17 rfl (lv_at hl 1 rfl) ?_
      refine lv_iload_n hx hb dX8_item_18 rfl (lv_at hl 2 rfl) ?_
      refine lv_iload_n hx hb dX8_item_19 rfl (lv_at hl 3 rfl) ?_
      refine lv_iconst (v := (nI 1)) hx hb dX8_item_20 (by decide) ?_
      refine rc_p (rest := []) X hml hl.1 (k_why l g z ka9 kb9 xc9 1 L N9 I9 hsh (by omega) (by omega) (by omega)) ok_why wm_X8_272 ⟨Nat.le_of_ble_eq_true rfl, Nat.le_of_ble_eq_true rfl⟩ ⟨Nat.le_refl _, Nat.le_refl _⟩ w.1 rfl (Nat.le_of_ble_eq_true rfl) dX8_item_21 (fun r_21 hr_21 => ?_)
      subst hr_21
      have y_21 := pw_why_ok L N9 ka9 kb9 xc9.toInt 1
      refine lv_istore (lv' := [(6, .int (iZ (pw_why L N9 ka9 kb9 xc9.toInt 1))), (0, .ref g.2.2.2.1), (1, .int (nI ka9)), (2, .int (nI kb9)), (3, .int xc9), (4, .long (va9))]) hx hb dX8_item_24 hl (by decide) rfl (fun ls hl => ?_)
      refine lv_iload hx hb dX8_item_26 (lv_at hl 0 rfl) ?_
      refine z_if_ge (tgt := 34) hx hb dX8_item_28 (by decide) (by omega) (by omega) (fun c_28_3 => ?_) (fun c_28_3 => ?_)
      · skip
        obtain ⟨kc9, hq_kc9, rfl⟩ := iv_n (x := xc9) (by omega)
        refine lv_aload_n hx hb dX8_item_34 rfl (lv_at hl 1 rfl) ?_
        refine lv_iload_n hx hb dX8_item_35 rfl (lv_at hl 2 rfl) ?_
        refine lv_iload_n hx hb dX8_item_36 rfl (lv_at hl 4 rfl) ?_
        refine lv_lload hx hb dX8_item_37 (lv_at hl 5 rfl) ?_
        refine rc_v (rest := []) X hml hl.1 (k_puts l g z ka9 kc9 va9 L N9 I9 hsh (by omega) (by omega)) ok_puts wm_X8_278 ⟨Nat.le_of_ble_eq_true rfl, Nat.le_of_ble_eq_true rfl⟩ ⟨Nat.le_refl _, Nat.le_refl _⟩ w rfl (Nat.le_of_ble_eq_true rfl) dX8_item_39 (fun z_39 H locs hr_39 w => ?_)
        skip
        refine lv_iconst (v := (nI 1)) hx hb dX8_item_42 (by decide) ?_
        exact re_i X hr hk w (⟨by unfold an_item; rw [if_pos (by omega), show (nI ka9).toInt.toNat = ka9 by omega, show (nI kb9).toInt.toNat = kb9 by omega, if_neg (by omega)], by unfold ni_item; rw [show (nI ka9).toInt.toNat = ka9 by omega, show (nI kb9).toInt.toNat = kb9 by omega, show (nI kc9).toInt.toNat = kc9 by omega, if_pos (by omega)]; exact hr_39.1, hr_39.2⟩) dX8_item_43
      · skip
        refine lv_iload hx hb dX8_item_31 (lv_at hl 0 rfl) ?_
        exact re_i X hr hk w (⟨by unfold an_item; rw [if_pos (by omega), show (nI ka9).toInt.toNat = ka9 by omega, show (nI kb9).toInt.toNat = kb9 by omega, if_pos (by omega)], by unfold ni_item; rw [show (nI ka9).toInt.toNat = ka9 by omega, show (nI kb9).toInt.toNat = kb9 by omega, if_neg (by omega)]; exact hsh, rFx_rf _ _ _ _⟩) dX8_item_33
    · skip
      refine lv_iconst (v := (iZ (-1))) hx hb dX8_item_14 (by decide) ?_
      exact re_i X hr hk w (⟨by unfold an_item; rw [if_neg (by omega)], by unfold ni_item; rw [if_neg (by omega)]; exact hsh, rFx_rf _ _ _ _⟩) dX8_item_15
