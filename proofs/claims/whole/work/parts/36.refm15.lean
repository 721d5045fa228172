theorem ok_chanceOf : rOk yX8_chanceOf cX8_chanceOf 3 (some .int) 1 := ⟨wc_X8_chanceOf, wi_X8_chanceOf, ws_X8_chanceOf, rfl, by decide, by decide, by decide +kernel⟩
set_option maxHeartbeats 4000000 in
set_option maxRecDepth 100000 in
theorem k_chanceOf (l : Launch) (g : RG) (z : RS) (t9 : Nat) (S : Sc) (hz : rSc z S) (ho : oSc S) (tg : Nat) (htg : z.1 6 = nI tg) (hg1 : tg ≤ 1) (V9 : Nat → Nat) (hlt : rLt z V9) (h0 : pc_dn S 0 = 0) (ht9 : t9 ≤ 10000) (hmo : S.1 3 ≤ 10000) : rMi g l yX8_chanceOf cX8_chanceOf 3 (some .int) 7 155 [.int (nI t9)] z (fun r z' => r = nI (sp_c (sp_rch S tg t9)) ∧ rSc z' S ∧ (∃ U9, rLt z' U9) ∧ rFr [] [5, 17, 18, 19, 20] z z') := by
  refine rMi_in (by decide) rfl (Nat.le_of_ble_eq_true rfl) ?_
  intro p e s m args below meth c A ls X hml hr hk hl w
  have hx := X.1
  have hb := X.2.1
  have hts := X.2.2.1
  have hown := X.2.2.2.1
  have hl : lv_has ls 3 [(0, .ref g.2.2.2.1), (1, .int (nI t9))] := hl
  refine lv_aload_n hx hb dX8_chanceOf_0 rfl (lv_at hl 0 rfl) ?_
  refine rc_v (rest := []) X hml hl.1 (k_asides l g z) ok_asides wm_X8_223 ⟨Nat.le_of_ble_eq_true rfl, Nat.le_of_ble_eq_true rfl⟩ ⟨Nat.le_refl _, Nat.le_refl _⟩ w rfl (Nat.le_of_ble_eq_true rfl) dX8_chanceOf_1 (fun z_1 H locs hr_1 w => ?_)
  have hz_1 : rSc z_1 S := rSc_fr hr_1.2 (by decide) (by decide) (by decide) (by decide) (by decide) (by decide) hz
  have lz_1 : rLt z_1 V9 := ⟨fun j hj => (congrFun (hr_1.2.2.1 19 (by decide)) _).trans (hlt.1 j hj), hlt.2⟩
  have fz_1 := rFr_w (is' := []) (ks' := [5, 17, 18, 19, 20]) hr_1.2 (by simp) (by simp)
  refine lv_aload_n hx hb dX8_chanceOf_4 rfl (lv_at hl 0 rfl) ?_
  refine lv_iload_n hx hb dX8_chanceOf_5 rfl (lv_at hl 1 rfl) ?_
  refine rc_i (rest := []) X hml hl.1 (k_lkBy l g z_1 t9 S hz_1 ho tg ((hr_1.2.1 6 (by decide)).trans htg) hg1 V9 lz_1 h0 ht9 hmo) ok_likelyBy wm_X8_226 ⟨Nat.le_of_ble_eq_true rfl, Nat.le_of_ble_eq_true rfl⟩ ⟨Nat.le_refl _, Nat.le_refl _⟩ w rfl (Nat.le_of_ble_eq_true rfl) dX8_chanceOf_6 (fun r_6 z_6 H locs hr_6 w => ?_)
  have fz_6 := rFr_w (is' := []) (ks' := [5, 17, 18, 19, 20]) hr_6.2.2.2 (by simp) (by simp)
  refine lv_istore_n (lv' := [(2, .int r_6), (0, .ref g.2.2.2.1), (1, .int (nI t9))]) hx hb dX8_chanceOf_9 rfl hl (by decide) rfl (fun ls hl => ?_)
  refine lv_aload_n hx hb dX8_chanceOf_10 rfl (lv_at hl 1 rfl) ?_
  refine rc_v (rest := []) X hml hl.1 (k_backs l g z_6) ok_backs wm_X8_229 ⟨Nat.le_of_ble_eq_true rfl, Nat.le_of_ble_eq_true rfl⟩ ⟨Nat.le_refl _, Nat.le_refl _⟩ w rfl (Nat.le_of_ble_eq_true rfl) dX8_chanceOf_11 (fun z_11 H locs hr_11 w => ?_)
  have fz_11 := rFr_w (is' := []) (ks' := [5, 17, 18, 19, 20]) hr_11.2 (by simp) (by simp)
  have fz_a := rFr_tr (rFr_tr fz_1 fz_6) fz_11
  obtain ⟨U9, hU9⟩ := hr_6.2.2.1
  refine lv_iload_n hx hb dX8_chanceOf_14 rfl (lv_at hl 0 rfl) ?_
  exact re_i X hr hk w (⟨hr_6.1, rSc_back hz fz_a (by decide) (by decide) (by decide) (by decide) (by decide) (fun k hk => (hr_11.1 k hk).trans ((congrFun (hr_6.2.2.2.2.1 17 (by decide)) k).trans (hr_1.1 k hk))), ⟨U9, fun j hj => (congrFun (hr_11.2.2.1 19 (by decide)) _).trans (hU9.1 j hj), hU9.2⟩, fz_a⟩) dX8_chanceOf_15

theorem ok_chance : rOk yX8_chance cX8_chance 2 (some .int) 1 := ⟨wc_X8_chance, wi_X8_chance, ws_X8_chance, rfl, by decide, by decide, by decide +kernel⟩
set_option maxHeartbeats 4000000 in
set_option maxRecDepth 100000 in
theorem k_chance (l : Launch) (g : RG) (z : RS) (xa9 : Int32) (S : Sc) (hz : rSc z S) (ho : oSc S) (htg : z.1 6 = nI 0) (V9 : Nat → Nat) (hlt : rLt z V9) (hmo : S.1 3 ≤ 10000) : rMi g l yX8_chance cX8_chance 2 (some .int) 8 177 [.int xa9] z (fun r z' => r = an_chance S xa9 ∧ rSc z' S ∧ (∃ U9, rLt z' U9) ∧ rFr [] [5, 17, 18, 19, 20] z z') := by
  refine rMi_in (by decide) rfl (Nat.le_of_ble_eq_true rfl) ?_
  intro p e s m args below meth c A ls X hml hr hk hl w
  have hx := X.1
  have hb := X.2.1
  have hts := X.2.2.1
  have hown := X.2.2.2.1
  have hl : lv_has ls 2 [(0, .ref g.2.2.2.1), (1, .int xa9)] := hl
  obtain ⟨hz0, hz1, hz4, hm0, hm1, hm2, hso, hki, hsr, hpa, hhu, hco⟩ := id hz
  obtain ⟨o1, o2, o3, o4, o5, o6, oso, oki, osr, opa, ohu, oco⟩ := id ho
  refine lv_iload_n hx hb dX8_chance_0 rfl (lv_at hl 1 rfl) ?_
  refine lv_i2l (v := xa9.toInt64) hx hb dX8_chance_1 rfl ?_
  refine lv_lconst (v := 0) hx hb dX8_chance_2 (by decide) ?_
  refine lv_ldc2 hx hb hown (hts _ wk_X8_134) dX8_chance_3 ?_
  refine rc_s (rest := []) ⟨X.1, X.2.1, X.2.2.1, X.2.2.2.1⟩ hml hl.1 (k_in l xa9.toInt64 0 400) ok_in wm_X8_69 ⟨Nat.le_of_ble_eq_true rfl, Nat.le_of_ble_eq_true rfl⟩ ⟨Nat.le_refl _, Nat.le_refl _⟩ rfl (Nat.le_of_ble_eq_true rfl) dX8_chance_6 (fun r_6 hr_6 => ?_)
  have h9 : r_6 = nI (pc_inI xa9.toInt (0) (400)) := by rw [hr_6]; exact congrArg nI (pc_in_I (in_toI _) (by decide) (by decide))
  subst h9
  have i_6 := pc_inI_ok xa9.toInt (0) (400)
  refine n_if_ne (tgt := 14) hx hb dX8_chance_9 (by decide) (by omega) (fun c_9_1 => ?_) (fun c_9_1 => ?_)
  · skip
    refine lv_aload_n hx hb dX8_chance_14 rfl (lv_at hl 0 rfl) ?_
    refine rc_p (rest := []) X hml hl.1 (k_over l g z S hz ho) ok_over wm_X8_174 ⟨Nat.le_of_ble_eq_true rfl, Nat.le_of_ble_eq_true rfl⟩ ⟨Nat.le_refl _, Nat.le_refl _⟩ w.1 rfl (Nat.le_of_ble_eq_true rfl) dX8_chance_15 (fun r_15 hr_15 => ?_)
    subst hr_15
    have d_15 := sp_over_le S
    refine n_if_eq (tgt := 26) hx hb dX8_chance_18 (by decide) (by omega) (fun c_18_2 => ?_) (fun c_18_2 => ?_)
    · skip
      obtain ⟨ka9, hq_ka9, rfl⟩ := iv_n (x := xa9) (by omega)
      have hv9 := ov_0 (show sp_over S = 0 by omega)
      refine lv_aload_n hx hb dX8_chance_26 rfl (lv_at hl 0 rfl) ?_
      refine lv_iload_n hx hb dX8_chance_27 rfl (lv_at hl 1 rfl) ?_
      refine rc_i (rest := []) X hml hl.1 (k_chanceOf l g z ka9 S hz ho 0 htg (by omega) V9 hlt hv9.2 (by omega) hmo) ok_chanceOf wm_X8_220 ⟨Nat.le_of_ble_eq_true rfl, Nat.le_of_ble_eq_true rfl⟩ ⟨Nat.le_refl _, Nat.le_refl _⟩ w rfl (Nat.le_of_ble_eq_true rfl) dX8_chance_28 (fun r_28 z_28 H locs hr_28 w => ?_)
      skip
      exact re_i X hr hk w (⟨by rw [hr_28.1]; unfold an_chance; rw [if_pos (by omega), if_pos (by omega), show (nI ka9).toInt.toNat = ka9 by omega], hr_28.2⟩) dX8_chance_31
    · skip
      refine lv_bipush (v := (iZ (-2))) hx hb dX8_chance_21 (by decide) ?_
      refine lv_goto (tgt := 31) hx hb dX8_chance_23 (by decide) ?_
      exact re_i X hr hk w (⟨by unfold an_chance; rw [if_pos (by omega), if_neg (by omega)], hz, ⟨V9, hlt⟩, rFr_rf _ _ _⟩) dX8_chance_31
  · skip
    refine lv_iconst (v := (iZ (-1))) hx hb dX8_chance_12 (by decide) ?_
    exact re_i X hr hk w (⟨by unfold an_chance; rw [if_neg (by omega)], hz, ⟨V9, hlt⟩, rFr_rf _ _ _⟩) dX8_chance_13
