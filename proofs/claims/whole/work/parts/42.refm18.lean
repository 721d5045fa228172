theorem ok_best : rOk yX8_best cX8_best 2 (some .int) 1 := ⟨wc_X8_best, wi_X8_best, ws_X8_best, rfl, by decide, by decide, by decide +kernel⟩
set_option maxHeartbeats 4000000 in
set_option maxRecDepth 100000 in
theorem k_best (l : Launch) (g : RG) (z : RS) (xa9 : Int32) (S : Sc) (hz : rSc z S) (ho : oSc S) (htg : z.1 6 = nI 0) (hlt : ∃ U9, rLt z U9) (hmo : S.1 3 ≤ 400) : rMi g l yX8_best cX8_best 2 (some .int) 8 179 [.int xa9] z (fun r z' => r = an_best S xa9 ∧ rSc z' S ∧ (∃ U9, rLt z' U9) ∧ rFr [22, 23] [5, 17, 18, 19, 20, 21] z z') := by
  refine rMi_in (by decide) rfl (Nat.le_of_ble_eq_true rfl) ?_
  intro p e s m args below meth c A ls X hml hr hk hl w
  have hx := X.1
  have hb := X.2.1
  have hts := X.2.2.1
  have hown := X.2.2.2.1
  have hl : lv_has ls 2 [(0, .ref g.2.2.2.1), (1, .int xa9)] := hl
  obtain ⟨hz0, hz1, hz4, hm0, hm1, hm2, hso, hki, hsr, hpa, hhu, hco⟩ := id hz
  obtain ⟨o1, o2, o3, o4, o5, o6, oso, oki, osr, opa, ohu, oco⟩ := id ho
  refine lv_iload_n hx hb dX8_best_0 rfl (lv_at hl 1 rfl) ?_
  refine lv_i2l (v := xa9.toInt64) hx hb dX8_best_1 rfl ?_
  refine lv_lconst (v := 0) hx hb dX8_best_2 (by decide) ?_
  refine lv_lconst (v := 1) hx hb dX8_best_3 (by decide) ?_
  refine rc_s (rest := []) ⟨X.1, X.2.1, X.2.2.1, X.2.2.2.1⟩ hml hl.1 (k_in l xa9.toInt64 0 1) ok_in wm_X8_69 ⟨Nat.le_of_ble_eq_true rfl, Nat.le_of_ble_eq_true rfl⟩ ⟨Nat.le_refl _, Nat.le_refl _⟩ rfl (Nat.le_of_ble_eq_true rfl) dX8_best_4 (fun r_4 hr_4 => ?_)
  have h9 : r_4 = nI (pc_inI xa9.toInt (0) (1)) := by rw [hr_4]; exact congrArg nI (pc_in_I (in_toI _) (by decide) (by decide))
  subst h9
  have i_4 := pc_inI_ok xa9.toInt (0) (1)
  refine n_if_ne (tgt := 12) hx hb dX8_best_7 (by decide) (by omega) (fun c_7_1 => ?_) (fun c_7_1 => ?_)
  · skip
    refine lv_aload_n hx hb dX8_best_12 rfl (lv_at hl 0 rfl) ?_
    refine rc_p (rest := []) X hml hl.1 (k_isOff l g z S hz ho) ok_isOff wm_X8_241 ⟨Nat.le_of_ble_eq_true rfl, Nat.le_of_ble_eq_true rfl⟩ ⟨Nat.le_refl _, Nat.le_refl _⟩ w.1 rfl (Nat.le_of_ble_eq_true rfl) dX8_best_13 (fun r_13 hr_13 => ?_)
    have h9 : r_13 = nI (pc_off S) := hr_13
    subst h9
    have f_13 := pc_off_ok S
    refine n_if_eq (tgt := 22) hx hb dX8_best_16 (by decide) (by omega) (fun c_16_2 => ?_) (fun c_16_2 => ?_)
    · skip
      obtain ⟨ka9, hq_ka9, rfl⟩ := iv_n (x := xa9) (by omega)
      refine lv_aload_n hx hb dX8_best_22 rfl (lv_at hl 0 rfl) ?_
      refine rc_v (rest := []) X hml hl.1 (k_looks l g z S hz ho 0 htg (by omega) hlt (ov_0 (show sp_over S = 0 by omega)).2 (by omega) (show S.1 4 = 0 by omega)) ok_looks wm_X8_244 ⟨Nat.le_of_ble_eq_true rfl, Nat.le_of_ble_eq_true rfl⟩ ⟨Nat.le_refl _, Nat.le_refl _⟩ w rfl (Nat.le_of_ble_eq_true rfl) dX8_best_23 (fun z_23 H locs hr_23 w => ?_)
      have E_23 := lkI_e hr_23
      refine lv_iload_n hx hb dX8_best_26 rfl (lv_at hl 1 rfl) ?_
      refine n_if_ne (tgt := 37) hx hb dX8_best_27 (by decide) (by omega) (fun c_27_3 => ?_) (fun c_27_3 => ?_)
      · skip
        refine lv_aload_n hx hb dX8_best_37 rfl (lv_at hl 0 rfl) ?_
        refine rg_22 X w.1 dX8_best_38 ?_
        refine tp_i (show z_23.1 22 = (nI (sp_mo S 0)) from E_23.1) ?_
        exact re_i X hr hk w (⟨by unfold an_best; rw [if_pos (by omega), if_pos (by omega)]; first | (rw [if_pos (by omega)]; done) | (rw [if_neg (by omega)]; done), hr_23.1, hr_23.2.1, hr_23.2.2.2.2.2.2⟩) dX8_best_41
      · skip
        refine lv_aload_n hx hb dX8_best_30 rfl (lv_at hl 0 rfl) ?_
        refine rg_23 X w.1 dX8_best_31 ?_
        refine tp_i (show z_23.1 23 = (nI (sp_fs S 0)) from E_23.2) ?_
        refine lv_goto (tgt := 41) hx hb dX8_best_34 (by decide) ?_
        exact re_i X hr hk w (⟨by unfold an_best; rw [if_pos (by omega), if_pos (by omega)]; first | (rw [if_pos (by omega)]; done) | (rw [if_neg (by omega)]; done), hr_23.1, hr_23.2.1, hr_23.2.2.2.2.2.2⟩) dX8_best_41
    · skip
      refine lv_bipush (v := (iZ (-2))) hx hb dX8_best_19 (by decide) ?_
      exact re_i X hr hk w (⟨by unfold an_best; rw [if_pos (by omega), if_neg (by omega)], hz, hlt, rFr_rf _ _ _⟩) dX8_best_21
  · skip
    refine lv_iconst (v := (iZ (-1))) hx hb dX8_best_10 (by decide) ?_
    exact re_i X hr hk w (⟨by unfold an_best; rw [if_neg (by omega)], hz, hlt, rFr_rf _ _ _⟩) dX8_best_11

theorem ok_late : rOk yX8_late cX8_late 4 (some .int) 1 := ⟨wc_X8_late, wi_X8_late, ws_X8_late, rfl, by decide, by decide, by decide +kernel⟩
set_option maxHeartbeats 4000000 in
set_option maxRecDepth 100000 in
theorem k_late (l : Launch) (g : RG) (z : RS) (xa9 : Int32) (S : Sc) (hz : rSc z S) (ho : oSc S) (htg : z.1 6 = nI 0) (hlt : ∃ U9, rLt z U9) (hmo : S.1 3 ≤ 400) : rMi g l yX8_late cX8_late 4 (some .int) 8 179 [.int xa9] z (fun r z' => r = an_late S xa9 ∧ rSc z' S ∧ (∃ U9, rLt z' U9) ∧ rFr [22, 23] [5, 17, 18, 19, 20, 21] z z') := by
  refine rMi_in (by decide) rfl (Nat.le_of_ble_eq_true rfl) ?_
  intro p e s m args below meth c A ls X hml hr hk hl w
  have hx := X.1
  have hb := X.2.1
  have hts := X.2.2.1
  have hown := X.2.2.2.1
  have hl : lv_has ls 4 [(0, .ref g.2.2.2.1), (1, .int xa9)] := hl
  obtain ⟨hz0, hz1, hz4, hm0, hm1, hm2, hso, hki, hsr, hpa, hhu, hco⟩ := id hz
  obtain ⟨o1, o2, o3, o4, o5, o6, oso, oki, osr, opa, ohu, oco⟩ := id ho
  refine lv_iload_n hx hb dX8_late_0 rfl (lv_at hl 1 rfl) ?_
  refine lv_i2l (v := xa9.toInt64) hx hb dX8_late_1 rfl ?_
  refine lv_lconst (v := 0) hx hb dX8_late_2 (by decide) ?_
  refine lv_ldc2 hx hb hown (hts _ wk_X8_247) dX8_late_3 ?_
  refine rc_s (rest := []) ⟨X.1, X.2.1, X.2.2.1, X.2.2.2.1⟩ hml hl.1 (k_in l xa9.toInt64 0 1000000) ok_in wm_X8_69 ⟨Nat.le_of_ble_eq_true rfl, Nat.le_of_ble_eq_true rfl⟩ ⟨Nat.le_refl _, Nat.le_refl _⟩ rfl (Nat.le_of_ble_eq_true rfl) dX8_late_6 (fun r_6 hr_6 => ?_)
  have h9 : r_6 = nI (pc_inI xa9.toInt (0) (1000000)) := by rw [hr_6]; exact congrArg nI (pc_in_I (in_toI _) (by decide) (by decide))
  subst h9
  have i_6 := pc_inI_ok xa9.toInt (0) (1000000)
  refine n_if_ne (tgt := 14) hx hb dX8_late_9 (by decide) (by omega) (fun c_9_1 => ?_) (fun c_9_1 => ?_)
  · skip
    refine lv_aload_n hx hb dX8_late_14 rfl (lv_at hl 0 rfl) ?_
    refine rc_p (rest := []) X hml hl.1 (k_isOff l g z S hz ho) ok_isOff wm_X8_241 ⟨Nat.le_of_ble_eq_true rfl, Nat.le_of_ble_eq_true rfl⟩ ⟨Nat.le_refl _, Nat.le_refl _⟩ w.1 rfl (Nat.le_of_ble_eq_true rfl) dX8_late_15 (fun r_15 hr_15 => ?_)
    have h9 : r_15 = nI (pc_off S) := hr_15
    subst h9
    have f_15 := pc_off_ok S
    refine n_if_eq (tgt := 24) hx hb dX8_late_18 (by decide) (by omega) (fun c_18_2 => ?_) (fun c_18_2 => ?_)
    · skip
      obtain ⟨ka9, hq_ka9, rfl⟩ := iv_n (x := xa9) (by omega)
      refine lv_aload_n hx hb dX8_late_24 rfl (lv_at hl 0 rfl) ?_
      refine rc_v (rest := []) X hml hl.1 (k_looks l g z S hz ho 0 htg (by omega) hlt (ov_0 (show sp_over S = 0 by omega)).2 (by omega) (show S.1 4 = 0 by omega)) ok_looks wm_X8_244 ⟨Nat.le_of_ble_eq_true rfl, Nat.le_of_ble_eq_true rfl⟩ ⟨Nat.le_refl _, Nat.le_refl _⟩ w rfl (Nat.le_of_ble_eq_true rfl) dX8_late_25 (fun z_25 H locs hr_25 w => ?_)
      have E_25 := lkI_e hr_25
      refine lv_bipush (v := (iZ (-4))) hx hb dX8_late_28 (by decide) ?_
      refine lv_istore_n (lv' := [(2, .int (iZ (-4))), (0, .ref g.2.2.2.1), (1, .int (nI ka9))]) hx hb dX8_late_30 rfl hl (by decide) rfl (fun ls hl => ?_)
      refine lv_iconst (v := (nI 0)) hx hb dX8_late_31 (by decide) ?_
      refine lv_istore_n (lv' := [(3, .int (nI 0)), (2, .int (iZ (-4))), (0, .ref g.2.2.2.1), (1, .int (nI ka9))]) hx hb dX8_late_32 rfl hl (by decide) rfl (fun ls hl => ?_)
      have lp_33 : ∀ (n_33 : Nat) (i9a : Nat) (hi9a : i9a ≤ 61) (hm_33 : 61 - i9a < n_33) (ls : Array Slot), lv_has ls 4 [(0, .ref g.2.2.2.1), (1, .int (nI ka9)), (2, .int (pc_lf S (sp_lt S 0 ka9 i9a))), (3, .int (nI i9a))] → W p l e (ro_m 8 179) s m args below meth c H locs 0 0 (MQ below (va_Qi (fun r z' => r = an_late S (nI ka9) ∧ rSc z' S ∧ (∃ U9, rLt z' U9) ∧ rFr [22, 23] [5, 17, 18, 19, 20, 21] z z') (rB g A) A) args s 0 0 A) (F0 m 33 ls []) := by
        intro n_33
        induction n_33 with
        | zero => intro i9a hi9a hm; exact absurd hm (Nat.not_lt_zero _)
        | succ n_33 ih_33 =>
          intro i9a hi9a hm_33 ls hl
          have by9 := byv_le S 0 i9a
          refine lv_iload_n hx hb dX8_late_33 rfl (lv_at hl 3 rfl) ?_
          refine lv_bipush (v := (nI 61)) hx hb dX8_late_34 (by decide) ?_
          refine n_icmp_ge (tgt := 68) hx hb dX8_late_36 (by decide) (by omega) (by omega) (fun c_36_3 => ?_) (fun c_36_3 => ?_)
          · skip
            refine lv_iload_n hx hb dX8_late_68 rfl (lv_at hl 2 rfl) ?_
            exact re_i X hr hk w (by have e8 : i9a = 61 := (by omega); subst e8; exact ⟨by unfold an_late; rw [if_pos (by omega), if_pos (by omega), show (nI ka9).toInt.toNat = ka9 by omega], hr_25.1, hr_25.2.1, hr_25.2.2.2.2.2.2⟩) dX8_late_69
          · skip
            refine lv_aload_n hx hb dX8_late_39 rfl (lv_at hl 0 rfl) ?_
            refine rg_21 X w.1 dX8_late_40 ?_
            refine lv_iload_n hx hb dX8_late_43 rfl (lv_at hl 3 rfl) ?_
            refine rn_21 X w.1 (by omega) dX8_late_44 ?_
            refine tp_i (show z_25.2.1 21 i9a = (nI (sp_byv S 0 i9a)) from hr_25.2.2.2.2.2.1 i9a (by omega)) ?_
            refine lv_iload_n hx hb dX8_late_45 rfl (lv_at hl 1 rfl) ?_
            refine jn (tgt := 61) (rest := []) (fun v9 => v9 = (if (sp_byv S 0 i9a) < ka9 then ((pc_lf S (sp_lt S 0 ka9 i9a))) else ((nI ((S.1 3) + i9a))))) (fun x_61 ex_61 => ?_) (fun k_61 => ?_)
            · skip
              refine lv_istore_n (lv' := [(2, .int x_61), (0, .ref g.2.2.2.1), (1, .int (nI ka9)), (3, .int (nI i9a))]) hx hb dX8_late_61 rfl hl (by decide) rfl (fun ls hl => ?_)
              refine lv_iinc (v := (nI (i9a + 1))) (lv' := [(3, .int (nI (i9a + 1))), (2, .int x_61), (0, .ref g.2.2.2.1), (1, .int (nI ka9))]) hx hb dX8_late_62 hl (k := 3) rfl (by first | exact nI_1 _ | (rw [show Int32.ofInt 1 = nI 1 from by decide, nI_add])) (by decide) rfl (fun ls hl => ?_)
              refine lv_goto (tgt := 33) hx hb dX8_late_65 (by decide) ?_
              rw [show x_61 = pc_lf S (sp_lt S 0 ka9 (i9a + 1)) from lf_s ex_61] at hl
              exact ih_33 (i9a + 1) (by omega) (by omega) ls (lv_sub hl [2, 3, 1, 0] rfl)
            · skip
              refine n_icmp_lt (tgt := 60) hx hb dX8_late_46 (by decide) (by omega) (by omega) (fun c_46_5 => ?_) (fun c_46_5 => ?_)
              · skip
                refine lv_iload_n hx hb dX8_late_60 rfl (lv_at hl 2 rfl) ?_
                exact k_61 _ (by simp only [if_pos c_46_5])
              · skip
                refine lv_aload_n hx hb dX8_late_49 rfl (lv_at hl 0 rfl) ?_
                refine rg_5 X w.1 dX8_late_50 ?_
                refine lv_iconst (v := (nI 0)) hx hb dX8_late_53 (by decide) ?_
                refine rn_5 X w.1 (by omega) dX8_late_54 ?_
                refine tp_i (show z_25.2.1 5 0 = (nI (S.1 3)) from (rs_mo hr_25.1 :)) ?_
                refine lv_iload_n hx hb dX8_late_55 rfl (lv_at hl 3 rfl) ?_
                refine n_iadd hx hb dX8_late_56 ?_
                refine lv_goto (tgt := 61) hx hb dX8_late_57 (by decide) ?_
                exact k_61 _ (by simp only [if_neg c_46_5])
      exact lp_33 _ 0 (Nat.zero_le _) (Nat.lt_succ_self _) ls (lv_sub hl [2, 3, 1, 0] rfl)
    · skip
      refine lv_bipush (v := (iZ (-2))) hx hb dX8_late_21 (by decide) ?_
      exact re_i X hr hk w (⟨by unfold an_late; rw [if_pos (by omega), if_neg (by omega)], hz, hlt, rFr_rf _ _ _⟩) dX8_late_23
  · skip
    refine lv_iconst (v := (iZ (-1))) hx hb dX8_late_12 (by decide) ?_
    exact re_i X hr hk w (⟨by unfold an_late; rw [if_neg (by omega)], hz, hlt, rFr_rf _ _ _⟩) dX8_late_13

theorem ok_together : rOk yX8_together cX8_together 5 (some .int) 2 := ⟨wc_X8_together, wi_X8_together, ws_X8_together, rfl, by decide, by decide, by decide +kernel⟩
set_option maxHeartbeats 4000000 in
set_option maxRecDepth 100000 in
theorem k_together (l : Launch) (g : RG) (z : RS) (xa9 : Int32) (xb9 : Int32) (S : Sc) (hz : rSc z S) (ho : oSc S) (htg : z.1 6 = nI 0) (hlt : ∃ U9, rLt z U9) (hmo : S.1 3 ≤ 400) : rMi g l yX8_together cX8_together 5 (some .int) 8 179 [.int xa9, .int xb9] z (fun r z' => r = an_tog S xa9 xb9 ∧ rSc z' S ∧ (∃ U9, rLt z' U9) ∧ z'.1 6 = nI 0 ∧ rFr [6, 22, 23] [5, 17, 18, 19, 20, 21] z z') := by
  refine rMi_in (by decide) rfl (Nat.le_of_ble_eq_true rfl) ?_
  intro p e s m args below meth c A ls X hml hr hk hl w
  have hx := X.1
  have hb := X.2.1
  have hts := X.2.2.1
  have hown := X.2.2.2.1
  have hl : lv_has ls 5 [(0, .ref g.2.2.2.1), (1, .int xa9), (2, .int xb9)] := hl
  obtain ⟨hz0, hz1, hz4, hm0, hm1, hm2, hso, hki, hsr, hpa, hhu, hco⟩ := id hz
  obtain ⟨o1, o2, o3, o4, o5, o6, oso, oki, osr, opa, ohu, oco⟩ := id ho
  refine lv_iload_n hx hb dX8_together_0 rfl (lv_at hl 1 rfl) ?_
  refine lv_i2l (v := xa9.toInt64) hx hb dX8_together_1 rfl ?_
  refine lv_lconst (v := 0) hx hb dX8_together_2 (by decide) ?_
  refine lv_ldc2 hx hb hown (hts _ wk_X8_134) dX8_together_3 ?_
  refine rc_s (rest := []) ⟨X.1, X.2.1, X.2.2.1, X.2.2.2.1⟩ hml hl.1 (k_in l xa9.toInt64 0 400) ok_in wm_X8_69 ⟨Nat.le_of_ble_eq_true rfl, Nat.le_of_ble_eq_true rfl⟩ ⟨Nat.le_refl _, Nat.le_refl _⟩ rfl (Nat.le_of_ble_eq_true rfl) dX8_together_6 (fun r_6 hr_6 => ?_)
  have h9 : r_6 = nI (pc_inI xa9.toInt (0) (400)) := by rw [hr_6]; exact congrArg nI (pc_in_I (in_toI _) (by decide) (by decide))
  subst h9
  have i_6 := pc_inI_ok xa9.toInt (0) (400)
  refine n_if_eq (tgt := 24) hx hb dX8_together_9 (by decide) (by omega) (fun c_9_1 => ?_) (fun c_9_1 => ?_)
  · skip
    refine lv_iconst (v := (iZ (-1))) hx hb dX8_together_24 (by decide) ?_
    exact re_i X hr hk w (⟨by unfold an_tog; rw [if_neg (by omega)], hz, hlt, htg, rFr_rf _ _ _⟩) dX8_together_25
  · skip
    refine lv_iload_n hx hb dX8_together_12 rfl (lv_at hl 2 rfl) ?_
    refine lv_i2l (v := xb9.toInt64) hx hb dX8_together_13 rfl ?_
    refine lv_lconst (v := 0) hx hb dX8_together_14 (by decide) ?_
    refine lv_ldc2 hx hb hown (hts _ wk_X8_249) dX8_together_15 ?_
    refine rc_s (rest := []) ⟨X.1, X.2.1, X.2.2.1, X.2.2.2.1⟩ hml hl.1 (k_in l xb9.toInt64 0 2) ok_in wm_X8_69 ⟨Nat.le_of_ble_eq_true rfl, Nat.le_of_ble_eq_true rfl⟩ ⟨Nat.le_refl _, Nat.le_refl _⟩ rfl (Nat.le_of_ble_eq_true rfl) dX8_together_18 (fun r_18 hr_18 => ?_)
    have h9 : r_18 = nI (pc_inI xb9.toInt (0) (2)) := by rw [hr_18]; exact congrArg nI (pc_in_I (in_toI _) (by decide) (by decide))
    subst h9
    have i_18 := pc_inI_ok xb9.toInt (0) (2)
    refine n_if_ne (tgt := 26) hx hb dX8_together_21 (by decide) (by omega) (fun c_21_2 => ?_) (fun c_21_2 => ?_)
    · skip
      refine lv_aload_n hx hb dX8_together_26 rfl (lv_at hl 0 rfl) ?_
      refine rc_p (rest := []) X hml hl.1 (k_isOff l g z S hz ho) ok_isOff wm_X8_241 ⟨Nat.le_of_ble_eq_true rfl, Nat.le_of_ble_eq_true rfl⟩ ⟨Nat.le_refl _, Nat.le_refl _⟩ w.1 rfl (Nat.le_of_ble_eq_true rfl) dX8_together_27 (fun r_27 hr_27 => ?_)
      have h9 : r_27 = nI (pc_off S) := hr_27
      subst h9
      have f_27 := pc_off_ok S
      refine n_if_eq (tgt := 36) hx hb dX8_together_30 (by decide) (by omega) (fun c_30_3 => ?_) (fun c_30_3 => ?_)
      · skip
        obtain ⟨ka9, hq_ka9, rfl⟩ := iv_n (x := xa9) (by omega)
        obtain ⟨kb9, hq_kb9, rfl⟩ := iv_n (x := xb9) (by omega)
        have m09 := sp_mo_le S 0
        have m19 := sp_mo_le S 1
        refine lv_aload_n hx hb dX8_together_36 rfl (lv_at hl 0 rfl) ?_
        refine rc_v (rest := []) X hml hl.1 (k_looks l g z S hz ho 0 htg (by omega) hlt (ov_0 (show sp_over S = 0 by omega)).2 (by omega) (show S.1 4 = 0 by omega)) ok_looks wm_X8_244 ⟨Nat.le_of_ble_eq_true rfl, Nat.le_of_ble_eq_true rfl⟩ ⟨Nat.le_refl _, Nat.le_refl _⟩ w rfl (Nat.le_of_ble_eq_true rfl) dX8_together_37 (fun z_37 H locs hr_37 w => ?_)
        have E_37 := lkI_e hr_37
        refine lv_aload_n hx hb dX8_together_40 rfl (lv_at hl 0 rfl) ?_
        refine rg_22 X w.1 dX8_together_41 ?_
        refine tp_i (show z_37.1 22 = (nI (sp_mo S 0)) from E_37.1) ?_
        refine lv_istore_n (lv' := [(3, .int (nI (sp_mo S 0))), (0, .ref g.2.2.2.1), (1, .int (nI ka9)), (2, .int (nI kb9))]) hx hb dX8_together_44 rfl hl (by decide) rfl (fun ls hl => ?_)
        refine lv_aload_n hx hb dX8_together_45 rfl (lv_at hl 1 rfl) ?_
        refine lv_iconst (v := (nI 1)) hx hb dX8_together_46 (by decide) ?_
        refine rp_6 X w (by first | exact Or.inl rfl | exact Or.inr rfl) dX8_together_47 (fun z_47 H locs ez_47 w => ?_)
        obtain ⟨U9, hU9⟩ := hr_37.2.1
        have h47 : rSc z_47 S := by rw [ez_47]; exact rSc_fr (is := [6]) (ks := []) (rFr_I _ (by decide)) (by decide) (by decide) (by decide) (by decide) (by decide) (by decide) hr_37.1
        have g47 : z_47.1 6 = nI 1 := by first | (rw [ez_47]; done) | (rw [ez_47]; rfl)
        have f47 : rFr [6, 22, 23] [5, 17, 18, 19, 20, 21] z z_47 := by rw [ez_47]; exact rFr_tr (rFr_w hr_37.2.2.2.2.2.2 (by simp) (by simp)) (rFr_I _ (by decide))
        have hU9 : rLt z_47 U9 := by rw [ez_47]; exact hU9
        refine lv_iload_n hx hb dX8_together_50 rfl (lv_at hl 3 rfl) ?_
        refine n_if_ne (tgt := 62) hx hb dX8_together_51 (by decide) (by omega) (fun c_51_4 => ?_) (fun c_51_4 => ?_)
        · skip
          refine lv_iconst (v := (nI 0)) hx hb dX8_together_62 (by decide) ?_
          refine lv_istore (lv' := [(4, .int (nI 0)), (3, .int (nI (sp_mo S 0))), (0, .ref g.2.2.2.1), (1, .int (nI ka9)), (2, .int (nI kb9))]) hx hb dX8_together_63 hl (by decide) rfl (fun ls hl => ?_)
          refine lv_iload_n hx hb dX8_together_65 rfl (lv_at hl 4 rfl) ?_
          refine n_if_le (tgt := 100) hx hb dX8_together_66 (by decide) (by omega) (fun c_66_5 => ?_) (fun c_66_5 => ?_)
          · skip
            exfalso; omega
          · skip
            refine lv_aload_n hx hb dX8_together_69 rfl (lv_at hl 2 rfl) ?_
            refine rc_v (rest := []) X hml hl.1 (k_looks l g z_47 S h47 ho 1 g47 (by omega) ⟨U9, hU9⟩ (ov_0 (show sp_over S = 0 by omega)).2 (by omega) (show S.1 4 = 0 by omega)) ok_looks wm_X8_244 ⟨Nat.le_of_ble_eq_true rfl, Nat.le_of_ble_eq_true rfl⟩ ⟨Nat.le_refl _, Nat.le_refl _⟩ w rfl (Nat.le_of_ble_eq_true rfl) dX8_together_70 (fun z_70 H locs hr_70 w => ?_)
            have E_70 := lkI_e hr_70
            have G_70 := rFr_tr f47 (rFr_w (is' := [6, 22, 23]) (ks' := [5, 17, 18, 19, 20, 21]) hr_70.2.2.2.2.2.2 (by simp) (by simp))
            have K_70 := And.intro hr_70.1 hr_70.2.1
            refine lv_iload_n hx hb dX8_together_73 rfl (lv_at hl 4 rfl) ?_
            refine lv_iconst (v := (nI 1)) hx hb dX8_together_74 (by decide) ?_
            refine jn (tgt := 98) (rest := []) (fun v9 => ∃ x9 : Nat, x9 = (if kb9 = 1 then (sp_mo S 1) else (if (sp_mo S 0) ≤ (sp_mo S 1) then 0 else 1)) ∧ v9 = nI x9) (fun v_ hv_ => ?_) (fun k_98 => ?_)
            · obtain ⟨x_98, ex_98, rfl⟩ := hv_
              refine lv_istore (lv' := [(4, .int (nI x_98)), (3, .int (nI (sp_mo S 0))), (0, .ref g.2.2.2.1), (1, .int (nI ka9)), (2, .int (nI kb9))]) hx hb dX8_together_98 hl (by decide) rfl (fun ls hl => ?_)
              refine lv_aload_n hx hb dX8_together_100 rfl (lv_at hl 2 rfl) ?_
              refine lv_iconst (v := (nI 0)) hx hb dX8_together_101 (by decide) ?_
              refine rp_6 X w (by first | exact Or.inl rfl | exact Or.inr rfl) dX8_together_102 (fun z_102 H locs ez_102 w => ?_)
              refine lv_iload hx hb dX8_together_105 (lv_at hl 0 rfl) ?_
              exact re_i X hr hk w (⟨by unfold an_tog; rw [if_pos (by omega), if_pos (by omega)]; rw [if_neg (by omega), ex_98]; by_cases q9 : kb9 = 1; rw [if_pos q9, if_pos (show (nI kb9).toInt = 1 by omega)]; rw [if_neg q9, if_neg (show ¬ (nI kb9).toInt = 1 by omega)], by rw [ez_102]; exact rSc_fr (is := [6]) (ks := []) (rFr_I _ (by decide)) (by decide) (by decide) (by decide) (by decide) (by decide) (by decide) K_70.1, by rw [ez_102]; exact K_70.2, by first | (rw [ez_102]; done) | (rw [ez_102]; rfl), by rw [ez_102]; exact rFr_tr G_70 (rFr_I _ (by decide))⟩) dX8_together_107
            · skip
              refine n_icmp_ne (tgt := 85) hx hb dX8_together_75 (by decide) (by omega) (by omega) (fun c_75_7 => ?_) (fun c_75_7 => ?_)
              · skip
                refine lv_aload_n hx hb dX8_together_85 rfl (lv_at hl 2 rfl) ?_
                refine rg_22 X w.1 dX8_together_86 ?_
                refine tp_i (show z_70.1 22 = (nI (sp_mo S 1)) from E_70.1) ?_
                refine lv_iload_n hx hb dX8_together_89 rfl (lv_at hl 1 rfl) ?_
                refine n_icmp_ge (tgt := 97) hx hb dX8_together_90 (by decide) (by omega) (by omega) (fun c_90_8 => ?_) (fun c_90_8 => ?_)
                · skip
                  refine lv_iconst (v := (nI 0)) hx hb dX8_together_97 (by decide) ?_
                  exact k_98 _ ⟨_, by simp only [if_neg c_75_7, if_pos c_90_8], rfl⟩
                · skip
                  refine lv_iconst (v := (nI 1)) hx hb dX8_together_93 (by decide) ?_
                  refine lv_goto (tgt := 98) hx hb dX8_together_94 (by decide) ?_
                  exact k_98 _ ⟨_, by simp only [if_neg c_75_7, if_neg c_90_8], rfl⟩
              · skip
                refine lv_aload_n hx hb dX8_together_78 rfl (lv_at hl 2 rfl) ?_
                refine rg_22 X w.1 dX8_together_79 ?_
                refine tp_i (show z_70.1 22 = (nI (sp_mo S 1)) from E_70.1) ?_
                refine lv_goto (tgt := 98) hx hb dX8_together_82 (by decide) ?_
                exact k_98 _ ⟨_, by simp only [if_pos c_75_7], rfl⟩
        · skip
          refine lv_aload_n hx hb dX8_together_54 rfl (lv_at hl 1 rfl) ?_
          refine lv_iload_n hx hb dX8_together_55 rfl (lv_at hl 2 rfl) ?_
          refine rc_i (rest := []) X hml hl.1 (k_chanceOf l g z_47 ka9 S h47 ho 1 g47 (by omega) U9 hU9 (ov_0 (show sp_over S = 0 by omega)).2 (by omega) (by omega)) ok_chanceOf wm_X8_220 ⟨Nat.le_of_ble_eq_true rfl, Nat.le_of_ble_eq_true rfl⟩ ⟨Nat.le_refl _, Nat.le_refl _⟩ w rfl (Nat.le_of_ble_eq_true rfl) dX8_together_56 (fun r_56 z_56 H locs hr_56 w => ?_)
          obtain ⟨h9, hr_56⟩ := hr_56
          subst h9
          have G_56 := rFr_tr f47 (rFr_w (is' := [6, 22, 23]) (ks' := [5, 17, 18, 19, 20, 21]) hr_56.2.2 (by simp) (by simp))
          have K_56 := And.intro hr_56.1 hr_56.2.1
          refine lv_goto (tgt := 63) hx hb dX8_together_59 (by decide) ?_
          refine lv_istore (lv' := [(4, .int (nI (sp_c (sp_rch S 1 ka9)))), (3, .int (nI (sp_mo S 0))), (0, .ref g.2.2.2.1), (1, .int (nI ka9)), (2, .int (nI kb9))]) hx hb dX8_together_63 hl (by decide) rfl (fun ls hl => ?_)
          refine lv_iload_n hx hb dX8_together_65 rfl (lv_at hl 4 rfl) ?_
          refine n_if_le (tgt := 100) hx hb dX8_together_66 (by decide) (by omega) (fun c_66_9 => ?_) (fun c_66_9 => ?_)
          · skip
            refine lv_aload_n hx hb dX8_together_100 rfl (lv_at hl 2 rfl) ?_
            refine lv_iconst (v := (nI 0)) hx hb dX8_together_101 (by decide) ?_
            refine rp_6 X w (by first | exact Or.inl rfl | exact Or.inr rfl) dX8_together_102 (fun z_102 H locs ez_102 w => ?_)
            refine lv_iload hx hb dX8_together_105 (lv_at hl 0 rfl) ?_
            exact re_i X hr hk w (⟨by unfold an_tog; rw [if_pos (by omega), if_pos (by omega)]; rw [if_pos (by omega), show (nI ka9).toInt.toNat = ka9 by omega], by rw [ez_102]; exact rSc_fr (is := [6]) (ks := []) (rFr_I _ (by decide)) (by decide) (by decide) (by decide) (by decide) (by decide) (by decide) K_56.1, by rw [ez_102]; exact K_56.2, by first | (rw [ez_102]; done) | (rw [ez_102]; rfl), by rw [ez_102]; exact rFr_tr G_56 (rFr_I _ (by decide))⟩) dX8_together_107
          · skip
            exfalso; omega
      · skip
        refine lv_bipush (v := (iZ (-2))) hx hb dX8_together_33 (by decide) ?_
        exact re_i X hr hk w (⟨by unfold an_tog; rw [if_pos (by omega), if_neg (by omega)], hz, hlt, htg, rFr_rf _ _ _⟩) dX8_together_35
    · skip
      refine lv_iconst (v := (iZ (-1))) hx hb dX8_together_24 (by decide) ?_
      exact re_i X hr hk w (⟨by unfold an_tog; rw [if_neg (by omega)], hz, hlt, htg, rFr_rf _ _ _⟩) dX8_together_25
