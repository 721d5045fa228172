theorem ok_ditched : rOk yX8_ditched cX8_ditched 4 (some .int) 0 := ⟨wc_X8_ditched, wi_X8_ditched, ws_X8_ditched, rfl, by decide, by decide, by decide +kernel⟩
set_option maxHeartbeats 4000000 in
set_option maxRecDepth 100000 in
theorem k_ditched (l : Launch) (g : RG) (z : RS)  (S : Sc) (hz : rSc z S) (ho : oSc S) (htg : z.1 6 = nI 0) (hlt : ∃ U9, rLt z U9) (hmo : S.1 3 ≤ 400) : rMi g l yX8_ditched cX8_ditched 4 (some .int) 8 179 [] z (fun r z' => r = an_dit S ∧ rSc z' S ∧ (∃ U9, rLt z' U9) ∧ rFr [22, 23] [2, 5, 17, 18, 19, 20, 21] z z') := by
  refine rMi_in (by decide) rfl (Nat.le_of_ble_eq_true rfl) ?_
  intro p e s m args below meth c A ls X hml hr hk hl w
  have hx := X.1
  have hb := X.2.1
  have hts := X.2.2.1
  have hown := X.2.2.2.1
  have hl : lv_has ls 4 [(0, .ref g.2.2.2.1)] := hl
  obtain ⟨hz0, hz1, hz4, hm0, hm1, hm2, hso, hki, hsr, hpa, hhu, hco⟩ := id hz
  obtain ⟨o1, o2, o3, o4, o5, o6, oso, oki, osr, opa, ohu, oco⟩ := id ho
  refine lv_aload_n hx hb dX8_ditched_0 rfl (lv_at hl 0 rfl) ?_
  refine rc_p (rest := []) X hml hl.1 (k_isOff l g z S hz ho) ok_isOff wm_X8_241 ⟨Nat.le_of_ble_eq_true rfl, Nat.le_of_ble_eq_true rfl⟩ ⟨Nat.le_refl _, Nat.le_refl _⟩ w.1 rfl (Nat.le_of_ble_eq_true rfl) dX8_ditched_1 (fun r_1 hr_1 => ?_)
  have h9 : r_1 = nI (pc_off S) := hr_1
  subst h9
  have f_1 := pc_off_ok S
  refine n_if_eq (tgt := 10) hx hb dX8_ditched_4 (by decide) (by omega) (fun c_4_1 => ?_) (fun c_4_1 => ?_)
  · skip
    refine lv_aload_n hx hb dX8_ditched_10 rfl (lv_at hl 0 rfl) ?_
    refine rc_v (rest := []) X hml hl.1 (k_looks l g z S hz ho 0 htg (by omega) hlt (ov_0 (show sp_over S = 0 by omega)).2 (by omega) (show S.1 4 = 0 by omega)) ok_looks wm_X8_244 ⟨Nat.le_of_ble_eq_true rfl, Nat.le_of_ble_eq_true rfl⟩ ⟨Nat.le_refl _, Nat.le_refl _⟩ w rfl (Nat.le_of_ble_eq_true rfl) dX8_ditched_11 (fun z_11 H locs hr_11 w => ?_)
    have E_11 := lkI_e hr_11
    refine lv_aload_n hx hb dX8_ditched_14 rfl (lv_at hl 0 rfl) ?_
    refine rg_22 X w.1 dX8_ditched_15 ?_
    refine tp_i (show z_11.1 22 = (nI (sp_mo S 0)) from E_11.1) ?_
    refine lv_istore_n (lv' := [(1, .int (nI (sp_mo S 0))), (0, .ref g.2.2.2.1)]) hx hb dX8_ditched_18 rfl hl (by decide) rfl (fun ls hl => ?_)
    refine lv_bipush (v := (iZ (-4))) hx hb dX8_ditched_19 (by decide) ?_
    refine lv_istore_n (lv' := [(2, .int (iZ (-4))), (1, .int (nI (sp_mo S 0))), (0, .ref g.2.2.2.1)]) hx hb dX8_ditched_21 rfl hl (by decide) rfl (fun ls hl => ?_)
    refine lv_iconst (v := (nI 1)) hx hb dX8_ditched_22 (by decide) ?_
    refine lv_istore_n (lv' := [(3, .int (nI 1)), (2, .int (iZ (-4))), (1, .int (nI (sp_mo S 0))), (0, .ref g.2.2.2.1)]) hx hb dX8_ditched_23 rfl hl (by decide) rfl (fun ls hl => ?_)
    have lp_24 : ∀ (n_24 : Nat) (i9a : Nat) (hi9a : i9a + 1 ≤ S.1 0) (hm_24 : S.1 0 - i9a < n_24) (ls : Array Slot) (zz : RS) (H : Heap) (locs : List Loc) (w : rW g A s zz H locs) (hS : rSc zz S) (hl9 : ∃ U9, rLt zz U9) (hfz : rFr [22, 23] [2, 5, 17, 18, 19, 20, 21] z zz), lv_has ls 4 [(0, .ref g.2.2.2.1), (1, .int (nI ((sp_dt S i9a).1))), (2, .int (pc_fd (sp_dt S i9a).2)), (3, .int (nI (i9a + 1)))] → W p l e (ro_m 8 179) s m args below meth c H locs 0 0 (MQ below (va_Qi (fun r z' => r = an_dit S ∧ rSc z' S ∧ (∃ U9, rLt z' U9) ∧ rFr [22, 23] [2, 5, 17, 18, 19, 20, 21] z z') (rB g A) A) args s 0 0 A) (F0 m 24 ls []) := by
      intro n_24
      induction n_24 with
      | zero => intro i9a hi9a hm; exact absurd hm (Nat.not_lt_zero _)
      | succ n_24 ih_24 =>
        intro i9a hi9a hm_24 ls zz H locs w hS hl9 hfz hl
        have dt9 := dt_le S i9a
        have ms9 := sp_mo_le (sR S 0 (i9a + 1) 2) 0
        have so9 := oso (i9a + 1)
        refine lv_iload_n hx hb dX8_ditched_24 rfl (lv_at hl 3 rfl) ?_
        refine lv_aload_n hx hb dX8_ditched_25 rfl (lv_at hl 0 rfl) ?_
        refine rg_0 X w.1 dX8_ditched_26 ?_
        refine tp_i (show zz.1 0 = (nI (S.1 0)) from (rs_ce hS :)) ?_
        refine n_icmp_ge (tgt := 96) hx hb dX8_ditched_29 (by decide) (by omega) (by omega) (fun c_29_2 => ?_) (fun c_29_2 => ?_)
        · skip
          refine lv_iload_n hx hb dX8_ditched_96 rfl (lv_at hl 2 rfl) ?_
          exact re_i X hr hk w (⟨by unfold an_dit; rw [if_pos (by omega), show S.1 0 - 1 = i9a by omega], hS, hl9, hfz⟩) dX8_ditched_97
        · skip
          refine lv_aload_n hx hb dX8_ditched_32 rfl (lv_at hl 0 rfl) ?_
          refine rg_2 X w.1 dX8_ditched_33 ?_
          refine lv_iload_n hx hb dX8_ditched_36 rfl (lv_at hl 3 rfl) ?_
          refine rn_2 X w.1 (by omega) dX8_ditched_37 ?_
          refine tp_i (show zz.2.1 2 (i9a + 1) = (nI (S.2.1 0 (i9a + 1))) from (rs_so hS (i9a + 1) (by omega) :)) ?_
          refine n_if_ne (tgt := 90) hx hb dX8_ditched_38 (by decide) (by omega) (fun c_38_3 => ?_) (fun c_38_3 => ?_)
          · skip
            refine lv_iinc (v := (nI (i9a + 1 + 1))) (lv' := [(3, .int (nI (i9a + 1 + 1))), (0, .ref g.2.2.2.1), (1, .int (nI ((sp_dt S i9a).1))), (2, .int (pc_fd (sp_dt S i9a).2))]) hx hb dX8_ditched_90 hl (k := 3) rfl (by first | exact nI_1 _ | (rw [show Int32.ofInt 1 = nI 1 from by decide, nI_add])) (by decide) rfl (fun ls hl => ?_)
            refine lv_goto (tgt := 24) hx hb dX8_ditched_93 (by decide) ?_
            rw [show sp_dt S i9a = sp_dt S (i9a + 1) from (dt_n (by assumption)).symm] at hl
            exact ih_24 (i9a + 1) (by omega) (by omega) ls zz _ _ w hS hl9 hfz (lv_sub hl [1, 2, 3, 0] rfl)
          · skip
            refine lv_aload_n hx hb dX8_ditched_41 rfl (lv_at hl 0 rfl) ?_
            refine rg_2 X w.1 dX8_ditched_42 ?_
            refine lv_iload_n hx hb dX8_ditched_45 rfl (lv_at hl 3 rfl) ?_
            refine lv_iconst (v := (nI 2)) hx hb dX8_ditched_46 (by decide) ?_
            refine ru_2 X w (by omega) dX8_ditched_47 (fun z_47 H locs ez_47 w => ?_)
            have h47 : rSc z_47 (sR S 0 (i9a + 1) 2) := by rw [ez_47]; exact rw_so hS (i9a + 1) 2
            have g47 : z_47.1 6 = nI 0 := by rw [ez_47]; exact (hfz.1 6 (by decide)).trans htg
            have l47 : ∃ U9, rLt z_47 U9 := by rw [ez_47]; exact hl9
            have f47 : rFr [22, 23] [2, 5, 17, 18, 19, 20, 21] z z_47 := by rw [ez_47]; exact rFr_tr hfz (rFr_A _ (by decide))
            refine lv_aload_n hx hb dX8_ditched_48 rfl (lv_at hl 0 rfl) ?_
            refine rc_v (rest := []) X hml hl.1 (k_looks l g z_47 (sR S 0 (i9a + 1) 2) h47 (oSc_so ho (by omega)) 0 g47 (by omega) l47 (show pc_dn S 0 = 0 from (ov_0 (show sp_over S = 0 by omega)).2) (show S.1 3 ≤ 5000 by omega) (show S.1 4 = 0 by omega)) ok_looks wm_X8_244 ⟨Nat.le_of_ble_eq_true rfl, Nat.le_of_ble_eq_true rfl⟩ ⟨Nat.le_refl _, Nat.le_refl _⟩ w rfl (Nat.le_of_ble_eq_true rfl) dX8_ditched_49 (fun z_49 H locs hr_49 w => ?_)
            have E_49 := lkI_e hr_49
            refine lv_aload_n hx hb dX8_ditched_52 rfl (lv_at hl 0 rfl) ?_
            refine rg_22 X w.1 dX8_ditched_53 ?_
            refine tp_i (show z_49.1 22 = (nI (sp_mo (sR S 0 (i9a + 1) 2) 0)) from E_49.1) ?_
            refine lv_iload_n hx hb dX8_ditched_56 rfl (lv_at hl 1 rfl) ?_
            refine jn (tgt := 65) (rest := []) (fun v9 => v9 = (if (sp_mo (sR S 0 (i9a + 1) 2) 0) ≤ ((sp_dt S i9a).1) then ((pc_fd (sp_dt S i9a).2)) else ((nI (i9a + 1))))) (fun x_65 ex_65 => ?_) (fun k_65 => ?_)
            · skip
              refine lv_istore_n (lv' := [(2, .int x_65), (0, .ref g.2.2.2.1), (1, .int (nI ((sp_dt S i9a).1))), (3, .int (nI (i9a + 1)))]) hx hb dX8_ditched_65 rfl hl (by decide) rfl (fun ls hl => ?_)
              refine lv_aload_n hx hb dX8_ditched_66 rfl (lv_at hl 1 rfl) ?_
              refine rg_22 X w.1 dX8_ditched_67 ?_
              refine tp_i (show z_49.1 22 = (nI (sp_mo (sR S 0 (i9a + 1) 2) 0)) from E_49.1) ?_
              refine lv_iload_n hx hb dX8_ditched_70 rfl (lv_at hl 2 rfl) ?_
              refine jn (tgt := 82) (rest := []) (fun v9 => ∃ x9 : Nat, x9 = (if (sp_mo (sR S 0 (i9a + 1) 2) 0) ≤ ((sp_dt S i9a).1) then ((sp_dt S i9a).1) else (sp_mo (sR S 0 (i9a + 1) 2) 0)) ∧ v9 = nI x9) (fun v_ hv_ => ?_) (fun k_82 => ?_)
              · obtain ⟨x_82, ex_82, rfl⟩ := hv_
                refine lv_istore_n (lv' := [(1, .int (nI x_82)), (2, .int x_65), (0, .ref g.2.2.2.1), (3, .int (nI (i9a + 1)))]) hx hb dX8_ditched_82 rfl hl (by decide) rfl (fun ls hl => ?_)
                refine lv_aload_n hx hb dX8_ditched_83 rfl (lv_at hl 2 rfl) ?_
                refine rg_2 X w.1 dX8_ditched_84 ?_
                refine lv_iload_n hx hb dX8_ditched_87 rfl (lv_at hl 3 rfl) ?_
                refine lv_iconst (v := (nI 0)) hx hb dX8_ditched_88 (by decide) ?_
                refine ru_2 X w (by omega) dX8_ditched_89 (fun z_89 H locs ez_89 w => ?_)
                refine lv_iinc (v := (nI (i9a + 1 + 1))) (lv' := [(3, .int (nI (i9a + 1 + 1))), (1, .int (nI x_82)), (2, .int x_65), (0, .ref g.2.2.2.1)]) hx hb dX8_ditched_90 hl (k := 3) rfl (by first | exact nI_1 _ | (rw [show Int32.ofInt 1 = nI 1 from by decide, nI_add])) (by decide) rfl (fun ls hl => ?_)
                refine lv_goto (tgt := 24) hx hb dX8_ditched_93 (by decide) ?_
                obtain ⟨d1, d2⟩ := dt_y (S := S) (i := i9a) (by assumption) ex_65 ex_82
                rw [d1, d2] at hl
                exact ih_24 (i9a + 1) (by omega) (by omega) ls z_89 _ _ w (by rw [ez_89]; have q9 := rw_so hr_49.1 (i9a + 1) 0; rw [sR_bk (by assumption)] at q9; exact q9) (by rw [ez_89]; exact hr_49.2.1) (by rw [ez_89]; exact rFr_tr (rFr_tr f47 (rFr_w hr_49.2.2.2.2.2.2 (fun _ q => q) (by simp))) (rFr_A _ (by decide))) (lv_sub hl [3, 1, 2, 0] rfl)
              · skip
                refine n_icmp_le (tgt := 81) hx hb dX8_ditched_71 (by decide) (by omega) (by omega) (fun c_71_6 => ?_) (fun c_71_6 => ?_)
                · skip
                  refine lv_iload_n hx hb dX8_ditched_81 rfl (lv_at hl 2 rfl) ?_
                  exact k_82 _ ⟨_, by simp only [if_pos c_71_6], rfl⟩
                · skip
                  refine lv_aload_n hx hb dX8_ditched_74 rfl (lv_at hl 1 rfl) ?_
                  refine rg_22 X w.1 dX8_ditched_75 ?_
                  refine tp_i (show z_49.1 22 = (nI (sp_mo (sR S 0 (i9a + 1) 2) 0)) from E_49.1) ?_
                  refine lv_goto (tgt := 82) hx hb dX8_ditched_78 (by decide) ?_
                  exact k_82 _ ⟨_, by simp only [if_neg c_71_6], rfl⟩
            · skip
              refine n_icmp_le (tgt := 64) hx hb dX8_ditched_57 (by decide) (by omega) (by omega) (fun c_57_7 => ?_) (fun c_57_7 => ?_)
              · skip
                refine lv_iload_n hx hb dX8_ditched_64 rfl (lv_at hl 2 rfl) ?_
                exact k_65 _ (by simp only [if_pos c_57_7])
              · skip
                refine lv_iload_n hx hb dX8_ditched_60 rfl (lv_at hl 3 rfl) ?_
                refine lv_goto (tgt := 65) hx hb dX8_ditched_61 (by decide) ?_
                exact k_65 _ (by simp only [if_neg c_57_7])
    exact lp_24 _ 0 (by omega) (Nat.lt_succ_self _) ls z_11 _ _ w hr_11.1 hr_11.2.1 (rFr_w hr_11.2.2.2.2.2.2 (fun _ q => q) (by simp)) (lv_sub hl [3, 2, 1, 0] rfl)
  · skip
    refine lv_bipush (v := (iZ (-2))) hx hb dX8_ditched_7 (by decide) ?_
    exact re_i X hr hk w (⟨by unfold an_dit; rw [if_neg (by omega)], hz, hlt, rFr_rf _ _ _⟩) dX8_ditched_9

theorem ok_ahead : rOk yX8_ahead cX8_ahead 5 (some .int) 1 := ⟨wc_X8_ahead, wi_X8_ahead, ws_X8_ahead, rfl, by decide, by decide, by decide +kernel⟩
set_option maxHeartbeats 4000000 in
set_option maxRecDepth 100000 in
theorem k_ahead (l : Launch) (g : RG) (z : RS) (xa9 : Int32) (S : Sc) (hz : rSc z S) (ho : oSc S) (htg : z.1 6 = nI 0) (hlt : ∃ U9, rLt z U9) (hmo : S.1 3 ≤ 400) : rMi g l yX8_ahead cX8_ahead 5 (some .int) 8 179 [.int xa9] z (fun r z' => r = an_ahead S xa9 ∧ rSc z' S ∧ (∃ U9, rLt z' U9) ∧ rFr [22, 23] [5, 17, 18, 19, 20, 21] z z') := by
  refine rMi_in (by decide) rfl (Nat.le_of_ble_eq_true rfl) ?_
  intro p e s m args below meth c A ls X hml hr hk hl w
  have hx := X.1
  have hb := X.2.1
  have hts := X.2.2.1
  have hown := X.2.2.2.1
  have hl : lv_has ls 5 [(0, .ref g.2.2.2.1), (1, .int xa9)] := hl
  obtain ⟨hz0, hz1, hz4, hm0, hm1, hm2, hso, hki, hsr, hpa, hhu, hco⟩ := id hz
  obtain ⟨o1, o2, o3, o4, o5, o6, oso, oki, osr, opa, ohu, oco⟩ := id ho
  refine lv_iload_n hx hb dX8_ahead_0 rfl (lv_at hl 1 rfl) ?_
  refine lv_i2l (v := xa9.toInt64) hx hb dX8_ahead_1 rfl ?_
  refine lv_lconst (v := 0) hx hb dX8_ahead_2 (by decide) ?_
  refine lv_lconst (v := 1) hx hb dX8_ahead_3 (by decide) ?_
  refine rc_s (rest := []) ⟨X.1, X.2.1, X.2.2.1, X.2.2.2.1⟩ hml hl.1 (k_in l xa9.toInt64 0 1) ok_in wm_X8_69 ⟨Nat.le_of_ble_eq_true rfl, Nat.le_of_ble_eq_true rfl⟩ ⟨Nat.le_refl _, Nat.le_refl _⟩ rfl (Nat.le_of_ble_eq_true rfl) dX8_ahead_4 (fun r_4 hr_4 => ?_)
  have h9 : r_4 = nI (pc_inI xa9.toInt (0) (1)) := by rw [hr_4]; exact congrArg nI (pc_in_I (in_toI _) (by decide) (by decide))
  subst h9
  have i_4 := pc_inI_ok xa9.toInt (0) (1)
  refine n_if_ne (tgt := 12) hx hb dX8_ahead_7 (by decide) (by omega) (fun c_7_1 => ?_) (fun c_7_1 => ?_)
  · skip
    refine lv_aload_n hx hb dX8_ahead_12 rfl (lv_at hl 0 rfl) ?_
    refine rc_p (rest := []) X hml hl.1 (k_isOff l g z S hz ho) ok_isOff wm_X8_241 ⟨Nat.le_of_ble_eq_true rfl, Nat.le_of_ble_eq_true rfl⟩ ⟨Nat.le_refl _, Nat.le_refl _⟩ w.1 rfl (Nat.le_of_ble_eq_true rfl) dX8_ahead_13 (fun r_13 hr_13 => ?_)
    have h9 : r_13 = nI (pc_off S) := hr_13
    subst h9
    have f_13 := pc_off_ok S
    refine n_if_eq (tgt := 22) hx hb dX8_ahead_16 (by decide) (by omega) (fun c_16_2 => ?_) (fun c_16_2 => ?_)
    · skip
      obtain ⟨ka9, hq_ka9, rfl⟩ := iv_n (x := xa9) (by omega)
      have hv9 := ov_0 (show sp_over S = 0 by omega)
      refine lv_bipush (v := (iZ (-4))) hx hb dX8_ahead_22 (by decide) ?_
      refine lv_istore_n (lv' := [(2, .int (iZ (-4))), (0, .ref g.2.2.2.1), (1, .int (nI ka9))]) hx hb dX8_ahead_24 rfl hl (by decide) rfl (fun ls hl => ?_)
      refine lv_iconst (v := (iZ (-1))) hx hb dX8_ahead_25 (by decide) ?_
      refine lv_istore_n (lv' := [(3, .int (iZ (-1))), (2, .int (iZ (-4))), (0, .ref g.2.2.2.1), (1, .int (nI ka9))]) hx hb dX8_ahead_26 rfl hl (by decide) rfl (fun ls hl => ?_)
      refine lv_iconst (v := (nI 1)) hx hb dX8_ahead_27 (by decide) ?_
      refine lv_istore (lv' := [(4, .int (nI 1)), (3, .int (iZ (-1))), (2, .int (iZ (-4))), (0, .ref g.2.2.2.1), (1, .int (nI ka9))]) hx hb dX8_ahead_28 hl (by decide) rfl (fun ls hl => ?_)
      have lp_30 : ∀ (n_30 : Nat) (i9a : Nat) (hi9a : i9a + 1 ≤ S.1 1) (hm_30 : S.1 1 - i9a < n_30) (ls : Array Slot) (zz : RS) (H : Heap) (locs : List Loc) (w : rW g A s zz H locs) (hS : rSc zz S) (hl9 : ∃ U9, rLt zz U9) (hfz : rFr [22, 23] [5, 17, 18, 19, 20, 21] z zz), lv_has ls 5 [(0, .ref g.2.2.2.1), (1, .int (nI ka9)), (2, .int (pc_fd (sp_ad S i9a).2)), (3, .int (iZ ((((sp_ad S i9a).1 : Nat) : Int) - (1 : Int)))), (4, .int (nI (i9a + 1)))] → W p l e (ro_m 8 179) s m args below meth c H locs 0 0 (MQ below (va_Qi (fun r z' => r = an_ahead S (nI ka9) ∧ rSc z' S ∧ (∃ U9, rLt z' U9) ∧ rFr [22, 23] [5, 17, 18, 19, 20, 21] z z') (rB g A) A) args s 0 0 A) (F0 m 30 ls []) := by
        intro n_30
        induction n_30 with
        | zero => intro i9a hi9a hm; exact absurd hm (Nat.not_lt_zero _)
        | succ n_30 ih_30 =>
          intro i9a hi9a hm_30 ls zz H locs w hS hl9 hfz hl
          have ad9 := ad_le S i9a
          have av9 := av_le S (i9a + 1)
          have hu9 := ohu (i9a + 1)
          have dn9 := pc_dn01 S (i9a + 1)
          refine lv_iload hx hb dX8_ahead_30 (lv_at hl 4 rfl) ?_
          refine lv_aload_n hx hb dX8_ahead_32 rfl (lv_at hl 0 rfl) ?_
          refine rg_1 X w.1 dX8_ahead_33 ?_
          refine tp_i (show zz.1 1 = (nI (S.1 1)) from (rs_nf hS :)) ?_
          refine n_icmp_ge (tgt := 132) hx hb dX8_ahead_36 (by decide) (by omega) (by omega) (fun c_36_3 => ?_) (fun c_36_3 => ?_)
          · skip
            refine lv_iload_n hx hb dX8_ahead_132 rfl (lv_at hl 1 rfl) ?_
            refine jn (tgt := 141) (rest := []) (fun v9 => v9 = (if ka9 = 0 then ((pc_fd (sp_ad S i9a).2)) else ((iZ ((((sp_ad S i9a).1 : Nat) : Int) - (1 : Int)))))) (fun x_141 ex_141 => ?_) (fun k_141 => ?_)
            · skip
              exact re_i X hr hk w (⟨by unfold an_ahead; rw [if_pos (by omega), if_pos (by omega), show S.1 1 - 1 = i9a by omega, ex_141]; by_cases q9 : ka9 = 0; rw [if_pos q9, if_pos (by omega)]; rw [if_neg q9, if_neg (by omega)], hS, hl9, hfz⟩) dX8_ahead_141
            · skip
              refine n_if_ne (tgt := 140) hx hb dX8_ahead_133 (by decide) (by omega) (fun c_133_5 => ?_) (fun c_133_5 => ?_)
              · skip
                refine lv_iload_n hx hb dX8_ahead_140 rfl (lv_at hl 3 rfl) ?_
                exact k_141 _ (by simp only [if_neg c_133_5])
              · skip
                refine lv_iload_n hx hb dX8_ahead_136 rfl (lv_at hl 2 rfl) ?_
                refine lv_goto (tgt := 141) hx hb dX8_ahead_137 (by decide) ?_
                exact k_141 _ (by simp only [if_pos c_133_5])
          · skip
            refine lv_aload_n hx hb dX8_ahead_39 rfl (lv_at hl 0 rfl) ?_
            refine lv_iload hx hb dX8_ahead_40 (lv_at hl 4 rfl) ?_
            refine rc_p (rest := []) X hml hl.1 (k_downS l g zz (i9a + 1) S hS ho (by omega)) ok_isDown wm_X8_103 ⟨Nat.le_of_ble_eq_true rfl, Nat.le_of_ble_eq_true rfl⟩ ⟨Nat.le_refl _, Nat.le_refl _⟩ w.1 rfl (Nat.le_of_ble_eq_true rfl) dX8_ahead_42 (fun r_42 hr_42 => ?_)
            subst hr_42
            refine n_if_ne (tgt := 126) hx hb dX8_ahead_45 (by decide) (by omega) (fun c_45_6 => ?_) (fun c_45_6 => ?_)
            · skip
              refine lv_iinc (v := (nI (i9a + 1 + 1))) (lv' := [(4, .int (nI (i9a + 1 + 1))), (0, .ref g.2.2.2.1), (1, .int (nI ka9)), (2, .int (pc_fd (sp_ad S i9a).2)), (3, .int (iZ ((((sp_ad S i9a).1 : Nat) : Int) - (1 : Int))))]) hx hb dX8_ahead_126 hl (k := 4) rfl (by first | exact nI_1 _ | (rw [show Int32.ofInt 1 = nI 1 from by decide, nI_add])) (by decide) rfl (fun ls hl => ?_)
              refine lv_goto (tgt := 30) hx hb dX8_ahead_129 (by decide) ?_
              rw [show sp_ad S i9a = sp_ad S (i9a + 1) from (ad_n (by assumption)).symm] at hl
              exact ih_30 (i9a + 1) (by omega) (by omega) ls zz _ _ w hS hl9 hfz (lv_sub hl [1, 2, 3, 4, 0] rfl)
            · skip
              refine lv_aload_n hx hb dX8_ahead_48 rfl (lv_at hl 0 rfl) ?_
              refine rg_5 X w.1 dX8_ahead_49 ?_
              refine lv_iconst (v := (nI 3)) hx hb dX8_ahead_52 (by decide) ?_
              refine lv_iload hx hb dX8_ahead_53 (lv_at hl 4 rfl) ?_
              refine n_iadd hx hb dX8_ahead_55 ?_
              refine lv_dup2_11 hx hb dX8_ahead_56 rfl rfl ?_
              refine rn_5 X w.1 (by omega) dX8_ahead_57 ?_
              refine tp_i (show zz.2.1 5 (3 + (i9a + 1)) = (nI (S.2.1 4 (i9a + 1))) from (rs_hu hS (i9a + 1) (by omega) :)) ?_
              refine lv_iconst (v := (nI 1)) hx hb dX8_ahead_58 (by decide) ?_
              refine n_iadd hx hb dX8_ahead_59 ?_
              refine ru_5 X w (by omega) dX8_ahead_60 (fun z_60 H locs ez_60 w => ?_)
              have h60 : rSc z_60 (sR S 4 (i9a + 1) (S.2.1 4 (i9a + 1) + 1)) := by rw [ez_60]; exact rw_hu hS (i9a + 1) (by omega) _
              have u9 := dn_5 ho (f := i9a + 1) (by assumption)
              have ho60 : oSc (sR S 4 (i9a + 1) (S.2.1 4 (i9a + 1) + 1)) := oSc_hu ho (by omega)
              have g60 : z_60.1 6 = nI 0 := by rw [ez_60]; exact (hfz.1 6 (by decide)).trans htg
              have l60 : ∃ U9, rLt z_60 U9 := by rw [ez_60]; exact hl9
              have f60 : rFr [22, 23] [5, 17, 18, 19, 20, 21] z z_60 := by rw [ez_60]; exact rFr_tr hfz (rFr_A _ (by decide))
              have d60 : pc_dn (sR S 4 (i9a + 1) (S.2.1 4 (i9a + 1) + 1)) 0 = 0 := by show (if va_up (S.2.1 4) (i9a + 1) (S.2.1 4 (i9a + 1) + 1) 0 = 6 then 1 else 0) = 0; rw [va_up_ne _ _ (by omega)]; exact hv9.2
              refine lv_aload_n hx hb dX8_ahead_61 rfl (lv_at hl 0 rfl) ?_
              refine rc_p (rest := []) X hml hl.1 (k_over l g z_60 (sR S 4 (i9a + 1) (S.2.1 4 (i9a + 1) + 1)) h60 ho60) ok_over wm_X8_174 ⟨Nat.le_of_ble_eq_true rfl, Nat.le_of_ble_eq_true rfl⟩ ⟨Nat.le_refl _, Nat.le_refl _⟩ w.1 rfl (Nat.le_of_ble_eq_true rfl) dX8_ahead_62 (fun r_62 hr_62 => ?_)
              subst hr_62
              have ov9 := sp_over_le (sR S 4 (i9a + 1) (S.2.1 4 (i9a + 1) + 1))
              refine n_if_ne (tgt := 75) hx hb dX8_ahead_65 (by decide) (by omega) (fun c_65_7 => ?_) (fun c_65_7 => ?_)
              · skip
                refine lv_aload_n hx hb dX8_ahead_75 rfl (lv_at hl 0 rfl) ?_
                refine lv_ldc hx hb hown (hts _ wk_X8_202) dX8_ahead_76 ?_
                refine tp_i (show (1000000 : Int32) = (nI 1000000) from by decide) ?_
                refine rp_22 X w dX8_ahead_78 (fun z_78 H locs ez_78 w => ?_)
                have e81 : z_78.1 22 = nI (sp_av S (i9a + 1)) := by unfold sp_av; rw [if_neg (by assumption)]; first | (rw [ez_78]; done) | (rw [ez_78]; rfl)
                have f78 : rFr [22] [] z_60 z_78 := by rw [ez_78]; exact rFr_I _ (by decide)
                have s81 : rSc z_78 (sR S 4 (i9a + 1) (S.2.1 4 (i9a + 1) + 1)) := rSc_fr f78 (by decide) (by decide) (by decide) (by decide) (by decide) (by decide) h60
                have l81 : ∃ U9, rLt z_78 U9 := by rw [ez_78]; exact l60
                have f81 := rFr_tr f60 (rFr_w f78 (by simp) (by simp))
                refine lv_aload_n hx hb dX8_ahead_81 rfl (lv_at hl 0 rfl) ?_
                refine rg_22 X w.1 dX8_ahead_82 ?_
                refine tp_i (show z_78.1 22 = (nI (sp_av S (i9a + 1))) from e81) ?_
                refine lv_iload_n hx hb dX8_ahead_85 rfl (lv_at hl 3 rfl) ?_
                refine jn (tgt := 95) (rest := []) (fun v9 => v9 = (if (((sp_av S (i9a + 1) : Nat) : Int)) ≤ ((((sp_ad S i9a).1 : Nat) : Int) - (1 : Int)) then ((pc_fd (sp_ad S i9a).2)) else ((nI (i9a + 1))))) (fun x_95 ex_95 => ?_) (fun k_95 => ?_)
                · skip
                  refine lv_istore_n (lv' := [(2, .int x_95), (0, .ref g.2.2.2.1), (1, .int (nI ka9)), (3, .int (iZ ((((sp_ad S i9a).1 : Nat) : Int) - (1 : Int)))), (4, .int (nI (i9a + 1)))]) hx hb dX8_ahead_95 rfl hl (by decide) rfl (fun ls hl => ?_)
                  refine lv_aload_n hx hb dX8_ahead_96 rfl (lv_at hl 1 rfl) ?_
                  refine rg_22 X w.1 dX8_ahead_97 ?_
                  refine tp_i (show z_78.1 22 = (nI (sp_av S (i9a + 1))) from e81) ?_
                  refine lv_iload_n hx hb dX8_ahead_100 rfl (lv_at hl 3 rfl) ?_
                  refine jn (tgt := 112) (rest := []) (fun v9 => ∃ x9 : Int, x9 = (if (((sp_av S (i9a + 1) : Nat) : Int)) ≤ ((((sp_ad S i9a).1 : Nat) : Int) - (1 : Int)) then ((((sp_ad S i9a).1 : Nat) : Int) - (1 : Int)) else (((sp_av S (i9a + 1) : Nat) : Int))) ∧ v9 = iZ x9) (fun v_ hv_ => ?_) (fun k_112 => ?_)
                  · obtain ⟨x_112, ex_112, rfl⟩ := hv_
                    refine lv_istore_n (lv' := [(3, .int (iZ (x_112))), (2, .int x_95), (0, .ref g.2.2.2.1), (1, .int (nI ka9)), (4, .int (nI (i9a + 1)))]) hx hb dX8_ahead_112 rfl hl (by decide) rfl (fun ls hl => ?_)
                    refine lv_aload_n hx hb dX8_ahead_113 rfl (lv_at hl 2 rfl) ?_
                    refine rg_5 X w.1 dX8_ahead_114 ?_
                    refine lv_iconst (v := (nI 3)) hx hb dX8_ahead_117 (by decide) ?_
                    refine lv_iload hx hb dX8_ahead_118 (lv_at hl 4 rfl) ?_
                    refine n_iadd hx hb dX8_ahead_120 ?_
                    refine lv_dup2_11 hx hb dX8_ahead_121 rfl rfl ?_
                    refine rn_5 X w.1 (by omega) dX8_ahead_122 ?_
                    refine tp_i (show z_78.2.1 5 (3 + (i9a + 1)) = (nI (S.2.1 4 (i9a + 1) + 1)) from (rs_hu s81 (i9a + 1) (by omega)).trans (by show nI (va_up (S.2.1 4) (i9a + 1) (S.2.1 4 (i9a + 1) + 1) (i9a + 1)) = _; rw [va_up_self])) ?_
                    refine lv_iconst (v := (nI 1)) hx hb dX8_ahead_123 (by decide) ?_
                    refine n_isub hx hb dX8_ahead_124 (by omega) ?_
                    refine ru_5 X w (by omega) dX8_ahead_125 (fun z_125 H locs ez_125 w => ?_)
                    refine lv_iinc (v := (nI (i9a + 1 + 1))) (lv' := [(4, .int (nI (i9a + 1 + 1))), (3, .int (iZ (x_112))), (2, .int x_95), (0, .ref g.2.2.2.1), (1, .int (nI ka9))]) hx hb dX8_ahead_126 hl (k := 4) rfl (by first | exact nI_1 _ | (rw [show Int32.ofInt 1 = nI 1 from by decide, nI_add])) (by decide) rfl (fun ls hl => ?_)
                    refine lv_goto (tgt := 30) hx hb dX8_ahead_129 (by decide) ?_
                    obtain ⟨d1, d2⟩ := ad_y (S := S) (i := i9a) (by assumption) ex_95 ex_112
                    rw [d1, d2] at hl
                    exact ih_30 (i9a + 1) (by omega) (by omega) ls z_125 _ _ w (by rw [ez_125]; have q9 := rw_hu s81 (i9a + 1) (by omega) ((S.2.1 4 (i9a + 1) + 1) - 1); rw [sR_bk (by omega)] at q9; exact q9) (by rw [ez_125]; exact l81) (by rw [ez_125]; exact rFr_tr f81 (rFr_A _ (by decide))) (lv_sub hl [3, 4, 2, 1, 0] rfl)
                  · skip
                    refine tp_i2 (iZ_n (sp_av S (i9a + 1))).symm ?_
                    refine z_icmp_le (tgt := 111) hx hb dX8_ahead_101 (by decide) (by omega) (by omega) (by omega) (by omega) (fun c_101_10 => ?_) (fun c_101_10 => ?_)
                    · skip
                      refine lv_iload_n hx hb dX8_ahead_111 rfl (lv_at hl 3 rfl) ?_
                      exact k_112 _ ⟨_, by simp only [if_pos c_101_10], rfl⟩
                    · skip
                      refine lv_aload_n hx hb dX8_ahead_104 rfl (lv_at hl 1 rfl) ?_
                      refine rg_22 X w.1 dX8_ahead_105 ?_
                      refine tp_i (show z_78.1 22 = (nI (sp_av S (i9a + 1))) from e81) ?_
                      refine lv_goto (tgt := 112) hx hb dX8_ahead_108 (by decide) ?_
                      exact k_112 _ ⟨((sp_av S (i9a + 1) : Nat) : Int), by simp only [if_neg c_101_10], (iZ_n (sp_av S (i9a + 1))).symm⟩
                · skip
                  refine tp_i2 (iZ_n (sp_av S (i9a + 1))).symm ?_
                  refine z_icmp_le (tgt := 94) hx hb dX8_ahead_86 (by decide) (by omega) (by omega) (by omega) (by omega) (fun c_86_11 => ?_) (fun c_86_11 => ?_)
                  · skip
                    refine lv_iload_n hx hb dX8_ahead_94 rfl (lv_at hl 2 rfl) ?_
                    exact k_95 _ (by simp only [if_pos c_86_11])
                  · skip
                    refine lv_iload hx hb dX8_ahead_89 (lv_at hl 4 rfl) ?_
                    refine lv_goto (tgt := 95) hx hb dX8_ahead_91 (by decide) ?_
                    exact k_95 _ (by simp only [if_neg c_86_11])
              · skip
                refine lv_aload_n hx hb dX8_ahead_68 rfl (lv_at hl 0 rfl) ?_
                refine rc_v (rest := []) X hml hl.1 (k_looks l g z_60 (sR S 4 (i9a + 1) (S.2.1 4 (i9a + 1) + 1)) h60 ho60 0 g60 (by omega) l60 d60 (show S.1 3 ≤ 5000 by omega) (show S.1 4 = 0 by omega)) ok_looks wm_X8_244 ⟨Nat.le_of_ble_eq_true rfl, Nat.le_of_ble_eq_true rfl⟩ ⟨Nat.le_refl _, Nat.le_refl _⟩ w rfl (Nat.le_of_ble_eq_true rfl) dX8_ahead_69 (fun z_69 H locs hr_69 w => ?_)
                have E_69 := lkI_e hr_69
                refine lv_goto (tgt := 81) hx hb dX8_ahead_72 (by decide) ?_
                have e81 : z_69.1 22 = nI (sp_av S (i9a + 1)) := by unfold sp_av; rw [if_pos (by assumption)]; exact E_69.1
                have s81 : rSc z_69 (sR S 4 (i9a + 1) (S.2.1 4 (i9a + 1) + 1)) := hr_69.1
                have l81 := hr_69.2.1
                have f81 := rFr_tr f60 hr_69.2.2.2.2.2.2
                refine lv_aload_n hx hb dX8_ahead_81 rfl (lv_at hl 0 rfl) ?_
                refine rg_22 X w.1 dX8_ahead_82 ?_
                refine tp_i (show z_69.1 22 = (nI (sp_av S (i9a + 1))) from e81) ?_
                refine lv_iload_n hx hb dX8_ahead_85 rfl (lv_at hl 3 rfl) ?_
                refine jn (tgt := 95) (rest := []) (fun v9 => v9 = (if (((sp_av S (i9a + 1) : Nat) : Int)) ≤ ((((sp_ad S i9a).1 : Nat) : Int) - (1 : Int)) then ((pc_fd (sp_ad S i9a).2)) else ((nI (i9a + 1))))) (fun x_95 ex_95 => ?_) (fun k_95 => ?_)
                · skip
                  refine lv_istore_n (lv' := [(2, .int x_95), (0, .ref g.2.2.2.1), (1, .int (nI ka9)), (3, .int (iZ ((((sp_ad S i9a).1 : Nat) : Int) - (1 : Int)))), (4, .int (nI (i9a + 1)))]) hx hb dX8_ahead_95 rfl hl (by decide) rfl (fun ls hl => ?_)
                  refine lv_aload_n hx hb dX8_ahead_96 rfl (lv_at hl 1 rfl) ?_
                  refine rg_22 X w.1 dX8_ahead_97 ?_
                  refine tp_i (show z_69.1 22 = (nI (sp_av S (i9a + 1))) from e81) ?_
                  refine lv_iload_n hx hb dX8_ahead_100 rfl (lv_at hl 3 rfl) ?_
                  refine jn (tgt := 112) (rest := []) (fun v9 => ∃ x9 : Int, x9 = (if (((sp_av S (i9a + 1) : Nat) : Int)) ≤ ((((sp_ad S i9a).1 : Nat) : Int) - (1 : Int)) then ((((sp_ad S i9a).1 : Nat) : Int) - (1 : Int)) else (((sp_av S (i9a + 1) : Nat) : Int))) ∧ v9 = iZ x9) (fun v_ hv_ => ?_) (fun k_112 => ?_)
                  · obtain ⟨x_112, ex_112, rfl⟩ := hv_
                    refine lv_istore_n (lv' := [(3, .int (iZ (x_112))), (2, .int x_95), (0, .ref g.2.2.2.1), (1, .int (nI ka9)), (4, .int (nI (i9a + 1)))]) hx hb dX8_ahead_112 rfl hl (by decide) rfl (fun ls hl => ?_)
                    refine lv_aload_n hx hb dX8_ahead_113 rfl (lv_at hl 2 rfl) ?_
                    refine rg_5 X w.1 dX8_ahead_114 ?_
                    refine lv_iconst (v := (nI 3)) hx hb dX8_ahead_117 (by decide) ?_
                    refine lv_iload hx hb dX8_ahead_118 (lv_at hl 4 rfl) ?_
                    refine n_iadd hx hb dX8_ahead_120 ?_
                    refine lv_dup2_11 hx hb dX8_ahead_121 rfl rfl ?_
                    refine rn_5 X w.1 (by omega) dX8_ahead_122 ?_
                    refine tp_i (show z_69.2.1 5 (3 + (i9a + 1)) = (nI (S.2.1 4 (i9a + 1) + 1)) from (rs_hu s81 (i9a + 1) (by omega)).trans (by show nI (va_up (S.2.1 4) (i9a + 1) (S.2.1 4 (i9a + 1) + 1) (i9a + 1)) = _; rw [va_up_self])) ?_
                    refine lv_iconst (v := (nI 1)) hx hb dX8_ahead_123 (by decide) ?_
                    refine n_isub hx hb dX8_ahead_124 (by omega) ?_
                    refine ru_5 X w (by omega) dX8_ahead_125 (fun z_125 H locs ez_125 w => ?_)
                    refine lv_iinc (v := (nI (i9a + 1 + 1))) (lv' := [(4, .int (nI (i9a + 1 + 1))), (3, .int (iZ (x_112))), (2, .int x_95), (0, .ref g.2.2.2.1), (1, .int (nI ka9))]) hx hb dX8_ahead_126 hl (k := 4) rfl (by first | exact nI_1 _ | (rw [show Int32.ofInt 1 = nI 1 from by decide, nI_add])) (by decide) rfl (fun ls hl => ?_)
                    refine lv_goto (tgt := 30) hx hb dX8_ahead_129 (by decide) ?_
                    obtain ⟨d1, d2⟩ := ad_y (S := S) (i := i9a) (by assumption) ex_95 ex_112
                    rw [d1, d2] at hl
                    exact ih_30 (i9a + 1) (by omega) (by omega) ls z_125 _ _ w (by rw [ez_125]; have q9 := rw_hu s81 (i9a + 1) (by omega) ((S.2.1 4 (i9a + 1) + 1) - 1); rw [sR_bk (by omega)] at q9; exact q9) (by rw [ez_125]; exact l81) (by rw [ez_125]; exact rFr_tr f81 (rFr_A _ (by decide))) (lv_sub hl [3, 4, 2, 1, 0] rfl)
                  · skip
                    refine tp_i2 (iZ_n (sp_av S (i9a + 1))).symm ?_
                    refine z_icmp_le (tgt := 111) hx hb dX8_ahead_101 (by decide) (by omega) (by omega) (by omega) (by omega) (fun c_101_14 => ?_) (fun c_101_14 => ?_)
                    · skip
                      refine lv_iload_n hx hb dX8_ahead_111 rfl (lv_at hl 3 rfl) ?_
                      exact k_112 _ ⟨_, by simp only [if_pos c_101_14], rfl⟩
                    · skip
                      refine lv_aload_n hx hb dX8_ahead_104 rfl (lv_at hl 1 rfl) ?_
                      refine rg_22 X w.1 dX8_ahead_105 ?_
                      refine tp_i (show z_69.1 22 = (nI (sp_av S (i9a + 1))) from e81) ?_
                      refine lv_goto (tgt := 112) hx hb dX8_ahead_108 (by decide) ?_
                      exact k_112 _ ⟨((sp_av S (i9a + 1) : Nat) : Int), by simp only [if_neg c_101_14], (iZ_n (sp_av S (i9a + 1))).symm⟩
                · skip
                  refine tp_i2 (iZ_n (sp_av S (i9a + 1))).symm ?_
                  refine z_icmp_le (tgt := 94) hx hb dX8_ahead_86 (by decide) (by omega) (by omega) (by omega) (by omega) (fun c_86_15 => ?_) (fun c_86_15 => ?_)
                  · skip
                    refine lv_iload_n hx hb dX8_ahead_94 rfl (lv_at hl 2 rfl) ?_
                    exact k_95 _ (by simp only [if_pos c_86_15])
                  · skip
                    refine lv_iload hx hb dX8_ahead_89 (lv_at hl 4 rfl) ?_
                    refine lv_goto (tgt := 95) hx hb dX8_ahead_91 (by decide) ?_
                    exact k_95 _ (by simp only [if_neg c_86_15])
      exact lp_30 _ 0 (by omega) (Nat.lt_succ_self _) ls z _ _ w hz hlt (rFr_rf _ _ _) (lv_sub hl [3, 4, 2, 1, 0] rfl)
    · skip
      refine lv_bipush (v := (iZ (-2))) hx hb dX8_ahead_19 (by decide) ?_
      exact re_i X hr hk w (⟨by unfold an_ahead; rw [if_pos (by omega), if_neg (by omega)], hz, hlt, rFr_rf _ _ _⟩) dX8_ahead_21
  · skip
    refine lv_iconst (v := (iZ (-1))) hx hb dX8_ahead_10 (by decide) ?_
    exact re_i X hr hk w (⟨by unfold an_ahead; rw [if_neg (by omega)], hz, hlt, rFr_rf _ _ _⟩) dX8_ahead_11
