theorem ok_undo : rOk yX8_undo cX8_undo 2 (some .int) 0 := ⟨wc_X8_undo, wi_X8_undo, ws_X8_undo, rfl, by decide, by decide, by decide +kernel⟩
set_option maxHeartbeats 4000000 in
set_option maxRecDepth 100000 in
theorem k_undo (l : Launch) (g : RG) (z : RS)  (S Q : Sc) (hz : rSc z S) (u : Nat) (P : Nat → Nat → Int32) (hpa : rPa z u P) (hQ : ¬ u = 0 → rNw (P (u - 1)) Q) : rMi g l yX8_undo cX8_undo 2 (some .int) 0 0 [] z (fun r z' => r = (if u = 0 then iZ (-4) else nI (u - 1)) ∧ rSc z' (if u = 0 then S else sc_at S Q) ∧ rPa z' (u - 1) P ∧ rFr [16] [5] z z') := by
  refine rMi_in (by decide) rfl (Nat.le_of_ble_eq_true rfl) ?_
  intro p e s m args below meth c A ls X hml hr hk hl w
  have hx := X.1
  have hb := X.2.1
  have hts := X.2.2.1
  have hown := X.2.2.2.1
  have hl : lv_has ls 2 [(0, .ref g.2.2.2.1)] := hl
  have hu8 := hpa.2.1
  refine lv_aload_n hx hb dX8_undo_0 rfl (lv_at hl 0 rfl) ?_
  refine rg_16 X w.1 dX8_undo_1 ?_
  refine tp_i (show z.1 16 = (nI u) from hpa.1) ?_
  refine n_if_ne (tgt := 10) hx hb dX8_undo_4 (by decide) (by omega) (fun c_4_1 => ?_) (fun c_4_1 => ?_)
  · skip
    refine lv_aload_n hx hb dX8_undo_10 rfl (lv_at hl 0 rfl) ?_
    refine lv_dup hx hb dX8_undo_11 rfl ?_
    refine rg_16 X w.1 dX8_undo_12 ?_
    refine tp_i (show z.1 16 = (nI u) from hpa.1) ?_
    refine lv_iconst (v := (nI 1)) hx hb dX8_undo_15 (by decide) ?_
    refine n_isub hx hb dX8_undo_16 (by omega) ?_
    refine rp_16 X w dX8_undo_17 (fun z_17 H locs ez_17 w => ?_)
    refine lv_iconst (v := (nI 0)) hx hb dX8_undo_20 (by decide) ?_
    refine lv_istore_n (lv' := [(1, .int (nI 0)), (0, .ref g.2.2.2.1)]) hx hb dX8_undo_21 rfl hl (by decide) rfl (fun ls hl => ?_)
    have lp_22 : ∀ (n_22 : Nat) (i : Nat) (hi : i ≤ 13) (hm_22 : 13 - i < n_22) (ls : Array Slot) (zz : RS) (H : Heap) (locs : List Loc) (w : rW g A s zz H locs) (hfl : fl (zz.2.1 5) (fun k => z.2.1 15 (13 * (u - 1) + k)) (z.2.1 5) 0 i) (hfz : rFr [16] [5] z zz) (hu : zz.1 16 = nI (u - 1)), lv_has ls 2 [(0, .ref g.2.2.2.1), (1, .int (nI i))] → W p l e (ro_m 0 0) s m args below meth c H locs 0 0 (MQ below (va_Qi (fun r z' => r = (if u = 0 then iZ (-4) else nI (u - 1)) ∧ rSc z' (if u = 0 then S else sc_at S Q) ∧ rPa z' (u - 1) P ∧ rFr [16] [5] z z') (rB g A) A) args s 0 0 A) (F0 m 22 ls []) := by
      intro n_22
      induction n_22 with
      | zero => intro i hi hm; exact absurd hm (Nat.not_lt_zero _)
      | succ n_22 ih_22 =>
        intro i hi hm_22 ls zz H locs w hfl hfz hu hl
        refine lv_iload_n hx hb dX8_undo_22 rfl (lv_at hl 1 rfl) ?_
        refine lv_bipush (v := (nI 13)) hx hb dX8_undo_23 (by decide) ?_
        refine n_icmp_ge (tgt := 54) hx hb dX8_undo_25 (by decide) (by omega) (by omega) (fun c_25_2 => ?_) (fun c_25_2 => ?_)
        · skip
          refine lv_aload_n hx hb dX8_undo_54 rfl (lv_at hl 0 rfl) ?_
          refine rg_16 X w.1 dX8_undo_55 ?_
          refine tp_i (show zz.1 16 = (nI (u - 1)) from hu) ?_
          exact re_i X hr hk w (by have e9 : i = 13 := (by omega); have u0 : ¬ u = 0 := (by omega); subst e9; exact ⟨by rw [if_neg u0], by rw [if_neg u0]; exact rSc_at hz hfz (by decide) (by decide) (by decide) (by decide) (by decide) (rNw_of (hQ u0) (fun k hk => (fl_in0 hfl hk).trans (hpa.2.2 (u - 1) (by omega) k hk))), ⟨hu, by omega, fun j hj k hk => (congrFun (hfz.2.1 15 (by decide)) _).trans (hpa.2.2 j (by omega) k hk)⟩, hfz⟩) dX8_undo_58
        · skip
          refine lv_aload_n hx hb dX8_undo_28 rfl (lv_at hl 0 rfl) ?_
          refine rg_5 X w.1 dX8_undo_29 ?_
          refine lv_iload_n hx hb dX8_undo_32 rfl (lv_at hl 1 rfl) ?_
          refine lv_aload_n hx hb dX8_undo_33 rfl (lv_at hl 0 rfl) ?_
          refine rg_15 X w.1 dX8_undo_34 ?_
          refine lv_bipush (v := (nI 13)) hx hb dX8_undo_37 (by decide) ?_
          refine lv_aload_n hx hb dX8_undo_39 rfl (lv_at hl 0 rfl) ?_
          refine rg_16 X w.1 dX8_undo_40 ?_
          refine tp_i (show zz.1 16 = (nI (u - 1)) from hu) ?_
          refine n_imul hx hb dX8_undo_43 ?_
          refine lv_iload_n hx hb dX8_undo_44 rfl (lv_at hl 1 rfl) ?_
          refine n_iadd hx hb dX8_undo_45 ?_
          refine rn_15 X w.1 (by omega) dX8_undo_46 ?_
          refine ru_5 X w (by omega) dX8_undo_47 (fun z_47 H locs ez_47 w => ?_)
          refine lv_iinc (v := (nI (i + 1))) (lv' := [(1, .int (nI (i + 1))), (0, .ref g.2.2.2.1)]) hx hb dX8_undo_48 hl (k := 1) rfl (by first | exact nI_1 _ | (rw [show Int32.ofInt 1 = nI 1 from by decide, nI_add])) (by decide) rfl (fun ls hl => ?_)
          refine lv_goto (tgt := 22) hx hb dX8_undo_51 (by decide) ?_
          exact ih_22 (i + 1) (by omega) (by omega) ls z_47 _ _ w (by rw [ez_47]; exact fl_s0 hfl (congrFun (hfz.2.1 15 (by decide)) _)) (by rw [ez_47]; exact rFr_tr hfz (rFr_A _ (by decide))) (by rw [ez_47]; exact hu) (lv_sub hl [1, 0] rfl)
    exact lp_22 _ 0 (by omega) (Nat.lt_succ_self _) ls z_17 _ _ w (by rw [ez_17]; exact fl_0 _ _ _) (by rw [ez_17]; exact rFr_I _ (by decide)) (by first | (rw [ez_17]; done) | (rw [ez_17]; rfl)) (lv_sub hl [1, 0] rfl)
  · skip
    refine lv_bipush (v := (iZ (-4))) hx hb dX8_undo_7 (by decide) ?_
    exact re_i X hr hk w (by subst_vars; exact ⟨rfl, hz, hpa, rFr_rf _ _ _⟩) dX8_undo_9

theorem ok_moment : rOk yX8_moment cX8_moment 1 (some .int) 0 := ⟨wc_X8_moment, wi_X8_moment, ws_X8_moment, rfl, by decide, by decide, by decide +kernel⟩
set_option maxHeartbeats 4000000 in
set_option maxRecDepth 100000 in
theorem k_moment (l : Launch) (g : RG) (z : RS)  (S : Sc) (hz : rSc z S) (ho : oSc S) (htg : z.1 6 = nI 0) (hmo : S.1 3 ≤ 400) (u : Nat) (P : Nat → Nat → Int32) (hps : rPa z u P) : rMi g l yX8_moment cX8_moment 1 (some .int) 5 113 [] z (fun r z' => r = an_mom S ∧ rSc z' (nx_mom S) ∧ np_mom S u P (z.2.1 5) z' ∧ rFr [16] [5, 15] z z') := by
  refine rMi_in (by decide) rfl (Nat.le_of_ble_eq_true rfl) ?_
  intro p e s m args below meth c A ls X hml hr hk hl w
  have hx := X.1
  have hb := X.2.1
  have hts := X.2.2.1
  have hown := X.2.2.2.1
  have hl : lv_has ls 1 [(0, .ref g.2.2.2.1)] := hl
  obtain ⟨hz0, hz1, hz4, hm0, hm1, hm2, hso, hki, hsr, hpa, hhu, hco⟩ := id hz
  obtain ⟨o1, o2, o3, o4, o5, o6, oso, oki, osr, opa, ohu, oco⟩ := id ho
  refine lv_aload_n hx hb dX8_moment_0 rfl (lv_at hl 0 rfl) ?_
  refine rc_p (rest := []) X hml hl.1 (k_over l g z S hz ho) ok_over wm_X8_174 ⟨Nat.le_of_ble_eq_true rfl, Nat.le_of_ble_eq_true rfl⟩ ⟨Nat.le_refl _, Nat.le_refl _⟩ w.1 rfl (Nat.le_of_ble_eq_true rfl) dX8_moment_1 (fun r_1 hr_1 => ?_)
  subst hr_1
  have d_1 := sp_over_le S
  refine n_if_eq (tgt := 10) hx hb dX8_moment_4 (by decide) (by omega) (fun c_4_1 => ?_) (fun c_4_1 => ?_)
  · skip
    refine lv_aload_n hx hb dX8_moment_10 rfl (lv_at hl 0 rfl) ?_
    refine rg_5 X w.1 dX8_moment_11 ?_
    refine lv_iconst (v := (nI 0)) hx hb dX8_moment_14 (by decide) ?_
    refine rn_5 X w.1 (by omega) dX8_moment_15 ?_
    refine tp_i (show z.2.1 5 0 = (nI (S.1 3)) from hm0) ?_
    refine lv_sipush (v := (nI 400)) hx hb dX8_moment_16 (by decide) ?_
    refine n_icmp_ne (tgt := 25) hx hb dX8_moment_19 (by decide) (by omega) (by omega) (fun c_19_2 => ?_) (fun c_19_2 => ?_)
    · skip
      refine lv_aload_n hx hb dX8_moment_25 rfl (lv_at hl 0 rfl) ?_
      refine rc_v (rest := []) X hml hl.1 (k_notes l g z u P hps) ok_notes wm_X8_189 ⟨Nat.le_of_ble_eq_true rfl, Nat.le_of_ble_eq_true rfl⟩ ⟨Nat.le_refl _, Nat.le_refl _⟩ w rfl (Nat.le_of_ble_eq_true rfl) dX8_moment_26 (fun z_26 H locs hr_26 w => ?_)
      have hz_26 : rSc z_26 S := rSc_fr hr_26.2 (by decide) (by decide) (by decide) (by decide) (by decide) (by decide) hz
      have fz_26 := rFr_w (is' := [16]) (ks' := [5, 15]) hr_26.2 (by simp) (by simp)
      refine lv_aload_n hx hb dX8_moment_29 rfl (lv_at hl 0 rfl) ?_
      refine rc_p (rest := []) X hml hl.1 (k_turnS l g z_26 S hz_26 ho) ok_isTurned wm_X8_80 ⟨Nat.le_of_ble_eq_true rfl, Nat.le_of_ble_eq_true rfl⟩ ⟨Nat.le_refl _, Nat.le_refl _⟩ w.1 rfl (Nat.le_of_ble_eq_true rfl) dX8_moment_30 (fun r_30 hr_30 => ?_)
      subst hr_30
      have d_30 := pc_td_ok S
      refine n_if_eq (tgt := 41) hx hb dX8_moment_33 (by decide) (by omega) (fun c_33_3 => ?_) (fun c_33_3 => ?_)
      · skip
        refine lv_aload_n hx hb dX8_moment_41 rfl (lv_at hl 0 rfl) ?_
        refine rg_5 X w.1 dX8_moment_42 ?_
        refine lv_iconst (v := (nI 0)) hx hb dX8_moment_45 (by decide) ?_
        refine lv_dup2_11 hx hb dX8_moment_46 rfl rfl ?_
        refine rn_5 X w.1 (by omega) dX8_moment_47 ?_
        refine tp_i (show z_26.2.1 5 0 = (nI (S.1 3)) from (rs_mo hz_26 :)) ?_
        refine lv_iconst (v := (nI 1)) hx hb dX8_moment_48 (by decide) ?_
        refine n_iadd hx hb dX8_moment_49 ?_
        refine ru_5 X w (by omega) dX8_moment_50 (fun z_50 H locs ez_50 w => ?_)
        have hz_50 : rSc z_50 (sN S 3 (S.1 3 + 1)) := by rw [ez_50]; exact rw_mo hz_26 _
        have fz_50 : rFr [16] [5, 15] z_26 z_50 := by rw [ez_50]; exact rFr_A _ (by decide)
        have pz_50 : rPa z_50 (pa_n u) (pa_put u P (z.2.1 5)) := by rw [ez_50]; exact rPa_fr (is := []) (ks := [5]) (rFr_A _ (by decide)) (by decide) (by decide) hr_26.1
        refine lv_aload_n hx hb dX8_moment_51 rfl (lv_at hl 0 rfl) ?_
        refine lv_aload_n hx hb dX8_moment_52 rfl (lv_at hl 0 rfl) ?_
        refine rg_5 X w.1 dX8_moment_53 ?_
        refine lv_iconst (v := (nI 0)) hx hb dX8_moment_56 (by decide) ?_
        refine rn_5 X w.1 (by omega) dX8_moment_57 ?_
        refine tp_i (show z_50.2.1 5 0 = (nI (S.1 3 + 1)) from (rs_mo hz_50 :)) ?_
        refine rc_p (rest := []) X hml hl.1 (k_isCaught l g z_50 (S.1 3 + 1) (sN S 3 (S.1 3 + 1)) hz_50 (oSc_mo ho (by omega)) 0 (by rw [ez_50]; exact (hr_26.2.1 6 (by decide)).trans htg) (by omega) (by omega)) ok_isCaught wm_X8_195 ⟨Nat.le_of_ble_eq_true rfl, Nat.le_of_ble_eq_true rfl⟩ ⟨Nat.le_refl _, Nat.le_refl _⟩ w.1 rfl (Nat.le_of_ble_eq_true rfl) dX8_moment_58 (fun r_58 hr_58 => ?_)
        have h9 : r_58 = nI (sp_ct S 0 (S.1 3 + 1)) := by rw [hr_58, ev_ct (ev_mo S _)]
        subst h9
        have d_58 := sp_ct01 S 0 (S.1 3 + 1)
        refine n_if_eq (tgt := 74) hx hb dX8_moment_61 (by decide) (by omega) (fun c_61_4 => ?_) (fun c_61_4 => ?_)
        · skip
          refine lv_bipush (v := (iZ (-4))) hx hb dX8_moment_74 (by decide) ?_
          exact re_i X hr hk w (⟨by unfold an_mom; rw [if_pos (by omega), if_neg (by omega), if_pos (by omega)], by unfold nx_mom; rw [if_pos (by omega), if_pos (by omega), if_pos (by omega)]; exact hz_50, by unfold np_mom; rw [if_pos (by omega)]; exact pz_50, rFr_tr fz_26 fz_50⟩) dX8_moment_76
        · skip
          refine lv_aload_n hx hb dX8_moment_64 rfl (lv_at hl 0 rfl) ?_
          refine lv_aload_n hx hb dX8_moment_65 rfl (lv_at hl 0 rfl) ?_
          refine rg_5 X w.1 dX8_moment_66 ?_
          refine lv_iconst (v := (nI 0)) hx hb dX8_moment_69 (by decide) ?_
          refine rn_5 X w.1 (by omega) dX8_moment_70 ?_
          refine tp_i (show z_50.2.1 5 0 = (nI (S.1 3 + 1)) from (rs_mo hz_50 :)) ?_
          refine rc_v (rest := []) X hml hl.1 (k_turns l g z_50 (S.1 3 + 1) (sN S 3 (S.1 3 + 1)) hz_50 (oSc_mo ho (by omega)) 0 (by rw [ez_50]; exact (hr_26.2.1 6 (by decide)).trans htg) (by omega) (by omega)) ok_turns wm_X8_198 ⟨Nat.le_of_ble_eq_true rfl, Nat.le_of_ble_eq_true rfl⟩ ⟨Nat.le_refl _, Nat.le_refl _⟩ w rfl (Nat.le_of_ble_eq_true rfl) dX8_moment_71 (fun z_71 H locs hr_71 w => ?_)
          have fz_71 := rFr_w (is' := [16]) (ks' := [5, 15]) hr_71.2 (by simp) (by simp)
          rw [turn_mo] at hr_71
          refine lv_bipush (v := (iZ (-4))) hx hb dX8_moment_74 (by decide) ?_
          exact re_i X hr hk w (⟨by unfold an_mom; rw [if_pos (by omega), if_neg (by omega), if_pos (by omega)], by unfold nx_mom; rw [if_pos (by omega), if_pos (by omega), if_neg (by omega)]; exact hr_71.1, by unfold np_mom; rw [if_pos (by omega)]; exact rPa_fr hr_71.2 (by decide) (by decide) pz_50, rFr_tr (rFr_tr fz_26 fz_50) fz_71⟩) dX8_moment_76
      · skip
        refine lv_aload_n hx hb dX8_moment_36 rfl (lv_at hl 0 rfl) ?_
        refine rc_i (rest := []) X hml hl.1 (k_fights l g z_26 S hz_26 ho (by omega)) ok_fights wm_X8_192 ⟨Nat.le_of_ble_eq_true rfl, Nat.le_of_ble_eq_true rfl⟩ ⟨Nat.le_refl _, Nat.le_refl _⟩ w rfl (Nat.le_of_ble_eq_true rfl) dX8_moment_37 (fun r_37 z_37 H locs hr_37 w => ?_)
        have fz_37 := rFr_w (is' := [16]) (ks' := [5, 15]) hr_37.2.2 (by simp) (by simp)
        exact re_i X hr hk w (⟨by rw [hr_37.1]; unfold an_mom; rw [if_pos (by omega), if_neg (by omega), if_neg (by omega)], by unfold nx_mom; rw [if_pos (by omega), if_neg (by omega)]; exact hr_37.2.1, by unfold np_mom; rw [if_pos (by omega)]; exact rPa_fr hr_37.2.2 (by decide) (by decide) hr_26.1, rFr_tr fz_26 fz_37⟩) dX8_moment_40
    · skip
      refine lv_bipush (v := (iZ (-3))) hx hb dX8_moment_22 (by decide) ?_
      exact re_i X hr hk w (⟨by unfold an_mom; rw [if_pos (by omega), if_pos (by omega)], by unfold nx_mom; rw [if_neg (by omega)]; exact hz, by unfold np_mom; rw [if_neg (by omega)]; exact hps, rFr_rf _ _ _⟩) dX8_moment_24
  · skip
    refine lv_bipush (v := (iZ (-2))) hx hb dX8_moment_7 (by decide) ?_
    exact re_i X hr hk w (⟨by unfold an_mom; rw [if_neg (by omega)], by unfold nx_mom; rw [if_neg (by omega)]; exact hz, by unfold np_mom; rw [if_neg (by omega)]; exact hps, rFr_rf _ _ _⟩) dX8_moment_9

theorem ok_fighterComes : rOk yX8_fighterComes cX8_fighterComes 5 none 4 := ⟨wc_X8_fighterComes, wi_X8_fighterComes, ws_X8_fighterComes, rfl, by decide, by decide, by decide +kernel⟩
set_option maxHeartbeats 4000000 in
set_option maxRecDepth 100000 in
theorem k_fighterComes (l : Launch) (g : RG) (z : RS) (ki : Nat) (st : Nat) (pa : Nat) (hu : Nat) (S : Sc) (hz : rSc z S) (hn : S.1 1 < 5) : rMv g l yX8_fighterComes cX8_fighterComes 5 none 0 0 [.int (nI ki), .int (nI st), .int (nI pa), .int (nI hu)] z (fun z' => rSc z' (sc_add S ki st pa hu) ∧ rFr [1] [3, 5] z z') := by
  refine rMv_in (by decide) rfl (Nat.le_of_ble_eq_true rfl) ?_
  intro p e s m args below meth c A ls X hml hr hk hl w
  have hx := X.1
  have hb := X.2.1
  have hts := X.2.2.1
  have hown := X.2.2.2.1
  have hl : lv_has ls 5 [(0, .ref g.2.2.2.1), (1, .int (nI ki)), (2, .int (nI st)), (3, .int (nI pa)), (4, .int (nI hu))] := hl
  have hz1 := rs_nf hz
  refine lv_aload_n hx hb dX8_fighterComes_0 rfl (lv_at hl 0 rfl) ?_
  refine rg_3 X w.1 dX8_fighterComes_1 ?_
  refine lv_iconst (v := (nI 3)) hx hb dX8_fighterComes_4 (by decide) ?_
  refine lv_aload_n hx hb dX8_fighterComes_5 rfl (lv_at hl 0 rfl) ?_
  refine rg_1 X w.1 dX8_fighterComes_6 ?_
  refine tp_i (show z.1 1 = (nI (S.1 1)) from hz1) ?_
  refine n_imul hx hb dX8_fighterComes_9 ?_
  refine lv_iload_n hx hb dX8_fighterComes_10 rfl (lv_at hl 1 rfl) ?_
  refine ru_3 X w (by omega) dX8_fighterComes_11 (fun z_11 H locs ez_11 w => ?_)
  refine lv_aload_n hx hb dX8_fighterComes_12 rfl (lv_at hl 0 rfl) ?_
  refine rg_3 X w.1 dX8_fighterComes_13 ?_
  refine lv_iconst (v := (nI 3)) hx hb dX8_fighterComes_16 (by decide) ?_
  refine lv_aload_n hx hb dX8_fighterComes_17 rfl (lv_at hl 0 rfl) ?_
  refine rg_1 X w.1 dX8_fighterComes_18 ?_
  refine tp_i (show z_11.1 1 = (nI (S.1 1)) from by rw [ez_11]; exact hz1) ?_
  refine n_imul hx hb dX8_fighterComes_21 ?_
  refine lv_iconst (v := (nI 1)) hx hb dX8_fighterComes_22 (by decide) ?_
  refine n_iadd hx hb dX8_fighterComes_23 ?_
  refine lv_iload_n hx hb dX8_fighterComes_24 rfl (lv_at hl 2 rfl) ?_
  refine ru_3 X w (by omega) dX8_fighterComes_25 (fun z_25 H locs ez_25 w => ?_)
  refine lv_aload_n hx hb dX8_fighterComes_26 rfl (lv_at hl 0 rfl) ?_
  refine rg_3 X w.1 dX8_fighterComes_27 ?_
  refine lv_iconst (v := (nI 3)) hx hb dX8_fighterComes_30 (by decide) ?_
  refine lv_aload_n hx hb dX8_fighterComes_31 rfl (lv_at hl 0 rfl) ?_
  refine rg_1 X w.1 dX8_fighterComes_32 ?_
  refine tp_i (show z_25.1 1 = (nI (S.1 1)) from by rw [ez_25]; rw [ez_11]; exact hz1) ?_
  refine n_imul hx hb dX8_fighterComes_35 ?_
  refine lv_iconst (v := (nI 2)) hx hb dX8_fighterComes_36 (by decide) ?_
  refine n_iadd hx hb dX8_fighterComes_37 ?_
  refine lv_iload_n hx hb dX8_fighterComes_38 rfl (lv_at hl 3 rfl) ?_
  refine ru_3 X w (by omega) dX8_fighterComes_39 (fun z_39 H locs ez_39 w => ?_)
  refine lv_aload_n hx hb dX8_fighterComes_40 rfl (lv_at hl 0 rfl) ?_
  refine rg_5 X w.1 dX8_fighterComes_41 ?_
  refine lv_iconst (v := (nI 3)) hx hb dX8_fighterComes_44 (by decide) ?_
  refine lv_aload_n hx hb dX8_fighterComes_45 rfl (lv_at hl 0 rfl) ?_
  refine rg_1 X w.1 dX8_fighterComes_46 ?_
  refine tp_i (show z_39.1 1 = (nI (S.1 1)) from by rw [ez_39]; rw [ez_25]; rw [ez_11]; exact hz1) ?_
  refine n_iadd hx hb dX8_fighterComes_49 ?_
  refine lv_iload hx hb dX8_fighterComes_50 (lv_at hl 4 rfl) ?_
  refine ru_5 X w (by omega) dX8_fighterComes_52 (fun z_52 H locs ez_52 w => ?_)
  refine lv_aload_n hx hb dX8_fighterComes_53 rfl (lv_at hl 0 rfl) ?_
  refine rg_5 X w.1 dX8_fighterComes_54 ?_
  refine lv_bipush (v := (nI 8)) hx hb dX8_fighterComes_57 (by decide) ?_
  refine lv_aload_n hx hb dX8_fighterComes_59 rfl (lv_at hl 0 rfl) ?_
  refine rg_1 X w.1 dX8_fighterComes_60 ?_
  refine tp_i (show z_52.1 1 = (nI (S.1 1)) from by rw [ez_52]; rw [ez_39]; rw [ez_25]; rw [ez_11]; exact hz1) ?_
  refine n_iadd hx hb dX8_fighterComes_63 ?_
  refine lv_ldc hx hb hown (hts _ wk_X8_73) dX8_fighterComes_64 ?_
  refine tp_i (show (99999 : Int32) = (nI 99999) from by decide) ?_
  refine ru_5 X w (by omega) dX8_fighterComes_66 (fun z_66 H locs ez_66 w => ?_)
  refine lv_aload_n hx hb dX8_fighterComes_67 rfl (lv_at hl 0 rfl) ?_
  refine lv_dup hx hb dX8_fighterComes_68 rfl ?_
  refine rg_1 X w.1 dX8_fighterComes_69 ?_
  refine tp_i (show z_66.1 1 = (nI (S.1 1)) from by rw [ez_66]; rw [ez_52]; rw [ez_39]; rw [ez_25]; rw [ez_11]; exact hz1) ?_
  refine lv_iconst (v := (nI 1)) hx hb dX8_fighterComes_72 (by decide) ?_
  refine n_iadd hx hb dX8_fighterComes_73 ?_
  refine rp_1 X w dX8_fighterComes_74 (fun z_74 H locs ez_74 w => ?_)
  exact re_v X hr hk w (⟨by rw [ez_74, ez_66, ez_52, ez_39, ez_25, ez_11]; exact rw_add hz hn _ _ _ _, by rw [ez_74, ez_66, ez_52, ez_39, ez_25, ez_11]; exact rFr_tr (rFr_tr (rFr_tr (rFr_tr (rFr_tr (rFr_A _ (by decide)) (rFr_A _ (by decide))) (rFr_A _ (by decide))) (rFr_A _ (by decide))) (rFr_A _ (by decide))) (rFr_I _ (by decide))⟩) dX8_fighterComes_77

theorem ok_fighter : rOk yX8_fighter cX8_fighter 4 (some .int) 3 := ⟨wc_X8_fighter, wi_X8_fighter, ws_X8_fighter, rfl, by decide, by decide, by decide +kernel⟩
set_option maxHeartbeats 4000000 in
set_option maxRecDepth 100000 in
theorem k_fighter (l : Launch) (g : RG) (z : RS) (x1 : Int32) (x2 : Int32) (x3 : Int32) (S : Sc) (hz : rSc z S) (ho : oSc S) (u : Nat) (P : Nat → Nat → Int32) (hps : rPa z u P) : rMi g l yX8_fighter cX8_fighter 4 (some .int) 1 25 [.int x1, .int x2, .int x3] z (fun r z' => r = an_fig S x1 x2 x3 ∧ rSc z' (nx_fig S x1 x2 x3) ∧ rPa z' (nu_fig S u x1 x2 x3) P ∧ rFr [1, 16] [3, 5] z z') := by
  refine rMi_in (by decide) rfl (Nat.le_of_ble_eq_true rfl) ?_
  intro p e s m args below meth c A ls X hml hr hk hl w
  have hx := X.1
  have hb := X.2.1
  have hts := X.2.2.1
  have hown := X.2.2.2.1
  have hl : lv_has ls 4 [(0, .ref g.2.2.2.1), (1, .int x1), (2, .int x2), (3, .int x3)] := hl
  obtain ⟨hz0, hz1, hz4, hm0, hm1, hm2, hso, hki, hsr, hpa, hhu, hco⟩ := id hz
  obtain ⟨o1, o2, o3, o4, o5, o6, oso, oki, osr, opa, ohu, oco⟩ := id ho
  refine lv_iload_n hx hb dX8_fighter_0 rfl (lv_at hl 1 rfl) ?_
  refine lv_i2l (v := x1.toInt64) hx hb dX8_fighter_1 rfl ?_
  refine lv_lconst (v := 0) hx hb dX8_fighter_2 (by decide) ?_
  refine lv_ldc2 hx hb hown (hts _ wk_X8_74) dX8_fighter_3 ?_
  refine rc_s (rest := []) ⟨X.1, X.2.1, X.2.2.1, X.2.2.2.1⟩ hml hl.1 (k_in l x1.toInt64 0 3) ok_in wm_X8_69 ⟨Nat.le_of_ble_eq_true rfl, Nat.le_of_ble_eq_true rfl⟩ ⟨Nat.le_refl _, Nat.le_refl _⟩ rfl (Nat.le_of_ble_eq_true rfl) dX8_fighter_6 (fun r_6 hr_6 => ?_)
  have h9 : r_6 = nI (pc_inI x1.toInt (0) (3)) := by rw [hr_6]; exact congrArg nI (pc_in_I (in_toI _) (by decide) (by decide))
  subst h9
  have i_6 := pc_inI_ok x1.toInt (0) (3)
  refine n_if_eq (tgt := 36) hx hb dX8_fighter_9 (by decide) (by omega) (fun c_9_1 => ?_) (fun c_9_1 => ?_)
  · skip
    refine lv_iconst (v := (iZ (-1))) hx hb dX8_fighter_36 (by decide) ?_
    exact re_i X hr hk w (⟨by unfold an_fig; rw [if_neg (by omega)], by unfold nx_fig; rw [if_neg (by omega)]; exact hz, by unfold nu_fig; rw [if_neg (by omega)]; exact hps, rFr_rf _ _ _⟩) dX8_fighter_37
  · skip
    refine lv_iload_n hx hb dX8_fighter_12 rfl (lv_at hl 2 rfl) ?_
    refine lv_i2l (v := x2.toInt64) hx hb dX8_fighter_13 rfl ?_
    refine lv_lconst (v := 1) hx hb dX8_fighter_14 (by decide) ?_
    refine lv_ldc2 hx hb hown (hts _ wk_X8_76) dX8_fighter_15 ?_
    refine rc_s (rest := []) ⟨X.1, X.2.1, X.2.2.1, X.2.2.2.1⟩ hml hl.1 (k_in l x2.toInt64 1 9) ok_in wm_X8_69 ⟨Nat.le_of_ble_eq_true rfl, Nat.le_of_ble_eq_true rfl⟩ ⟨Nat.le_refl _, Nat.le_refl _⟩ rfl (Nat.le_of_ble_eq_true rfl) dX8_fighter_18 (fun r_18 hr_18 => ?_)
    have h9 : r_18 = nI (pc_inI x2.toInt (1) (9)) := by rw [hr_18]; exact congrArg nI (pc_in_I (in_toI _) (by decide) (by decide))
    subst h9
    have i_18 := pc_inI_ok x2.toInt (1) (9)
    refine n_if_eq (tgt := 36) hx hb dX8_fighter_21 (by decide) (by omega) (fun c_21_2 => ?_) (fun c_21_2 => ?_)
    · skip
      refine lv_iconst (v := (iZ (-1))) hx hb dX8_fighter_36 (by decide) ?_
      exact re_i X hr hk w (⟨by unfold an_fig; rw [if_neg (by omega)], by unfold nx_fig; rw [if_neg (by omega)]; exact hz, by unfold nu_fig; rw [if_neg (by omega)]; exact hps, rFr_rf _ _ _⟩) dX8_fighter_37
    · skip
      refine lv_iload_n hx hb dX8_fighter_24 rfl (lv_at hl 3 rfl) ?_
      refine lv_i2l (v := x3.toInt64) hx hb dX8_fighter_25 rfl ?_
      refine lv_lconst (v := 1) hx hb dX8_fighter_26 (by decide) ?_
      refine lv_ldc2 hx hb hown (hts _ wk_X8_78) dX8_fighter_27 ?_
      refine rc_s (rest := []) ⟨X.1, X.2.1, X.2.2.1, X.2.2.2.1⟩ hml hl.1 (k_in l x3.toInt64 1 6) ok_in wm_X8_69 ⟨Nat.le_of_ble_eq_true rfl, Nat.le_of_ble_eq_true rfl⟩ ⟨Nat.le_refl _, Nat.le_refl _⟩ rfl (Nat.le_of_ble_eq_true rfl) dX8_fighter_30 (fun r_30 hr_30 => ?_)
      have h9 : r_30 = nI (pc_inI x3.toInt (1) (6)) := by rw [hr_30]; exact congrArg nI (pc_in_I (in_toI _) (by decide) (by decide))
      subst h9
      have i_30 := pc_inI_ok x3.toInt (1) (6)
      refine n_if_ne (tgt := 38) hx hb dX8_fighter_33 (by decide) (by omega) (fun c_33_3 => ?_) (fun c_33_3 => ?_)
      · skip
        refine lv_aload_n hx hb dX8_fighter_38 rfl (lv_at hl 0 rfl) ?_
        refine rc_p (rest := []) X hml hl.1 (k_turnS l g z S hz ho) ok_isTurned wm_X8_80 ⟨Nat.le_of_ble_eq_true rfl, Nat.le_of_ble_eq_true rfl⟩ ⟨Nat.le_refl _, Nat.le_refl _⟩ w.1 rfl (Nat.le_of_ble_eq_true rfl) dX8_fighter_39 (fun r_39 hr_39 => ?_)
        subst hr_39
        have d_39 := pc_td_ok S
        refine n_if_eq (tgt := 48) hx hb dX8_fighter_42 (by decide) (by omega) (fun c_42_4 => ?_) (fun c_42_4 => ?_)
        · skip
          refine lv_aload_n hx hb dX8_fighter_48 rfl (lv_at hl 0 rfl) ?_
          refine rg_1 X w.1 dX8_fighter_49 ?_
          refine tp_i (show z.1 1 = (nI (S.1 1)) from hz1) ?_
          refine lv_iconst (v := (nI 5)) hx hb dX8_fighter_52 (by decide) ?_
          refine n_icmp_ne (tgt := 59) hx hb dX8_fighter_53 (by decide) (by omega) (by omega) (fun c_53_5 => ?_) (fun c_53_5 => ?_)
          · skip
            obtain ⟨k1, hq_k1, rfl⟩ := iv_n (x := x1) (by omega)
            obtain ⟨k2, hq_k2, rfl⟩ := iv_n (x := x2) (by omega)
            obtain ⟨k3, hq_k3, rfl⟩ := iv_n (x := x3) (by omega)
            refine lv_aload_n hx hb dX8_fighter_59 rfl (lv_at hl 0 rfl) ?_
            refine lv_iload_n hx hb dX8_fighter_60 rfl (lv_at hl 1 rfl) ?_
            refine lv_iload_n hx hb dX8_fighter_61 rfl (lv_at hl 2 rfl) ?_
            refine lv_iload_n hx hb dX8_fighter_62 rfl (lv_at hl 3 rfl) ?_
            refine lv_iconst (v := (nI 0)) hx hb dX8_fighter_63 (by decide) ?_
            refine rc_v (rest := []) X hml hl.1 (k_fighterComes l g z k1 k2 k3 0 S hz (by omega)) ok_fighterComes wm_X8_84 ⟨Nat.le_of_ble_eq_true rfl, Nat.le_of_ble_eq_true rfl⟩ ⟨Nat.le_refl _, Nat.le_refl _⟩ w rfl (Nat.le_of_ble_eq_true rfl) dX8_fighter_64 (fun z_64 H locs hr_64 w => ?_)
            have fz_64 := rFr_w (is' := [1, 16]) (ks' := [3, 5]) hr_64.2 (by simp) (by simp)
            refine lv_aload_n hx hb dX8_fighter_67 rfl (lv_at hl 0 rfl) ?_
            refine lv_iconst (v := (nI 0)) hx hb dX8_fighter_68 (by decide) ?_
            refine rp_16 X w dX8_fighter_69 (fun z_69 H locs ez_69 w => ?_)
            refine lv_aload_n hx hb dX8_fighter_72 rfl (lv_at hl 0 rfl) ?_
            refine rg_1 X w.1 dX8_fighter_73 ?_
            refine tp_i (show z_69.1 1 = (nI (S.1 1 + 1)) from by rw [ez_69]; exact rs_nf hr_64.1) ?_
            refine lv_iconst (v := (nI 1)) hx hb dX8_fighter_76 (by decide) ?_
            refine n_isub hx hb dX8_fighter_77 (by omega) ?_
            exact re_i X hr hk w (⟨by unfold an_fig; rw [if_pos (by omega), if_pos (by omega), if_neg (by omega), Nat.add_sub_cancel], by unfold nx_fig; rw [if_pos (by omega), show (nI k1).toInt.toNat = k1 by omega, show (nI k2).toInt.toNat = k2 by omega, show (nI k3).toInt.toNat = k3 by omega, ez_69]; exact rSc_fr (is := [16]) (ks := []) (rFr_I _ (by decide)) (by decide) (by decide) (by decide) (by decide) (by decide) (by decide) hr_64.1, by unfold nu_fig; rw [if_pos (by omega)]; exact ⟨by first | (rw [ez_69]; done) | (rw [ez_69]; rfl), by omega, fun j hj => absurd hj (Nat.not_lt_zero j)⟩, by rw [ez_69]; exact rFr_tr fz_64 (rFr_I _ (by decide))⟩) dX8_fighter_78
          · skip
            refine lv_bipush (v := (iZ (-3))) hx hb dX8_fighter_56 (by decide) ?_
            exact re_i X hr hk w (⟨by unfold an_fig; rw [if_pos (by omega), if_pos (by omega), if_pos (by omega)], by unfold nx_fig; rw [if_neg (by omega)]; exact hz, by unfold nu_fig; rw [if_neg (by omega)]; exact hps, rFr_rf _ _ _⟩) dX8_fighter_58
        · skip
          refine lv_bipush (v := (iZ (-2))) hx hb dX8_fighter_45 (by decide) ?_
          exact re_i X hr hk w (⟨by unfold an_fig; rw [if_pos (by omega), if_neg (by omega)], by unfold nx_fig; rw [if_neg (by omega)]; exact hz, by unfold nu_fig; rw [if_neg (by omega)]; exact hps, rFr_rf _ _ _⟩) dX8_fighter_47
      · skip
        refine lv_iconst (v := (iZ (-1))) hx hb dX8_fighter_36 (by decide) ?_
        exact re_i X hr hk w (⟨by unfold an_fig; rw [if_neg (by omega)], by unfold nx_fig; rw [if_neg (by omega)]; exact hz, by unfold nu_fig; rw [if_neg (by omega)]; exact hps, rFr_rf _ _ _⟩) dX8_fighter_37

theorem ok_type : rOk yX8_type cX8_type 2 (some .int) 1 := ⟨wc_X8_type, wi_X8_type, ws_X8_type, rfl, by decide, by decide, by decide +kernel⟩
set_option maxHeartbeats 4000000 in
set_option maxRecDepth 100000 in
theorem k_type (l : Launch) (g : RG) (z : RS) (x : Int32) (n9 : Nat) (T : Nat → Nat) (htp : rTp z n9 T) : rMi g l yX8_type cX8_type 2 (some .int) 1 25 [.int x] z (fun r z' => r = an_type n9 x ∧ rTp z' (nn_type n9 x) (nt_type n9 T x) ∧ rFr [8] [7] z z') := by
  refine rMi_in (by decide) rfl (Nat.le_of_ble_eq_true rfl) ?_
  intro p e s m args below meth c A ls X hml hr hk hl w
  have hx := X.1
  have hb := X.2.1
  have hts := X.2.2.1
  have hown := X.2.2.2.1
  have hl : lv_has ls 2 [(0, .ref g.2.2.2.1), (1, .int x)] := hl
  have hn9 := htp.2.1
  refine lv_iload_n hx hb dX8_type_0 rfl (lv_at hl 1 rfl) ?_
  refine lv_i2l (v := x.toInt64) hx hb dX8_type_1 rfl ?_
  refine lv_ldc2 hx hb hown (hts _ wk_X8_136) dX8_type_2 ?_
  refine lv_ldc2 hx hb hown (hts _ wk_X8_138) dX8_type_5 ?_
  refine rc_s (rest := []) ⟨X.1, X.2.1, X.2.2.1, X.2.2.2.1⟩ hml hl.1 (k_in l x.toInt64 32 126) ok_in wm_X8_69 ⟨Nat.le_of_ble_eq_true rfl, Nat.le_of_ble_eq_true rfl⟩ ⟨Nat.le_refl _, Nat.le_refl _⟩ rfl (Nat.le_of_ble_eq_true rfl) dX8_type_8 (fun r_8 hr_8 => ?_)
  have h9 : r_8 = nI (pc_inI x.toInt (32) (126)) := by rw [hr_8]; exact congrArg nI (pc_in_I (in_toI _) (by decide) (by decide))
  subst h9
  have i_8 := pc_inI_ok x.toInt (32) (126)
  refine n_if_ne (tgt := 16) hx hb dX8_type_11 (by decide) (by omega) (fun c_11_1 => ?_) (fun c_11_1 => ?_)
  · skip
    refine lv_aload_n hx hb dX8_type_16 rfl (lv_at hl 0 rfl) ?_
    refine rg_8 X w.1 dX8_type_17 ?_
    refine tp_i (show z.1 8 = (nI n9) from htp.1) ?_
    refine lv_bipush (v := (nI 100)) hx hb dX8_type_20 (by decide) ?_
    refine n_icmp_ne (tgt := 28) hx hb dX8_type_22 (by decide) (by omega) (by omega) (fun c_22_2 => ?_) (fun c_22_2 => ?_)
    · skip
      obtain ⟨k, hq_k, rfl⟩ := iv_n (x := x) (by omega)
      refine lv_aload_n hx hb dX8_type_28 rfl (lv_at hl 0 rfl) ?_
      refine rg_7 X w.1 dX8_type_29 ?_
      refine lv_aload_n hx hb dX8_type_32 rfl (lv_at hl 0 rfl) ?_
      refine rg_8 X w.1 dX8_type_33 ?_
      refine tp_i (show z.1 8 = (nI n9) from htp.1) ?_
      refine lv_iload_n hx hb dX8_type_36 rfl (lv_at hl 1 rfl) ?_
      refine ru_7 X w (by omega) dX8_type_37 (fun z_37 H locs ez_37 w => ?_)
      refine lv_aload_n hx hb dX8_type_38 rfl (lv_at hl 0 rfl) ?_
      refine lv_dup hx hb dX8_type_39 rfl ?_
      refine rg_8 X w.1 dX8_type_40 ?_
      refine tp_i (show z_37.1 8 = (nI n9) from by rw [ez_37]; exact htp.1) ?_
      refine lv_iconst (v := (nI 1)) hx hb dX8_type_43 (by decide) ?_
      refine n_iadd hx hb dX8_type_44 ?_
      refine rp_8 X w dX8_type_45 (fun z_45 H locs ez_45 w => ?_)
      refine lv_aload_n hx hb dX8_type_48 rfl (lv_at hl 0 rfl) ?_
      refine rg_8 X w.1 dX8_type_49 ?_
      refine tp_i (show z_45.1 8 = (nI (n9 + 1)) from by first | (rw [ez_45]; done) | (rw [ez_45]; rfl)) ?_
      exact re_i X hr hk w (⟨by unfold an_type; rw [if_pos (by omega), if_neg (by omega)], by unfold nn_type nt_type; rw [if_pos (by omega), if_pos (by omega), show (nI k).toInt.toNat = k by omega, ez_45, ez_37]; exact rw_tp htp (by omega) (by omega), by rw [ez_45, ez_37]; exact rFr_tr (rFr_A _ (by decide)) (rFr_I _ (by decide))⟩) dX8_type_52
    · skip
      refine lv_bipush (v := (iZ (-3))) hx hb dX8_type_25 (by decide) ?_
      exact re_i X hr hk w (⟨by unfold an_type; rw [if_pos (by omega), if_pos (by omega)], by unfold nn_type nt_type; rw [if_neg (by omega), if_neg (by omega)]; exact htp, rFr_rf _ _ _⟩) dX8_type_27
  · skip
    refine lv_iconst (v := (iZ (-1))) hx hb dX8_type_14 (by decide) ?_
    exact re_i X hr hk w (⟨by unfold an_type; rw [if_neg (by omega)], by unfold nn_type nt_type; rw [if_neg (by omega), if_neg (by omega)]; exact htp, rFr_rf _ _ _⟩) dX8_type_15
