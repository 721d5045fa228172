theorem ok_asides : rOk yX8_asides cX8_asides 2 none 0 := ⟨wc_X8_asides, wi_X8_asides, ws_X8_asides, rfl, by decide, by decide, by decide +kernel⟩
set_option maxHeartbeats 4000000 in
set_option maxRecDepth 100000 in
theorem k_asides (l : Launch) (g : RG) (z : RS)   : rMv g l yX8_asides cX8_asides 2 none 0 0 [] z (fun z' => (∀ k, k < 13 → z'.2.1 17 k = z.2.1 5 k) ∧ rFr [] [17] z z') := by
  refine rMv_in (by decide) rfl (Nat.le_of_ble_eq_true rfl) ?_
  intro p e s m args below meth c A ls X hml hr hk hl w
  have hx := X.1
  have hb := X.2.1
  have hts := X.2.2.1
  have hown := X.2.2.2.1
  have hl : lv_has ls 2 [(0, .ref g.2.2.2.1)] := hl
  refine lv_iconst (v := (nI 0)) hx hb dX8_asides_0 (by decide) ?_
  refine lv_istore_n (lv' := [(1, .int (nI 0)), (0, .ref g.2.2.2.1)]) hx hb dX8_asides_1 rfl hl (by decide) rfl (fun ls hl => ?_)
  have lp_2 : ∀ (n_2 : Nat) (i : Nat) (hi : i ≤ 13) (hm_2 : 13 - i < n_2) (ls : Array Slot) (zz : RS) (H : Heap) (locs : List Loc) (w : rW g A s zz H locs) (hfl : fl (zz.2.1 17) (z.2.1 5) (z.2.1 17) 0 i) (hfz : rFr [] [17] z zz), lv_has ls 2 [(0, .ref g.2.2.2.1), (1, .int (nI i))] → W p l e (ro_m 0 0) s m args below meth c H locs 0 0 (MQ below (va_Qv (fun z' => (∀ k, k < 13 → z'.2.1 17 k = z.2.1 5 k) ∧ rFr [] [17] z z') (rB g A) A) args s 0 0 A) (F0 m 2 ls []) := by
    intro n_2
    induction n_2 with
    | zero => intro i hi hm; exact absurd hm (Nat.not_lt_zero _)
    | succ n_2 ih_2 =>
      intro i hi hm_2 ls zz H locs w hfl hfz hl
      refine lv_iload_n hx hb dX8_asides_2 rfl (lv_at hl 1 rfl) ?_
      refine lv_bipush (v := (nI 13)) hx hb dX8_asides_3 (by decide) ?_
      refine n_icmp_ge (tgt := 26) hx hb dX8_asides_5 (by decide) (by omega) (by omega) (fun c_5_1 => ?_) (fun c_5_1 => ?_)
      · skip
        exact re_v X hr hk w (⟨fun k hk => fl_in0 hfl (by omega), hfz⟩) dX8_asides_26
      · skip
        refine lv_aload_n hx hb dX8_asides_8 rfl (lv_at hl 0 rfl) ?_
        refine rg_17 X w.1 dX8_asides_9 ?_
        refine lv_iload_n hx hb dX8_asides_12 rfl (lv_at hl 1 rfl) ?_
        refine lv_aload_n hx hb dX8_asides_13 rfl (lv_at hl 0 rfl) ?_
        refine rg_5 X w.1 dX8_asides_14 ?_
        refine lv_iload_n hx hb dX8_asides_17 rfl (lv_at hl 1 rfl) ?_
        refine rn_5 X w.1 (by omega) dX8_asides_18 ?_
        refine ru_17 X w (by omega) dX8_asides_19 (fun z_19 H locs ez_19 w => ?_)
        refine lv_iinc (v := (nI (i + 1))) (lv' := [(1, .int (nI (i + 1))), (0, .ref g.2.2.2.1)]) hx hb dX8_asides_20 hl (k := 1) rfl (by first | exact nI_1 _ | (rw [show Int32.ofInt 1 = nI 1 from by decide, nI_add])) (by decide) rfl (fun ls hl => ?_)
        refine lv_goto (tgt := 2) hx hb dX8_asides_23 (by decide) ?_
        exact ih_2 (i + 1) (by omega) (by omega) ls z_19 _ _ w (by rw [ez_19]; exact fl_s0 hfl (congrFun (hfz.2.1 5 (by decide)) i)) (by rw [ez_19]; exact rFr_tr hfz (rFr_A _ (by decide))) (lv_sub hl [1, 0] rfl)
  exact lp_2 _ 0 (by omega) (Nat.lt_succ_self _) ls z _ _ w (fl_0 _ _ _) (rFr_rf _ _ _) (lv_sub hl [1, 0] rfl)

theorem ok_backs : rOk yX8_backs cX8_backs 2 none 0 := ⟨wc_X8_backs, wi_X8_backs, ws_X8_backs, rfl, by decide, by decide, by decide +kernel⟩
set_option maxHeartbeats 4000000 in
set_option maxRecDepth 100000 in
theorem k_backs (l : Launch) (g : RG) (z : RS)   : rMv g l yX8_backs cX8_backs 2 none 0 0 [] z (fun z' => (∀ k, k < 13 → z'.2.1 5 k = z.2.1 17 k) ∧ rFr [] [5] z z') := by
  refine rMv_in (by decide) rfl (Nat.le_of_ble_eq_true rfl) ?_
  intro p e s m args below meth c A ls X hml hr hk hl w
  have hx := X.1
  have hb := X.2.1
  have hts := X.2.2.1
  have hown := X.2.2.2.1
  have hl : lv_has ls 2 [(0, .ref g.2.2.2.1)] := hl
  refine lv_iconst (v := (nI 0)) hx hb dX8_backs_0 (by decide) ?_
  refine lv_istore_n (lv' := [(1, .int (nI 0)), (0, .ref g.2.2.2.1)]) hx hb dX8_backs_1 rfl hl (by decide) rfl (fun ls hl => ?_)
  have lp_2 : ∀ (n_2 : Nat) (i : Nat) (hi : i ≤ 13) (hm_2 : 13 - i < n_2) (ls : Array Slot) (zz : RS) (H : Heap) (locs : List Loc) (w : rW g A s zz H locs) (hfl : fl (zz.2.1 5) (z.2.1 17) (z.2.1 5) 0 i) (hfz : rFr [] [5] z zz), lv_has ls 2 [(0, .ref g.2.2.2.1), (1, .int (nI i))] → W p l e (ro_m 0 0) s m args below meth c H locs 0 0 (MQ below (va_Qv (fun z' => (∀ k, k < 13 → z'.2.1 5 k = z.2.1 17 k) ∧ rFr [] [5] z z') (rB g A) A) args s 0 0 A) (F0 m 2 ls []) := by
    intro n_2
    induction n_2 with
    | zero => intro i hi hm; exact absurd hm (Nat.not_lt_zero _)
    | succ n_2 ih_2 =>
      intro i hi hm_2 ls zz H locs w hfl hfz hl
      refine lv_iload_n hx hb dX8_backs_2 rfl (lv_at hl 1 rfl) ?_
      refine lv_bipush (v := (nI 13)) hx hb dX8_backs_3 (by decide) ?_
      refine n_icmp_ge (tgt := 26) hx hb dX8_backs_5 (by decide) (by omega) (by omega) (fun c_5_1 => ?_) (fun c_5_1 => ?_)
      · skip
        exact re_v X hr hk w (⟨fun k hk => fl_in0 hfl (by omega), hfz⟩) dX8_backs_26
      · skip
        refine lv_aload_n hx hb dX8_backs_8 rfl (lv_at hl 0 rfl) ?_
        refine rg_5 X w.1 dX8_backs_9 ?_
        refine lv_iload_n hx hb dX8_backs_12 rfl (lv_at hl 1 rfl) ?_
        refine lv_aload_n hx hb dX8_backs_13 rfl (lv_at hl 0 rfl) ?_
        refine rg_17 X w.1 dX8_backs_14 ?_
        refine lv_iload_n hx hb dX8_backs_17 rfl (lv_at hl 1 rfl) ?_
        refine rn_17 X w.1 (by omega) dX8_backs_18 ?_
        refine ru_5 X w (by omega) dX8_backs_19 (fun z_19 H locs ez_19 w => ?_)
        refine lv_iinc (v := (nI (i + 1))) (lv' := [(1, .int (nI (i + 1))), (0, .ref g.2.2.2.1)]) hx hb dX8_backs_20 hl (k := 1) rfl (by first | exact nI_1 _ | (rw [show Int32.ofInt 1 = nI 1 from by decide, nI_add])) (by decide) rfl (fun ls hl => ?_)
        refine lv_goto (tgt := 2) hx hb dX8_backs_23 (by decide) ?_
        exact ih_2 (i + 1) (by omega) (by omega) ls z_19 _ _ w (by rw [ez_19]; exact fl_s0 hfl (congrFun (hfz.2.1 17 (by decide)) i)) (by rw [ez_19]; exact rFr_tr hfz (rFr_A _ (by decide))) (lv_sub hl [1, 0] rfl)
  exact lp_2 _ 0 (by omega) (Nat.lt_succ_self _) ls z _ _ w (fl_0 _ _ _) (rFr_rf _ _ _) (lv_sub hl [1, 0] rfl)

theorem ok_reaches : rOk yX8_reaches cX8_reaches 2 none 1 := ⟨wc_X8_reaches, wi_X8_reaches, ws_X8_reaches, rfl, by decide, by decide, by decide +kernel⟩
set_option maxHeartbeats 4000000 in
set_option maxRecDepth 100000 in
theorem k_reaches (l : Launch) (g : RG) (z : RS) (t : Nat) (S : Sc) (hz : rSc z S) (ho : oSc S) (tg : Nat) (htg : z.1 6 = nI tg) (hg1 : tg ≤ 1) (hnt : S.1 4 = 0) (ht : t ≤ 10000) (hmo : S.1 3 ≤ 10000) : rMv g l yX8_reaches cX8_reaches 2 none 5 113 [.int (nI t)] z (fun z' => rSc z' (sp_turn S tg (sp_tm S tg (t - S.1 3) (S.1 3))) ∧ rFr [] [5] z z') := by
  refine rMv_in (by decide) rfl (Nat.le_of_ble_eq_true rfl) ?_
  intro p e s m args below meth c A ls X hml hr hk hl w
  have hx := X.1
  have hb := X.2.1
  have hts := X.2.2.1
  have hown := X.2.2.2.1
  have hl : lv_has ls 2 [(0, .ref g.2.2.2.1), (1, .int (nI t))] := hl
  obtain ⟨hz0, hz1, hz4, hm0, hm1, hm2, hso, hki, hsr, hpa, hhu, hco⟩ := id hz
  obtain ⟨o1, o2, o3, o4, o5, o6, oso, oki, osr, opa, ohu, oco⟩ := id ho
  have lp_0 : ∀ (n_0 : Nat) (j : Nat) (hj : S.1 3 ≤ j) (hj2 : j ≤ t ∨ j = S.1 3) (hj3 : sp_tm S tg (t - S.1 3) (S.1 3) = sp_tm S tg (t - j) j) (hm_0 : t - j < n_0) (ls : Array Slot) (zz : RS) (H : Heap) (locs : List Loc) (w : rW g A s zz H locs) (hzz : rSc zz (sN S 3 j)) (hfz : rFr [] [5] z zz), lv_has ls 2 [(0, .ref g.2.2.2.1), (1, .int (nI t))] → W p l e (ro_m 5 113) s m args below meth c H locs 0 0 (MQ below (va_Qv (fun z' => rSc z' (sp_turn S tg (sp_tm S tg (t - S.1 3) (S.1 3))) ∧ rFr [] [5] z z') (rB g A) A) args s 0 0 A) (F0 m 0 ls []) := by
    intro n_0
    induction n_0 with
    | zero => intro j hj hj2 hj3 hm; exact absurd hm (Nat.not_lt_zero _)
    | succ n_0 ih_0 =>
      intro j hj hj2 hj3 hm_0 ls zz H locs w hzz hfz hl
      refine lv_aload_n hx hb dX8_reaches_0 rfl (lv_at hl 0 rfl) ?_
      refine rc_p (rest := []) X hml hl.1 (k_turnS l g zz (sN S 3 j) hzz (oSc_mo ho (by omega))) ok_isTurned wm_X8_80 ⟨Nat.le_of_ble_eq_true rfl, Nat.le_of_ble_eq_true rfl⟩ ⟨Nat.le_refl _, Nat.le_refl _⟩ w.1 rfl (Nat.le_of_ble_eq_true rfl) dX8_reaches_1 (fun r_1 hr_1 => ?_)
      have h9 : r_1 = nI 0 := by rw [hr_1, td_n (S := sN S 3 j) hnt]
      subst h9
      refine n_if_ne (tgt := 53) hx hb dX8_reaches_4 (by decide) (by omega) (fun c_4_1 => ?_) (fun c_4_1 => ?_)
      · skip
        exact absurd rfl c_4_1
      · skip
        refine lv_aload_n hx hb dX8_reaches_7 rfl (lv_at hl 0 rfl) ?_
        refine rg_5 X w.1 dX8_reaches_8 ?_
        refine lv_iconst (v := (nI 0)) hx hb dX8_reaches_11 (by decide) ?_
        refine rn_5 X w.1 (by omega) dX8_reaches_12 ?_
        refine tp_i (show zz.2.1 5 0 = (nI j) from (rs_mo hzz :)) ?_
        refine lv_iload_n hx hb dX8_reaches_13 rfl (lv_at hl 1 rfl) ?_
        refine n_icmp_ge (tgt := 53) hx hb dX8_reaches_14 (by decide) (by omega) (by omega) (fun c_14_2 => ?_) (fun c_14_2 => ?_)
        · skip
          refine lv_aload_n hx hb dX8_reaches_53 rfl (lv_at hl 0 rfl) ?_
          refine rc_p (rest := []) X hml hl.1 (k_turnS l g zz (sN S 3 j) hzz (oSc_mo ho (by omega))) ok_isTurned wm_X8_80 ⟨Nat.le_of_ble_eq_true rfl, Nat.le_of_ble_eq_true rfl⟩ ⟨Nat.le_refl _, Nat.le_refl _⟩ w.1 rfl (Nat.le_of_ble_eq_true rfl) dX8_reaches_54 (fun r_54 hr_54 => ?_)
          have h9 : r_54 = nI 0 := by rw [hr_54, td_n (S := sN S 3 j) hnt]
          subst h9
          refine n_if_ne (tgt := 70) hx hb dX8_reaches_57 (by decide) (by omega) (fun c_57_3 => ?_) (fun c_57_3 => ?_)
          · skip
            exact absurd rfl c_57_3
          · skip
            refine lv_aload_n hx hb dX8_reaches_60 rfl (lv_at hl 0 rfl) ?_
            refine lv_aload_n hx hb dX8_reaches_61 rfl (lv_at hl 0 rfl) ?_
            refine rg_5 X w.1 dX8_reaches_62 ?_
            refine lv_iconst (v := (nI 0)) hx hb dX8_reaches_65 (by decide) ?_
            refine rn_5 X w.1 (by omega) dX8_reaches_66 ?_
            refine tp_i (show zz.2.1 5 0 = (nI j) from (rs_mo hzz :)) ?_
            refine rc_v (rest := []) X hml hl.1 (k_turns l g zz j (sN S 3 j) hzz (oSc_mo ho (by omega)) tg ((hfz.1 6 (by decide)).trans htg) hg1 (by omega)) ok_turns wm_X8_198 ⟨Nat.le_of_ble_eq_true rfl, Nat.le_of_ble_eq_true rfl⟩ ⟨Nat.le_refl _, Nat.le_refl _⟩ w rfl (Nat.le_of_ble_eq_true rfl) dX8_reaches_67 (fun z_67 H locs hr_67 w => ?_)
            skip
            exact re_v X hr hk w (by first | exact ⟨by rw [hj3, show t - j = (t - (j + 1)) + 1 by omega]; rw [show sp_tm S tg ((t - (j + 1)) + 1) j = j + 1 from if_neg (by omega), ← turn_mo S tg (j + 1) (j + 1)]; exact hr_47.1, rFr_tr (rFr_tr hfz (by rw [ez_26]; exact rFr_A _ (by decide))) hr_47.2⟩ | exact ⟨by rw [hj3, show t - j = 0 by omega, ← turn_mo S tg j (sp_tm S tg 0 j)]; exact hr_67.1, rFr_tr hfz hr_67.2⟩) dX8_reaches_70
        · skip
          refine lv_aload_n hx hb dX8_reaches_17 rfl (lv_at hl 0 rfl) ?_
          refine rg_5 X w.1 dX8_reaches_18 ?_
          refine lv_iconst (v := (nI 0)) hx hb dX8_reaches_21 (by decide) ?_
          refine lv_dup2_11 hx hb dX8_reaches_22 rfl rfl ?_
          refine rn_5 X w.1 (by omega) dX8_reaches_23 ?_
          refine tp_i (show zz.2.1 5 0 = (nI j) from (rs_mo hzz :)) ?_
          refine lv_iconst (v := (nI 1)) hx hb dX8_reaches_24 (by decide) ?_
          refine n_iadd hx hb dX8_reaches_25 ?_
          refine ru_5 X w (by omega) dX8_reaches_26 (fun z_26 H locs ez_26 w => ?_)
          have hz_26 : rSc z_26 (sN S 3 (j + 1)) := by rw [ez_26, ← sN_mo S j (j + 1)]; exact rw_mo hzz _
          refine lv_aload_n hx hb dX8_reaches_27 rfl (lv_at hl 0 rfl) ?_
          refine lv_aload_n hx hb dX8_reaches_28 rfl (lv_at hl 0 rfl) ?_
          refine rg_5 X w.1 dX8_reaches_29 ?_
          refine lv_iconst (v := (nI 0)) hx hb dX8_reaches_32 (by decide) ?_
          refine rn_5 X w.1 (by omega) dX8_reaches_33 ?_
          refine tp_i (show z_26.2.1 5 0 = (nI (j + 1)) from (rs_mo hz_26 :)) ?_
          refine rc_p (rest := []) X hml hl.1 (k_isCaught l g z_26 (j + 1) (sN S 3 (j + 1)) hz_26 (oSc_mo ho (by omega)) tg (by rw [ez_26]; exact (hfz.1 6 (by decide)).trans htg) hg1 (by omega)) ok_isCaught wm_X8_195 ⟨Nat.le_of_ble_eq_true rfl, Nat.le_of_ble_eq_true rfl⟩ ⟨Nat.le_refl _, Nat.le_refl _⟩ w.1 rfl (Nat.le_of_ble_eq_true rfl) dX8_reaches_34 (fun r_34 hr_34 => ?_)
          have h9 : r_34 = nI (sp_ct S tg (j + 1)) := by rw [hr_34, ev_ct (ev_mo S (j + 1))]
          subst h9
          have d_34 := sp_ct01 S tg (j + 1)
          refine n_if_eq (tgt := 0) hx hb dX8_reaches_37 (by decide) (by omega) (fun c_37_4 => ?_) (fun c_37_4 => ?_)
          · skip
            exact ih_0 (j + 1) (by omega) (by omega) (by rw [hj3, show t - j = (t - (j + 1)) + 1 by omega]; show (if sp_ct S tg (j + 1) = 0 then _ else _) = _; rw [if_pos (by omega)]) (by omega) ls z_26 _ _ w hz_26 (by rw [ez_26]; exact rFr_tr hfz (rFr_A _ (by decide))) (lv_sub hl [0, 1] rfl)
          · skip
            refine lv_aload_n hx hb dX8_reaches_40 rfl (lv_at hl 0 rfl) ?_
            refine lv_aload_n hx hb dX8_reaches_41 rfl (lv_at hl 0 rfl) ?_
            refine rg_5 X w.1 dX8_reaches_42 ?_
            refine lv_iconst (v := (nI 0)) hx hb dX8_reaches_45 (by decide) ?_
            refine rn_5 X w.1 (by omega) dX8_reaches_46 ?_
            refine tp_i (show z_26.2.1 5 0 = (nI (j + 1)) from (rs_mo hz_26 :)) ?_
            refine rc_v (rest := []) X hml hl.1 (k_turns l g z_26 (j + 1) (sN S 3 (j + 1)) hz_26 (oSc_mo ho (by omega)) tg (by rw [ez_26]; exact (hfz.1 6 (by decide)).trans htg) hg1 (by omega)) ok_turns wm_X8_198 ⟨Nat.le_of_ble_eq_true rfl, Nat.le_of_ble_eq_true rfl⟩ ⟨Nat.le_refl _, Nat.le_refl _⟩ w rfl (Nat.le_of_ble_eq_true rfl) dX8_reaches_47 (fun z_47 H locs hr_47 w => ?_)
            skip
            refine lv_goto (tgt := 0) hx hb dX8_reaches_50 (by decide) ?_
            refine lv_aload_n hx hb dX8_reaches_0 rfl (lv_at hl 0 rfl) ?_
            refine rc_p (rest := []) X hml hl.1 (k_turnS l g z_47 (sp_turn (sN S 3 (j + 1)) tg (j + 1)) hr_47.1 (oSc_turn (oSc_mo ho (by omega)) tg (by omega))) ok_isTurned wm_X8_80 ⟨Nat.le_of_ble_eq_true rfl, Nat.le_of_ble_eq_true rfl⟩ ⟨Nat.le_refl _, Nat.le_refl _⟩ w.1 rfl (Nat.le_of_ble_eq_true rfl) dX8_reaches_1 (fun r_1 hr_1 => ?_)
            have h9 : r_1 = nI 1 := by rw [hr_1, td_y (S := sp_turn (sN S 3 (j + 1)) tg (j + 1)) (show ¬ sp_run (sN S 3 (j + 1)) (j + 1) + 1 = 0 by omega)]
            subst h9
            refine n_if_ne (tgt := 53) hx hb dX8_reaches_4 (by decide) (by omega) (fun c_4_5 => ?_) (fun c_4_5 => ?_)
            · skip
              refine lv_aload_n hx hb dX8_reaches_53 rfl (lv_at hl 0 rfl) ?_
              refine rc_p (rest := []) X hml hl.1 (k_turnS l g z_47 (sp_turn (sN S 3 (j + 1)) tg (j + 1)) hr_47.1 (oSc_turn (oSc_mo ho (by omega)) tg (by omega))) ok_isTurned wm_X8_80 ⟨Nat.le_of_ble_eq_true rfl, Nat.le_of_ble_eq_true rfl⟩ ⟨Nat.le_refl _, Nat.le_refl _⟩ w.1 rfl (Nat.le_of_ble_eq_true rfl) dX8_reaches_54 (fun r_54 hr_54 => ?_)
              have h9 : r_54 = nI 1 := by rw [hr_54, td_y (S := sp_turn (sN S 3 (j + 1)) tg (j + 1)) (show ¬ sp_run (sN S 3 (j + 1)) (j + 1) + 1 = 0 by omega)]
              subst h9
              refine n_if_ne (tgt := 70) hx hb dX8_reaches_57 (by decide) (by omega) (fun c_57_6 => ?_) (fun c_57_6 => ?_)
              · skip
                exact re_v X hr hk w (by first | exact ⟨by rw [hj3, show t - j = (t - (j + 1)) + 1 by omega]; rw [show sp_tm S tg ((t - (j + 1)) + 1) j = j + 1 from if_neg (by omega), ← turn_mo S tg (j + 1) (j + 1)]; exact hr_47.1, rFr_tr (rFr_tr hfz (by rw [ez_26]; exact rFr_A _ (by decide))) hr_47.2⟩ | exact ⟨by rw [hj3, show t - j = 0 by omega, ← turn_mo S tg j (sp_tm S tg 0 j)]; exact hr_67.1, rFr_tr hfz hr_67.2⟩) dX8_reaches_70
              · skip
                exact absurd c_57_6 (by decide)
            · skip
              exact absurd c_4_5 (by decide)
  exact lp_0 _ (S.1 3) (Nat.le_refl _) (Or.inr rfl) rfl (Nat.lt_succ_self _) ls z _ _ w (by rw [show sN S 3 (S.1 3) = S from sN_id S]; exact hz) (rFr_rf _ _ _) (lv_sub hl [0, 1] rfl)

set_option maxHeartbeats 4000000 in
set_option maxRecDepth 100000 in
theorem k_reaches2 (l : Launch) (g : RG) (z : RS) (t : Int32) (S : Sc) (hz : rSc z S) (ho : oSc S) (htd : ¬ S.1 4 = 0) : rMv g l yX8_reaches cX8_reaches 2 none 1 20 [.int t] z (fun z' => z' = z) := by
  refine rMv_in (by decide) rfl (Nat.le_of_ble_eq_true rfl) ?_
  intro p e s m args below meth c A ls X hml hr hk hl w
  have hx := X.1
  have hb := X.2.1
  have hts := X.2.2.1
  have hown := X.2.2.2.1
  have hl : lv_has ls 2 [(0, .ref g.2.2.2.1), (1, .int t)] := hl
  obtain ⟨hz0, hz1, hz4, hm0, hm1, hm2, hso, hki, hsr, hpa, hhu, hco⟩ := id hz
  obtain ⟨o1, o2, o3, o4, o5, o6, oso, oki, osr, opa, ohu, oco⟩ := id ho
  refine lv_aload_n hx hb dX8_reaches_0 rfl (lv_at hl 0 rfl) ?_
  refine rc_p (rest := []) X hml hl.1 (k_turnS l g z S hz ho) ok_isTurned wm_X8_80 ⟨Nat.le_of_ble_eq_true rfl, Nat.le_of_ble_eq_true rfl⟩ ⟨Nat.le_refl _, Nat.le_refl _⟩ w.1 rfl (Nat.le_of_ble_eq_true rfl) dX8_reaches_1 (fun r_1 hr_1 => ?_)
  have h9 : r_1 = nI 1 := by rw [hr_1, td_y htd]
  subst h9
  refine n_if_ne (tgt := 53) hx hb dX8_reaches_4 (by decide) (by omega) (fun c_4_1 => ?_) (fun c_4_1 => ?_)
  · skip
    refine lv_aload_n hx hb dX8_reaches_53 rfl (lv_at hl 0 rfl) ?_
    refine rc_p (rest := []) X hml hl.1 (k_turnS l g z S hz ho) ok_isTurned wm_X8_80 ⟨Nat.le_of_ble_eq_true rfl, Nat.le_of_ble_eq_true rfl⟩ ⟨Nat.le_refl _, Nat.le_refl _⟩ w.1 rfl (Nat.le_of_ble_eq_true rfl) dX8_reaches_54 (fun r_54 hr_54 => ?_)
    have h9 : r_54 = nI 1 := by rw [hr_54, td_y htd]
    subst h9
    refine n_if_ne (tgt := 70) hx hb dX8_reaches_57 (by decide) (by omega) (fun c_57_2 => ?_) (fun c_57_2 => ?_)
    · skip
      exact re_v X hr hk w (rfl) dX8_reaches_70
    · skip
      exact absurd c_57_2 (by decide)
  · skip
    exact absurd c_4_1 (by decide)

theorem ok_isCaughtThen : rOk yX8_isCaughtThen cX8_isCaughtThen 2 (some .boolean) 1 := ⟨wc_X8_isCaughtThen, wi_X8_isCaughtThen, ws_X8_isCaughtThen, rfl, by decide, by decide, by decide +kernel⟩
set_option maxHeartbeats 4000000 in
set_option maxRecDepth 100000 in
theorem k_isCaughtThen (l : Launch) (g : RG) (z : RS) (t : Nat) (S P : Sc) (hz : rSc z S) (hpn : rNw (z.2.1 17) P) (ho : oSc (sc_at S P)) (tg : Nat) (htg : z.1 6 = nI tg) (hg1 : tg ≤ 1) (ht : t ≤ 100000) : rMi g l yX8_isCaughtThen cX8_isCaughtThen 2 (some .boolean) 4 92 [.int (nI t)] z (fun r z' => r = nI (sp_ct (sc_at S P) tg t) ∧ rSc z' (sc_at S P) ∧ rFr [] [5] z z') := by
  refine rMi_in (by decide) rfl (Nat.le_of_ble_eq_true rfl) ?_
  intro p e s m args below meth c A ls X hml hr hk hl w
  have hx := X.1
  have hb := X.2.1
  have hts := X.2.2.1
  have hown := X.2.2.2.1
  have hl : lv_has ls 2 [(0, .ref g.2.2.2.1), (1, .int (nI t))] := hl
  refine lv_aload_n hx hb dX8_isCaughtThen_0 rfl (lv_at hl 0 rfl) ?_
  refine rc_v (rest := []) X hml hl.1 (k_backs l g z) ok_backs wm_X8_229 ⟨Nat.le_of_ble_eq_true rfl, Nat.le_of_ble_eq_true rfl⟩ ⟨Nat.le_refl _, Nat.le_refl _⟩ w rfl (Nat.le_of_ble_eq_true rfl) dX8_isCaughtThen_1 (fun z_1 H locs hr_1 w => ?_)
  have hz_1 : rSc z_1 (sc_at S P) := rSc_at hz hr_1.2 (by decide) (by decide) (by decide) (by decide) (by decide) (rNw_of hpn hr_1.1)
  refine lv_aload_n hx hb dX8_isCaughtThen_4 rfl (lv_at hl 0 rfl) ?_
  refine lv_iload_n hx hb dX8_isCaughtThen_5 rfl (lv_at hl 1 rfl) ?_
  refine rc_p (rest := []) X hml hl.1 (k_isCaught l g z_1 t (sc_at S P) hz_1 ho tg ((hr_1.2.1 6 (by decide)).trans htg) hg1 (by omega)) ok_isCaught wm_X8_195 ⟨Nat.le_of_ble_eq_true rfl, Nat.le_of_ble_eq_true rfl⟩ ⟨Nat.le_refl _, Nat.le_refl _⟩ w.1 rfl (Nat.le_of_ble_eq_true rfl) dX8_isCaughtThen_6 (fun r_6 hr_6 => ?_)
  subst hr_6
  exact re_iz X hr hk w (by have q := sp_ct01 (sc_at S P) tg t; rcases (show sp_ct (sc_at S P) tg t = 0 ∨ sp_ct (sc_at S P) tg t = 1 by omega) with q | q <;> rw [q]; exact Or.inl rfl; exact Or.inr rfl) (⟨rfl, hz_1, hr_1.2⟩) dX8_isCaughtThen_9

theorem ok_isOff : rOk yX8_isOff cX8_isOff 1 (some .boolean) 0 := ⟨wc_X8_isOff, wi_X8_isOff, ws_X8_isOff, rfl, by decide, by decide, by decide +kernel⟩
set_option maxHeartbeats 4000000 in
set_option maxRecDepth 100000 in
theorem k_isOff (l : Launch) (g : RG) (z : RS)  (S : Sc) (hz : rSc z S) (ho : oSc S) : rMp g l yX8_isOff cX8_isOff 1 (some .boolean) 4 85 [] z (fun r => r = nI (if sp_over S = 0 then (if pc_td S = 0 then 0 else 1) else 1)) := by
  refine rMp_in (by decide) rfl (Nat.le_of_ble_eq_true rfl) ?_
  intro p e s m args below meth c ls X hml hr hk hl w
  have hx := X.1
  have hb := X.2.1
  have hts := X.2.2.1
  have hown := X.2.2.2.1
  have hl : lv_has ls 1 [(0, .ref g.2.2.2.1)] := hl
  obtain ⟨hz0, hz1, hz4, hm0, hm1, hm2, hso, hki, hsr, hpa, hhu, hco⟩ := id hz
  obtain ⟨o1, o2, o3, o4, o5, o6, oso, oki, osr, opa, ohu, oco⟩ := id ho
  refine lv_aload_n hx hb dX8_isOff_0 rfl (lv_at hl 0 rfl) ?_
  refine rc_p (rest := []) X hml hl.1 (k_over l g z S hz ho) ok_over wm_X8_174 ⟨Nat.le_of_ble_eq_true rfl, Nat.le_of_ble_eq_true rfl⟩ ⟨Nat.le_refl _, Nat.le_refl _⟩ w rfl (Nat.le_of_ble_eq_true rfl) dX8_isOff_1 (fun r_1 hr_1 => ?_)
  subst hr_1
  have d_1 := sp_over_le S
  refine jn (tgt := 19) (rest := []) (fun v9 => ∃ x9 : Nat, x9 = (if (sp_over S) = 0 then (if (pc_td S) = 0 then 0 else 1) else 1) ∧ v9 = nI x9) (fun v_ hv_ => ?_) (fun k_19 => ?_)
  · obtain ⟨x_19, ex_19, rfl⟩ := hv_
    exact re_pz hx hb hr hk (by rw [ex_19]; split; split; exact Or.inl rfl; exact Or.inr rfl; exact Or.inr rfl) (by rw [ex_19]) dX8_isOff_19
  · skip
    refine n_if_ne (tgt := 14) hx hb dX8_isOff_4 (by decide) (by omega) (fun c_4_2 => ?_) (fun c_4_2 => ?_)
    · skip
      refine lv_iconst (v := (nI 1)) hx hb dX8_isOff_14 (by decide) ?_
      refine lv_goto (tgt := 19) hx hb dX8_isOff_15 (by decide) ?_
      exact k_19 _ ⟨_, by simp only [if_neg c_4_2], rfl⟩
    · skip
      refine lv_aload_n hx hb dX8_isOff_7 rfl (lv_at hl 0 rfl) ?_
      refine rc_p (rest := []) X hml hl.1 (k_turnS l g z S hz ho) ok_isTurned wm_X8_80 ⟨Nat.le_of_ble_eq_true rfl, Nat.le_of_ble_eq_true rfl⟩ ⟨Nat.le_refl _, Nat.le_refl _⟩ w rfl (Nat.le_of_ble_eq_true rfl) dX8_isOff_8 (fun r_8 hr_8 => ?_)
      subst hr_8
      have d_8 := pc_td01 S
      refine n_if_eq (tgt := 18) hx hb dX8_isOff_11 (by decide) (by omega) (fun c_11_3 => ?_) (fun c_11_3 => ?_)
      · skip
        refine lv_iconst (v := (nI 0)) hx hb dX8_isOff_18 (by decide) ?_
        exact k_19 _ ⟨_, by simp only [if_pos c_4_2, if_pos c_11_3], rfl⟩
      · skip
        refine lv_iconst (v := (nI 1)) hx hb dX8_isOff_14 (by decide) ?_
        refine lv_goto (tgt := 19) hx hb dX8_isOff_15 (by decide) ?_
        exact k_19 _ ⟨_, by simp only [if_pos c_4_2, if_neg c_11_3], rfl⟩

theorem ok_notes : rOk yX8_notes cX8_notes 2 none 0 := ⟨wc_X8_notes, wi_X8_notes, ws_X8_notes, rfl, by decide, by decide, by decide +kernel⟩
set_option maxHeartbeats 4000000 in
set_option maxRecDepth 100000 in
theorem k_notes (l : Launch) (g : RG) (z : RS)  (u : Nat) (P : Nat → Nat → Int32) (hpa : rPa z u P) : rMv g l yX8_notes cX8_notes 2 none 0 0 [] z (fun z' => rPa z' (pa_n u) (pa_put u P (z.2.1 5)) ∧ rFr [16] [15] z z') := by
  refine rMv_in (by decide) rfl (Nat.le_of_ble_eq_true rfl) ?_
  intro p e s m args below meth c A ls X hml hr hk hl w
  have hx := X.1
  have hb := X.2.1
  have hts := X.2.2.1
  have hown := X.2.2.2.1
  have hl : lv_has ls 2 [(0, .ref g.2.2.2.1)] := hl
  have hu8 := hpa.2.1
  refine lv_aload_n hx hb dX8_notes_0 rfl (lv_at hl 0 rfl) ?_
  refine rg_16 X w.1 dX8_notes_1 ?_
  refine tp_i (show z.1 16 = (nI u) from hpa.1) ?_
  refine lv_bipush (v := (nI 8)) hx hb dX8_notes_4 (by decide) ?_
  refine n_icmp_ne (tgt := 45) hx hb dX8_notes_6 (by decide) (by omega) (by omega) (fun c_6_1 => ?_) (fun c_6_1 => ?_)
  · skip
    refine lv_iconst (v := (nI 0)) hx hb dX8_notes_45 (by decide) ?_
    refine lv_istore_n (lv' := [(1, .int (nI 0)), (0, .ref g.2.2.2.1)]) hx hb dX8_notes_46 rfl hl (by decide) rfl (fun ls hl => ?_)
    have lp_47 : ∀ (n_47 : Nat) (j : Nat) (hj : j ≤ 13) (hm_47 : 13 - j < n_47) (ls : Array Slot) (zz : RS) (H : Heap) (locs : List Loc) (w : rW g A s zz H locs) (hfl : fl (zz.2.1 15) (z.2.1 5) (z.2.1 15) (13 * u) j) (hfz : rFr [16] [15] z zz) (hu : zz.1 16 = nI u), lv_has ls 2 [(0, .ref g.2.2.2.1), (1, .int (nI j))] → W p l e (ro_m 0 0) s m args below meth c H locs 0 0 (MQ below (va_Qv (fun z' => rPa z' (pa_n u) (pa_put u P (z.2.1 5)) ∧ rFr [16] [15] z z') (rB g A) A) args s 0 0 A) (F0 m 47 ls []) := by
      intro n_47
      induction n_47 with
      | zero => intro j hj hm; exact absurd hm (Nat.not_lt_zero _)
      | succ n_47 ih_47 =>
        intro j hj hm_47 ls zz H locs w hfl hfz hu hl
        refine lv_iload_n hx hb dX8_notes_47 rfl (lv_at hl 1 rfl) ?_
        refine lv_bipush (v := (nI 13)) hx hb dX8_notes_48 (by decide) ?_
        refine n_icmp_ge (tgt := 79) hx hb dX8_notes_50 (by decide) (by omega) (by omega) (fun c_50_2 => ?_) (fun c_50_2 => ?_)
        · skip
          refine lv_aload_n hx hb dX8_notes_79 rfl (lv_at hl 0 rfl) ?_
          refine lv_dup hx hb dX8_notes_80 rfl ?_
          refine rg_16 X w.1 dX8_notes_81 ?_
          refine tp_i (show zz.1 16 = (nI u) from hu) ?_
          refine lv_iconst (v := (nI 1)) hx hb dX8_notes_84 (by decide) ?_
          refine n_iadd hx hb dX8_notes_85 ?_
          refine rp_16 X w dX8_notes_86 (fun z_86 H locs ez_86 w => ?_)
          exact re_v X hr hk w (⟨pa_u hpa (by assumption) (by have e7 : j = 13 := (by omega); subst e7; rw [ez_86]; exact hfl) (by first | (rw [ez_86]; done) | (rw [ez_86]; rfl)), by rw [ez_86]; exact rFr_tr hfz (rFr_I _ (by decide))⟩) dX8_notes_89
        · skip
          refine lv_aload_n hx hb dX8_notes_53 rfl (lv_at hl 0 rfl) ?_
          refine rg_15 X w.1 dX8_notes_54 ?_
          refine lv_bipush (v := (nI 13)) hx hb dX8_notes_57 (by decide) ?_
          refine lv_aload_n hx hb dX8_notes_59 rfl (lv_at hl 0 rfl) ?_
          refine rg_16 X w.1 dX8_notes_60 ?_
          refine tp_i (show zz.1 16 = (nI u) from hu) ?_
          refine n_imul hx hb dX8_notes_63 ?_
          refine lv_iload_n hx hb dX8_notes_64 rfl (lv_at hl 1 rfl) ?_
          refine n_iadd hx hb dX8_notes_65 ?_
          refine lv_aload_n hx hb dX8_notes_66 rfl (lv_at hl 0 rfl) ?_
          refine rg_5 X w.1 dX8_notes_67 ?_
          refine lv_iload_n hx hb dX8_notes_70 rfl (lv_at hl 1 rfl) ?_
          refine rn_5 X w.1 (by omega) dX8_notes_71 ?_
          refine ru_15 X w (by omega) dX8_notes_72 (fun z_72 H locs ez_72 w => ?_)
          refine lv_iinc (v := (nI (j + 1))) (lv' := [(1, .int (nI (j + 1))), (0, .ref g.2.2.2.1)]) hx hb dX8_notes_73 hl (k := 1) rfl (by first | exact nI_1 _ | (rw [show Int32.ofInt 1 = nI 1 from by decide, nI_add])) (by decide) rfl (fun ls hl => ?_)
          refine lv_goto (tgt := 47) hx hb dX8_notes_76 (by decide) ?_
          exact ih_47 (j + 1) (by omega) (by omega) ls z_72 _ _ w (by rw [ez_72]; exact fl_s hfl (congrFun (hfz.2.1 5 (by decide)) j)) (by rw [ez_72]; exact rFr_tr hfz (rFr_A _ (by decide))) (by rw [ez_72]; exact hu) (lv_sub hl [1, 0] rfl)
    exact lp_47 _ 0 (by omega) (Nat.lt_succ_self _) ls z _ _ w (fl_0 _ _ _) (rFr_rf _ _ _) hpa.1 (lv_sub hl [1, 0] rfl)
  · skip
    refine lv_bipush (v := (nI 13)) hx hb dX8_notes_9 (by decide) ?_
    refine lv_istore_n (lv' := [(1, .int (nI 13)), (0, .ref g.2.2.2.1)]) hx hb dX8_notes_11 rfl hl (by decide) rfl (fun ls hl => ?_)
    have lp_12 : ∀ (n_12 : Nat) (i : Nat) (hi : i ≤ 91) (hm_12 : 91 - i < n_12) (ls : Array Slot) (z1 : RS) (H : Heap) (locs : List Loc) (w : rW g A s z1 H locs) (hf1 : fl (z1.2.1 15) (fun q => z.2.1 15 (q + 13)) (z.2.1 15) 0 i) (hfz1 : rFr [16] [15] z z1), lv_has ls 2 [(0, .ref g.2.2.2.1), (1, .int (nI (i + 13)))] → W p l e (ro_m 0 0) s m args below meth c H locs 0 0 (MQ below (va_Qv (fun z' => rPa z' (pa_n u) (pa_put u P (z.2.1 5)) ∧ rFr [16] [15] z z') (rB g A) A) args s 0 0 A) (F0 m 12 ls []) := by
      intro n_12
      induction n_12 with
      | zero => intro i hi hm; exact absurd hm (Nat.not_lt_zero _)
      | succ n_12 ih_12 =>
        intro i hi hm_12 ls z1 H locs w hf1 hfz1 hl
        refine lv_iload_n hx hb dX8_notes_12 rfl (lv_at hl 1 rfl) ?_
        refine lv_bipush (v := (nI 104)) hx hb dX8_notes_13 (by decide) ?_
        refine n_icmp_ge (tgt := 39) hx hb dX8_notes_15 (by decide) (by omega) (by omega) (fun c_15_3 => ?_) (fun c_15_3 => ?_)
        · skip
          refine lv_aload_n hx hb dX8_notes_39 rfl (lv_at hl 0 rfl) ?_
          refine lv_bipush (v := (nI 7)) hx hb dX8_notes_40 (by decide) ?_
          refine rp_16 X w dX8_notes_42 (fun z_42 H locs ez_42 w => ?_)
          refine lv_iconst (v := (nI 0)) hx hb dX8_notes_45 (by decide) ?_
          refine lv_istore_n (lv' := [(1, .int (nI 0)), (0, .ref g.2.2.2.1)]) hx hb dX8_notes_46 rfl hl (by decide) rfl (fun ls hl => ?_)
          have lp_47 : ∀ (n_47 : Nat) (j : Nat) (hj : j ≤ 13) (hm_47 : 13 - j < n_47) (ls : Array Slot) (zy : RS) (H : Heap) (locs : List Loc) (w : rW g A s zy H locs) (hfl : fl (zy.2.1 15) (z.2.1 5) (z_42.2.1 15) (13 * 7) j) (hfz : rFr [16] [15] z zy) (hu : zy.1 16 = nI 7), lv_has ls 2 [(0, .ref g.2.2.2.1), (1, .int (nI j))] → W p l e (ro_m 0 0) s m args below meth c H locs 0 0 (MQ below (va_Qv (fun z' => rPa z' (pa_n u) (pa_put u P (z.2.1 5)) ∧ rFr [16] [15] z z') (rB g A) A) args s 0 0 A) (F0 m 47 ls []) := by
            intro n_47
            induction n_47 with
            | zero => intro j hj hm; exact absurd hm (Nat.not_lt_zero _)
            | succ n_47 ih_47 =>
              intro j hj hm_47 ls zy H locs w hfl hfz hu hl
              refine lv_iload_n hx hb dX8_notes_47 rfl (lv_at hl 1 rfl) ?_
              refine lv_bipush (v := (nI 13)) hx hb dX8_notes_48 (by decide) ?_
              refine n_icmp_ge (tgt := 79) hx hb dX8_notes_50 (by decide) (by omega) (by omega) (fun c_50_4 => ?_) (fun c_50_4 => ?_)
              · skip
                refine lv_aload_n hx hb dX8_notes_79 rfl (lv_at hl 0 rfl) ?_
                refine lv_dup hx hb dX8_notes_80 rfl ?_
                refine rg_16 X w.1 dX8_notes_81 ?_
                refine tp_i (show zy.1 16 = (nI 7) from hu) ?_
                refine lv_iconst (v := (nI 1)) hx hb dX8_notes_84 (by decide) ?_
                refine n_iadd hx hb dX8_notes_85 ?_
                refine rp_16 X w dX8_notes_86 (fun z_86 H locs ez_86 w => ?_)
                exact re_v X hr hk w (by subst c_6_1; exact ⟨pa_8 (z1 := z_42) hpa (by have e7 : i = 91 := (by omega); subst e7; rw [ez_42]; exact hf1) (by have e7 : j = 13 := (by omega); subst e7; rw [ez_86]; exact hfl) (by first | (rw [ez_86]; done) | (rw [ez_86]; rfl)), by rw [ez_86]; exact rFr_tr hfz (rFr_I _ (by decide))⟩) dX8_notes_89
              · skip
                refine lv_aload_n hx hb dX8_notes_53 rfl (lv_at hl 0 rfl) ?_
                refine rg_15 X w.1 dX8_notes_54 ?_
                refine lv_bipush (v := (nI 13)) hx hb dX8_notes_57 (by decide) ?_
                refine lv_aload_n hx hb dX8_notes_59 rfl (lv_at hl 0 rfl) ?_
                refine rg_16 X w.1 dX8_notes_60 ?_
                refine tp_i (show zy.1 16 = (nI 7) from hu) ?_
                refine n_imul hx hb dX8_notes_63 ?_
                refine lv_iload_n hx hb dX8_notes_64 rfl (lv_at hl 1 rfl) ?_
                refine n_iadd hx hb dX8_notes_65 ?_
                refine lv_aload_n hx hb dX8_notes_66 rfl (lv_at hl 0 rfl) ?_
                refine rg_5 X w.1 dX8_notes_67 ?_
                refine lv_iload_n hx hb dX8_notes_70 rfl (lv_at hl 1 rfl) ?_
                refine rn_5 X w.1 (by omega) dX8_notes_71 ?_
                refine ru_15 X w (by omega) dX8_notes_72 (fun z_72 H locs ez_72 w => ?_)
                refine lv_iinc (v := (nI (j + 1))) (lv' := [(1, .int (nI (j + 1))), (0, .ref g.2.2.2.1)]) hx hb dX8_notes_73 hl (k := 1) rfl (by first | exact nI_1 _ | (rw [show Int32.ofInt 1 = nI 1 from by decide, nI_add])) (by decide) rfl (fun ls hl => ?_)
                refine lv_goto (tgt := 47) hx hb dX8_notes_76 (by decide) ?_
                exact ih_47 (j + 1) (by omega) (by omega) ls z_72 _ _ w (by rw [ez_72]; exact fl_s hfl (congrFun (hfz.2.1 5 (by decide)) j)) (by rw [ez_72]; exact rFr_tr hfz (rFr_A _ (by decide))) (by rw [ez_72]; exact hu) (lv_sub hl [1, 0] rfl)
          exact lp_47 _ 0 (by omega) (Nat.lt_succ_self _) ls z_42 _ _ w (fl_0 _ _ _) (by rw [ez_42]; exact rFr_tr hfz1 (rFr_I _ (by decide))) (by rw [ez_42]; rfl) (lv_sub hl [1, 0] rfl)
        · skip
          refine lv_aload_n hx hb dX8_notes_18 rfl (lv_at hl 0 rfl) ?_
          refine rg_15 X w.1 dX8_notes_19 ?_
          refine lv_iload_n hx hb dX8_notes_22 rfl (lv_at hl 1 rfl) ?_
          refine lv_bipush (v := (nI 13)) hx hb dX8_notes_23 (by decide) ?_
          refine n_isub hx hb dX8_notes_25 (by omega) ?_
          refine lv_aload_n hx hb dX8_notes_26 rfl (lv_at hl 0 rfl) ?_
          refine rg_15 X w.1 dX8_notes_27 ?_
          refine lv_iload_n hx hb dX8_notes_30 rfl (lv_at hl 1 rfl) ?_
          refine rn_15 X w.1 (by omega) dX8_notes_31 ?_
          refine ru_15 X w (by omega) dX8_notes_32 (fun z_32 H locs ez_32 w => ?_)
          refine lv_iinc (v := (nI (i + 13 + 1))) (lv' := [(1, .int (nI (i + 13 + 1))), (0, .ref g.2.2.2.1)]) hx hb dX8_notes_33 hl (k := 1) rfl (by first | exact nI_1 _ | (rw [show Int32.ofInt 1 = nI 1 from by decide, nI_add])) (by decide) rfl (fun ls hl => ?_)
          refine lv_goto (tgt := 12) hx hb dX8_notes_36 (by decide) ?_
          have e9 : i + 13 - 13 = i := by omega
          rw [e9] at ez_32
          rw [show i + 13 + 1 = i + 1 + 13 by omega] at hl
          exact ih_12 (i + 1) (by omega) (by omega) ls z_32 _ _ w (by rw [ez_32]; exact fl_s0 hf1 (by rw [hf1 (i + 13), if_neg (by omega)])) (by rw [ez_32]; exact rFr_tr hfz1 (rFr_A _ (by decide))) (lv_sub hl [1, 0] rfl)
    exact lp_12 _ 0 (by omega) (Nat.lt_succ_self _) ls z _ _ w (fl_0 _ _ _) (rFr_rf _ _ _) (lv_sub hl [1, 0] rfl)
