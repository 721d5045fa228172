set_option maxHeartbeats 4000000 in
set_option maxRecDepth 100000 in
theorem k_turnS (l : Launch) (g : RG) (z : RS)  (S : Sc) (hz : rSc z S) (ho : oSc S) : rMp g l yX8_isTurned cX8_isTurned 1 (some .boolean) 0 0 [] z (fun r => r = nI (pc_td S)) := by
  refine rMp_in (by decide) rfl (Nat.le_of_ble_eq_true rfl) ?_
  intro p e s m args below meth c ls X hml hr hk hl w
  have hx := X.1
  have hb := X.2.1
  have hts := X.2.2.1
  have hown := X.2.2.2.1
  have hl : lv_has ls 1 [(0, .ref g.2.2.2.1)] := hl
  obtain ⟨hz0, hz1, hz4, hm0, hm1, hm2, hso, hki, hsr, hpa, hhu, hco⟩ := id hz
  obtain ⟨o1, o2, o3, o4, o5, o6, oso, oki, osr, opa, ohu, oco⟩ := id ho
  refine lv_aload_n hx hb dX8_isTurned_0 rfl (lv_at hl 0 rfl) ?_
  refine rg_5 X w dX8_isTurned_1 ?_
  refine lv_iconst (v := (nI 1)) hx hb dX8_isTurned_4 (by decide) ?_
  refine rn_5 X w (by omega) dX8_isTurned_5 ?_
  refine lv_bipush (v := (iZ (-4))) hx hb dX8_isTurned_6 (by decide) ?_
  refine jn (tgt := 16) (rest := []) (fun v9 => ∃ x9 : Nat, x9 = (if ((z.2.1 5 1)) = ((iZ (-4))) then 0 else 1) ∧ v9 = nI x9) (fun v_ hv_ => ?_) (fun k_16 => ?_)
  · obtain ⟨x_16, ex_16, rfl⟩ := hv_
    exact re_pz hx hb hr hk (by rw [ex_16]; split; exact Or.inl rfl; exact Or.inr rfl) (by rw [ex_16]; unfold pc_td; simp only [hm1, pc_sd_4 (show S.1 4 ≤ 1000 by omega)]) dX8_isTurned_16
  · skip
    refine lv_icmp_eq (tgt := 15) hx hb dX8_isTurned_8 (by decide) (fun c_8_2 => ?_) (fun c_8_2 => ?_)
    · skip
      refine lv_iconst (v := (nI 0)) hx hb dX8_isTurned_15 (by decide) ?_
      exact k_16 _ ⟨_, by simp only [if_pos c_8_2], rfl⟩
    · skip
      refine lv_iconst (v := (nI 1)) hx hb dX8_isTurned_11 (by decide) ?_
      refine lv_goto (tgt := 16) hx hb dX8_isTurned_12 (by decide) ?_
      exact k_16 _ ⟨_, by simp only [if_neg c_8_2], rfl⟩

theorem ok_place : rOk yX8_place cX8_place 4 (some .int) 1 := ⟨wc_X8_place, wi_X8_place, ws_X8_place, rfl, by decide, by decide, by decide +kernel⟩
set_option maxHeartbeats 4000000 in
set_option maxRecDepth 100000 in
theorem k_place (l : Launch) (g : RG) (z : RS) (f : Nat) (S : Sc) (hz : rSc z S) (ho : oSc S) (hf : f < 5) : rMp g l yX8_place cX8_place 4 (some .int) 3 63 [.int (nI f)] z (fun r => r = nI (sp_place S f)) := by
  refine rMp_in (by decide) rfl (Nat.le_of_ble_eq_true rfl) ?_
  intro p e s m args below meth c ls X hml hr hk hl w
  have hx := X.1
  have hb := X.2.1
  have hts := X.2.2.1
  have hown := X.2.2.2.1
  have hl : lv_has ls 4 [(0, .ref g.2.2.2.1), (1, .int (nI f))] := hl
  obtain ⟨hz0, hz1, hz4, hm0, hm1, hm2, hso, hki, hsr, hpa, hhu, hco⟩ := id hz
  obtain ⟨o1, o2, o3, o4, o5, o6, oso, oki, osr, opa, ohu, oco⟩ := id ho
  have q1 := ohu f
  have q2 := ohu 0
  have q3 := oco f
  refine lv_aload_n hx hb dX8_place_0 rfl (lv_at hl 0 rfl) ?_
  refine rg_5 X w dX8_place_1 ?_
  refine lv_iconst (v := (nI 0)) hx hb dX8_place_4 (by decide) ?_
  refine rn_5 X w (by omega) dX8_place_5 ?_
  refine tp_i (show z.2.1 5 0 = (nI (S.1 3)) from hm0) ?_
  refine lv_istore_n (lv' := [(2, .int (nI (S.1 3))), (0, .ref g.2.2.2.1), (1, .int (nI f))]) hx hb dX8_place_6 rfl hl (by decide) rfl (fun ls hl => ?_)
  refine lv_iload_n hx hb dX8_place_7 rfl (lv_at hl 2 rfl) ?_
  refine n_if_ne (tgt := 33) hx hb dX8_place_8 (by decide) (by omega) (fun c_8_1 => ?_) (fun c_8_1 => ?_)
  · skip
    refine lv_aload_n hx hb dX8_place_33 rfl (lv_at hl 1 rfl) ?_
    refine rc_p (rest := []) X hml hl.1 (k_turnS l g z S hz ho) ok_isTurned wm_X8_80 ⟨Nat.le_of_ble_eq_true rfl, Nat.le_of_ble_eq_true rfl⟩ ⟨Nat.le_refl _, Nat.le_refl _⟩ w rfl (Nat.le_of_ble_eq_true rfl) dX8_place_34 (fun r_34 hr_34 => ?_)
    subst hr_34
    have d_34 := pc_td01 S
    refine n_if_eq (tgt := 60) hx hb dX8_place_37 (by decide) (by omega) (fun c_37_2 => ?_) (fun c_37_2 => ?_)
    · skip
      refine lv_aload_n hx hb dX8_place_60 rfl (lv_at hl 1 rfl) ?_
      refine lv_iload_n hx hb dX8_place_61 rfl (lv_at hl 2 rfl) ?_
      refine rc_p (rest := []) X hml hl.1 (k_downS l g z f S hz ho (by omega)) ok_isDown wm_X8_103 ⟨Nat.le_of_ble_eq_true rfl, Nat.le_of_ble_eq_true rfl⟩ ⟨Nat.le_refl _, Nat.le_refl _⟩ w rfl (Nat.le_of_ble_eq_true rfl) dX8_place_62 (fun r_62 hr_62 => ?_)
      subst hr_62
      have d_62 := pc_dn01 S f
      refine jn (tgt := 100) (rest := []) (fun v9 => ∃ x9 : Nat, x9 = (if (pc_dn S f) = 0 then (if (S.1 2) ≤ (S.1 3) then (pc_far (S.2.1 0) (sp_pts S f (S.2.1 4 f) ((S.1 3) - (S.1 2))) (S.1 0 - 1)) else 0) else 0) ∧ v9 = nI x9) (fun v_ hv_ => ?_) (fun k_100 => ?_)
      · obtain ⟨x_100, ex_100, rfl⟩ := hv_
        have q9 : x_100 ≤ S.1 0 - 1 := by rw [ex_100]; split; split; exact pc_far_le _ _ _; exact Nat.zero_le _; exact Nat.zero_le _
        refine lv_istore_n (lv' := [(3, .int (nI x_100)), (2, .int (nI (S.1 3))), (0, .ref g.2.2.2.1), (1, .int (nI f))]) hx hb dX8_place_100 rfl hl (by decide) rfl (fun ls hl => ?_)
        refine lv_aload_n hx hb dX8_place_101 rfl (lv_at hl 2 rfl) ?_
        refine rc_p (rest := []) X hml hl.1 (k_turnS l g z S hz ho) ok_isTurned wm_X8_80 ⟨Nat.le_of_ble_eq_true rfl, Nat.le_of_ble_eq_true rfl⟩ ⟨Nat.le_refl _, Nat.le_refl _⟩ w rfl (Nat.le_of_ble_eq_true rfl) dX8_place_102 (fun r_102 hr_102 => ?_)
        subst hr_102
        have d_102 := pc_td01 S
        refine jn (tgt := 128) (rest := []) (fun v9 => ∃ x9 : Nat, x9 = (if (pc_td S) = 0 then x_100 else (if x_100 ≤ (S.1 4 - 1) then x_100 else (S.1 4 - 1))) ∧ v9 = nI x9) (fun v_ hv_ => ?_) (fun k_128 => ?_)
        · obtain ⟨x_128, ex_128, rfl⟩ := hv_
          exact re_p hx hb hr hk (by rw [ex_128, ex_100]; unfold sp_place; first | rw [if_neg (show ¬ f = 0 by omega), if_pos (show pc_td S = 0 by omega), if_pos (show pc_td S = 0 by omega)]; rfl | rw [if_neg (show ¬ f = 0 by omega), if_neg (show ¬ pc_td S = 0 by omega), if_neg (show ¬ pc_td S = 0 by omega), if_neg (show ¬ S.2.1 5 f ≤ S.1 3 by omega)]; rfl) dX8_place_128
        · skip
          refine n_if_eq (tgt := 127) hx hb dX8_place_105 (by decide) (by omega) (fun c_105_5 => ?_) (fun c_105_5 => ?_)
          · skip
            refine lv_iload_n hx hb dX8_place_127 rfl (lv_at hl 0 rfl) ?_
            exact k_128 _ ⟨_, by simp only [if_pos c_105_5], rfl⟩
          · skip
            refine lv_iload_n hx hb dX8_place_108 rfl (lv_at hl 0 rfl) ?_
            refine lv_aload_n hx hb dX8_place_109 rfl (lv_at hl 2 rfl) ?_
            refine rg_5 X w dX8_place_110 ?_
            refine lv_iconst (v := (nI 1)) hx hb dX8_place_113 (by decide) ?_
            refine rn_5 X w (by omega) dX8_place_114 ?_
            refine tp_i (show z.2.1 5 1 = (nI (S.1 4 - 1)) from rs_sdn hz (by assumption)) ?_
            refine n_icmp_le (tgt := 127) hx hb dX8_place_115 (by decide) (by omega) (by omega) (fun c_115_6 => ?_) (fun c_115_6 => ?_)
            · skip
              refine lv_iload_n hx hb dX8_place_127 rfl (lv_at hl 0 rfl) ?_
              exact k_128 _ ⟨_, by simp only [if_neg c_105_5, if_pos c_115_6], rfl⟩
            · skip
              refine lv_aload_n hx hb dX8_place_118 rfl (lv_at hl 2 rfl) ?_
              refine rg_5 X w dX8_place_119 ?_
              refine lv_iconst (v := (nI 1)) hx hb dX8_place_122 (by decide) ?_
              refine rn_5 X w (by omega) dX8_place_123 ?_
              refine tp_i (show z.2.1 5 1 = (nI (S.1 4 - 1)) from rs_sdn hz (by assumption)) ?_
              refine lv_goto (tgt := 128) hx hb dX8_place_124 (by decide) ?_
              exact k_128 _ ⟨_, by simp only [if_neg c_105_5, if_neg c_115_6], rfl⟩
      · skip
        refine n_if_ne (tgt := 76) hx hb dX8_place_65 (by decide) (by omega) (fun c_65_7 => ?_) (fun c_65_7 => ?_)
        · skip
          refine lv_iconst (v := (nI 0)) hx hb dX8_place_76 (by decide) ?_
          refine lv_goto (tgt := 100) hx hb dX8_place_77 (by decide) ?_
          exact k_100 _ ⟨_, by simp only [if_neg c_65_7], rfl⟩
        · skip
          refine lv_iload_n hx hb dX8_place_68 rfl (lv_at hl 0 rfl) ?_
          refine lv_aload_n hx hb dX8_place_69 rfl (lv_at hl 1 rfl) ?_
          refine rg_4 X w dX8_place_70 ?_
          refine tp_i (show z.1 4 = (nI (S.1 2)) from hz4) ?_
          refine n_icmp_ge (tgt := 80) hx hb dX8_place_73 (by decide) (by omega) (by omega) (fun c_73_8 => ?_) (fun c_73_8 => ?_)
          · skip
            refine lv_aload_n hx hb dX8_place_80 rfl (lv_at hl 1 rfl) ?_
            refine lv_aload_n hx hb dX8_place_81 rfl (lv_at hl 1 rfl) ?_
            refine lv_iload_n hx hb dX8_place_82 rfl (lv_at hl 2 rfl) ?_
            refine lv_aload_n hx hb dX8_place_83 rfl (lv_at hl 1 rfl) ?_
            refine lv_iload_n hx hb dX8_place_84 rfl (lv_at hl 2 rfl) ?_
            refine rc_p (rest := [.int (nI f), .ref g.2.2.2.1, .ref g.2.2.2.1]) X hml hl.1 (k_hurtS l g z f S hz ho (by omega)) ok_hurtOf wm_X8_91 ⟨Nat.le_of_ble_eq_true rfl, Nat.le_of_ble_eq_true rfl⟩ ⟨Nat.le_refl _, Nat.le_refl _⟩ w rfl (Nat.le_of_ble_eq_true rfl) dX8_place_85 (fun r_85 hr_85 => ?_)
            subst hr_85
            refine lv_iload_n hx hb dX8_place_88 rfl (lv_at hl 0 rfl) ?_
            refine lv_aload_n hx hb dX8_place_89 rfl (lv_at hl 1 rfl) ?_
            refine rg_4 X w dX8_place_90 ?_
            refine tp_i (show z.1 4 = (nI (S.1 2)) from hz4) ?_
            refine n_isub hx hb dX8_place_93 (by omega) ?_
            refine rc_p (rest := [.ref g.2.2.2.1]) X hml hl.1 (k_pointsOf l g z f (S.2.1 4 f) ((S.1 3) - (S.1 2)) S hz ho (by omega) (by first | omega | exact ohu _) (by omega)) ok_pointsOf wm_X8_95 ⟨Nat.le_of_ble_eq_true rfl, Nat.le_of_ble_eq_true rfl⟩ ⟨Nat.le_refl _, Nat.le_refl _⟩ w rfl (Nat.le_of_ble_eq_true rfl) dX8_place_94 (fun r_94 hr_94 => ?_)
            subst hr_94
            have d_94 := sp_pts_le S ho f (S.2.1 4 f) ((S.1 3) - (S.1 2))
            refine rc_p (rest := []) X hml hl.1 (k_farthest l g z (sp_pts S f (S.2.1 4 f) ((S.1 3) - (S.1 2))) (S.2.1 0) (S.1 0) hso oso hz0 ⟨o1, o2⟩ (by omega)) ok_farthest wm_X8_107 ⟨Nat.le_of_ble_eq_true rfl, Nat.le_of_ble_eq_true rfl⟩ ⟨Nat.le_refl _, Nat.le_refl _⟩ w rfl (Nat.le_of_ble_eq_true rfl) dX8_place_97 (fun r_97 hr_97 => ?_)
            subst hr_97
            exact k_100 _ ⟨_, by simp only [if_pos c_65_7, if_pos c_73_8], rfl⟩
          · skip
            refine lv_iconst (v := (nI 0)) hx hb dX8_place_76 (by decide) ?_
            refine lv_goto (tgt := 100) hx hb dX8_place_77 (by decide) ?_
            exact k_100 _ ⟨_, by simp only [if_pos c_65_7, if_neg c_73_8], rfl⟩
    · skip
      refine lv_aload_n hx hb dX8_place_40 rfl (lv_at hl 1 rfl) ?_
      refine rg_5 X w dX8_place_41 ?_
      refine lv_bipush (v := (nI 8)) hx hb dX8_place_44 (by decide) ?_
      refine lv_iload_n hx hb dX8_place_46 rfl (lv_at hl 2 rfl) ?_
      refine n_iadd hx hb dX8_place_47 ?_
      refine rn_5 X w (by omega) dX8_place_48 ?_
      refine tp_i (show z.2.1 5 (8 + f) = (nI (S.2.1 5 f)) from hco f (by omega)) ?_
      refine lv_iload_n hx hb dX8_place_49 rfl (lv_at hl 0 rfl) ?_
      refine n_icmp_gt (tgt := 60) hx hb dX8_place_50 (by decide) (by omega) (by omega) (fun c_50_9 => ?_) (fun c_50_9 => ?_)
      · skip
        refine lv_aload_n hx hb dX8_place_60 rfl (lv_at hl 1 rfl) ?_
        refine lv_iload_n hx hb dX8_place_61 rfl (lv_at hl 2 rfl) ?_
        refine rc_p (rest := []) X hml hl.1 (k_downS l g z f S hz ho (by omega)) ok_isDown wm_X8_103 ⟨Nat.le_of_ble_eq_true rfl, Nat.le_of_ble_eq_true rfl⟩ ⟨Nat.le_refl _, Nat.le_refl _⟩ w rfl (Nat.le_of_ble_eq_true rfl) dX8_place_62 (fun r_62 hr_62 => ?_)
        subst hr_62
        have d_62 := pc_dn01 S f
        refine jn (tgt := 100) (rest := []) (fun v9 => ∃ x9 : Nat, x9 = (if (pc_dn S f) = 0 then (if (S.1 2) ≤ (S.1 3) then (pc_far (S.2.1 0) (sp_pts S f (S.2.1 4 f) ((S.1 3) - (S.1 2))) (S.1 0 - 1)) else 0) else 0) ∧ v9 = nI x9) (fun v_ hv_ => ?_) (fun k_100 => ?_)
        · obtain ⟨x_100, ex_100, rfl⟩ := hv_
          have q9 : x_100 ≤ S.1 0 - 1 := by rw [ex_100]; split; split; exact pc_far_le _ _ _; exact Nat.zero_le _; exact Nat.zero_le _
          refine lv_istore_n (lv' := [(3, .int (nI x_100)), (2, .int (nI (S.1 3))), (0, .ref g.2.2.2.1), (1, .int (nI f))]) hx hb dX8_place_100 rfl hl (by decide) rfl (fun ls hl => ?_)
          refine lv_aload_n hx hb dX8_place_101 rfl (lv_at hl 2 rfl) ?_
          refine rc_p (rest := []) X hml hl.1 (k_turnS l g z S hz ho) ok_isTurned wm_X8_80 ⟨Nat.le_of_ble_eq_true rfl, Nat.le_of_ble_eq_true rfl⟩ ⟨Nat.le_refl _, Nat.le_refl _⟩ w rfl (Nat.le_of_ble_eq_true rfl) dX8_place_102 (fun r_102 hr_102 => ?_)
          subst hr_102
          have d_102 := pc_td01 S
          refine jn (tgt := 128) (rest := []) (fun v9 => ∃ x9 : Nat, x9 = (if (pc_td S) = 0 then x_100 else (if x_100 ≤ (S.1 4 - 1) then x_100 else (S.1 4 - 1))) ∧ v9 = nI x9) (fun v_ hv_ => ?_) (fun k_128 => ?_)
          · obtain ⟨x_128, ex_128, rfl⟩ := hv_
            exact re_p hx hb hr hk (by rw [ex_128, ex_100]; unfold sp_place; first | rw [if_neg (show ¬ f = 0 by omega), if_pos (show pc_td S = 0 by omega), if_pos (show pc_td S = 0 by omega)]; rfl | rw [if_neg (show ¬ f = 0 by omega), if_neg (show ¬ pc_td S = 0 by omega), if_neg (show ¬ pc_td S = 0 by omega), if_neg (show ¬ S.2.1 5 f ≤ S.1 3 by omega)]; rfl) dX8_place_128
          · skip
            refine n_if_eq (tgt := 127) hx hb dX8_place_105 (by decide) (by omega) (fun c_105_12 => ?_) (fun c_105_12 => ?_)
            · skip
              refine lv_iload_n hx hb dX8_place_127 rfl (lv_at hl 0 rfl) ?_
              exact k_128 _ ⟨_, by simp only [if_pos c_105_12], rfl⟩
            · skip
              refine lv_iload_n hx hb dX8_place_108 rfl (lv_at hl 0 rfl) ?_
              refine lv_aload_n hx hb dX8_place_109 rfl (lv_at hl 2 rfl) ?_
              refine rg_5 X w dX8_place_110 ?_
              refine lv_iconst (v := (nI 1)) hx hb dX8_place_113 (by decide) ?_
              refine rn_5 X w (by omega) dX8_place_114 ?_
              refine tp_i (show z.2.1 5 1 = (nI (S.1 4 - 1)) from rs_sdn hz (by assumption)) ?_
              refine n_icmp_le (tgt := 127) hx hb dX8_place_115 (by decide) (by omega) (by omega) (fun c_115_13 => ?_) (fun c_115_13 => ?_)
              · skip
                refine lv_iload_n hx hb dX8_place_127 rfl (lv_at hl 0 rfl) ?_
                exact k_128 _ ⟨_, by simp only [if_neg c_105_12, if_pos c_115_13], rfl⟩
              · skip
                refine lv_aload_n hx hb dX8_place_118 rfl (lv_at hl 2 rfl) ?_
                refine rg_5 X w dX8_place_119 ?_
                refine lv_iconst (v := (nI 1)) hx hb dX8_place_122 (by decide) ?_
                refine rn_5 X w (by omega) dX8_place_123 ?_
                refine tp_i (show z.2.1 5 1 = (nI (S.1 4 - 1)) from rs_sdn hz (by assumption)) ?_
                refine lv_goto (tgt := 128) hx hb dX8_place_124 (by decide) ?_
                exact k_128 _ ⟨_, by simp only [if_neg c_105_12, if_neg c_115_13], rfl⟩
        · skip
          refine n_if_ne (tgt := 76) hx hb dX8_place_65 (by decide) (by omega) (fun c_65_14 => ?_) (fun c_65_14 => ?_)
          · skip
            refine lv_iconst (v := (nI 0)) hx hb dX8_place_76 (by decide) ?_
            refine lv_goto (tgt := 100) hx hb dX8_place_77 (by decide) ?_
            exact k_100 _ ⟨_, by simp only [if_neg c_65_14], rfl⟩
          · skip
            refine lv_iload_n hx hb dX8_place_68 rfl (lv_at hl 0 rfl) ?_
            refine lv_aload_n hx hb dX8_place_69 rfl (lv_at hl 1 rfl) ?_
            refine rg_4 X w dX8_place_70 ?_
            refine tp_i (show z.1 4 = (nI (S.1 2)) from hz4) ?_
            refine n_icmp_ge (tgt := 80) hx hb dX8_place_73 (by decide) (by omega) (by omega) (fun c_73_15 => ?_) (fun c_73_15 => ?_)
            · skip
              refine lv_aload_n hx hb dX8_place_80 rfl (lv_at hl 1 rfl) ?_
              refine lv_aload_n hx hb dX8_place_81 rfl (lv_at hl 1 rfl) ?_
              refine lv_iload_n hx hb dX8_place_82 rfl (lv_at hl 2 rfl) ?_
              refine lv_aload_n hx hb dX8_place_83 rfl (lv_at hl 1 rfl) ?_
              refine lv_iload_n hx hb dX8_place_84 rfl (lv_at hl 2 rfl) ?_
              refine rc_p (rest := [.int (nI f), .ref g.2.2.2.1, .ref g.2.2.2.1]) X hml hl.1 (k_hurtS l g z f S hz ho (by omega)) ok_hurtOf wm_X8_91 ⟨Nat.le_of_ble_eq_true rfl, Nat.le_of_ble_eq_true rfl⟩ ⟨Nat.le_refl _, Nat.le_refl _⟩ w rfl (Nat.le_of_ble_eq_true rfl) dX8_place_85 (fun r_85 hr_85 => ?_)
              subst hr_85
              refine lv_iload_n hx hb dX8_place_88 rfl (lv_at hl 0 rfl) ?_
              refine lv_aload_n hx hb dX8_place_89 rfl (lv_at hl 1 rfl) ?_
              refine rg_4 X w dX8_place_90 ?_
              refine tp_i (show z.1 4 = (nI (S.1 2)) from hz4) ?_
              refine n_isub hx hb dX8_place_93 (by omega) ?_
              refine rc_p (rest := [.ref g.2.2.2.1]) X hml hl.1 (k_pointsOf l g z f (S.2.1 4 f) ((S.1 3) - (S.1 2)) S hz ho (by omega) (by first | omega | exact ohu _) (by omega)) ok_pointsOf wm_X8_95 ⟨Nat.le_of_ble_eq_true rfl, Nat.le_of_ble_eq_true rfl⟩ ⟨Nat.le_refl _, Nat.le_refl _⟩ w rfl (Nat.le_of_ble_eq_true rfl) dX8_place_94 (fun r_94 hr_94 => ?_)
              subst hr_94
              have d_94 := sp_pts_le S ho f (S.2.1 4 f) ((S.1 3) - (S.1 2))
              refine rc_p (rest := []) X hml hl.1 (k_farthest l g z (sp_pts S f (S.2.1 4 f) ((S.1 3) - (S.1 2))) (S.2.1 0) (S.1 0) hso oso hz0 ⟨o1, o2⟩ (by omega)) ok_farthest wm_X8_107 ⟨Nat.le_of_ble_eq_true rfl, Nat.le_of_ble_eq_true rfl⟩ ⟨Nat.le_refl _, Nat.le_refl _⟩ w rfl (Nat.le_of_ble_eq_true rfl) dX8_place_97 (fun r_97 hr_97 => ?_)
              subst hr_97
              exact k_100 _ ⟨_, by simp only [if_pos c_65_14, if_pos c_73_15], rfl⟩
            · skip
              refine lv_iconst (v := (nI 0)) hx hb dX8_place_76 (by decide) ?_
              refine lv_goto (tgt := 100) hx hb dX8_place_77 (by decide) ?_
              exact k_100 _ ⟨_, by simp only [if_pos c_65_14, if_neg c_73_15], rfl⟩
      · skip
        refine lv_aload_n hx hb dX8_place_53 rfl (lv_at hl 1 rfl) ?_
        refine rg_5 X w dX8_place_54 ?_
        refine lv_iconst (v := (nI 1)) hx hb dX8_place_57 (by decide) ?_
        refine rn_5 X w (by omega) dX8_place_58 ?_
        refine tp_i (show z.2.1 5 1 = (nI (S.1 4 - 1)) from rs_sdn hz (by assumption)) ?_
        exact re_p hx hb hr hk (by unfold sp_place; rw [if_neg (show ¬ f = 0 by omega), if_neg (show ¬ pc_td S = 0 by omega), if_pos (show S.2.1 5 f ≤ S.1 3 by omega)]) dX8_place_59
  · skip
    refine lv_aload_n hx hb dX8_place_11 rfl (lv_at hl 1 rfl) ?_
    refine rc_p (rest := []) X hml hl.1 (k_turnS l g z S hz ho) ok_isTurned wm_X8_80 ⟨Nat.le_of_ble_eq_true rfl, Nat.le_of_ble_eq_true rfl⟩ ⟨Nat.le_refl _, Nat.le_refl _⟩ w rfl (Nat.le_of_ble_eq_true rfl) dX8_place_12 (fun r_12 hr_12 => ?_)
    subst hr_12
    have d_12 := pc_td01 S
    refine jn (tgt := 32) (rest := []) (fun v9 => ∃ x9 : Nat, x9 = (if (pc_td S) = 0 then (sp_run S (S.1 3)) else (S.1 4 - 1)) ∧ v9 = nI x9) (fun v_ hv_ => ?_) (fun k_32 => ?_)
    · obtain ⟨x_32, ex_32, rfl⟩ := hv_
      exact re_p hx hb hr hk (by rw [ex_32]; unfold sp_place; rw [if_pos (show f = 0 by omega)]) dX8_place_32
    · skip
      refine n_if_eq (tgt := 27) hx hb dX8_place_15 (by decide) (by omega) (fun c_15_17 => ?_) (fun c_15_17 => ?_)
      · skip
        refine lv_aload_n hx hb dX8_place_27 rfl (lv_at hl 1 rfl) ?_
        refine lv_iload_n hx hb dX8_place_28 rfl (lv_at hl 0 rfl) ?_
        refine rc_p (rest := []) X hml hl.1 (k_runs l g z (S.1 3) S hz ho (by omega)) ok_runs wm_X8_120 ⟨Nat.le_of_ble_eq_true rfl, Nat.le_of_ble_eq_true rfl⟩ ⟨Nat.le_refl _, Nat.le_refl _⟩ w rfl (Nat.le_of_ble_eq_true rfl) dX8_place_29 (fun r_29 hr_29 => ?_)
        subst hr_29
        have d_29 := sp_run_lt S ho (S.1 3)
        exact k_32 _ ⟨_, by simp only [if_pos c_15_17], rfl⟩
      · skip
        refine lv_aload_n hx hb dX8_place_18 rfl (lv_at hl 1 rfl) ?_
        refine rg_5 X w dX8_place_19 ?_
        refine lv_iconst (v := (nI 1)) hx hb dX8_place_22 (by decide) ?_
        refine rn_5 X w (by omega) dX8_place_23 ?_
        refine tp_i (show z.2.1 5 1 = (nI (S.1 4 - 1)) from rs_sdn hz (by assumption)) ?_
        refine lv_goto (tgt := 32) hx hb dX8_place_24 (by decide) ?_
        exact k_32 _ ⟨_, by simp only [if_neg c_15_17], rfl⟩

theorem ok_down : rOk yX8_down cX8_down 3 (some .int) 0 := ⟨wc_X8_down, wi_X8_down, ws_X8_down, rfl, by decide, by decide, by decide +kernel⟩
set_option maxHeartbeats 4000000 in
set_option maxRecDepth 100000 in
theorem k_down (l : Launch) (g : RG) (z : RS)  (S : Sc) (hz : rSc z S) (ho : oSc S) : rMp g l yX8_down cX8_down 3 (some .int) 2 42 [] z (fun r => r = nI (sp_dnL S (S.1 1))) := by
  refine rMp_in (by decide) rfl (Nat.le_of_ble_eq_true rfl) ?_
  intro p e s m args below meth c ls X hml hr hk hl w
  have hx := X.1
  have hb := X.2.1
  have hts := X.2.2.1
  have hown := X.2.2.2.1
  have hl : lv_has ls 3 [(0, .ref g.2.2.2.1)] := hl
  obtain ⟨hz0, hz1, hz4, hm0, hm1, hm2, hso, hki, hsr, hpa, hhu, hco⟩ := id hz
  obtain ⟨o1, o2, o3, o4, o5, o6, oso, oki, osr, opa, ohu, oco⟩ := id ho
  refine lv_iconst (v := (nI 0)) hx hb dX8_down_0 (by decide) ?_
  refine lv_istore_n (lv' := [(1, .int (nI 0)), (0, .ref g.2.2.2.1)]) hx hb dX8_down_1 rfl hl (by decide) rfl (fun ls hl => ?_)
  refine lv_iconst (v := (nI 0)) hx hb dX8_down_2 (by decide) ?_
  refine lv_istore_n (lv' := [(2, .int (nI 0)), (1, .int (nI 0)), (0, .ref g.2.2.2.1)]) hx hb dX8_down_3 rfl hl (by decide) rfl (fun ls hl => ?_)
  have lp_4 : ∀ (n_4 : Nat) (i : Nat) (hi : i ≤ S.1 1) (hm_4 : S.1 1 - i < n_4) (ls : Array Slot), lv_has ls 3 [(0, .ref g.2.2.2.1), (1, .int (nI (sp_dnL S i))), (2, .int (nI i))] → W p l e (ro_m 2 42) s m args below meth c s.heap [] 0 0 (MQ below (vp_Si (fun r => r = nI (sp_dnL S (S.1 1)))) args s 0 0 (fun _ => False)) (F0 m 4 ls []) := by
    intro n_4
    induction n_4 with
    | zero => intro i hi hm; exact absurd hm (Nat.not_lt_zero _)
    | succ n_4 ih_4 =>
      intro i hi hm_4 ls hl
      refine lv_iload_n hx hb dX8_down_4 rfl (lv_at hl 2 rfl) ?_
      refine lv_aload_n hx hb dX8_down_5 rfl (lv_at hl 0 rfl) ?_
      refine rg_1 X w dX8_down_6 ?_
      refine tp_i (show z.1 1 = (nI (S.1 1)) from hz1) ?_
      refine n_icmp_ge (tgt := 36) hx hb dX8_down_9 (by decide) (by omega) (by omega) (fun c_9_1 => ?_) (fun c_9_1 => ?_)
      · skip
        refine lv_iload_n hx hb dX8_down_36 rfl (lv_at hl 1 rfl) ?_
        exact re_p hx hb hr hk (by rw [show i = S.1 1 by omega]) dX8_down_37
      · skip
        refine lv_iload_n hx hb dX8_down_12 rfl (lv_at hl 1 rfl) ?_
        refine lv_aload_n hx hb dX8_down_13 rfl (lv_at hl 0 rfl) ?_
        refine lv_iload_n hx hb dX8_down_14 rfl (lv_at hl 2 rfl) ?_
        refine rc_p (rest := [.int (nI (sp_dnL S i))]) X hml hl.1 (k_downS l g z i S hz ho (by omega)) ok_isDown wm_X8_103 ⟨Nat.le_of_ble_eq_true rfl, Nat.le_of_ble_eq_true rfl⟩ ⟨Nat.le_refl _, Nat.le_refl _⟩ w rfl (Nat.le_of_ble_eq_true rfl) dX8_down_15 (fun r_15 hr_15 => ?_)
        subst hr_15
        have d_15 := pc_dn01 S i
        refine jn (tgt := 28) (rest := [.int (nI (sp_dnL S i))]) (fun v9 => ∃ x9 : Nat, x9 = (if (pc_dn S i) = 0 then 0 else (2 ^ i)) ∧ v9 = nI x9) (fun v_ hv_ => ?_) (fun k_28 => ?_)
        · obtain ⟨x_28, ex_28, rfl⟩ := hv_
          refine lv_ior hx hb dX8_down_28 ?_
          refine tp_i (fa_or _ _) ?_
          refine lv_istore_n (lv' := [(1, .int (nI ((sp_dnL S i) ||| x_28))), (0, .ref g.2.2.2.1), (2, .int (nI i))]) hx hb dX8_down_29 rfl hl (by decide) rfl (fun ls hl => ?_)
          refine lv_iinc (v := (nI (i + 1))) (lv' := [(2, .int (nI (i + 1))), (1, .int (nI ((sp_dnL S i) ||| x_28))), (0, .ref g.2.2.2.1)]) hx hb dX8_down_30 hl (k := 2) rfl (by first | exact nI_1 _ | (rw [show Int32.ofInt 1 = nI 1 from by decide, nI_add])) (by decide) rfl (fun ls hl => ?_)
          refine lv_goto (tgt := 4) hx hb dX8_down_33 (by decide) ?_
          subst ex_28
          exact ih_4 (i + 1) (by omega) (by omega) ls (lv_sub hl [2, 1, 0] rfl)
        · skip
          refine n_if_eq (tgt := 27) hx hb dX8_down_18 (by decide) (by omega) (fun c_18_3 => ?_) (fun c_18_3 => ?_)
          · skip
            refine lv_iconst (v := (nI 0)) hx hb dX8_down_27 (by decide) ?_
            exact k_28 _ ⟨_, by simp only [if_pos c_18_3], rfl⟩
          · skip
            refine lv_iconst (v := (nI 1)) hx hb dX8_down_21 (by decide) ?_
            refine lv_iload_n hx hb dX8_down_22 rfl (lv_at hl 2 rfl) ?_
            refine lv_ishl hx hb dX8_down_23 ?_
            refine tp_i (sh_1 (by omega)) ?_
            refine lv_goto (tgt := 28) hx hb dX8_down_24 (by decide) ?_
            exact k_28 _ ⟨_, by simp only [if_neg c_18_3], rfl⟩
  exact lp_4 _ 0 (Nat.zero_le _) (Nat.lt_succ_self _) ls (lv_sub hl [2, 1, 0] rfl)

theorem ok_over : rOk yX8_over cX8_over 2 (some .int) 0 := ⟨wc_X8_over, wi_X8_over, ws_X8_over, rfl, by decide, by decide, by decide +kernel⟩
set_option maxHeartbeats 4000000 in
set_option maxRecDepth 100000 in
theorem k_over (l : Launch) (g : RG) (z : RS)  (S : Sc) (hz : rSc z S) (ho : oSc S) : rMp g l yX8_over cX8_over 2 (some .int) 3 64 [] z (fun r => r = nI (sp_over S)) := by
  refine rMp_in (by decide) rfl (Nat.le_of_ble_eq_true rfl) ?_
  intro p e s m args below meth c ls X hml hr hk hl w
  have hx := X.1
  have hb := X.2.1
  have hts := X.2.2.1
  have hown := X.2.2.2.1
  have hl : lv_has ls 2 [(0, .ref g.2.2.2.1)] := hl
  obtain ⟨hz0, hz1, hz4, hm0, hm1, hm2, hso, hki, hsr, hpa, hhu, hco⟩ := id hz
  obtain ⟨o1, o2, o3, o4, o5, o6, oso, oki, osr, opa, ohu, oco⟩ := id ho
  refine lv_aload_n hx hb dX8_over_0 rfl (lv_at hl 0 rfl) ?_
  refine rc_p (rest := []) X hml hl.1 (k_down l g z S hz ho) ok_down wm_X8_171 ⟨Nat.le_of_ble_eq_true rfl, Nat.le_of_ble_eq_true rfl⟩ ⟨Nat.le_refl _, Nat.le_refl _⟩ w rfl (Nat.le_of_ble_eq_true rfl) dX8_over_1 (fun r_1 hr_1 => ?_)
  subst hr_1
  have d_1 := sp_dnL_lt S (S.1 1)
  have b_1 := pw_32 o3
  refine lv_istore_n (lv' := [(1, .int (nI (sp_dnL S (S.1 1)))), (0, .ref g.2.2.2.1)]) hx hb dX8_over_4 rfl hl (by decide) rfl (fun ls hl => ?_)
  refine lv_aload_n hx hb dX8_over_5 rfl (lv_at hl 1 rfl) ?_
  refine rg_1 X w dX8_over_6 ?_
  refine tp_i (show z.1 1 = (nI (S.1 1)) from hz1) ?_
  refine lv_iconst (v := (nI 2)) hx hb dX8_over_9 (by decide) ?_
  refine jn (tgt := 45) (rest := []) (fun v9 => ∃ x9 : Nat, x9 = (if 2 ≤ (S.1 1) then (if ((sp_dnL S (S.1 1)) &&& 1) = 1 then 2 else (if (sp_dnL S (S.1 1)) = ((2 ^ (S.1 1)) - 2) then 1 else 0)) else 3) ∧ v9 = nI x9) (fun v_ hv_ => ?_) (fun k_45 => ?_)
  · obtain ⟨x_45, ex_45, rfl⟩ := hv_
    exact re_p hx hb hr hk (by rw [ex_45]; rfl) dX8_over_45
  · skip
    refine n_icmp_ge (tgt := 17) hx hb dX8_over_10 (by decide) (by omega) (by omega) (fun c_10_2 => ?_) (fun c_10_2 => ?_)
    · skip
      refine lv_iload_n hx hb dX8_over_17 rfl (lv_at hl 0 rfl) ?_
      refine lv_iconst (v := (nI 1)) hx hb dX8_over_18 (by decide) ?_
      refine lv_iand hx hb dX8_over_19 ?_
      refine tp_i (fa_and _ _) ?_
      refine lv_iconst (v := (nI 1)) hx hb dX8_over_20 (by decide) ?_
      have q8 : sp_dnL S (S.1 1) &&& 1 ≤ 1 := Nat.and_le_right
      refine n_icmp_ne (tgt := 28) hx hb dX8_over_21 (by decide) (by omega) (by omega) (fun c_21_3 => ?_) (fun c_21_3 => ?_)
      · skip
        refine lv_iload_n hx hb dX8_over_28 rfl (lv_at hl 0 rfl) ?_
        refine lv_iconst (v := (nI 1)) hx hb dX8_over_29 (by decide) ?_
        refine lv_aload_n hx hb dX8_over_30 rfl (lv_at hl 1 rfl) ?_
        refine rg_1 X w dX8_over_31 ?_
        refine tp_i (show z.1 1 = (nI (S.1 1)) from hz1) ?_
        refine lv_ishl hx hb dX8_over_34 ?_
        refine tp_i (sh_1 (by omega)) ?_
        refine lv_iconst (v := (nI 2)) hx hb dX8_over_35 (by decide) ?_
        refine n_isub hx hb dX8_over_36 (by have q9 : 2 ^ 1 ≤ 2 ^ (S.1 1) := Nat.pow_le_pow_right (by decide) (by omega); omega) ?_
        refine n_icmp_ne (tgt := 44) hx hb dX8_over_37 (by decide) (by omega) (by omega) (fun c_37_4 => ?_) (fun c_37_4 => ?_)
        · skip
          refine lv_iconst (v := (nI 0)) hx hb dX8_over_44 (by decide) ?_
          exact k_45 _ ⟨_, by simp only [if_pos c_10_2, if_neg c_21_3, if_neg c_37_4], rfl⟩
        · skip
          refine lv_iconst (v := (nI 1)) hx hb dX8_over_40 (by decide) ?_
          refine lv_goto (tgt := 45) hx hb dX8_over_41 (by decide) ?_
          exact k_45 _ ⟨_, by simp only [if_pos c_10_2, if_neg c_21_3, if_pos c_37_4], rfl⟩
      · skip
        refine lv_iconst (v := (nI 2)) hx hb dX8_over_24 (by decide) ?_
        refine lv_goto (tgt := 45) hx hb dX8_over_25 (by decide) ?_
        exact k_45 _ ⟨_, by simp only [if_pos c_10_2, if_pos c_21_3], rfl⟩
    · skip
      refine lv_iconst (v := (nI 3)) hx hb dX8_over_13 (by decide) ?_
      refine lv_goto (tgt := 45) hx hb dX8_over_14 (by decide) ?_
      exact k_45 _ ⟨_, by simp only [if_neg c_10_2], rfl⟩
