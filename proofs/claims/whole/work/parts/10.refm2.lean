set_option maxHeartbeats 4000000 in
set_option maxRecDepth 100000 in
theorem k_hurtS (l : Launch) (g : RG) (z : RS) (f : Nat) (S : Sc) (hz : rSc z S) (ho : oSc S) (hf : f < 5) : rMp g l yX8_hurtOf cX8_hurtOf 2 (some .int) 0 0 [.int (nI f)] z (fun r => r = nI (S.2.1 4 f)) := by
  refine rMp_in (by decide) rfl (Nat.le_of_ble_eq_true rfl) ?_
  intro p e s m args below meth c ls X hml hr hk hl w
  have hx := X.1
  have hb := X.2.1
  have hts := X.2.2.1
  have hown := X.2.2.2.1
  have hl : lv_has ls 2 [(0, .ref g.2.2.2.1), (1, .int (nI f))] := hl
  obtain ⟨hz0, hz1, hz4, hm0, hm1, hm2, hso, hki, hsr, hpa, hhu, hco⟩ := id hz
  obtain ⟨o1, o2, o3, o4, o5, o6, oso, oki, osr, opa, ohu, oco⟩ := id ho
  refine lv_aload_n hx hb dX8_hurtOf_0 rfl (lv_at hl 0 rfl) ?_
  refine rg_5 X w dX8_hurtOf_1 ?_
  refine lv_iconst (v := (nI 3)) hx hb dX8_hurtOf_4 (by decide) ?_
  refine lv_iload_n hx hb dX8_hurtOf_5 rfl (lv_at hl 1 rfl) ?_
  refine n_iadd hx hb dX8_hurtOf_6 ?_
  refine rn_5 X w (by omega) dX8_hurtOf_7 ?_
  refine tp_i (show z.2.1 5 (3 + f) = (nI (S.2.1 4 f)) from hhu f (by omega)) ?_
  exact re_p hx hb hr hk (by subst_vars; rfl) dX8_hurtOf_8

set_option maxHeartbeats 4000000 in
set_option maxRecDepth 100000 in
theorem k_downS (l : Launch) (g : RG) (z : RS) (f : Nat) (S : Sc) (hz : rSc z S) (ho : oSc S) (hf : f < 5) : rMp g l yX8_isDown cX8_isDown 2 (some .boolean) 1 21 [.int (nI f)] z (fun r => r = nI (pc_dn S f)) := by
  refine rMp_in (by decide) rfl (Nat.le_of_ble_eq_true rfl) ?_
  intro p e s m args below meth c ls X hml hr hk hl w
  have hx := X.1
  have hb := X.2.1
  have hts := X.2.2.1
  have hown := X.2.2.2.1
  have hl : lv_has ls 2 [(0, .ref g.2.2.2.1), (1, .int (nI f))] := hl
  obtain ⟨hz0, hz1, hz4, hm0, hm1, hm2, hso, hki, hsr, hpa, hhu, hco⟩ := id hz
  obtain ⟨o1, o2, o3, o4, o5, o6, oso, oki, osr, opa, ohu, oco⟩ := id ho
  have q1 := ohu f
  refine lv_aload_n hx hb dX8_isDown_0 rfl (lv_at hl 0 rfl) ?_
  refine lv_iload_n hx hb dX8_isDown_1 rfl (lv_at hl 1 rfl) ?_
  refine rc_p (rest := []) X hml hl.1 (k_hurtS l g z f S hz ho (by omega)) ok_hurtOf wm_X8_91 ⟨Nat.le_of_ble_eq_true rfl, Nat.le_of_ble_eq_true rfl⟩ ⟨Nat.le_refl _, Nat.le_refl _⟩ w rfl (Nat.le_of_ble_eq_true rfl) dX8_isDown_2 (fun r_2 hr_2 => ?_)
  subst hr_2
  refine lv_bipush (v := (nI 6)) hx hb dX8_isDown_5 (by decide) ?_
  refine jn (tgt := 15) (rest := []) (fun v9 => ∃ x9 : Nat, x9 = (if (S.2.1 4 f) = 6 then 1 else 0) ∧ v9 = nI x9) (fun v_ hv_ => ?_) (fun k_15 => ?_)
  · obtain ⟨x_15, ex_15, rfl⟩ := hv_
    exact re_pz hx hb hr hk (by subst_vars; split; exact Or.inr rfl; exact Or.inl rfl) (by subst_vars; rfl) dX8_isDown_15
  · skip
    refine n_icmp_ne (tgt := 14) hx hb dX8_isDown_7 (by decide) (by omega) (by omega) (fun c_7_2 => ?_) (fun c_7_2 => ?_)
    · skip
      refine lv_iconst (v := (nI 0)) hx hb dX8_isDown_14 (by decide) ?_
      exact k_15 _ ⟨_, by simp only [if_neg c_7_2], rfl⟩
    · skip
      refine lv_iconst (v := (nI 1)) hx hb dX8_isDown_10 (by decide) ?_
      refine lv_goto (tgt := 15) hx hb dX8_isDown_11 (by decide) ?_
      exact k_15 _ ⟨_, by simp only [if_pos c_7_2], rfl⟩

theorem ok_force : rOk yX8_force cX8_force 4 (some .int) 2 := ⟨wc_X8_force, wi_X8_force, ws_X8_force, rfl, by decide, by decide, by decide +kernel⟩
set_option maxHeartbeats 4000000 in
set_option maxRecDepth 100000 in
theorem k_force (l : Launch) (g : RG) (z : RS) (f : Nat) (hurt : Nat) (S : Sc) (hz : rSc z S) (ho : oSc S) (hf : f < 5) (hh : hurt ≤ 6) : rMp g l yX8_force cX8_force 4 (some .int) 0 0 [.int (nI f), .int (nI hurt)] z (fun r => r = nI (pc_force (S.2.1 1 f) (S.2.1 2 f) hurt)) := by
  refine rMp_in (by decide) rfl (Nat.le_of_ble_eq_true rfl) ?_
  intro p e s m args below meth c ls X hml hr hk hl w
  have hx := X.1
  have hb := X.2.1
  have hts := X.2.2.1
  have hown := X.2.2.2.1
  have hl : lv_has ls 4 [(0, .ref g.2.2.2.1), (1, .int (nI f)), (2, .int (nI hurt))] := hl
  obtain ⟨hz0, hz1, hz4, hm0, hm1, hm2, hso, hki, hsr, hpa, hhu, hco⟩ := id hz
  obtain ⟨o1, o2, o3, o4, o5, o6, oso, oki, osr, opa, ohu, oco⟩ := id ho
  have q1 := osr f
  have q2 := oki f
  refine lv_aload_n hx hb dX8_force_0 rfl (lv_at hl 0 rfl) ?_
  refine rg_3 X w dX8_force_1 ?_
  refine lv_iconst (v := (nI 3)) hx hb dX8_force_4 (by decide) ?_
  refine lv_iload_n hx hb dX8_force_5 rfl (lv_at hl 1 rfl) ?_
  refine n_imul hx hb dX8_force_6 ?_
  refine lv_iconst (v := (nI 1)) hx hb dX8_force_7 (by decide) ?_
  refine n_iadd hx hb dX8_force_8 ?_
  refine rn_3 X w (by omega) dX8_force_9 ?_
  refine tp_i (show z.2.1 3 ((3 * f) + 1) = (nI (S.2.1 2 f)) from hsr f (by omega)) ?_
  refine lv_iload_n hx hb dX8_force_10 rfl (lv_at hl 2 rfl) ?_
  refine lv_iconst (v := (nI 2)) hx hb dX8_force_11 (by decide) ?_
  refine n_idiv hx hb dX8_force_12 (by omega) (by omega) (by omega) ?_
  refine tp_i (iZ_n (hurt / 2)).symm ?_
  refine tp_i2 (iZ_n (S.2.1 2 f)).symm ?_
  refine z_isub hx hb dX8_force_13 ?_
  refine lv_istore_n (lv' := [(3, .int (iZ ((((S.2.1 2 f : Nat) : Int)) - (((hurt / 2 : Nat) : Int))))), (0, .ref g.2.2.2.1), (1, .int (nI f)), (2, .int (nI hurt))]) hx hb dX8_force_14 rfl hl (by decide) rfl (fun ls hl => ?_)
  refine lv_iload_n hx hb dX8_force_15 rfl (lv_at hl 0 rfl) ?_
  refine lv_iconst (v := (nI 1)) hx hb dX8_force_16 (by decide) ?_
  refine jn (tgt := 25) (rest := []) (fun v9 => ∃ x9 : Int, x9 = (if ((((S.2.1 2 f : Nat) : Int)) - (((hurt / 2 : Nat) : Int))) ≤ ((1 : Int)) then ((1 : Int)) else ((((S.2.1 2 f : Nat) : Int)) - (((hurt / 2 : Nat) : Int)))) ∧ v9 = iZ x9) (fun v_ hv_ => ?_) (fun k_25 => ?_)
  · obtain ⟨x_25, ex_25, rfl⟩ := hv_
    refine lv_aload_n hx hb dX8_force_25 rfl (lv_at hl 1 rfl) ?_
    refine rg_3 X w dX8_force_26 ?_
    refine lv_iconst (v := (nI 3)) hx hb dX8_force_29 (by decide) ?_
    refine lv_iload_n hx hb dX8_force_30 rfl (lv_at hl 2 rfl) ?_
    refine n_imul hx hb dX8_force_31 ?_
    refine rn_3 X w (by omega) dX8_force_32 ?_
    refine tp_i (show z.2.1 3 (3 * f) = (nI (S.2.1 1 f)) from hki f (by omega)) ?_
    refine lv_iconst (v := (nI 1)) hx hb dX8_force_33 (by decide) ?_
    refine jn (tgt := 42) (rest := [.int (iZ (x_25))]) (fun v9 => ∃ x9 : Nat, x9 = (if (S.2.1 1 f) = 1 then 2 else 0) ∧ v9 = nI x9) (fun v_ hv_ => ?_) (fun k_42 => ?_)
    · obtain ⟨x_42, ex_42, rfl⟩ := hv_
      refine tp_i (iZ_n x_42).symm ?_
      refine z_iadd hx hb dX8_force_42 ?_
      exact re_p hx hb hr hk (by subst_vars; exact pc_force_z _ _ _) dX8_force_43
    · skip
      refine n_icmp_ne (tgt := 41) hx hb dX8_force_34 (by decide) (by omega) (by omega) (fun c_34_3 => ?_) (fun c_34_3 => ?_)
      · skip
        refine lv_iconst (v := (nI 0)) hx hb dX8_force_41 (by decide) ?_
        exact k_42 _ ⟨_, by simp only [if_neg c_34_3], rfl⟩
      · skip
        refine lv_iconst (v := (nI 2)) hx hb dX8_force_37 (by decide) ?_
        refine lv_goto (tgt := 42) hx hb dX8_force_38 (by decide) ?_
        exact k_42 _ ⟨_, by simp only [if_pos c_34_3], rfl⟩
  · skip
    refine tp_i (show nI 1 = iZ (1 : Int) from by decide) ?_
    refine z_icmp_le (tgt := 24) hx hb dX8_force_17 (by decide) (by omega) (by omega) (by omega) (by omega) (fun c_17_4 => ?_) (fun c_17_4 => ?_)
    · skip
      refine lv_iconst (v := (nI 1)) hx hb dX8_force_24 (by decide) ?_
      exact k_25 _ ⟨(1 : Int), by simp only [if_pos c_17_4], (show nI 1 = iZ (1 : Int) from by decide)⟩
    · skip
      refine lv_iload_n hx hb dX8_force_20 rfl (lv_at hl 0 rfl) ?_
      refine lv_goto (tgt := 25) hx hb dX8_force_21 (by decide) ?_
      exact k_25 _ ⟨_, by simp only [if_neg c_17_4], rfl⟩

theorem ok_pointsOf : rOk yX8_pointsOf cX8_pointsOf 6 (some .int) 3 := ⟨wc_X8_pointsOf, wi_X8_pointsOf, ws_X8_pointsOf, rfl, by decide, by decide, by decide +kernel⟩
set_option maxHeartbeats 4000000 in
set_option maxRecDepth 100000 in
theorem k_pointsOf (l : Launch) (g : RG) (z : RS) (f : Nat) (hurt : Nat) (t : Nat) (S : Sc) (hz : rSc z S) (ho : oSc S) (hf : f < 5) (hh : hurt ≤ 6) (ht : t ≤ 100000) : rMp g l yX8_pointsOf cX8_pointsOf 6 (some .int) 0 0 [.int (nI f), .int (nI hurt), .int (nI t)] z (fun r => r = nI (sp_pts S f hurt t)) := by
  refine rMp_in (by decide) rfl (Nat.le_of_ble_eq_true rfl) ?_
  intro p e s m args below meth c ls X hml hr hk hl w
  have hx := X.1
  have hb := X.2.1
  have hts := X.2.2.1
  have hown := X.2.2.2.1
  have hl : lv_has ls 6 [(0, .ref g.2.2.2.1), (1, .int (nI f)), (2, .int (nI hurt)), (3, .int (nI t))] := hl
  obtain ⟨hz0, hz1, hz4, hm0, hm1, hm2, hso, hki, hsr, hpa, hhu, hco⟩ := id hz
  obtain ⟨o1, o2, o3, o4, o5, o6, oso, oki, osr, opa, ohu, oco⟩ := id ho
  have q1 := opa f
  have q2 := oki f
  refine lv_aload_n hx hb dX8_pointsOf_0 rfl (lv_at hl 0 rfl) ?_
  refine rg_3 X w dX8_pointsOf_1 ?_
  refine lv_iconst (v := (nI 3)) hx hb dX8_pointsOf_4 (by decide) ?_
  refine lv_iload_n hx hb dX8_pointsOf_5 rfl (lv_at hl 1 rfl) ?_
  refine n_imul hx hb dX8_pointsOf_6 ?_
  refine rn_3 X w (by omega) dX8_pointsOf_7 ?_
  refine tp_i (show z.2.1 3 (3 * f) = (nI (S.2.1 1 f)) from hki f (by omega)) ?_
  refine lv_istore (lv' := [(4, .int (nI (S.2.1 1 f))), (0, .ref g.2.2.2.1), (1, .int (nI f)), (2, .int (nI hurt)), (3, .int (nI t))]) hx hb dX8_pointsOf_8 hl (by decide) rfl (fun ls hl => ?_)
  refine lv_aload_n hx hb dX8_pointsOf_10 rfl (lv_at hl 1 rfl) ?_
  refine rg_3 X w dX8_pointsOf_11 ?_
  refine lv_iconst (v := (nI 3)) hx hb dX8_pointsOf_14 (by decide) ?_
  refine lv_iload_n hx hb dX8_pointsOf_15 rfl (lv_at hl 2 rfl) ?_
  refine n_imul hx hb dX8_pointsOf_16 ?_
  refine lv_iconst (v := (nI 2)) hx hb dX8_pointsOf_17 (by decide) ?_
  refine n_iadd hx hb dX8_pointsOf_18 ?_
  refine rn_3 X w (by omega) dX8_pointsOf_19 ?_
  refine tp_i (show z.2.1 3 ((3 * f) + 2) = (nI (S.2.1 3 f)) from hpa f (by omega)) ?_
  refine lv_iload hx hb dX8_pointsOf_20 (lv_at hl 0 rfl) ?_
  refine lv_iconst (v := (nI 1)) hx hb dX8_pointsOf_22 (by decide) ?_
  refine jn (tgt := 31) (rest := [.int (nI (S.2.1 3 f))]) (fun v9 => ∃ x9 : Nat, x9 = (if (S.2.1 1 f) = 1 then 1 else 0) ∧ v9 = nI x9) (fun v_ hv_ => ?_) (fun k_31 => ?_)
  · obtain ⟨x_31, ex_31, rfl⟩ := hv_
    have q9 : x_31 ≤ 1 := by rw [ex_31]; split <;> omega
    refine tp_i (iZ_n x_31).symm ?_
    refine tp_i2 (iZ_n (S.2.1 3 f)).symm ?_
    refine z_isub hx hb dX8_pointsOf_31 ?_
    refine lv_iload_n hx hb dX8_pointsOf_32 rfl (lv_at hl 3 rfl) ?_
    refine lv_iconst (v := (nI 2)) hx hb dX8_pointsOf_33 (by decide) ?_
    refine n_idiv hx hb dX8_pointsOf_34 (by omega) (by omega) (by omega) ?_
    refine tp_i (iZ_n (hurt / 2)).symm ?_
    refine z_isub hx hb dX8_pointsOf_35 ?_
    refine lv_istore (lv' := [(5, .int (iZ (((((S.2.1 3 f : Nat) : Int)) - (((x_31 : Nat) : Int))) - (((hurt / 2 : Nat) : Int))))), (4, .int (nI (S.2.1 1 f))), (0, .ref g.2.2.2.1), (1, .int (nI f)), (2, .int (nI hurt)), (3, .int (nI t))]) hx hb dX8_pointsOf_36 hl (by decide) rfl (fun ls hl => ?_)
    refine lv_iload hx hb dX8_pointsOf_38 (lv_at hl 0 rfl) ?_
    refine lv_iconst (v := (nI 1)) hx hb dX8_pointsOf_40 (by decide) ?_
    refine jn (tgt := 50) (rest := []) (fun v9 => ∃ x9 : Int, x9 = (if (((((S.2.1 3 f : Nat) : Int)) - (((x_31 : Nat) : Int))) - (((hurt / 2 : Nat) : Int))) ≤ ((1 : Int)) then ((1 : Int)) else (((((S.2.1 3 f : Nat) : Int)) - (((x_31 : Nat) : Int))) - (((hurt / 2 : Nat) : Int)))) ∧ v9 = iZ x9) (fun v_ hv_ => ?_) (fun k_50 => ?_)
    · obtain ⟨x_50, ex_50, rfl⟩ := hv_
      refine tp_i (by rw [ex_50]; exact pc_pace_z _ _ _ _ ex_31 : iZ x_50 = nI (pc_pace (S.2.1 1 f) (S.2.1 3 f) hurt)) ?_
      have q3 := pc_pace_le (S.2.1 1 f) (S.2.1 3 f) hurt (opa f)
      obtain ⟨P, hP⟩ : ∃ P, P = pc_pace (S.2.1 1 f) (S.2.1 3 f) hurt := ⟨_, rfl⟩
      rw [← hP] at q3 ⊢
      have q4 : t * P ≤ t * 6 := Nat.mul_le_mul_left t q3
      refine lv_istore (lv' := [(5, .int (nI P)), (4, .int (nI (S.2.1 1 f))), (0, .ref g.2.2.2.1), (1, .int (nI f)), (2, .int (nI hurt)), (3, .int (nI t))]) hx hb dX8_pointsOf_50 hl (by decide) rfl (fun ls hl => ?_)
      refine lv_iload hx hb dX8_pointsOf_52 (lv_at hl 1 rfl) ?_
      refine lv_iconst (v := (nI 2)) hx hb dX8_pointsOf_54 (by decide) ?_
      refine n_icmp_ge (tgt := 63) hx hb dX8_pointsOf_55 (by decide) (by omega) (by omega) (fun c_55_3 => ?_) (fun c_55_3 => ?_)
      · skip
        refine lv_iload hx hb dX8_pointsOf_63 (lv_at hl 1 rfl) ?_
        refine lv_iconst (v := (nI 2)) hx hb dX8_pointsOf_65 (by decide) ?_
        refine jn (tgt := 99) (rest := []) (fun v9 => ∃ x9 : Nat, x9 = (if (S.2.1 1 f) = 2 then ((t * P) / 2) else (if 7 ≤ t then (((6 * P) / 2) + ((t - 6) * P)) else ((t * P) / 2))) ∧ v9 = nI x9) (fun v_ hv_ => ?_) (fun k_99 => ?_)
        · obtain ⟨x_99, ex_99, rfl⟩ := hv_
          exact re_p hx hb hr hk (by rw [ex_99]; exact congrArg nI (pc_pts_alt hP (by omega))) dX8_pointsOf_99
        · skip
          refine n_icmp_eq (tgt := 75) hx hb dX8_pointsOf_66 (by decide) (by omega) (by omega) (fun c_66_5 => ?_) (fun c_66_5 => ?_)
          · skip
            refine lv_iload_n hx hb dX8_pointsOf_75 rfl (lv_at hl 5 rfl) ?_
            refine lv_iload hx hb dX8_pointsOf_76 (lv_at hl 0 rfl) ?_
            refine n_imul hx hb dX8_pointsOf_78 ?_
            refine lv_iconst (v := (nI 2)) hx hb dX8_pointsOf_79 (by decide) ?_
            refine n_idiv hx hb dX8_pointsOf_80 (by omega) (by omega) (by omega) ?_
            refine lv_goto (tgt := 99) hx hb dX8_pointsOf_81 (by decide) ?_
            exact k_99 _ ⟨_, by simp only [if_pos c_66_5], rfl⟩
          · skip
            refine lv_iload_n hx hb dX8_pointsOf_69 rfl (lv_at hl 5 rfl) ?_
            refine lv_bipush (v := (nI 7)) hx hb dX8_pointsOf_70 (by decide) ?_
            refine n_icmp_ge (tgt := 84) hx hb dX8_pointsOf_72 (by decide) (by omega) (by omega) (fun c_72_6 => ?_) (fun c_72_6 => ?_)
            · skip
              refine lv_bipush (v := (nI 6)) hx hb dX8_pointsOf_84 (by decide) ?_
              refine lv_iload hx hb dX8_pointsOf_86 (lv_at hl 0 rfl) ?_
              refine n_imul hx hb dX8_pointsOf_88 ?_
              refine lv_iconst (v := (nI 2)) hx hb dX8_pointsOf_89 (by decide) ?_
              refine n_idiv hx hb dX8_pointsOf_90 (by omega) (by omega) (by omega) ?_
              refine lv_iload_n hx hb dX8_pointsOf_91 rfl (lv_at hl 5 rfl) ?_
              refine lv_bipush (v := (nI 6)) hx hb dX8_pointsOf_92 (by decide) ?_
              refine n_isub hx hb dX8_pointsOf_94 (by omega) ?_
              refine lv_iload hx hb dX8_pointsOf_95 (lv_at hl 0 rfl) ?_
              refine n_imul hx hb dX8_pointsOf_97 ?_
              refine n_iadd hx hb dX8_pointsOf_98 ?_
              exact k_99 _ ⟨_, by simp only [if_neg c_66_5, if_pos c_72_6], rfl⟩
            · skip
              refine lv_iload_n hx hb dX8_pointsOf_75 rfl (lv_at hl 5 rfl) ?_
              refine lv_iload hx hb dX8_pointsOf_76 (lv_at hl 0 rfl) ?_
              refine n_imul hx hb dX8_pointsOf_78 ?_
              refine lv_iconst (v := (nI 2)) hx hb dX8_pointsOf_79 (by decide) ?_
              refine n_idiv hx hb dX8_pointsOf_80 (by omega) (by omega) (by omega) ?_
              refine lv_goto (tgt := 99) hx hb dX8_pointsOf_81 (by decide) ?_
              exact k_99 _ ⟨_, by simp only [if_neg c_66_5, if_neg c_72_6], rfl⟩
      · skip
        refine lv_iload_n hx hb dX8_pointsOf_58 rfl (lv_at hl 5 rfl) ?_
        refine lv_iload hx hb dX8_pointsOf_59 (lv_at hl 0 rfl) ?_
        refine n_imul hx hb dX8_pointsOf_61 ?_
        exact re_p hx hb hr hk (by unfold sp_pts pc_pts; rw [← hP, if_pos (by omega)]) dX8_pointsOf_62
    · skip
      refine tp_i (show nI 1 = iZ (1 : Int) from by decide) ?_
      refine z_icmp_le (tgt := 49) hx hb dX8_pointsOf_41 (by decide) (by omega) (by omega) (by omega) (by omega) (fun c_41_7 => ?_) (fun c_41_7 => ?_)
      · skip
        refine lv_iconst (v := (nI 1)) hx hb dX8_pointsOf_49 (by decide) ?_
        exact k_50 _ ⟨(1 : Int), by simp only [if_pos c_41_7], (show nI 1 = iZ (1 : Int) from by decide)⟩
      · skip
        refine lv_iload hx hb dX8_pointsOf_44 (lv_at hl 0 rfl) ?_
        refine lv_goto (tgt := 50) hx hb dX8_pointsOf_46 (by decide) ?_
        exact k_50 _ ⟨_, by simp only [if_neg c_41_7], rfl⟩
  · skip
    refine n_icmp_ne (tgt := 30) hx hb dX8_pointsOf_23 (by decide) (by omega) (by omega) (fun c_23_8 => ?_) (fun c_23_8 => ?_)
    · skip
      refine lv_iconst (v := (nI 0)) hx hb dX8_pointsOf_30 (by decide) ?_
      exact k_31 _ ⟨_, by simp only [if_neg c_23_8], rfl⟩
    · skip
      refine lv_iconst (v := (nI 1)) hx hb dX8_pointsOf_26 (by decide) ?_
      refine lv_goto (tgt := 31) hx hb dX8_pointsOf_27 (by decide) ?_
      exact k_31 _ ⟨_, by simp only [if_pos c_23_8], rfl⟩

theorem ok_pursues : rOk yX8_pursues cX8_pursues 6 (some .int) 2 := ⟨wc_X8_pursues, wi_X8_pursues, ws_X8_pursues, rfl, by decide, by decide, by decide +kernel⟩
set_option maxHeartbeats 4000000 in
set_option maxRecDepth 100000 in
theorem k_pursues (l : Launch) (g : RG) (z : RS) (f : Nat) (t : Nat) (S : Sc) (hz : rSc z S) (ho : oSc S) (tg : Nat) (htg : z.1 6 = nI tg) (hg1 : tg ≤ 1) (hf : f < 5) (ht : t ≤ 100000) : rMp g l yX8_pursues cX8_pursues 6 (some .int) 2 42 [.int (nI f), .int (nI t)] z (fun r => r = nI (sp_pur S tg f t)) := by
  refine rMp_in (by decide) rfl (Nat.le_of_ble_eq_true rfl) ?_
  intro p e s m args below meth c ls X hml hr hk hl w
  have hx := X.1
  have hb := X.2.1
  have hts := X.2.2.1
  have hown := X.2.2.2.1
  have hl : lv_has ls 6 [(0, .ref g.2.2.2.1), (1, .int (nI f)), (2, .int (nI t))] := hl
  obtain ⟨hz0, hz1, hz4, hm0, hm1, hm2, hso, hki, hsr, hpa, hhu, hco⟩ := id hz
  obtain ⟨o1, o2, o3, o4, o5, o6, oso, oki, osr, opa, ohu, oco⟩ := id ho
  have qf := ohu f
  refine lv_aload_n hx hb dX8_pursues_0 rfl (lv_at hl 0 rfl) ?_
  refine lv_iload_n hx hb dX8_pursues_1 rfl (lv_at hl 1 rfl) ?_
  refine lv_aload_n hx hb dX8_pursues_2 rfl (lv_at hl 0 rfl) ?_
  refine lv_iload_n hx hb dX8_pursues_3 rfl (lv_at hl 1 rfl) ?_
  refine rc_p (rest := [.int (nI f), .ref g.2.2.2.1]) X hml hl.1 (k_hurtS l g z f S hz ho (by omega)) ok_hurtOf wm_X8_91 ⟨Nat.le_of_ble_eq_true rfl, Nat.le_of_ble_eq_true rfl⟩ ⟨Nat.le_refl _, Nat.le_refl _⟩ w rfl (Nat.le_of_ble_eq_true rfl) dX8_pursues_4 (fun r_4 hr_4 => ?_)
  subst hr_4
  refine lv_iload_n hx hb dX8_pursues_7 rfl (lv_at hl 2 rfl) ?_
  refine rc_p (rest := []) X hml hl.1 (k_pointsOf l g z f (S.2.1 4 f) t S hz ho (by omega) (by first | omega | exact ohu _) (by omega)) ok_pointsOf wm_X8_95 ⟨Nat.le_of_ble_eq_true rfl, Nat.le_of_ble_eq_true rfl⟩ ⟨Nat.le_refl _, Nat.le_refl _⟩ w rfl (Nat.le_of_ble_eq_true rfl) dX8_pursues_8 (fun r_8 hr_8 => ?_)
  subst hr_8
  have d_8 := sp_pts_le S ho f (S.2.1 4 f) t
  refine lv_istore_n (lv' := [(3, .int (nI (sp_pts S f (S.2.1 4 f) t))), (0, .ref g.2.2.2.1), (1, .int (nI f)), (2, .int (nI t))]) hx hb dX8_pursues_11 rfl hl (by decide) rfl (fun ls hl => ?_)
  refine lv_iconst (v := (nI 1)) hx hb dX8_pursues_12 (by decide) ?_
  refine lv_istore (lv' := [(4, .int (nI 1)), (3, .int (nI (sp_pts S f (S.2.1 4 f) t))), (0, .ref g.2.2.2.1), (1, .int (nI f)), (2, .int (nI t))]) hx hb dX8_pursues_13 hl (by decide) rfl (fun ls hl => ?_)
  have lp_15 : ∀ (n_15 : Nat) (i : Nat) (hi : i ≤ S.1 1 - 1) (hi0 : tg = 0 → i = 0) (hm_15 : S.1 1 - i < n_15) (ls : Array Slot), lv_has ls 6 [(0, .ref g.2.2.2.1), (1, .int (nI f)), (2, .int (nI t)), (3, .int (nI (sp_purL S t (sp_pts S f (S.2.1 4 f) t) i))), (4, .int (nI (i + 1)))] → W p l e (ro_m 2 42) s m args below meth c s.heap [] 0 0 (MQ below (vp_Si (fun r => r = nI (sp_pur S tg f t))) args s 0 0 (fun _ => False)) (F0 m 15 ls []) := by
    intro n_15
    induction n_15 with
    | zero => intro i hi hi0 hm; exact absurd hm (Nat.not_lt_zero _)
    | succ n_15 ih_15 =>
      intro i hi hi0 hm_15 ls hl
      have q1 := sp_purL_le S t (sp_pts S f (S.2.1 4 f) t) i
      have q2 := ohu (i + 1)
      refine lv_iload hx hb dX8_pursues_15 (lv_at hl 4 rfl) ?_
      refine lv_aload_n hx hb dX8_pursues_17 rfl (lv_at hl 0 rfl) ?_
      refine rg_1 X w dX8_pursues_18 ?_
      refine tp_i (show z.1 1 = (nI (S.1 1)) from hz1) ?_
      refine n_icmp_ge (tgt := 74) hx hb dX8_pursues_21 (by decide) (by omega) (by omega) (fun c_21_1 => ?_) (fun c_21_1 => ?_)
      · skip
        refine lv_iload_n hx hb dX8_pursues_74 rfl (lv_at hl 3 rfl) ?_
        exact re_p hx hb hr hk (by unfold sp_pur; by_cases q : tg = 0; rw [if_pos q, hi0 q]; rfl; rw [if_neg q, show i = S.1 1 - 1 by omega]) dX8_pursues_75
      · skip
        refine lv_aload_n hx hb dX8_pursues_24 rfl (lv_at hl 0 rfl) ?_
        refine rg_6 X w dX8_pursues_25 ?_
        refine tp_i (show z.1 6 = (nI tg) from htg) ?_
        refine n_if_eq (tgt := 74) hx hb dX8_pursues_28 (by decide) (by omega) (fun c_28_2 => ?_) (fun c_28_2 => ?_)
        · skip
          refine lv_iload_n hx hb dX8_pursues_74 rfl (lv_at hl 3 rfl) ?_
          exact re_p hx hb hr hk (by unfold sp_pur; by_cases q : tg = 0; rw [if_pos q, hi0 q]; rfl; rw [if_neg q, show i = S.1 1 - 1 by omega]) dX8_pursues_75
        · skip
          refine lv_aload_n hx hb dX8_pursues_31 rfl (lv_at hl 0 rfl) ?_
          refine lv_iload hx hb dX8_pursues_32 (lv_at hl 4 rfl) ?_
          refine lv_aload_n hx hb dX8_pursues_34 rfl (lv_at hl 0 rfl) ?_
          refine lv_iload hx hb dX8_pursues_35 (lv_at hl 4 rfl) ?_
          refine rc_p (rest := [.int (nI (i + 1)), .ref g.2.2.2.1]) X hml hl.1 (k_hurtS l g z (i + 1) S hz ho (by omega)) ok_hurtOf wm_X8_91 ⟨Nat.le_of_ble_eq_true rfl, Nat.le_of_ble_eq_true rfl⟩ ⟨Nat.le_refl _, Nat.le_refl _⟩ w rfl (Nat.le_of_ble_eq_true rfl) dX8_pursues_37 (fun r_37 hr_37 => ?_)
          subst hr_37
          refine lv_iload_n hx hb dX8_pursues_40 rfl (lv_at hl 2 rfl) ?_
          refine rc_p (rest := []) X hml hl.1 (k_pointsOf l g z (i + 1) (S.2.1 4 (i + 1)) t S hz ho (by omega) (by first | omega | exact ohu _) (by omega)) ok_pointsOf wm_X8_95 ⟨Nat.le_of_ble_eq_true rfl, Nat.le_of_ble_eq_true rfl⟩ ⟨Nat.le_refl _, Nat.le_refl _⟩ w rfl (Nat.le_of_ble_eq_true rfl) dX8_pursues_41 (fun r_41 hr_41 => ?_)
          subst hr_41
          have d_41 := sp_pts_le S ho (i + 1) (S.2.1 4 (i + 1)) t
          refine lv_istore (lv' := [(5, .int (nI (sp_pts S (i + 1) (S.2.1 4 (i + 1)) t))), (0, .ref g.2.2.2.1), (1, .int (nI f)), (2, .int (nI t)), (3, .int (nI (sp_purL S t (sp_pts S f (S.2.1 4 f) t) i))), (4, .int (nI (i + 1)))]) hx hb dX8_pursues_44 hl (by decide) rfl (fun ls hl => ?_)
          refine lv_aload_n hx hb dX8_pursues_46 rfl (lv_at hl 1 rfl) ?_
          refine lv_iload hx hb dX8_pursues_47 (lv_at hl 5 rfl) ?_
          refine rc_p (rest := []) X hml hl.1 (k_downS l g z (i + 1) S hz ho (by omega)) ok_isDown wm_X8_103 ⟨Nat.le_of_ble_eq_true rfl, Nat.le_of_ble_eq_true rfl⟩ ⟨Nat.le_refl _, Nat.le_refl _⟩ w rfl (Nat.le_of_ble_eq_true rfl) dX8_pursues_49 (fun r_49 hr_49 => ?_)
          subst hr_49
          have d_49 := pc_dn01 S (i + 1)
          refine jn (tgt := 67) (rest := []) (fun v9 => ∃ x9 : Nat, x9 = (if (pc_dn S (i + 1)) = 0 then (if (sp_purL S t (sp_pts S f (S.2.1 4 f) t) i) ≤ (sp_pts S (i + 1) (S.2.1 4 (i + 1)) t) then (sp_purL S t (sp_pts S f (S.2.1 4 f) t) i) else (sp_pts S (i + 1) (S.2.1 4 (i + 1)) t)) else (sp_purL S t (sp_pts S f (S.2.1 4 f) t) i)) ∧ v9 = nI x9) (fun v_ hv_ => ?_) (fun k_67 => ?_)
          · obtain ⟨x_67, ex_67, rfl⟩ := hv_
            refine lv_istore_n (lv' := [(3, .int (nI x_67)), (5, .int (nI (sp_pts S (i + 1) (S.2.1 4 (i + 1)) t))), (0, .ref g.2.2.2.1), (1, .int (nI f)), (2, .int (nI t)), (4, .int (nI (i + 1)))]) hx hb dX8_pursues_67 rfl hl (by decide) rfl (fun ls hl => ?_)
            refine lv_iinc (v := (nI (i + 1 + 1))) (lv' := [(4, .int (nI (i + 1 + 1))), (3, .int (nI x_67)), (5, .int (nI (sp_pts S (i + 1) (S.2.1 4 (i + 1)) t))), (0, .ref g.2.2.2.1), (1, .int (nI f)), (2, .int (nI t))]) hx hb dX8_pursues_68 hl (k := 5) rfl (by first | exact nI_1 _ | (rw [show Int32.ofInt 1 = nI 1 from by decide, nI_add])) (by decide) rfl (fun ls hl => ?_)
            refine lv_goto (tgt := 15) hx hb dX8_pursues_71 (by decide) ?_
            subst ex_67
            exact ih_15 (i + 1) (by omega) (fun q => absurd q (by omega)) (by omega) ls (lv_sub hl [3, 4, 5, 1, 0] rfl)
          · skip
            refine n_if_ne (tgt := 66) hx hb dX8_pursues_52 (by decide) (by omega) (fun c_52_4 => ?_) (fun c_52_4 => ?_)
            · skip
              refine lv_iload_n hx hb dX8_pursues_66 rfl (lv_at hl 4 rfl) ?_
              exact k_67 _ ⟨_, by simp only [if_neg c_52_4], rfl⟩
            · skip
              refine lv_iload hx hb dX8_pursues_55 (lv_at hl 0 rfl) ?_
              refine lv_iload_n hx hb dX8_pursues_57 rfl (lv_at hl 4 rfl) ?_
              refine n_icmp_ge (tgt := 66) hx hb dX8_pursues_58 (by decide) (by omega) (by omega) (fun c_58_5 => ?_) (fun c_58_5 => ?_)
              · skip
                refine lv_iload_n hx hb dX8_pursues_66 rfl (lv_at hl 4 rfl) ?_
                exact k_67 _ ⟨_, by simp only [if_pos c_52_4, if_pos c_58_5], rfl⟩
              · skip
                refine lv_iload hx hb dX8_pursues_61 (lv_at hl 0 rfl) ?_
                refine lv_goto (tgt := 67) hx hb dX8_pursues_63 (by decide) ?_
                exact k_67 _ ⟨_, by simp only [if_pos c_52_4, if_neg c_58_5], rfl⟩
  exact lp_15 _ 0 (Nat.zero_le _) (fun _ => rfl) (Nat.lt_succ_self _) ls (lv_sub hl [2, 3, 4, 1, 0] rfl)

theorem ok_runs : rOk yX8_runs cX8_runs 2 (some .int) 1 := ⟨wc_X8_runs, wi_X8_runs, ws_X8_runs, rfl, by decide, by decide, by decide +kernel⟩
set_option maxHeartbeats 4000000 in
set_option maxRecDepth 100000 in
theorem k_runs (l : Launch) (g : RG) (z : RS) (mo : Nat) (S : Sc) (hz : rSc z S) (ho : oSc S) (hmo : mo ≤ 100000) : rMp g l yX8_runs cX8_runs 2 (some .int) 2 42 [.int (nI mo)] z (fun r => r = nI (sp_run S mo)) := by
  refine rMp_in (by decide) rfl (Nat.le_of_ble_eq_true rfl) ?_
  intro p e s m args below meth c ls X hml hr hk hl w
  have hx := X.1
  have hb := X.2.1
  have hts := X.2.2.1
  have hown := X.2.2.2.1
  have hl : lv_has ls 2 [(0, .ref g.2.2.2.1), (1, .int (nI mo))] := hl
  obtain ⟨hz0, hz1, hz4, hm0, hm1, hm2, hso, hki, hsr, hpa, hhu, hco⟩ := id hz
  obtain ⟨o1, o2, o3, o4, o5, o6, oso, oki, osr, opa, ohu, oco⟩ := id ho
  have qf := ohu 0
  refine lv_aload_n hx hb dX8_runs_0 rfl (lv_at hl 0 rfl) ?_
  refine lv_iconst (v := (nI 0)) hx hb dX8_runs_1 (by decide) ?_
  refine rc_p (rest := []) X hml hl.1 (k_downS l g z 0 S hz ho (by omega)) ok_isDown wm_X8_103 ⟨Nat.le_of_ble_eq_true rfl, Nat.le_of_ble_eq_true rfl⟩ ⟨Nat.le_refl _, Nat.le_refl _⟩ w rfl (Nat.le_of_ble_eq_true rfl) dX8_runs_2 (fun r_2 hr_2 => ?_)
  subst hr_2
  have d_2 := pc_dn01 S 0
  refine jn (tgt := 27) (rest := []) (fun v9 => ∃ x9 : Nat, x9 = (if (pc_dn S 0) = 0 then (pc_far (S.2.1 0) (sp_pts S 0 (S.2.1 4 0) mo) (S.1 0 - 1)) else 0) ∧ v9 = nI x9) (fun v_ hv_ => ?_) (fun k_27 => ?_)
  · obtain ⟨x_27, ex_27, rfl⟩ := hv_
    exact re_p hx hb hr hk (by rw [ex_27]; rfl) dX8_runs_27
  · skip
    refine n_if_eq (tgt := 12) hx hb dX8_runs_5 (by decide) (by omega) (fun c_5_2 => ?_) (fun c_5_2 => ?_)
    · skip
      refine lv_aload_n hx hb dX8_runs_12 rfl (lv_at hl 0 rfl) ?_
      refine lv_aload_n hx hb dX8_runs_13 rfl (lv_at hl 0 rfl) ?_
      refine lv_iconst (v := (nI 0)) hx hb dX8_runs_14 (by decide) ?_
      refine lv_aload_n hx hb dX8_runs_15 rfl (lv_at hl 0 rfl) ?_
      refine lv_iconst (v := (nI 0)) hx hb dX8_runs_16 (by decide) ?_
      refine rc_p (rest := [.int (nI 0), .ref g.2.2.2.1, .ref g.2.2.2.1]) X hml hl.1 (k_hurtS l g z 0 S hz ho (by omega)) ok_hurtOf wm_X8_91 ⟨Nat.le_of_ble_eq_true rfl, Nat.le_of_ble_eq_true rfl⟩ ⟨Nat.le_refl _, Nat.le_refl _⟩ w rfl (Nat.le_of_ble_eq_true rfl) dX8_runs_17 (fun r_17 hr_17 => ?_)
      subst hr_17
      refine lv_iload_n hx hb dX8_runs_20 rfl (lv_at hl 1 rfl) ?_
      refine rc_p (rest := [.ref g.2.2.2.1]) X hml hl.1 (k_pointsOf l g z 0 (S.2.1 4 0) mo S hz ho (by omega) (by first | omega | exact ohu _) (by omega)) ok_pointsOf wm_X8_95 ⟨Nat.le_of_ble_eq_true rfl, Nat.le_of_ble_eq_true rfl⟩ ⟨Nat.le_refl _, Nat.le_refl _⟩ w rfl (Nat.le_of_ble_eq_true rfl) dX8_runs_21 (fun r_21 hr_21 => ?_)
      subst hr_21
      have d_21 := sp_pts_le S ho 0 (S.2.1 4 0) mo
      refine rc_p (rest := []) X hml hl.1 (k_farthest l g z (sp_pts S 0 (S.2.1 4 0) mo) (S.2.1 0) (S.1 0) hso oso hz0 ⟨o1, o2⟩ (by omega)) ok_farthest wm_X8_107 ⟨Nat.le_of_ble_eq_true rfl, Nat.le_of_ble_eq_true rfl⟩ ⟨Nat.le_refl _, Nat.le_refl _⟩ w rfl (Nat.le_of_ble_eq_true rfl) dX8_runs_24 (fun r_24 hr_24 => ?_)
      subst hr_24
      exact k_27 _ ⟨_, by simp only [if_pos c_5_2], rfl⟩
    · skip
      refine lv_iconst (v := (nI 0)) hx hb dX8_runs_8 (by decide) ?_
      refine lv_goto (tgt := 27) hx hb dX8_runs_9 (by decide) ?_
      exact k_27 _ ⟨_, by simp only [if_neg c_5_2], rfl⟩

theorem ok_comesTo : rOk yX8_comesTo cX8_comesTo 5 (some .int) 2 := ⟨wc_X8_comesTo, wi_X8_comesTo, ws_X8_comesTo, rfl, by decide, by decide, by decide +kernel⟩
set_option maxHeartbeats 4000000 in
set_option maxRecDepth 100000 in
theorem k_comesTo (l : Launch) (g : RG) (z : RS) (f : Nat) (cell : Nat) (S : Sc) (hz : rSc z S) (ho : oSc S) (tg : Nat) (htg : z.1 6 = nI tg) (hg1 : tg ≤ 1) (hf : f < 5) (hcl : cell < 40) : rMp g l yX8_comesTo cX8_comesTo 5 (some .int) 3 67 [.int (nI f), .int (nI cell)] z (fun r => r = nI (sp_com S tg f cell)) := by
  refine rMp_in (by decide) rfl (Nat.le_of_ble_eq_true rfl) ?_
  intro p e s m args below meth c ls X hml hr hk hl w
  have hx := X.1
  have hb := X.2.1
  have hts := X.2.2.1
  have hown := X.2.2.2.1
  have hl : lv_has ls 5 [(0, .ref g.2.2.2.1), (1, .int (nI f)), (2, .int (nI cell))] := hl
  obtain ⟨hz0, hz1, hz4, hm0, hm1, hm2, hso, hki, hsr, hpa, hhu, hco⟩ := id hz
  obtain ⟨o1, o2, o3, o4, o5, o6, oso, oki, osr, opa, ohu, oco⟩ := id ho
  refine lv_aload_n hx hb dX8_comesTo_0 rfl (lv_at hl 0 rfl) ?_
  refine lv_iload_n hx hb dX8_comesTo_1 rfl (lv_at hl 2 rfl) ?_
  refine rc_p (rest := []) X hml hl.1 (k_costOf l g z cell (S.2.1 0) hso (by omega)) ok_costOf wm_X8_110 ⟨Nat.le_of_ble_eq_true rfl, Nat.le_of_ble_eq_true rfl⟩ ⟨Nat.le_refl _, Nat.le_refl _⟩ w rfl (Nat.le_of_ble_eq_true rfl) dX8_comesTo_2 (fun r_2 hr_2 => ?_)
  subst hr_2
  have d_2 := pc_cost_le oso cell
  refine lv_istore_n (lv' := [(3, .int (nI (pc_cost (S.2.1 0) cell))), (0, .ref g.2.2.2.1), (1, .int (nI f)), (2, .int (nI cell))]) hx hb dX8_comesTo_5 rfl hl (by decide) rfl (fun ls hl => ?_)
  refine lv_iload_n hx hb dX8_comesTo_6 rfl (lv_at hl 0 rfl) ?_
  refine n_if_ne (tgt := 12) hx hb dX8_comesTo_7 (by decide) (by omega) (fun c_7_1 => ?_) (fun c_7_1 => ?_)
  · skip
    refine lv_iconst (v := (nI 0)) hx hb dX8_comesTo_12 (by decide) ?_
    refine lv_istore (lv' := [(4, .int (nI 0)), (3, .int (nI (pc_cost (S.2.1 0) cell))), (0, .ref g.2.2.2.1), (1, .int (nI f)), (2, .int (nI cell))]) hx hb dX8_comesTo_13 hl (by decide) rfl (fun ls hl => ?_)
    have lp_15 : ∀ (n_15 : Nat) (i : Nat) (hi : i ≤ 400) (hi0 : pc_fst (sp_pur S tg f) (pc_cost (S.2.1 0) cell) 400 0 = pc_fst (sp_pur S tg f) (pc_cost (S.2.1 0) cell) (400 - i) i) (hm_15 : 400 - i < n_15) (ls : Array Slot), lv_has ls 5 [(0, .ref g.2.2.2.1), (1, .int (nI f)), (2, .int (nI cell)), (3, .int (nI (pc_cost (S.2.1 0) cell))), (4, .int (nI i))] → W p l e (ro_m 3 67) s m args below meth c s.heap [] 0 0 (MQ below (vp_Si (fun r => r = nI (sp_com S tg f cell))) args s 0 0 (fun _ => False)) (F0 m 15 ls []) := by
      intro n_15
      induction n_15 with
      | zero => intro i hi hi0 hm; exact absurd hm (Nat.not_lt_zero _)
      | succ n_15 ih_15 =>
        intro i hi hi0 hm_15 ls hl
        refine lv_aload_n hx hb dX8_comesTo_15 rfl (lv_at hl 0 rfl) ?_
        refine lv_iload_n hx hb dX8_comesTo_16 rfl (lv_at hl 1 rfl) ?_
        refine lv_iload hx hb dX8_comesTo_17 (lv_at hl 4 rfl) ?_
        refine rc_p (rest := []) X hml hl.1 (k_pursues l g z f i S hz ho tg htg hg1 (by omega) (by omega)) ok_pursues wm_X8_113 ⟨Nat.le_of_ble_eq_true rfl, Nat.le_of_ble_eq_true rfl⟩ ⟨Nat.le_refl _, Nat.le_refl _⟩ w rfl (Nat.le_of_ble_eq_true rfl) dX8_comesTo_19 (fun r_19 hr_19 => ?_)
        subst hr_19
        have d_19 := sp_pur_le S ho tg f i
        have b_19 := sp_pur_ge S tg f i
        refine lv_iload_n hx hb dX8_comesTo_22 rfl (lv_at hl 3 rfl) ?_
        refine n_icmp_ge (tgt := 32) hx hb dX8_comesTo_23 (by decide) (by omega) (by omega) (fun c_23_2 => ?_) (fun c_23_2 => ?_)
        · skip
          refine lv_aload_n hx hb dX8_comesTo_32 rfl (lv_at hl 0 rfl) ?_
          refine rg_4 X w dX8_comesTo_33 ?_
          refine tp_i (show z.1 4 = (nI (S.1 2)) from hz4) ?_
          refine lv_iload hx hb dX8_comesTo_36 (lv_at hl 4 rfl) ?_
          refine n_iadd hx hb dX8_comesTo_38 ?_
          exact re_p hx hb hr hk (by unfold sp_com; rw [if_neg (by omega), hi0, pc_fst_end (by omega)]) dX8_comesTo_39
        · skip
          refine lv_iinc (v := (nI (i + 1))) (lv' := [(4, .int (nI (i + 1))), (0, .ref g.2.2.2.1), (1, .int (nI f)), (2, .int (nI cell)), (3, .int (nI (pc_cost (S.2.1 0) cell)))]) hx hb dX8_comesTo_26 hl (k := 4) rfl (by first | exact nI_1 _ | (rw [show Int32.ofInt 1 = nI 1 from by decide, nI_add])) (by decide) rfl (fun ls hl => ?_)
          refine lv_goto (tgt := 15) hx hb dX8_comesTo_29 (by decide) ?_
          exact ih_15 (i + 1) (by omega) (by rw [hi0]; exact pc_fst_step (by omega) (by omega)) (by omega) ls (lv_sub hl [1, 2, 3, 4, 0] rfl)
    exact lp_15 _ 0 (Nat.zero_le _) rfl (Nat.lt_succ_self _) ls (lv_sub hl [2, 3, 4, 1, 0] rfl)
  · skip
    refine lv_iconst (v := (nI 0)) hx hb dX8_comesTo_10 (by decide) ?_
    exact re_p hx hb hr hk (by unfold sp_com; rw [if_pos (by omega)]) dX8_comesTo_11

theorem ok_isCaught : rOk yX8_isCaught cX8_isCaught 6 (some .boolean) 1 := ⟨wc_X8_isCaught, wi_X8_isCaught, ws_X8_isCaught, rfl, by decide, by decide, by decide +kernel⟩
set_option maxHeartbeats 4000000 in
set_option maxRecDepth 100000 in
theorem k_isCaught (l : Launch) (g : RG) (z : RS) (mo : Nat) (S : Sc) (hz : rSc z S) (ho : oSc S) (tg : Nat) (htg : z.1 6 = nI tg) (hg1 : tg ≤ 1) (hmo : mo ≤ 100000) : rMp g l yX8_isCaught cX8_isCaught 6 (some .boolean) 3 67 [.int (nI mo)] z (fun r => r = nI (sp_ct S tg mo)) := by
  refine rMp_in (by decide) rfl (Nat.le_of_ble_eq_true rfl) ?_
  intro p e s m args below meth c ls X hml hr hk hl w
  have hx := X.1
  have hb := X.2.1
  have hts := X.2.2.1
  have hown := X.2.2.2.1
  have hl : lv_has ls 6 [(0, .ref g.2.2.2.1), (1, .int (nI mo))] := hl
  obtain ⟨hz0, hz1, hz4, hm0, hm1, hm2, hso, hki, hsr, hpa, hhu, hco⟩ := id hz
  obtain ⟨o1, o2, o3, o4, o5, o6, oso, oki, osr, opa, ohu, oco⟩ := id ho
  refine lv_aload_n hx hb dX8_isCaught_0 rfl (lv_at hl 0 rfl) ?_
  refine lv_iload_n hx hb dX8_isCaught_1 rfl (lv_at hl 1 rfl) ?_
  refine rc_p (rest := []) X hml hl.1 (k_runs l g z mo S hz ho (by omega)) ok_runs wm_X8_120 ⟨Nat.le_of_ble_eq_true rfl, Nat.le_of_ble_eq_true rfl⟩ ⟨Nat.le_refl _, Nat.le_refl _⟩ w rfl (Nat.le_of_ble_eq_true rfl) dX8_isCaught_2 (fun r_2 hr_2 => ?_)
  subst hr_2
  have d_2 := sp_run_lt S ho mo
  refine lv_istore_n (lv' := [(2, .int (nI (sp_run S mo))), (0, .ref g.2.2.2.1), (1, .int (nI mo))]) hx hb dX8_isCaught_5 rfl hl (by decide) rfl (fun ls hl => ?_)
  refine lv_iload_n hx hb dX8_isCaught_6 rfl (lv_at hl 0 rfl) ?_
  refine lv_aload_n hx hb dX8_isCaught_7 rfl (lv_at hl 1 rfl) ?_
  refine rg_0 X w dX8_isCaught_8 ?_
  refine tp_i (show z.1 0 = (nI (S.1 0)) from hz0) ?_
  refine lv_iconst (v := (nI 1)) hx hb dX8_isCaught_11 (by decide) ?_
  refine n_isub hx hb dX8_isCaught_12 (by omega) ?_
  refine jn (tgt := 21) (rest := []) (fun v9 => ∃ x9 : Nat, x9 = (if (sp_run S mo) = ((S.1 0) - 1) then 1 else 0) ∧ v9 = nI x9) (fun v_ hv_ => ?_) (fun k_21 => ?_)
  · obtain ⟨x_21, ex_21, rfl⟩ := hv_
    have q9 : x_21 ≤ 1 := by rw [ex_21]; split <;> omega
    refine lv_istore_n (lv' := [(3, .int (nI x_21)), (2, .int (nI (sp_run S mo))), (0, .ref g.2.2.2.1), (1, .int (nI mo))]) hx hb dX8_isCaught_21 rfl hl (by decide) rfl (fun ls hl => ?_)
    refine lv_aload_n hx hb dX8_isCaught_22 rfl (lv_at hl 2 rfl) ?_
    refine lv_iload_n hx hb dX8_isCaught_23 rfl (lv_at hl 1 rfl) ?_
    refine rc_p (rest := []) X hml hl.1 (k_costOf l g z (sp_run S mo) (S.2.1 0) hso (by omega)) ok_costOf wm_X8_110 ⟨Nat.le_of_ble_eq_true rfl, Nat.le_of_ble_eq_true rfl⟩ ⟨Nat.le_refl _, Nat.le_refl _⟩ w rfl (Nat.le_of_ble_eq_true rfl) dX8_isCaught_24 (fun r_24 hr_24 => ?_)
    subst hr_24
    have d_24 := pc_cost_le oso (sp_run S mo)
    refine lv_istore (lv' := [(4, .int (nI (pc_cost (S.2.1 0) (sp_run S mo)))), (3, .int (nI x_21)), (2, .int (nI (sp_run S mo))), (0, .ref g.2.2.2.1), (1, .int (nI mo))]) hx hb dX8_isCaught_27 hl (by decide) rfl (fun ls hl => ?_)
    refine lv_iconst (v := (nI 1)) hx hb dX8_isCaught_29 (by decide) ?_
    refine lv_istore (lv' := [(5, .int (nI 1)), (4, .int (nI (pc_cost (S.2.1 0) (sp_run S mo)))), (3, .int (nI x_21)), (2, .int (nI (sp_run S mo))), (0, .ref g.2.2.2.1), (1, .int (nI mo))]) hx hb dX8_isCaught_30 hl (by decide) rfl (fun ls hl => ?_)
    have lp_32 : ∀ (n_32 : Nat) (i : Nat) (hi : i ≤ S.1 1 - 1) (hm_32 : S.1 1 - i < n_32) (ls : Array Slot), lv_has ls 6 [(0, .ref g.2.2.2.1), (1, .int (nI mo)), (2, .int (nI (sp_run S mo))), (3, .int (nI (sp_ctL S tg (pc_cost (S.2.1 0) (sp_run S mo)) mo x_21 i))), (4, .int (nI (pc_cost (S.2.1 0) (sp_run S mo)))), (5, .int (nI (i + 1)))] → W p l e (ro_m 3 67) s m args below meth c s.heap [] 0 0 (MQ below (vp_Si (fun r => r = nI (sp_ct S tg mo))) args s 0 0 (fun _ => False)) (F0 m 32 ls []) := by
      intro n_32
      induction n_32 with
      | zero => intro i hi hm; exact absurd hm (Nat.not_lt_zero _)
      | succ n_32 ih_32 =>
        intro i hi hm_32 ls hl
        have q1 := sp_ctL01 S tg (pc_cost (S.2.1 0) (sp_run S mo)) mo x_21 q9 i
        refine lv_iload hx hb dX8_isCaught_32 (lv_at hl 5 rfl) ?_
        refine lv_aload_n hx hb dX8_isCaught_34 rfl (lv_at hl 0 rfl) ?_
        refine rg_1 X w dX8_isCaught_35 ?_
        refine tp_i (show z.1 1 = (nI (S.1 1)) from hz1) ?_
        refine n_icmp_ge (tgt := 96) hx hb dX8_isCaught_38 (by decide) (by omega) (by omega) (fun c_38_2 => ?_) (fun c_38_2 => ?_)
        · skip
          refine lv_iload_n hx hb dX8_isCaught_96 rfl (lv_at hl 3 rfl) ?_
          exact re_pz hx hb hr hk (by have q8 := q1; rcases (show _ = 0 ∨ _ = 1 from by omega : sp_ctL S tg (pc_cost (S.2.1 0) (sp_run S mo)) mo x_21 i = 0 ∨ sp_ctL S tg (pc_cost (S.2.1 0) (sp_run S mo)) mo x_21 i = 1) with q | q <;> rw [q]; exact Or.inl rfl; exact Or.inr rfl) (by rw [show i = S.1 1 - 1 by omega, ex_21]; rfl) dX8_isCaught_97
        · skip
          refine lv_iload_n hx hb dX8_isCaught_41 rfl (lv_at hl 3 rfl) ?_
          refine jn (tgt := 89) (rest := []) (fun v9 => ∃ x9 : Nat, x9 = (if (sp_ctL S tg (pc_cost (S.2.1 0) (sp_run S mo)) mo x_21 i) = 0 then (if (pc_dn S (i + 1)) = 0 then (if (pc_cost (S.2.1 0) (sp_run S mo)) = 0 then 1 else (if mo < (S.1 2) then 0 else (if (sp_pur S tg (i + 1) (mo - (S.1 2))) < (pc_cost (S.2.1 0) (sp_run S mo)) then 0 else 1))) else 0) else 1) ∧ v9 = nI x9) (fun v_ hv_ => ?_) (fun k_89 => ?_)
          · obtain ⟨x_89, ex_89, rfl⟩ := hv_
            refine lv_istore_n (lv' := [(3, .int (nI x_89)), (0, .ref g.2.2.2.1), (1, .int (nI mo)), (2, .int (nI (sp_run S mo))), (4, .int (nI (pc_cost (S.2.1 0) (sp_run S mo)))), (5, .int (nI (i + 1)))]) hx hb dX8_isCaught_89 rfl hl (by decide) rfl (fun ls hl => ?_)
            refine lv_iinc (v := (nI (i + 1 + 1))) (lv' := [(5, .int (nI (i + 1 + 1))), (3, .int (nI x_89)), (0, .ref g.2.2.2.1), (1, .int (nI mo)), (2, .int (nI (sp_run S mo))), (4, .int (nI (pc_cost (S.2.1 0) (sp_run S mo))))]) hx hb dX8_isCaught_90 hl (k := 5) rfl (by first | exact nI_1 _ | (rw [show Int32.ofInt 1 = nI 1 from by decide, nI_add])) (by decide) rfl (fun ls hl => ?_)
            refine lv_goto (tgt := 32) hx hb dX8_isCaught_93 (by decide) ?_
            subst ex_89
            exact ih_32 (i + 1) (by omega) (by omega) ls (lv_sub hl [2, 3, 4, 1, 5, 0] rfl)
          · skip
            refine n_if_ne (tgt := 84) hx hb dX8_isCaught_42 (by decide) (by omega) (fun c_42_4 => ?_) (fun c_42_4 => ?_)
            · skip
              refine lv_iconst (v := (nI 1)) hx hb dX8_isCaught_84 (by decide) ?_
              refine lv_goto (tgt := 89) hx hb dX8_isCaught_85 (by decide) ?_
              exact k_89 _ ⟨_, by simp only [if_neg c_42_4], rfl⟩
            · skip
              refine lv_aload_n hx hb dX8_isCaught_45 rfl (lv_at hl 0 rfl) ?_
              refine lv_iload hx hb dX8_isCaught_46 (lv_at hl 5 rfl) ?_
              refine rc_p (rest := []) X hml hl.1 (k_downS l g z (i + 1) S hz ho (by omega)) ok_isDown wm_X8_103 ⟨Nat.le_of_ble_eq_true rfl, Nat.le_of_ble_eq_true rfl⟩ ⟨Nat.le_refl _, Nat.le_refl _⟩ w rfl (Nat.le_of_ble_eq_true rfl) dX8_isCaught_48 (fun r_48 hr_48 => ?_)
              subst hr_48
              have d_48 := pc_dn01 S (i + 1)
              refine n_if_ne (tgt := 88) hx hb dX8_isCaught_51 (by decide) (by omega) (fun c_51_5 => ?_) (fun c_51_5 => ?_)
              · skip
                refine lv_iconst (v := (nI 0)) hx hb dX8_isCaught_88 (by decide) ?_
                exact k_89 _ ⟨_, by simp only [if_pos c_42_4, if_neg c_51_5], rfl⟩
              · skip
                refine lv_iload hx hb dX8_isCaught_54 (lv_at hl 4 rfl) ?_
                refine n_if_eq (tgt := 84) hx hb dX8_isCaught_56 (by decide) (by omega) (fun c_56_6 => ?_) (fun c_56_6 => ?_)
                · skip
                  refine lv_iconst (v := (nI 1)) hx hb dX8_isCaught_84 (by decide) ?_
                  refine lv_goto (tgt := 89) hx hb dX8_isCaught_85 (by decide) ?_
                  exact k_89 _ ⟨_, by simp only [if_pos c_42_4, if_pos c_51_5, if_pos c_56_6], rfl⟩
                · skip
                  refine lv_iload_n hx hb dX8_isCaught_59 rfl (lv_at hl 1 rfl) ?_
                  refine lv_aload_n hx hb dX8_isCaught_60 rfl (lv_at hl 0 rfl) ?_
                  refine rg_4 X w dX8_isCaught_61 ?_
                  refine tp_i (show z.1 4 = (nI (S.1 2)) from hz4) ?_
                  refine n_icmp_lt (tgt := 88) hx hb dX8_isCaught_64 (by decide) (by omega) (by omega) (fun c_64_7 => ?_) (fun c_64_7 => ?_)
                  · skip
                    refine lv_iconst (v := (nI 0)) hx hb dX8_isCaught_88 (by decide) ?_
                    exact k_89 _ ⟨_, by simp only [if_pos c_42_4, if_pos c_51_5, if_neg c_56_6, if_pos c_64_7], rfl⟩
                  · skip
                    refine lv_aload_n hx hb dX8_isCaught_67 rfl (lv_at hl 0 rfl) ?_
                    refine lv_iload hx hb dX8_isCaught_68 (lv_at hl 5 rfl) ?_
                    refine lv_iload_n hx hb dX8_isCaught_70 rfl (lv_at hl 1 rfl) ?_
                    refine lv_aload_n hx hb dX8_isCaught_71 rfl (lv_at hl 0 rfl) ?_
                    refine rg_4 X w dX8_isCaught_72 ?_
                    refine tp_i (show z.1 4 = (nI (S.1 2)) from hz4) ?_
                    refine n_isub hx hb dX8_isCaught_75 (by omega) ?_
                    refine rc_p (rest := []) X hml hl.1 (k_pursues l g z (i + 1) (mo - (S.1 2)) S hz ho tg htg hg1 (by omega) (by omega)) ok_pursues wm_X8_113 ⟨Nat.le_of_ble_eq_true rfl, Nat.le_of_ble_eq_true rfl⟩ ⟨Nat.le_refl _, Nat.le_refl _⟩ w rfl (Nat.le_of_ble_eq_true rfl) dX8_isCaught_76 (fun r_76 hr_76 => ?_)
                    subst hr_76
                    have d_76 := sp_pur_le S ho tg (i + 1) (mo - (S.1 2))
                    have b_76 := sp_pur_ge S tg (i + 1) (mo - (S.1 2))
                    refine lv_iload hx hb dX8_isCaught_79 (lv_at hl 4 rfl) ?_
                    refine n_icmp_lt (tgt := 88) hx hb dX8_isCaught_81 (by decide) (by omega) (by omega) (fun c_81_8 => ?_) (fun c_81_8 => ?_)
                    · skip
                      refine lv_iconst (v := (nI 0)) hx hb dX8_isCaught_88 (by decide) ?_
                      exact k_89 _ ⟨_, by simp only [if_pos c_42_4, if_pos c_51_5, if_neg c_56_6, if_neg c_64_7, if_pos c_81_8], rfl⟩
                    · skip
                      refine lv_iconst (v := (nI 1)) hx hb dX8_isCaught_84 (by decide) ?_
                      refine lv_goto (tgt := 89) hx hb dX8_isCaught_85 (by decide) ?_
                      exact k_89 _ ⟨_, by simp only [if_pos c_42_4, if_pos c_51_5, if_neg c_56_6, if_neg c_64_7, if_neg c_81_8], rfl⟩
    exact lp_32 _ 0 (Nat.zero_le _) (Nat.lt_succ_self _) ls (lv_sub hl [4, 5, 3, 2, 1, 0] rfl)
  · skip
    refine n_icmp_ne (tgt := 20) hx hb dX8_isCaught_13 (by decide) (by omega) (by omega) (fun c_13_9 => ?_) (fun c_13_9 => ?_)
    · skip
      refine lv_iconst (v := (nI 0)) hx hb dX8_isCaught_20 (by decide) ?_
      exact k_21 _ ⟨_, by simp only [if_neg c_13_9], rfl⟩
    · skip
      refine lv_iconst (v := (nI 1)) hx hb dX8_isCaught_16 (by decide) ?_
      refine lv_goto (tgt := 21) hx hb dX8_isCaught_17 (by decide) ?_
      exact k_21 _ ⟨_, by simp only [if_pos c_13_9], rfl⟩
