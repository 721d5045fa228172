theorem ok_restore : rOk yX8_restore cX8_restore 2 (some .int) 0 := ⟨wc_X8_restore, wi_X8_restore, ws_X8_restore, rfl, by decide, by decide, by decide +kernel⟩
set_option maxHeartbeats 4000000 in
set_option maxRecDepth 100000 in
theorem k_restore (l : Launch) (g : RG) (z : RS)  (zI : RS) (him : rIm z zI) (b9 : Nat) (hb9 : z.1 25 = nI b9) (hb1 : b9 ≤ 1) : rMi g l yX8_restore cX8_restore 2 (some .int) 1 23 [] z (fun r z' => (b9 = 0 → r = iZ (-4) ∧ z' = z) ∧ (¬ b9 = 0 → r = nI 1 ∧ rAs z' zI ∧ rFr [0, 1, 4, 16] [2, 3, 5, 15] z z')) := by
  refine rMi_in (by decide) rfl (Nat.le_of_ble_eq_true rfl) ?_
  intro p e s m args below meth c A ls X hml hr hk hl w
  have hx := X.1
  have hb := X.2.1
  have hts := X.2.2.1
  have hown := X.2.2.2.1
  have hl : lv_has ls 2 [(0, .ref g.2.2.2.1)] := hl
  refine lv_aload_n hx hb dX8_restore_0 rfl (lv_at hl 0 rfl) ?_
  refine rg_25 X w.1 dX8_restore_1 ?_
  refine tp_i (show z.1 25 = (nI b9) from hb9) ?_
  refine n_if_ne (tgt := 10) hx hb dX8_restore_4 (by decide) (by omega) (fun c_4_1 => ?_) (fun c_4_1 => ?_)
  · skip
    refine lv_aload_n hx hb dX8_restore_10 rfl (lv_at hl 0 rfl) ?_
    refine lv_aload_n hx hb dX8_restore_11 rfl (lv_at hl 0 rfl) ?_
    refine rg_24 X w.1 dX8_restore_12 ?_
    refine lv_iconst (v := (nI 0)) hx hb dX8_restore_15 (by decide) ?_
    refine rn_24 X w.1 (by omega) dX8_restore_16 ?_
    refine rp_0 X w dX8_restore_17 (fun z_17 H locs ez_17 w => ?_)
    refine lv_aload_n hx hb dX8_restore_20 rfl (lv_at hl 0 rfl) ?_
    refine lv_aload_n hx hb dX8_restore_21 rfl (lv_at hl 0 rfl) ?_
    refine rg_24 X w.1 dX8_restore_22 ?_
    refine lv_iconst (v := (nI 1)) hx hb dX8_restore_25 (by decide) ?_
    refine rn_24 X w.1 (by omega) dX8_restore_26 ?_
    refine rp_1 X w dX8_restore_27 (fun z_27 H locs ez_27 w => ?_)
    refine lv_aload_n hx hb dX8_restore_30 rfl (lv_at hl 0 rfl) ?_
    refine lv_aload_n hx hb dX8_restore_31 rfl (lv_at hl 0 rfl) ?_
    refine rg_24 X w.1 dX8_restore_32 ?_
    refine lv_iconst (v := (nI 2)) hx hb dX8_restore_35 (by decide) ?_
    refine rn_24 X w.1 (by omega) dX8_restore_36 ?_
    refine rp_4 X w dX8_restore_37 (fun z_37 H locs ez_37 w => ?_)
    refine lv_aload_n hx hb dX8_restore_40 rfl (lv_at hl 0 rfl) ?_
    refine lv_aload_n hx hb dX8_restore_41 rfl (lv_at hl 0 rfl) ?_
    refine rg_24 X w.1 dX8_restore_42 ?_
    refine lv_iconst (v := (nI 3)) hx hb dX8_restore_45 (by decide) ?_
    refine rn_24 X w.1 (by omega) dX8_restore_46 ?_
    refine rp_16 X w dX8_restore_47 (fun z_47 H locs ez_47 w => ?_)
    have e47 : z_47.1 0 = z.2.1 24 0 ∧ z_47.1 1 = z.2.1 24 1 ∧ z_47.1 4 = z.2.1 24 2 ∧ z_47.1 16 = z.2.1 24 3 := by rw [ez_47, ez_37, ez_27, ez_17]; exact ⟨rfl, rfl, rfl, rfl⟩
    have d47 : z_47.2.1 24 = z.2.1 24 := by rw [ez_47, ez_37, ez_27, ez_17]
    have f47 : rFr [0, 1, 4, 16] [2, 3, 5, 15] z z_47 := by rw [ez_47, ez_37, ez_27, ez_17]; exact rFr_tr (rFr_tr (rFr_tr (rFr_I _ (by decide)) (rFr_I _ (by decide))) (rFr_I _ (by decide))) (rFr_I _ (by decide))
    refine lv_aload_n hx hb dX8_restore_50 rfl (lv_at hl 0 rfl) ?_
    refine lv_iconst (v := (nI 4)) hx hb dX8_restore_51 (by decide) ?_
    refine lv_aload_n hx hb dX8_restore_52 rfl (lv_at hl 0 rfl) ?_
    refine rg_2 X w.1 dX8_restore_53 ?_
    refine rc_i (rest := []) X hml hl.1 (k_gives2 l g z_47 4 (by omega)) ok_gives2 wm_X8_260 ⟨Nat.le_of_ble_eq_true rfl, Nat.le_of_ble_eq_true rfl⟩ ⟨Nat.le_refl _, Nat.le_refl _⟩ w rfl (Nat.le_of_ble_eq_true rfl) dX8_restore_56 (fun r_56 z_56 H locs hr_56 w => ?_)
    obtain ⟨h9, fl_56, fz_56⟩ := hr_56
    have h8 : r_56 = nI 44 := h9
    subst h8
    refine lv_istore_n (lv' := [(1, .int (nI 44)), (0, .ref g.2.2.2.1)]) hx hb dX8_restore_59 rfl hl (by decide) rfl (fun ls hl => ?_)
    refine lv_aload_n hx hb dX8_restore_60 rfl (lv_at hl 1 rfl) ?_
    refine lv_iload_n hx hb dX8_restore_61 rfl (lv_at hl 0 rfl) ?_
    refine lv_aload_n hx hb dX8_restore_62 rfl (lv_at hl 1 rfl) ?_
    refine rg_3 X w.1 dX8_restore_63 ?_
    refine rc_i (rest := []) X hml hl.1 (k_gives3 l g z_56 44 (by omega)) ok_gives2 wm_X8_260 ⟨Nat.le_of_ble_eq_true rfl, Nat.le_of_ble_eq_true rfl⟩ ⟨Nat.le_refl _, Nat.le_refl _⟩ w rfl (Nat.le_of_ble_eq_true rfl) dX8_restore_66 (fun r_66 z_66 H locs hr_66 w => ?_)
    obtain ⟨h9, fl_66, fz_66⟩ := hr_66
    have h8 : r_66 = nI 59 := h9
    subst h8
    refine lv_istore_n (lv' := [(1, .int (nI 59)), (0, .ref g.2.2.2.1)]) hx hb dX8_restore_69 rfl hl (by decide) rfl (fun ls hl => ?_)
    refine lv_aload_n hx hb dX8_restore_70 rfl (lv_at hl 1 rfl) ?_
    refine lv_iload_n hx hb dX8_restore_71 rfl (lv_at hl 0 rfl) ?_
    refine lv_aload_n hx hb dX8_restore_72 rfl (lv_at hl 1 rfl) ?_
    refine rg_5 X w.1 dX8_restore_73 ?_
    refine rc_i (rest := []) X hml hl.1 (k_gives5 l g z_66 59 (by omega)) ok_gives2 wm_X8_260 ⟨Nat.le_of_ble_eq_true rfl, Nat.le_of_ble_eq_true rfl⟩ ⟨Nat.le_refl _, Nat.le_refl _⟩ w rfl (Nat.le_of_ble_eq_true rfl) dX8_restore_76 (fun r_76 z_76 H locs hr_76 w => ?_)
    obtain ⟨h9, fl_76, fz_76⟩ := hr_76
    have h8 : r_76 = nI 72 := h9
    subst h8
    refine lv_istore_n (lv' := [(1, .int (nI 72)), (0, .ref g.2.2.2.1)]) hx hb dX8_restore_79 rfl hl (by decide) rfl (fun ls hl => ?_)
    refine lv_aload_n hx hb dX8_restore_80 rfl (lv_at hl 1 rfl) ?_
    refine lv_iload_n hx hb dX8_restore_81 rfl (lv_at hl 0 rfl) ?_
    refine lv_aload_n hx hb dX8_restore_82 rfl (lv_at hl 1 rfl) ?_
    refine rg_15 X w.1 dX8_restore_83 ?_
    refine rc_i (rest := []) X hml hl.1 (k_gives15 l g z_76 72 (by omega)) ok_gives2 wm_X8_260 ⟨Nat.le_of_ble_eq_true rfl, Nat.le_of_ble_eq_true rfl⟩ ⟨Nat.le_refl _, Nat.le_refl _⟩ w rfl (Nat.le_of_ble_eq_true rfl) dX8_restore_86 (fun r_86 z_86 H locs hr_86 w => ?_)
    obtain ⟨h9, fl_86, fz_86⟩ := hr_86
    have h8 : r_86 = nI 176 := h9
    subst h8
    refine lv_pop hx hb dX8_restore_89 rfl ?_
    refine lv_iconst (v := (nI 1)) hx hb dX8_restore_90 (by decide) ?_
    exact re_i X hr hk w (⟨fun q => absurd q (by omega), fun _ => ⟨rfl, as_all him e47 d47 fl_56 fz_56 fl_66 fz_66 fl_76 fz_76 fl_86 fz_86, rFr_tr (rFr_tr (rFr_tr (rFr_tr f47 (rFr_w (is' := [0, 1, 4, 16]) (ks' := [2, 3, 5, 15]) fz_56 (by simp) (by simp))) (rFr_w (is' := [0, 1, 4, 16]) (ks' := [2, 3, 5, 15]) fz_66 (by simp) (by simp))) (rFr_w (is' := [0, 1, 4, 16]) (ks' := [2, 3, 5, 15]) fz_76 (by simp) (by simp))) (rFr_w (is' := [0, 1, 4, 16]) (ks' := [2, 3, 5, 15]) fz_86 (by simp) (by simp))⟩⟩) dX8_restore_91
  · skip
    refine lv_bipush (v := (iZ (-4))) hx hb dX8_restore_7 (by decide) ?_
    exact re_i X hr hk w (⟨fun _ => ⟨rfl, rfl⟩, fun q => absurd (by omega) q⟩) dX8_restore_9
