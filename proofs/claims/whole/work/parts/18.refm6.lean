set_option maxHeartbeats 4000000 in
set_option maxRecDepth 100000 in
theorem k_isF (l : Launch) (g : RG) (z : RS) (f : Int32) (S : Sc) (hz : rSc z S) (ho : oSc S) : rMp g l yX8_isFighter cX8_isFighter 2 (some .boolean) 1 25 [.int f] z (fun r => r = nI (pc_inI f.toInt 0 (((S.1 1 : Nat) : Int) - (1 : Int)))) := by
  refine rMp_in (by decide) rfl (Nat.le_of_ble_eq_true rfl) ?_
  intro p e s m args below meth c ls X hml hr hk hl w
  have hx := X.1
  have hb := X.2.1
  have hts := X.2.2.1
  have hown := X.2.2.2.1
  have hl : lv_has ls 2 [(0, .ref g.2.2.2.1), (1, .int f)] := hl
  obtain ⟨hz0, hz1, hz4, hm0, hm1, hm2, hso, hki, hsr, hpa, hhu, hco⟩ := id hz
  obtain ⟨o1, o2, o3, o4, o5, o6, oso, oki, osr, opa, ohu, oco⟩ := id ho
  refine lv_iload_n hx hb dX8_isFighter_0 rfl (lv_at hl 1 rfl) ?_
  refine lv_i2l (v := f.toInt64) hx hb dX8_isFighter_1 rfl ?_
  refine lv_lconst (v := 0) hx hb dX8_isFighter_2 (by decide) ?_
  refine lv_aload_n hx hb dX8_isFighter_3 rfl (lv_at hl 0 rfl) ?_
  refine rg_1 X w dX8_isFighter_4 ?_
  refine tp_i (show z.1 1 = (nI (S.1 1)) from hz1) ?_
  refine lv_iconst (v := (nI 1)) hx hb dX8_isFighter_7 (by decide) ?_
  refine tp_i (show nI 1 = iZ (1 : Int) from by decide) ?_
  refine tp_i2 (iZ_n (S.1 1)).symm ?_
  refine z_isub hx hb dX8_isFighter_8 ?_
  refine lv_i2l (v := (iZ ((((S.1 1 : Nat) : Int)) - ((1 : Int)))).toInt64) hx hb dX8_isFighter_9 rfl ?_
  refine rc_s (rest := []) ⟨X.1, X.2.1, X.2.2.1, X.2.2.2.1⟩ hml hl.1 (k_in l f.toInt64 0 ((iZ ((((S.1 1 : Nat) : Int)) - ((1 : Int)))).toInt64)) ok_in wm_X8_69 ⟨Nat.le_of_ble_eq_true rfl, Nat.le_of_ble_eq_true rfl⟩ ⟨Nat.le_refl _, Nat.le_refl _⟩ rfl (Nat.le_of_ble_eq_true rfl) dX8_isFighter_10 (fun r_10 hr_10 => ?_)
  have h9 : r_10 = nI (pc_inI f.toInt (0) ((((S.1 1 : Nat) : Int)) - ((1 : Int)))) := by rw [hr_10]; exact congrArg nI (pc_in_I (in_toI _) (by decide) (in_toZ (by omega) (by omega)))
  subst h9
  have i_10 := pc_inI_ok f.toInt (0) ((((S.1 1 : Nat) : Int)) - ((1 : Int)))
  exact re_pz hx hb hr hk (by rcases i_10 with q | q <;> rw [q.1]; exact Or.inr rfl; exact Or.inl rfl) (rfl) dX8_isFighter_13

theorem ok_hurt : rOk yX8_hurt cX8_hurt 4 (some .int) 2 := ⟨wc_X8_hurt, wi_X8_hurt, ws_X8_hurt, rfl, by decide, by decide, by decide +kernel⟩
set_option maxHeartbeats 4000000 in
set_option maxRecDepth 100000 in
theorem k_hurt (l : Launch) (g : RG) (z : RS) (f : Int32) (v : Int32) (S : Sc) (hz : rSc z S) (ho : oSc S) : rMi g l yX8_hurt cX8_hurt 4 (some .int) 2 46 [.int f, .int v] z (fun r z' => r = an_hurt S f v ∧ rSc z' (nx_hurt S f v) ∧ rFr [] [5] z z') := by
  refine rMi_in (by decide) rfl (Nat.le_of_ble_eq_true rfl) ?_
  intro p e s m args below meth c A ls X hml hr hk hl w
  have hx := X.1
  have hb := X.2.1
  have hts := X.2.2.1
  have hown := X.2.2.2.1
  have hl : lv_has ls 4 [(0, .ref g.2.2.2.1), (1, .int f), (2, .int v)] := hl
  obtain ⟨hz0, hz1, hz4, hm0, hm1, hm2, hso, hki, hsr, hpa, hhu, hco⟩ := id hz
  obtain ⟨o1, o2, o3, o4, o5, o6, oso, oki, osr, opa, ohu, oco⟩ := id ho
  refine lv_aload_n hx hb dX8_hurt_0 rfl (lv_at hl 0 rfl) ?_
  refine lv_iload_n hx hb dX8_hurt_1 rfl (lv_at hl 1 rfl) ?_
  refine rc_p (rest := []) X hml hl.1 (k_isF l g z f S hz ho) ok_isFighter wm_X8_123 ⟨Nat.le_of_ble_eq_true rfl, Nat.le_of_ble_eq_true rfl⟩ ⟨Nat.le_refl _, Nat.le_refl _⟩ w.1 rfl (Nat.le_of_ble_eq_true rfl) dX8_hurt_2 (fun r_2 hr_2 => ?_)
  subst hr_2
  have i_2 := pc_inI_ok f.toInt 0 (((S.1 1 : Nat) : Int) - (1 : Int))
  refine n_if_eq (tgt := 20) hx hb dX8_hurt_5 (by decide) (by omega) (fun c_5_1 => ?_) (fun c_5_1 => ?_)
  · skip
    refine lv_iconst (v := (iZ (-1))) hx hb dX8_hurt_20 (by decide) ?_
    exact re_i X hr hk w (⟨by unfold an_hurt; rw [if_neg (by omega)], by unfold nx_hurt; rw [if_neg (by omega)]; exact hz, rFr_rf _ _ _⟩) dX8_hurt_21
  · skip
    refine lv_iload_n hx hb dX8_hurt_8 rfl (lv_at hl 2 rfl) ?_
    refine lv_i2l (v := v.toInt64) hx hb dX8_hurt_9 rfl ?_
    refine lv_lconst (v := 0) hx hb dX8_hurt_10 (by decide) ?_
    refine lv_ldc2 hx hb hown (hts _ wk_X8_78) dX8_hurt_11 ?_
    refine rc_s (rest := []) ⟨X.1, X.2.1, X.2.2.1, X.2.2.2.1⟩ hml hl.1 (k_in l v.toInt64 0 6) ok_in wm_X8_69 ⟨Nat.le_of_ble_eq_true rfl, Nat.le_of_ble_eq_true rfl⟩ ⟨Nat.le_refl _, Nat.le_refl _⟩ rfl (Nat.le_of_ble_eq_true rfl) dX8_hurt_14 (fun r_14 hr_14 => ?_)
    have h9 : r_14 = nI (pc_inI v.toInt (0) (6)) := by rw [hr_14]; exact congrArg nI (pc_in_I (in_toI _) (by decide) (by decide))
    subst h9
    have i_14 := pc_inI_ok v.toInt (0) (6)
    refine n_if_ne (tgt := 22) hx hb dX8_hurt_17 (by decide) (by omega) (fun c_17_2 => ?_) (fun c_17_2 => ?_)
    · skip
      refine lv_aload_n hx hb dX8_hurt_22 rfl (lv_at hl 0 rfl) ?_
      refine rc_p (rest := []) X hml hl.1 (k_turnS l g z S hz ho) ok_isTurned wm_X8_80 ⟨Nat.le_of_ble_eq_true rfl, Nat.le_of_ble_eq_true rfl⟩ ⟨Nat.le_refl _, Nat.le_refl _⟩ w.1 rfl (Nat.le_of_ble_eq_true rfl) dX8_hurt_23 (fun r_23 hr_23 => ?_)
      subst hr_23
      have d_23 := pc_td_ok S
      refine n_if_eq (tgt := 32) hx hb dX8_hurt_26 (by decide) (by omega) (fun c_26_3 => ?_) (fun c_26_3 => ?_)
      · skip
        obtain ⟨k, hq_k, rfl⟩ := iv_n (x := f) (by omega)
        obtain ⟨j, hq_j, rfl⟩ := iv_n (x := v) (by omega)
        refine lv_aload_n hx hb dX8_hurt_32 rfl (lv_at hl 0 rfl) ?_
        refine lv_iload_n hx hb dX8_hurt_33 rfl (lv_at hl 1 rfl) ?_
        refine rc_p (rest := []) X hml hl.1 (k_hurtS l g z k S hz ho (by omega)) ok_hurtOf wm_X8_91 ⟨Nat.le_of_ble_eq_true rfl, Nat.le_of_ble_eq_true rfl⟩ ⟨Nat.le_refl _, Nat.le_refl _⟩ w.1 rfl (Nat.le_of_ble_eq_true rfl) dX8_hurt_34 (fun r_34 hr_34 => ?_)
        subst hr_34
        refine lv_istore_n (lv' := [(3, .int (nI (S.2.1 4 k))), (0, .ref g.2.2.2.1), (1, .int (nI k)), (2, .int (nI j))]) hx hb dX8_hurt_37 rfl hl (by decide) rfl (fun ls hl => ?_)
        refine lv_aload_n hx hb dX8_hurt_38 rfl (lv_at hl 1 rfl) ?_
        refine rg_5 X w.1 dX8_hurt_39 ?_
        refine lv_iconst (v := (nI 3)) hx hb dX8_hurt_42 (by decide) ?_
        refine lv_iload_n hx hb dX8_hurt_43 rfl (lv_at hl 2 rfl) ?_
        refine n_iadd hx hb dX8_hurt_44 ?_
        refine lv_iload_n hx hb dX8_hurt_45 rfl (lv_at hl 3 rfl) ?_
        refine ru_5 X w (by omega) dX8_hurt_46 (fun z_46 H locs ez_46 w => ?_)
        have hz_46 : rSc z_46 (sR S 4 k j) := by rw [ez_46]; exact rw_hu hz k (by omega) j
        refine lv_iload_n hx hb dX8_hurt_47 rfl (lv_at hl 0 rfl) ?_
        exact re_i X hr hk w (⟨by unfold an_hurt; rw [if_pos (by omega), if_pos (by omega), show (nI k).toInt.toNat = k by omega], by unfold nx_hurt; rw [if_pos (by omega), if_pos (by omega), show (nI k).toInt.toNat = k by omega, show (nI j).toInt.toNat = j by omega]; exact hz_46, by rw [ez_46]; exact rFr_A _ (by decide)⟩) dX8_hurt_48
      · skip
        refine lv_bipush (v := (iZ (-2))) hx hb dX8_hurt_29 (by decide) ?_
        exact re_i X hr hk w (⟨by unfold an_hurt; rw [if_pos (by omega), if_neg (by omega)], by unfold nx_hurt; rw [if_pos (by omega), if_neg (by omega)]; exact hz, rFr_rf _ _ _⟩) dX8_hurt_31
    · skip
      refine lv_iconst (v := (iZ (-1))) hx hb dX8_hurt_20 (by decide) ?_
      exact re_i X hr hk w (⟨by unfold an_hurt; rw [if_neg (by omega)], by unfold nx_hurt; rw [if_neg (by omega)]; exact hz, rFr_rf _ _ _⟩) dX8_hurt_21

theorem ok_start : rOk yX8_start cX8_start 3 (some .int) 1 := ⟨wc_X8_start, wi_X8_start, ws_X8_start, rfl, by decide, by decide, by decide +kernel⟩
set_option maxHeartbeats 4000000 in
set_option maxRecDepth 100000 in
theorem k_start (l : Launch) (g : RG) (z : RS) (v : Int32) (S : Sc) (hz : rSc z S) (ho : oSc S) : rMi g l yX8_start cX8_start 3 (some .int) 1 25 [.int v] z (fun r z' => r = an_start S v ∧ rSc z' (nx_start S v) ∧ rFr [4] [] z z') := by
  refine rMi_in (by decide) rfl (Nat.le_of_ble_eq_true rfl) ?_
  intro p e s m args below meth c A ls X hml hr hk hl w
  have hx := X.1
  have hb := X.2.1
  have hts := X.2.2.1
  have hown := X.2.2.2.1
  have hl : lv_has ls 3 [(0, .ref g.2.2.2.1), (1, .int v)] := hl
  obtain ⟨hz0, hz1, hz4, hm0, hm1, hm2, hso, hki, hsr, hpa, hhu, hco⟩ := id hz
  obtain ⟨o1, o2, o3, o4, o5, o6, oso, oki, osr, opa, ohu, oco⟩ := id ho
  refine lv_iload_n hx hb dX8_start_0 rfl (lv_at hl 1 rfl) ?_
  refine lv_i2l (v := v.toInt64) hx hb dX8_start_1 rfl ?_
  refine lv_lconst (v := 0) hx hb dX8_start_2 (by decide) ?_
  refine lv_ldc2 hx hb hown (hts _ wk_X8_132) dX8_start_3 ?_
  refine rc_s (rest := []) ⟨X.1, X.2.1, X.2.2.1, X.2.2.2.1⟩ hml hl.1 (k_in l v.toInt64 0 20) ok_in wm_X8_69 ⟨Nat.le_of_ble_eq_true rfl, Nat.le_of_ble_eq_true rfl⟩ ⟨Nat.le_refl _, Nat.le_refl _⟩ rfl (Nat.le_of_ble_eq_true rfl) dX8_start_6 (fun r_6 hr_6 => ?_)
  have h9 : r_6 = nI (pc_inI v.toInt (0) (20)) := by rw [hr_6]; exact congrArg nI (pc_in_I (in_toI _) (by decide) (by decide))
  subst h9
  have i_6 := pc_inI_ok v.toInt (0) (20)
  refine n_if_ne (tgt := 14) hx hb dX8_start_9 (by decide) (by omega) (fun c_9_1 => ?_) (fun c_9_1 => ?_)
  · skip
    refine lv_aload_n hx hb dX8_start_14 rfl (lv_at hl 0 rfl) ?_
    refine rg_5 X w.1 dX8_start_15 ?_
    refine lv_iconst (v := (nI 0)) hx hb dX8_start_18 (by decide) ?_
    refine rn_5 X w.1 (by omega) dX8_start_19 ?_
    refine tp_i (show z.2.1 5 0 = (nI (S.1 3)) from hm0) ?_
    refine n_if_eq (tgt := 26) hx hb dX8_start_20 (by decide) (by omega) (fun c_20_2 => ?_) (fun c_20_2 => ?_)
    · skip
      obtain ⟨j, hq_j, rfl⟩ := iv_n (x := v) (by omega)
      refine lv_aload_n hx hb dX8_start_26 rfl (lv_at hl 0 rfl) ?_
      refine rg_4 X w.1 dX8_start_27 ?_
      refine tp_i (show z.1 4 = (nI (S.1 2)) from hz4) ?_
      refine lv_istore_n (lv' := [(2, .int (nI (S.1 2))), (0, .ref g.2.2.2.1), (1, .int (nI j))]) hx hb dX8_start_30 rfl hl (by decide) rfl (fun ls hl => ?_)
      refine lv_aload_n hx hb dX8_start_31 rfl (lv_at hl 1 rfl) ?_
      refine lv_iload_n hx hb dX8_start_32 rfl (lv_at hl 2 rfl) ?_
      refine rp_4 X w dX8_start_33 (fun z_33 H locs ez_33 w => ?_)
      have hz_33 : rSc z_33 (sN S 2 j) := by rw [ez_33]; exact rw_st hz j
      refine lv_iload_n hx hb dX8_start_36 rfl (lv_at hl 0 rfl) ?_
      exact re_i X hr hk w (⟨by unfold an_start; rw [if_pos (by omega), if_pos (by omega)], by unfold nx_start; rw [if_pos (by omega), if_pos (by omega), show (nI j).toInt.toNat = j by omega]; exact hz_33, by rw [ez_33]; exact rFr_I _ (by decide)⟩) dX8_start_37
    · skip
      refine lv_bipush (v := (iZ (-2))) hx hb dX8_start_23 (by decide) ?_
      exact re_i X hr hk w (⟨by unfold an_start; rw [if_pos (by omega), if_neg (by omega)], by unfold nx_start; rw [if_pos (by omega), if_neg (by omega)]; exact hz, rFr_rf _ _ _⟩) dX8_start_25
  · skip
    refine lv_iconst (v := (iZ (-1))) hx hb dX8_start_12 (by decide) ?_
    exact re_i X hr hk w (⟨by unfold an_start; rw [if_neg (by omega)], by unfold nx_start; rw [if_neg (by omega)]; exact hz, rFr_rf _ _ _⟩) dX8_start_13

theorem ok_sort : rOk yX8_sort cX8_sort 2 (some .int) 1 := ⟨wc_X8_sort, wi_X8_sort, ws_X8_sort, rfl, by decide, by decide, by decide +kernel⟩
set_option maxHeartbeats 4000000 in
set_option maxRecDepth 100000 in
theorem k_sort (l : Launch) (g : RG) (z : RS) (x : Int32) (S : Sc) (hz : rSc z S) (ho : oSc S) : rMp g l yX8_sort cX8_sort 2 (some .int) 1 25 [.int x] z (fun r => r = an_sort S x) := by
  refine rMp_in (by decide) rfl (Nat.le_of_ble_eq_true rfl) ?_
  intro p e s m args below meth c ls X hml hr hk hl w
  have hx := X.1
  have hb := X.2.1
  have hts := X.2.2.1
  have hown := X.2.2.2.1
  have hl : lv_has ls 2 [(0, .ref g.2.2.2.1), (1, .int x)] := hl
  obtain ⟨hz0, hz1, hz4, hm0, hm1, hm2, hso, hki, hsr, hpa, hhu, hco⟩ := id hz
  obtain ⟨o1, o2, o3, o4, o5, o6, oso, oki, osr, opa, ohu, oco⟩ := id ho
  refine lv_iload_n hx hb dX8_sort_0 rfl (lv_at hl 1 rfl) ?_
  refine lv_i2l (v := x.toInt64) hx hb dX8_sort_1 rfl ?_
  refine lv_lconst (v := 0) hx hb dX8_sort_2 (by decide) ?_
  refine lv_aload_n hx hb dX8_sort_3 rfl (lv_at hl 0 rfl) ?_
  refine rg_0 X w dX8_sort_4 ?_
  refine tp_i (show z.1 0 = (nI (S.1 0)) from hz0) ?_
  refine lv_iconst (v := (nI 1)) hx hb dX8_sort_7 (by decide) ?_
  refine tp_i (show nI 1 = iZ (1 : Int) from by decide) ?_
  refine tp_i2 (iZ_n (S.1 0)).symm ?_
  refine z_isub hx hb dX8_sort_8 ?_
  refine lv_i2l (v := (iZ ((((S.1 0 : Nat) : Int)) - ((1 : Int)))).toInt64) hx hb dX8_sort_9 rfl ?_
  refine rc_s (rest := []) ⟨X.1, X.2.1, X.2.2.1, X.2.2.2.1⟩ hml hl.1 (k_in l x.toInt64 0 ((iZ ((((S.1 0 : Nat) : Int)) - ((1 : Int)))).toInt64)) ok_in wm_X8_69 ⟨Nat.le_of_ble_eq_true rfl, Nat.le_of_ble_eq_true rfl⟩ ⟨Nat.le_refl _, Nat.le_refl _⟩ rfl (Nat.le_of_ble_eq_true rfl) dX8_sort_10 (fun r_10 hr_10 => ?_)
  have h9 : r_10 = nI (pc_inI x.toInt (0) ((((S.1 0 : Nat) : Int)) - ((1 : Int)))) := by rw [hr_10]; exact congrArg nI (pc_in_I (in_toI _) (by decide) (in_toZ (by omega) (by omega)))
  subst h9
  have i_10 := pc_inI_ok x.toInt (0) ((((S.1 0 : Nat) : Int)) - ((1 : Int)))
  refine n_if_eq (tgt := 25) hx hb dX8_sort_13 (by decide) (by omega) (fun c_13_1 => ?_) (fun c_13_1 => ?_)
  · skip
    refine lv_iconst (v := (iZ (-1))) hx hb dX8_sort_25 (by decide) ?_
    exact re_p hx hb hr hk (by unfold an_sort; first | (rw [if_neg (by omega)]; done) | rw [if_pos (by omega), show (nI k).toInt.toNat = k by omega]) dX8_sort_26
  · skip
    obtain ⟨k, hq_k, rfl⟩ := iv_n (x := x) (by omega)
    refine lv_aload_n hx hb dX8_sort_16 rfl (lv_at hl 0 rfl) ?_
    refine rg_2 X w dX8_sort_17 ?_
    refine lv_iload_n hx hb dX8_sort_20 rfl (lv_at hl 1 rfl) ?_
    refine rn_2 X w (by omega) dX8_sort_21 ?_
    refine tp_i (show z.2.1 2 k = (nI (S.2.1 0 k)) from hso k (by omega)) ?_
    refine lv_goto (tgt := 26) hx hb dX8_sort_22 (by decide) ?_
    exact re_p hx hb hr hk (by unfold an_sort; first | (rw [if_neg (by omega)]; done) | rw [if_pos (by omega), show (nI k).toInt.toNat = k by omega]) dX8_sort_26

theorem ok_cost : rOk yX8_cost cX8_cost 2 (some .int) 1 := ⟨wc_X8_cost, wi_X8_cost, ws_X8_cost, rfl, by decide, by decide, by decide +kernel⟩
set_option maxHeartbeats 4000000 in
set_option maxRecDepth 100000 in
theorem k_cost (l : Launch) (g : RG) (z : RS) (x : Int32) (S : Sc) (hz : rSc z S) (ho : oSc S) : rMp g l yX8_cost cX8_cost 2 (some .int) 1 25 [.int x] z (fun r => r = an_cost S x) := by
  refine rMp_in (by decide) rfl (Nat.le_of_ble_eq_true rfl) ?_
  intro p e s m args below meth c ls X hml hr hk hl w
  have hx := X.1
  have hb := X.2.1
  have hts := X.2.2.1
  have hown := X.2.2.2.1
  have hl : lv_has ls 2 [(0, .ref g.2.2.2.1), (1, .int x)] := hl
  obtain ⟨hz0, hz1, hz4, hm0, hm1, hm2, hso, hki, hsr, hpa, hhu, hco⟩ := id hz
  obtain ⟨o1, o2, o3, o4, o5, o6, oso, oki, osr, opa, ohu, oco⟩ := id ho
  refine lv_iload_n hx hb dX8_cost_0 rfl (lv_at hl 1 rfl) ?_
  refine lv_i2l (v := x.toInt64) hx hb dX8_cost_1 rfl ?_
  refine lv_lconst (v := 0) hx hb dX8_cost_2 (by decide) ?_
  refine lv_aload_n hx hb dX8_cost_3 rfl (lv_at hl 0 rfl) ?_
  refine rg_0 X w dX8_cost_4 ?_
  refine tp_i (show z.1 0 = (nI (S.1 0)) from hz0) ?_
  refine lv_iconst (v := (nI 1)) hx hb dX8_cost_7 (by decide) ?_
  refine tp_i (show nI 1 = iZ (1 : Int) from by decide) ?_
  refine tp_i2 (iZ_n (S.1 0)).symm ?_
  refine z_isub hx hb dX8_cost_8 ?_
  refine lv_i2l (v := (iZ ((((S.1 0 : Nat) : Int)) - ((1 : Int)))).toInt64) hx hb dX8_cost_9 rfl ?_
  refine rc_s (rest := []) ⟨X.1, X.2.1, X.2.2.1, X.2.2.2.1⟩ hml hl.1 (k_in l x.toInt64 0 ((iZ ((((S.1 0 : Nat) : Int)) - ((1 : Int)))).toInt64)) ok_in wm_X8_69 ⟨Nat.le_of_ble_eq_true rfl, Nat.le_of_ble_eq_true rfl⟩ ⟨Nat.le_refl _, Nat.le_refl _⟩ rfl (Nat.le_of_ble_eq_true rfl) dX8_cost_10 (fun r_10 hr_10 => ?_)
  have h9 : r_10 = nI (pc_inI x.toInt (0) ((((S.1 0 : Nat) : Int)) - ((1 : Int)))) := by rw [hr_10]; exact congrArg nI (pc_in_I (in_toI _) (by decide) (in_toZ (by omega) (by omega)))
  subst h9
  have i_10 := pc_inI_ok x.toInt (0) ((((S.1 0 : Nat) : Int)) - ((1 : Int)))
  refine n_if_eq (tgt := 24) hx hb dX8_cost_13 (by decide) (by omega) (fun c_13_1 => ?_) (fun c_13_1 => ?_)
  · skip
    refine lv_iconst (v := (iZ (-1))) hx hb dX8_cost_24 (by decide) ?_
    exact re_p hx hb hr hk (by unfold an_cost; first | (rw [if_neg (by omega)]; done) | rw [if_pos (by omega), show (nI k).toInt.toNat = k by omega]) dX8_cost_25
  · skip
    obtain ⟨k, hq_k, rfl⟩ := iv_n (x := x) (by omega)
    refine lv_aload_n hx hb dX8_cost_16 rfl (lv_at hl 0 rfl) ?_
    refine lv_iload_n hx hb dX8_cost_17 rfl (lv_at hl 1 rfl) ?_
    refine rc_p (rest := []) X hml hl.1 (k_costOf l g z k (S.2.1 0) hso (by omega)) ok_costOf wm_X8_110 ⟨Nat.le_of_ble_eq_true rfl, Nat.le_of_ble_eq_true rfl⟩ ⟨Nat.le_refl _, Nat.le_refl _⟩ w rfl (Nat.le_of_ble_eq_true rfl) dX8_cost_18 (fun r_18 hr_18 => ?_)
    subst hr_18
    have d_18 := pc_cost_le oso k
    refine lv_goto (tgt := 25) hx hb dX8_cost_21 (by decide) ?_
    exact re_p hx hb hr hk (by unfold an_cost; first | (rw [if_neg (by omega)]; done) | rw [if_pos (by omega), show (nI k).toInt.toNat = k by omega]) dX8_cost_25

theorem ok_points : rOk yX8_points cX8_points 3 (some .int) 2 := ⟨wc_X8_points, wi_X8_points, ws_X8_points, rfl, by decide, by decide, by decide +kernel⟩
set_option maxHeartbeats 4000000 in
set_option maxRecDepth 100000 in
theorem k_points (l : Launch) (g : RG) (z : RS) (f : Int32) (t : Int32) (S : Sc) (hz : rSc z S) (ho : oSc S) : rMp g l yX8_points cX8_points 3 (some .int) 2 46 [.int f, .int t] z (fun r => r = an_points S f t) := by
  refine rMp_in (by decide) rfl (Nat.le_of_ble_eq_true rfl) ?_
  intro p e s m args below meth c ls X hml hr hk hl w
  have hx := X.1
  have hb := X.2.1
  have hts := X.2.2.1
  have hown := X.2.2.2.1
  have hl : lv_has ls 3 [(0, .ref g.2.2.2.1), (1, .int f), (2, .int t)] := hl
  obtain ⟨hz0, hz1, hz4, hm0, hm1, hm2, hso, hki, hsr, hpa, hhu, hco⟩ := id hz
  obtain ⟨o1, o2, o3, o4, o5, o6, oso, oki, osr, opa, ohu, oco⟩ := id ho
  refine lv_aload_n hx hb dX8_points_0 rfl (lv_at hl 0 rfl) ?_
  refine lv_iload_n hx hb dX8_points_1 rfl (lv_at hl 1 rfl) ?_
  refine rc_p (rest := []) X hml hl.1 (k_isF l g z f S hz ho) ok_isFighter wm_X8_123 ⟨Nat.le_of_ble_eq_true rfl, Nat.le_of_ble_eq_true rfl⟩ ⟨Nat.le_refl _, Nat.le_refl _⟩ w rfl (Nat.le_of_ble_eq_true rfl) dX8_points_2 (fun r_2 hr_2 => ?_)
  subst hr_2
  have i_2 := pc_inI_ok f.toInt 0 (((S.1 1 : Nat) : Int) - (1 : Int))
  refine n_if_eq (tgt := 34) hx hb dX8_points_5 (by decide) (by omega) (fun c_5_1 => ?_) (fun c_5_1 => ?_)
  · skip
    refine lv_iconst (v := (iZ (-1))) hx hb dX8_points_34 (by decide) ?_
    exact re_p hx hb hr hk (by unfold an_points; first | (rw [if_neg (by omega)]; done) | rw [if_pos (by omega), show (nI k).toInt.toNat = k by omega, show (nI j).toInt.toNat = j by omega]) dX8_points_35
  · skip
    refine lv_iload_n hx hb dX8_points_8 rfl (lv_at hl 2 rfl) ?_
    refine lv_i2l (v := t.toInt64) hx hb dX8_points_9 rfl ?_
    refine lv_lconst (v := 0) hx hb dX8_points_10 (by decide) ?_
    refine lv_ldc2 hx hb hown (hts _ wk_X8_134) dX8_points_11 ?_
    refine rc_s (rest := []) ⟨X.1, X.2.1, X.2.2.1, X.2.2.2.1⟩ hml hl.1 (k_in l t.toInt64 0 400) ok_in wm_X8_69 ⟨Nat.le_of_ble_eq_true rfl, Nat.le_of_ble_eq_true rfl⟩ ⟨Nat.le_refl _, Nat.le_refl _⟩ rfl (Nat.le_of_ble_eq_true rfl) dX8_points_14 (fun r_14 hr_14 => ?_)
    have h9 : r_14 = nI (pc_inI t.toInt (0) (400)) := by rw [hr_14]; exact congrArg nI (pc_in_I (in_toI _) (by decide) (by decide))
    subst h9
    have i_14 := pc_inI_ok t.toInt (0) (400)
    refine n_if_eq (tgt := 34) hx hb dX8_points_17 (by decide) (by omega) (fun c_17_2 => ?_) (fun c_17_2 => ?_)
    · skip
      refine lv_iconst (v := (iZ (-1))) hx hb dX8_points_34 (by decide) ?_
      exact re_p hx hb hr hk (by unfold an_points; first | (rw [if_neg (by omega)]; done) | rw [if_pos (by omega), show (nI k).toInt.toNat = k by omega, show (nI j).toInt.toNat = j by omega]) dX8_points_35
    · skip
      obtain ⟨k, hq_k, rfl⟩ := iv_n (x := f) (by omega)
      obtain ⟨j, hq_j, rfl⟩ := iv_n (x := t) (by omega)
      refine lv_aload_n hx hb dX8_points_20 rfl (lv_at hl 0 rfl) ?_
      refine lv_iload_n hx hb dX8_points_21 rfl (lv_at hl 1 rfl) ?_
      refine lv_aload_n hx hb dX8_points_22 rfl (lv_at hl 0 rfl) ?_
      refine lv_iload_n hx hb dX8_points_23 rfl (lv_at hl 1 rfl) ?_
      refine rc_p (rest := [.int (nI k), .ref g.2.2.2.1]) X hml hl.1 (k_hurtS l g z k S hz ho (by omega)) ok_hurtOf wm_X8_91 ⟨Nat.le_of_ble_eq_true rfl, Nat.le_of_ble_eq_true rfl⟩ ⟨Nat.le_refl _, Nat.le_refl _⟩ w rfl (Nat.le_of_ble_eq_true rfl) dX8_points_24 (fun r_24 hr_24 => ?_)
      subst hr_24
      refine lv_iload_n hx hb dX8_points_27 rfl (lv_at hl 2 rfl) ?_
      refine rc_p (rest := []) X hml hl.1 (k_pointsOf l g z k (S.2.1 4 k) j S hz ho (by omega) (by first | omega | exact ohu _) (by omega)) ok_pointsOf wm_X8_95 ⟨Nat.le_of_ble_eq_true rfl, Nat.le_of_ble_eq_true rfl⟩ ⟨Nat.le_refl _, Nat.le_refl _⟩ w rfl (Nat.le_of_ble_eq_true rfl) dX8_points_28 (fun r_28 hr_28 => ?_)
      subst hr_28
      have d_28 := sp_pts_le S ho k (S.2.1 4 k) j
      refine lv_goto (tgt := 35) hx hb dX8_points_31 (by decide) ?_
      exact re_p hx hb hr hk (by unfold an_points; first | (rw [if_neg (by omega)]; done) | rw [if_pos (by omega), show (nI k).toInt.toNat = k by omega, show (nI j).toInt.toNat = j by omega]) dX8_points_35

theorem ok_seed : rOk yX8_seed cX8_seed 3 (some .int) 1 := ⟨wc_X8_seed, wi_X8_seed, ws_X8_seed, rfl, by decide, by decide, by decide +kernel⟩
set_option maxHeartbeats 4000000 in
set_option maxRecDepth 100000 in
theorem k_seed (l : Launch) (g : RG) (z : RS) (v : Int32) (S : Sc) (hz : rSc z S) (ho : oSc S) : rMi g l yX8_seed cX8_seed 3 (some .int) 0 0 [.int v] z (fun r z' => r = an_seed S v ∧ rSc z' (nx_seed S v) ∧ rFr [] [5] z z') := by
  refine rMi_in (by decide) rfl (Nat.le_of_ble_eq_true rfl) ?_
  intro p e s m args below meth c A ls X hml hr hk hl w
  have hx := X.1
  have hb := X.2.1
  have hts := X.2.2.1
  have hown := X.2.2.2.1
  have hl : lv_has ls 3 [(0, .ref g.2.2.2.1), (1, .int v)] := hl
  obtain ⟨hz0, hz1, hz4, hm0, hm1, hm2, hso, hki, hsr, hpa, hhu, hco⟩ := id hz
  obtain ⟨o1, o2, o3, o4, o5, o6, oso, oki, osr, opa, ohu, oco⟩ := id ho
  refine lv_iload_n hx hb dX8_seed_0 rfl (lv_at hl 1 rfl) ?_
  refine lv_if_ge (tgt := 6) hx hb dX8_seed_1 (by decide) (fun c_1_1 => ?_) (fun c_1_1 => ?_)
  · skip
    refine lv_aload_n hx hb dX8_seed_6 rfl (lv_at hl 0 rfl) ?_
    refine rg_5 X w.1 dX8_seed_7 ?_
    refine lv_iconst (v := (nI 2)) hx hb dX8_seed_10 (by decide) ?_
    refine rn_5 X w.1 (by omega) dX8_seed_11 ?_
    refine tp_i (show z.2.1 5 2 = S.2.2 from hm2) ?_
    refine lv_istore_n (lv' := [(2, .int S.2.2), (0, .ref g.2.2.2.1), (1, .int v)]) hx hb dX8_seed_12 rfl hl (by decide) rfl (fun ls hl => ?_)
    refine lv_aload_n hx hb dX8_seed_13 rfl (lv_at hl 1 rfl) ?_
    refine rg_5 X w.1 dX8_seed_14 ?_
    refine lv_iconst (v := (nI 2)) hx hb dX8_seed_17 (by decide) ?_
    refine lv_iload_n hx hb dX8_seed_18 rfl (lv_at hl 2 rfl) ?_
    refine ru_5 X w (by omega) dX8_seed_19 (fun z_19 H locs ez_19 w => ?_)
    have hz_19 : rSc z_19 (sD S v) := by rw [ez_19]; exact rw_dr hz v
    refine lv_iload_n hx hb dX8_seed_20 rfl (lv_at hl 0 rfl) ?_
    exact re_i X hr hk w (⟨by unfold an_seed; rw [if_neg (Int32.not_lt.mpr (by assumption))], by unfold nx_seed; rw [if_neg (Int32.not_lt.mpr (by assumption))]; exact hz_19, by rw [ez_19]; exact rFr_A _ (by decide)⟩) dX8_seed_21
  · skip
    refine lv_iconst (v := (iZ (-1))) hx hb dX8_seed_4 (by decide) ?_
    exact re_i X hr hk w (⟨by unfold an_seed; rw [if_pos (Int32.not_le.mp (by assumption))], by unfold nx_seed; rw [if_pos (Int32.not_le.mp (by assumption))]; exact hz, rFr_rf _ _ _⟩) dX8_seed_5

theorem ok_turn : rOk yX8_turn cX8_turn 1 (some .int) 0 := ⟨wc_X8_turn, wi_X8_turn, ws_X8_turn, rfl, by decide, by decide, by decide +kernel⟩
set_option maxHeartbeats 4000000 in
set_option maxRecDepth 100000 in
theorem k_turn (l : Launch) (g : RG) (z : RS)  (S : Sc) (hz : rSc z S) (ho : oSc S) (htg : z.1 6 = nI 0) : rMi g l yX8_turn cX8_turn 1 (some .int) 5 113 [] z (fun r z' => r = an_turn S ∧ rSc z' (nx_turn S) ∧ rFr [] [5] z z') := by
  refine rMi_in (by decide) rfl (Nat.le_of_ble_eq_true rfl) ?_
  intro p e s m args below meth c A ls X hml hr hk hl w
  have hx := X.1
  have hb := X.2.1
  have hts := X.2.2.1
  have hown := X.2.2.2.1
  have hl : lv_has ls 1 [(0, .ref g.2.2.2.1)] := hl
  obtain ⟨hz0, hz1, hz4, hm0, hm1, hm2, hso, hki, hsr, hpa, hhu, hco⟩ := id hz
  obtain ⟨o1, o2, o3, o4, o5, o6, oso, oki, osr, opa, ohu, oco⟩ := id ho
  refine lv_aload_n hx hb dX8_turn_0 rfl (lv_at hl 0 rfl) ?_
  refine rc_p (rest := []) X hml hl.1 (k_over l g z S hz ho) ok_over wm_X8_174 ⟨Nat.le_of_ble_eq_true rfl, Nat.le_of_ble_eq_true rfl⟩ ⟨Nat.le_refl _, Nat.le_refl _⟩ w.1 rfl (Nat.le_of_ble_eq_true rfl) dX8_turn_1 (fun r_1 hr_1 => ?_)
  subst hr_1
  have d_1 := sp_over_le S
  refine n_if_ne (tgt := 14) hx hb dX8_turn_4 (by decide) (by omega) (fun c_4_1 => ?_) (fun c_4_1 => ?_)
  · skip
    refine lv_bipush (v := (iZ (-2))) hx hb dX8_turn_14 (by decide) ?_
    exact re_i X hr hk w (⟨by unfold an_turn; rw [if_neg (by omega)], by unfold nx_turn; rw [if_neg (by omega)]; exact hz, rFr_rf _ _ _⟩) dX8_turn_16
  · skip
    refine lv_aload_n hx hb dX8_turn_7 rfl (lv_at hl 0 rfl) ?_
    refine rc_p (rest := []) X hml hl.1 (k_turnS l g z S hz ho) ok_isTurned wm_X8_80 ⟨Nat.le_of_ble_eq_true rfl, Nat.le_of_ble_eq_true rfl⟩ ⟨Nat.le_refl _, Nat.le_refl _⟩ w.1 rfl (Nat.le_of_ble_eq_true rfl) dX8_turn_8 (fun r_8 hr_8 => ?_)
    subst hr_8
    have d_8 := pc_td_ok S
    refine n_if_eq (tgt := 17) hx hb dX8_turn_11 (by decide) (by omega) (fun c_11_2 => ?_) (fun c_11_2 => ?_)
    · skip
      refine lv_aload_n hx hb dX8_turn_17 rfl (lv_at hl 0 rfl) ?_
      refine lv_aload_n hx hb dX8_turn_18 rfl (lv_at hl 0 rfl) ?_
      refine rg_5 X w.1 dX8_turn_19 ?_
      refine lv_iconst (v := (nI 0)) hx hb dX8_turn_22 (by decide) ?_
      refine rn_5 X w.1 (by omega) dX8_turn_23 ?_
      refine tp_i (show z.2.1 5 0 = (nI (S.1 3)) from hm0) ?_
      refine rc_v (rest := []) X hml hl.1 (k_turns l g z (S.1 3) S hz ho 0 htg (by omega) (by omega)) ok_turns wm_X8_198 ⟨Nat.le_of_ble_eq_true rfl, Nat.le_of_ble_eq_true rfl⟩ ⟨Nat.le_refl _, Nat.le_refl _⟩ w rfl (Nat.le_of_ble_eq_true rfl) dX8_turn_24 (fun z_24 H locs hr_24 w => ?_)
      skip
      refine lv_aload_n hx hb dX8_turn_27 rfl (lv_at hl 0 rfl) ?_
      refine rg_5 X w.1 dX8_turn_28 ?_
      refine lv_iconst (v := (nI 1)) hx hb dX8_turn_31 (by decide) ?_
      refine rn_5 X w.1 (by omega) dX8_turn_32 ?_
      refine tp_i (show z_24.2.1 5 1 = (nI (sp_run S (S.1 3))) from sd_turn hr_24.1) ?_
      exact re_i X hr hk w (⟨by unfold an_turn; rw [if_pos (by omega)], by unfold nx_turn; rw [if_pos (by omega)]; exact hr_24.1, hr_24.2⟩) dX8_turn_33
    · skip
      refine lv_bipush (v := (iZ (-2))) hx hb dX8_turn_14 (by decide) ?_
      exact re_i X hr hk w (⟨by unfold an_turn; rw [if_neg (by omega)], by unfold nx_turn; rw [if_neg (by omega)]; exact hz, rFr_rf _ _ _⟩) dX8_turn_16
