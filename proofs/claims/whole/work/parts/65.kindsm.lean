theorem ok3_force : cOkS RX3 yX3_force cX3_force 4 (some .int) 3 := ⟨wc_X3_force, wt_X3_force, wn_X3, rfl, by decide, by decide, by decide +kernel⟩
set_option maxHeartbeats 4000000 in
set_option maxRecDepth 100000 in
theorem c3_force (l : Launch) (ka9 : Nat) (sa9 : Nat) (ha9 : Nat) (h1 : ka9 ≤ 3) (h2 : sa9 ≤ 9) (h3 : ha9 ≤ 6) : rMs l yX3_force cX3_force 4 (some .int) 1 21 [.int (nI ka9), .int (nI sa9), .int (nI ha9)] (fun r => r = nI (pc_force ka9 sa9 ha9)) := by
  refine cMs_in (by decide) rfl (Nat.le_of_ble_eq_true rfl) ?_
  intro p e s m args below meth c ls X hml hr hk hl
  have hx := X.1
  have hb := X.2.1
  have hts := X.2.2.1
  have hown := X.2.2.2
  have hl : lv_has ls 4 [(0, .int (nI ka9)), (1, .int (nI sa9)), (2, .int (nI ha9))] := hl
  refine lv_iconst (v := (nI 1)) hx hb dX3_force_0 (by decide) ?_
  refine lv_iload_n hx hb dX3_force_1 rfl (lv_at hl 1 rfl) ?_
  refine lv_iload_n hx hb dX3_force_2 rfl (lv_at hl 2 rfl) ?_
  refine lv_iconst (v := (nI 2)) hx hb dX3_force_3 (by decide) ?_
  refine n_idiv hx hb dX3_force_4 (by omega) (by omega) (by omega) ?_
  refine tp_i (iZ_n (ha9 / 2)).symm ?_
  refine tp_i2 (iZ_n sa9).symm ?_
  refine z_isub hx hb dX3_force_5 ?_
  refine tp_i2 (show nI 1 = iZ (1 : Int) from by decide) ?_
  refine gm_max (rest := []) X hml hl.1 wm_X3_7 ⟨Nat.le_of_ble_eq_true rfl, Nat.le_of_ble_eq_true rfl⟩ ⟨Nat.le_refl _, Nat.le_refl _⟩ (Nat.le_of_ble_eq_true rfl) (by omega) (by omega) (by omega) (by omega) dX3_force_6 ?_
  refine lv_istore_n (lv' := [(3, .int (iZ (max (1 : Int) ((((sa9 : Nat) : Int)) - (((ha9 / 2 : Nat) : Int)))))), (0, .int (nI ka9)), (1, .int (nI sa9)), (2, .int (nI ha9))]) hx hb dX3_force_9 rfl hl (by decide) rfl (fun ls hl => ?_)
  refine lv_iload_n hx hb dX3_force_10 rfl (lv_at hl 1 rfl) ?_
  refine lv_iconst (v := (nI 1)) hx hb dX3_force_11 (by decide) ?_
  refine jn (tgt := 22) (rest := []) (fun v9 => ∃ x9 : Int, x9 = (if ka9 = 1 then ((max (1 : Int) ((((sa9 : Nat) : Int)) - (((ha9 / 2 : Nat) : Int)))) + ((2 : Int))) else (max (1 : Int) ((((sa9 : Nat) : Int)) - (((ha9 / 2 : Nat) : Int))))) ∧ v9 = iZ x9) (fun v_ hv_ => ?_) (fun k_22 => ?_)
  · obtain ⟨x_22, ex_22, rfl⟩ := hv_
    exact re_p hx hb hr hk (by rw [ex_22, ← iZ_n]; exact congrArg iZ (by unfold pc_force; (repeat' split) <;> omega)) dX3_force_22
  · skip
    refine n_icmp_ne (tgt := 21) hx hb dX3_force_12 (by decide) (by omega) (by omega) (fun c_12_2 => ?_) (fun c_12_2 => ?_)
    · skip
      refine lv_iload_n hx hb dX3_force_21 rfl (lv_at hl 0 rfl) ?_
      exact k_22 _ ⟨_, by simp only [if_neg c_12_2], rfl⟩
    · skip
      refine lv_iload_n hx hb dX3_force_15 rfl (lv_at hl 0 rfl) ?_
      refine lv_iconst (v := (nI 2)) hx hb dX3_force_16 (by decide) ?_
      refine tp_i (show nI 2 = iZ (2 : Int) from by decide) ?_
      refine z_iadd hx hb dX3_force_17 ?_
      refine lv_goto (tgt := 22) hx hb dX3_force_18 (by decide) ?_
      exact k_22 _ ⟨_, by simp only [if_pos c_12_2], rfl⟩

theorem ok3_stride : cOkS RX3 yX3_stride cX3_stride 4 (some .int) 3 := ⟨wc_X3_stride, wt_X3_stride, wn_X3, rfl, by decide, by decide, by decide +kernel⟩
set_option maxHeartbeats 4000000 in
set_option maxRecDepth 100000 in
theorem c3_stride (l : Launch) (ka9 : Nat) (pa9 : Nat) (ha9 : Nat) (h1 : ka9 ≤ 3) (h2 : pa9 ≤ 6) (h3 : ha9 ≤ 6) : rMs l yX3_stride cX3_stride 4 (some .int) 1 21 [.int (nI ka9), .int (nI pa9), .int (nI ha9)] (fun r => r = nI (pc_pace ka9 pa9 ha9)) := by
  refine cMs_in (by decide) rfl (Nat.le_of_ble_eq_true rfl) ?_
  intro p e s m args below meth c ls X hml hr hk hl
  have hx := X.1
  have hb := X.2.1
  have hts := X.2.2.1
  have hown := X.2.2.2
  have hl : lv_has ls 4 [(0, .int (nI ka9)), (1, .int (nI pa9)), (2, .int (nI ha9))] := hl
  refine lv_iload_n hx hb dX3_stride_0 rfl (lv_at hl 0 rfl) ?_
  refine lv_iconst (v := (nI 1)) hx hb dX3_stride_1 (by decide) ?_
  refine jn (tgt := 16) (rest := []) (fun v9 => ∃ x9 : Int, x9 = (if ka9 = 1 then (max (1 : Int) ((((pa9 : Nat) : Int)) - ((1 : Int)))) else (((pa9 : Nat) : Int))) ∧ v9 = iZ x9) (fun v_ hv_ => ?_) (fun k_16 => ?_)
  · obtain ⟨x_16, ex_16, rfl⟩ := hv_
    have j16 : -10 ≤ x_16 ∧ x_16 ≤ 10 := by rw [ex_16]; split <;> omega
    refine lv_istore_n (lv' := [(3, .int (iZ (x_16))), (0, .int (nI ka9)), (1, .int (nI pa9)), (2, .int (nI ha9))]) hx hb dX3_stride_16 rfl hl (by decide) rfl (fun ls hl => ?_)
    refine lv_iconst (v := (nI 1)) hx hb dX3_stride_17 (by decide) ?_
    refine lv_iload_n hx hb dX3_stride_18 rfl (lv_at hl 0 rfl) ?_
    refine lv_iload_n hx hb dX3_stride_19 rfl (lv_at hl 3 rfl) ?_
    refine lv_iconst (v := (nI 2)) hx hb dX3_stride_20 (by decide) ?_
    refine n_idiv hx hb dX3_stride_21 (by omega) (by omega) (by omega) ?_
    refine tp_i (iZ_n (ha9 / 2)).symm ?_
    refine z_isub hx hb dX3_stride_22 ?_
    refine tp_i2 (show nI 1 = iZ (1 : Int) from by decide) ?_
    refine gm_max (rest := []) X hml hl.1 wm_X3_7 ⟨Nat.le_of_ble_eq_true rfl, Nat.le_of_ble_eq_true rfl⟩ ⟨Nat.le_refl _, Nat.le_refl _⟩ (Nat.le_of_ble_eq_true rfl) (by omega) (by omega) (by omega) (by omega) dX3_stride_23 ?_
    exact re_p hx hb hr hk (by rw [ex_16, ← iZ_n]; exact congrArg iZ (by unfold pc_pace; (repeat' split) <;> omega)) dX3_stride_26
  · skip
    refine n_icmp_ne (tgt := 15) hx hb dX3_stride_2 (by decide) (by omega) (by omega) (fun c_2_2 => ?_) (fun c_2_2 => ?_)
    · skip
      refine lv_iload_n hx hb dX3_stride_15 rfl (lv_at hl 1 rfl) ?_
      exact k_16 _ ⟨((pa9 : Nat) : Int), by simp only [if_neg c_2_2], (iZ_n pa9).symm⟩
    · skip
      refine lv_iconst (v := (nI 1)) hx hb dX3_stride_5 (by decide) ?_
      refine lv_iload_n hx hb dX3_stride_6 rfl (lv_at hl 1 rfl) ?_
      refine lv_iconst (v := (nI 1)) hx hb dX3_stride_7 (by decide) ?_
      refine tp_i (show nI 1 = iZ (1 : Int) from by decide) ?_
      refine tp_i2 (iZ_n pa9).symm ?_
      refine z_isub hx hb dX3_stride_8 ?_
      refine tp_i2 (show nI 1 = iZ (1 : Int) from by decide) ?_
      refine gm_max (rest := []) X hml hl.1 wm_X3_7 ⟨Nat.le_of_ble_eq_true rfl, Nat.le_of_ble_eq_true rfl⟩ ⟨Nat.le_refl _, Nat.le_refl _⟩ (Nat.le_of_ble_eq_true rfl) (by omega) (by omega) (by omega) (by omega) dX3_stride_9 ?_
      refine lv_goto (tgt := 16) hx hb dX3_stride_12 (by decide) ?_
      exact k_16 _ ⟨_, by simp only [if_pos c_2_2], rfl⟩

theorem ok3_shares : cOkS RX3 yX3_shares cX3_shares 2 (some .int) 2 := ⟨wc_X3_shares, wt_X3_shares, wn_X3, rfl, by decide, by decide, by decide +kernel⟩
set_option maxHeartbeats 4000000 in
set_option maxRecDepth 100000 in
theorem c3_shares (l : Launch) (wa9 : Nat) (sa9 : Nat) (h1 : wa9 ≤ 10000) (h2 : 1 ≤ sa9) (h3 : sa9 ≤ 6) : rMs l yX3_shares cX3_shares 2 (some .int) 0 0 [.int (nI wa9), .int (nI sa9)] (fun r => r = nI (pc_shr wa9 sa9)) := by
  refine cMs_in (by decide) rfl (Nat.le_of_ble_eq_true rfl) ?_
  intro p e s m args below meth c ls X hml hr hk hl
  have hx := X.1
  have hb := X.2.1
  have hts := X.2.2.1
  have hown := X.2.2.2
  have hl : lv_has ls 2 [(0, .int (nI wa9)), (1, .int (nI sa9))] := hl
  refine lv_iload_n hx hb dX3_shares_0 rfl (lv_at hl 1 rfl) ?_
  refine lv_iconst (v := (nI 1)) hx hb dX3_shares_1 (by decide) ?_
  refine jn (tgt := 16) (rest := []) (fun v9 => ∃ x9 : Nat, x9 = (if 1 ≤ sa9 then (((wa9 + sa9) - 1) / sa9) else wa9) ∧ v9 = nI x9) (fun v_ hv_ => ?_) (fun k_16 => ?_)
  · obtain ⟨x_16, ex_16, rfl⟩ := hv_
    exact re_p hx hb hr hk (by rw [ex_16, if_pos (by omega)]; rfl) dX3_shares_16
  · skip
    refine n_icmp_ge (tgt := 9) hx hb dX3_shares_2 (by decide) (by omega) (by omega) (fun c_2_2 => ?_) (fun c_2_2 => ?_)
    · skip
      refine lv_iload_n hx hb dX3_shares_9 rfl (lv_at hl 0 rfl) ?_
      refine lv_iload_n hx hb dX3_shares_10 rfl (lv_at hl 1 rfl) ?_
      refine n_iadd hx hb dX3_shares_11 ?_
      refine lv_iconst (v := (nI 1)) hx hb dX3_shares_12 (by decide) ?_
      refine n_isub hx hb dX3_shares_13 (by omega) ?_
      refine lv_iload_n hx hb dX3_shares_14 rfl (lv_at hl 1 rfl) ?_
      refine n_idiv hx hb dX3_shares_15 (by omega) (by omega) (by omega) ?_
      exact k_16 _ ⟨_, by simp only [if_pos c_2_2], rfl⟩
    · skip
      refine lv_iload_n hx hb dX3_shares_5 rfl (lv_at hl 0 rfl) ?_
      refine lv_goto (tgt := 16) hx hb dX3_shares_6 (by decide) ?_
      exact k_16 _ ⟨_, by simp only [if_neg c_2_2], rfl⟩

theorem ok3_pointsIn : cOkS RX3 yX3_pointsIn cX3_pointsIn 3 (some .int) 3 := ⟨wc_X3_pointsIn, wt_X3_pointsIn, wn_X3, rfl, by decide, by decide, by decide +kernel⟩
set_option maxHeartbeats 4000000 in
set_option maxRecDepth 100000 in
theorem c3_pointsIn (l : Launch) (ka9 : Nat) (sa9 : Nat) (ta9 : Nat) (h1 : ka9 ≤ 3) (h3 : ta9 ≤ 100000) (h4 : sa9 ≤ 6) : rMs l yX3_pointsIn cX3_pointsIn 3 (some .int) 1 21 [.int (nI ka9), .int (nI sa9), .int (nI ta9)] (fun r => r = nI (pc_psS ka9 sa9 ta9)) := by
  refine cMs_in (by decide) rfl (Nat.le_of_ble_eq_true rfl) ?_
  intro p e s m args below meth c ls X hml hr hk hl
  have hx := X.1
  have hb := X.2.1
  have hts := X.2.2.1
  have hown := X.2.2.2
  have hl : lv_has ls 3 [(0, .int (nI ka9)), (1, .int (nI sa9)), (2, .int (nI ta9))] := hl
  have b1 : ta9 * sa9 ≤ 100000 * 6 := Nat.mul_le_mul h3 h4
  have b2 : min ta9 6 * sa9 ≤ 6 * 6 := Nat.mul_le_mul (by omega) h4
  have b3 : max 0 (ta9 - 6) * sa9 ≤ 100000 * 6 := Nat.mul_le_mul (by omega) h4
  refine lv_iload_n hx hb dX3_pointsIn_0 rfl (lv_at hl 0 rfl) ?_
  rcases (show ka9 = 0 ∨ ka9 = 1 ∨ ka9 = 2 ∨ ka9 = 3 by omega) with rfl | rfl | rfl | rfl
  · skip
    refine lv_lookup (off := 55) (tgt := 56) hx hb dX3_pointsIn_1 (by decide) (by decide) (by decide) ?_
    refine lv_iload_n hx hb dX3_pointsIn_56 rfl (lv_at hl 2 rfl) ?_
    refine lv_iload_n hx hb dX3_pointsIn_57 rfl (lv_at hl 1 rfl) ?_
    refine n_imul hx hb dX3_pointsIn_58 ?_
    exact re_p hx hb hr hk (rfl) dX3_pointsIn_59
  · skip
    refine lv_lookup (off := 55) (tgt := 56) hx hb dX3_pointsIn_1 (by decide) (by decide) (by decide) ?_
    refine lv_iload_n hx hb dX3_pointsIn_56 rfl (lv_at hl 2 rfl) ?_
    refine lv_iload_n hx hb dX3_pointsIn_57 rfl (lv_at hl 1 rfl) ?_
    refine n_imul hx hb dX3_pointsIn_58 ?_
    exact re_p hx hb hr hk (rfl) dX3_pointsIn_59
  · skip
    refine lv_lookup (off := 27) (tgt := 28) hx hb dX3_pointsIn_1 (by decide) (by decide) (by decide) ?_
    refine lv_iload_n hx hb dX3_pointsIn_28 rfl (lv_at hl 2 rfl) ?_
    refine lv_iload_n hx hb dX3_pointsIn_29 rfl (lv_at hl 1 rfl) ?_
    refine n_imul hx hb dX3_pointsIn_30 ?_
    refine lv_iconst (v := (nI 2)) hx hb dX3_pointsIn_31 (by decide) ?_
    refine n_idiv hx hb dX3_pointsIn_32 (by omega) (by omega) (by omega) ?_
    exact re_p hx hb hr hk (rfl) dX3_pointsIn_33
  · skip
    refine lv_lookup (off := 33) (tgt := 34) hx hb dX3_pointsIn_1 (by decide) (by decide) (by decide) ?_
    refine lv_iload_n hx hb dX3_pointsIn_34 rfl (lv_at hl 2 rfl) ?_
    refine lv_bipush (v := (nI 6)) hx hb dX3_pointsIn_35 (by decide) ?_
    refine tp_i (show nI 6 = iZ (6 : Int) from by decide) ?_
    refine tp_i2 (iZ_n ta9).symm ?_
    refine gm_min (rest := []) X hml hl.1 wm_X3_15 ⟨Nat.le_of_ble_eq_true rfl, Nat.le_of_ble_eq_true rfl⟩ ⟨Nat.le_refl _, Nat.le_refl _⟩ (Nat.le_of_ble_eq_true rfl) (by omega) (by omega) (by omega) (by omega) dX3_pointsIn_37 ?_
    refine tp_i (show iZ (min ((ta9 : Nat) : Int) (6 : Int)) = nI (min ta9 6) from by rw [← iZ_n]; exact congrArg iZ (by omega)) ?_
    refine lv_iload_n hx hb dX3_pointsIn_40 rfl (lv_at hl 1 rfl) ?_
    refine n_imul hx hb dX3_pointsIn_41 ?_
    refine lv_iconst (v := (nI 2)) hx hb dX3_pointsIn_42 (by decide) ?_
    refine n_idiv hx hb dX3_pointsIn_43 (by omega) (by omega) (by omega) ?_
    refine lv_iconst (v := (nI 0)) hx hb dX3_pointsIn_44 (by decide) ?_
    refine lv_iload_n hx hb dX3_pointsIn_45 rfl (lv_at hl 2 rfl) ?_
    refine lv_bipush (v := (nI 6)) hx hb dX3_pointsIn_46 (by decide) ?_
    refine tp_i (show nI 6 = iZ (6 : Int) from by decide) ?_
    refine tp_i2 (iZ_n ta9).symm ?_
    refine z_isub hx hb dX3_pointsIn_48 ?_
    refine tp_i2 (show nI 0 = iZ (0 : Int) from by decide) ?_
    refine gm_max (rest := [.int (nI (((min ta9 6) * sa9) / 2))]) X hml hl.1 wm_X3_7 ⟨Nat.le_of_ble_eq_true rfl, Nat.le_of_ble_eq_true rfl⟩ ⟨Nat.le_refl _, Nat.le_refl _⟩ (Nat.le_of_ble_eq_true rfl) (by omega) (by omega) (by omega) (by omega) dX3_pointsIn_49 ?_
    refine tp_i (show (iZ (max (0 : Int) ((((ta9 : Nat) : Int)) - ((6 : Int))))) = (nI (ta9 - 6)) from (by rw [← iZ_n]; exact congrArg iZ (by omega))) ?_
    refine lv_iload_n hx hb dX3_pointsIn_52 rfl (lv_at hl 1 rfl) ?_
    refine n_imul hx hb dX3_pointsIn_53 ?_
    refine n_iadd hx hb dX3_pointsIn_54 ?_
    exact re_p hx hb hr hk (rfl) dX3_pointsIn_55

theorem ok3_momentsFor : cOkS RX3 yX3_momentsFor cX3_momentsFor 4 (some .int) 3 := ⟨wc_X3_momentsFor, wt_X3_momentsFor, wn_X3, rfl, by decide, by decide, by decide +kernel⟩
set_option maxHeartbeats 4000000 in
set_option maxRecDepth 100000 in
theorem c3_momentsFor (l : Launch) (ka9 : Nat) (sa9 : Nat) (ca9 : Nat) (h1 : ka9 ≤ 3) (h2 : 1 ≤ sa9) (h4 : sa9 ≤ 6) (h5 : ca9 ≤ 1000) : rMs l yX3_momentsFor cX3_momentsFor 4 (some .int) 1 21 [.int (nI ka9), .int (nI sa9), .int (nI ca9)] (fun r => r = nI (pc_mfS ka9 sa9 ca9)) := by
  refine cMs_in (by decide) rfl (Nat.le_of_ble_eq_true rfl) ?_
  intro p e s m args below meth c ls X hml hr hk hl
  have hx := X.1
  have hb := X.2.1
  have hts := X.2.2.1
  have hown := X.2.2.2
  have hl : lv_has ls 4 [(0, .int (nI ka9)), (1, .int (nI sa9)), (2, .int (nI ca9))] := hl
  refine lv_iload_n hx hb dX3_momentsFor_0 rfl (lv_at hl 0 rfl) ?_
  rcases (show ka9 = 0 ∨ ka9 = 1 ∨ ka9 = 2 ∨ ka9 = 3 by omega) with rfl | rfl | rfl | rfl
  · skip
    refine lv_lookup (off := 68) (tgt := 69) hx hb dX3_momentsFor_1 (by decide) (by decide) (by decide) ?_
    refine lv_iload_n hx hb dX3_momentsFor_69 rfl (lv_at hl 2 rfl) ?_
    refine lv_iload_n hx hb dX3_momentsFor_70 rfl (lv_at hl 1 rfl) ?_
    refine gc_s (C := RX3) (rest := []) X hml hl.1 (c3_shares l ca9 sa9 (by omega) (by omega) (by omega)) ok3_shares wm_X3_18 ⟨Nat.le_of_ble_eq_true rfl, Nat.le_of_ble_eq_true rfl⟩ ⟨Nat.le_refl _, Nat.le_refl _⟩ rfl (Nat.le_of_ble_eq_true rfl) dX3_momentsFor_71 (fun r_71 hr_71 => ?_) rfl
    subst hr_71
    exact re_p hx hb hr hk (rfl) dX3_momentsFor_74
  · skip
    refine lv_lookup (off := 68) (tgt := 69) hx hb dX3_momentsFor_1 (by decide) (by decide) (by decide) ?_
    refine lv_iload_n hx hb dX3_momentsFor_69 rfl (lv_at hl 2 rfl) ?_
    refine lv_iload_n hx hb dX3_momentsFor_70 rfl (lv_at hl 1 rfl) ?_
    refine gc_s (C := RX3) (rest := []) X hml hl.1 (c3_shares l ca9 sa9 (by omega) (by omega) (by omega)) ok3_shares wm_X3_18 ⟨Nat.le_of_ble_eq_true rfl, Nat.le_of_ble_eq_true rfl⟩ ⟨Nat.le_refl _, Nat.le_refl _⟩ rfl (Nat.le_of_ble_eq_true rfl) dX3_momentsFor_71 (fun r_71 hr_71 => ?_) rfl
    subst hr_71
    exact re_p hx hb hr hk (rfl) dX3_momentsFor_74
  · skip
    refine lv_lookup (off := 27) (tgt := 28) hx hb dX3_momentsFor_1 (by decide) (by decide) (by decide) ?_
    refine lv_iconst (v := (nI 2)) hx hb dX3_momentsFor_28 (by decide) ?_
    refine lv_iload_n hx hb dX3_momentsFor_29 rfl (lv_at hl 2 rfl) ?_
    refine n_imul hx hb dX3_momentsFor_30 ?_
    refine lv_iload_n hx hb dX3_momentsFor_31 rfl (lv_at hl 1 rfl) ?_
    refine gc_s (C := RX3) (rest := []) X hml hl.1 (c3_shares l (2 * ca9) sa9 (by omega) (by omega) (by omega)) ok3_shares wm_X3_18 ⟨Nat.le_of_ble_eq_true rfl, Nat.le_of_ble_eq_true rfl⟩ ⟨Nat.le_refl _, Nat.le_refl _⟩ rfl (Nat.le_of_ble_eq_true rfl) dX3_momentsFor_32 (fun r_32 hr_32 => ?_) rfl
    subst hr_32
    exact re_p hx hb hr hk (rfl) dX3_momentsFor_35
  · skip
    refine lv_lookup (off := 35) (tgt := 36) hx hb dX3_momentsFor_1 (by decide) (by decide) (by decide) ?_
    refine lv_bipush (v := (nI 6)) hx hb dX3_momentsFor_36 (by decide) ?_
    refine lv_iload_n hx hb dX3_momentsFor_38 rfl (lv_at hl 1 rfl) ?_
    refine n_imul hx hb dX3_momentsFor_39 ?_
    refine lv_iconst (v := (nI 2)) hx hb dX3_momentsFor_40 (by decide) ?_
    refine n_idiv hx hb dX3_momentsFor_41 (by omega) (by omega) (by omega) ?_
    refine lv_istore_n (lv' := [(3, .int (nI ((6 * sa9) / 2))), (0, .int (nI 3)), (1, .int (nI sa9)), (2, .int (nI ca9))]) hx hb dX3_momentsFor_42 rfl hl (by decide) rfl (fun ls hl => ?_)
    refine lv_iload_n hx hb dX3_momentsFor_43 rfl (lv_at hl 3 rfl) ?_
    refine lv_iload_n hx hb dX3_momentsFor_44 rfl (lv_at hl 0 rfl) ?_
    refine n_icmp_gt (tgt := 58) hx hb dX3_momentsFor_45 (by decide) (by omega) (by omega) (fun c_45_1 => ?_) (fun c_45_1 => ?_)
    · skip
      refine lv_bipush (v := (nI 6)) hx hb dX3_momentsFor_58 (by decide) ?_
      refine lv_iload_n hx hb dX3_momentsFor_60 rfl (lv_at hl 3 rfl) ?_
      refine lv_iload_n hx hb dX3_momentsFor_61 rfl (lv_at hl 0 rfl) ?_
      refine n_isub hx hb dX3_momentsFor_62 (by omega) ?_
      refine lv_iload_n hx hb dX3_momentsFor_63 rfl (lv_at hl 2 rfl) ?_
      refine gc_s (C := RX3) (rest := [.int (nI 6)]) X hml hl.1 (c3_shares l (ca9 - ((6 * sa9) / 2)) sa9 (by omega) (by omega) (by omega)) ok3_shares wm_X3_18 ⟨Nat.le_of_ble_eq_true rfl, Nat.le_of_ble_eq_true rfl⟩ ⟨Nat.le_refl _, Nat.le_refl _⟩ rfl (Nat.le_of_ble_eq_true rfl) dX3_momentsFor_64 (fun r_64 hr_64 => ?_) rfl
      subst hr_64
      refine n_iadd hx hb dX3_momentsFor_67 ?_
      exact re_p hx hb hr hk (by unfold pc_mfS; rw [if_neg (by decide), if_pos rfl]; first | (rw [if_pos (by omega)]; done) | (rw [if_neg (by omega)]; done)) dX3_momentsFor_68
    · skip
      refine lv_iconst (v := (nI 2)) hx hb dX3_momentsFor_48 (by decide) ?_
      refine lv_iload_n hx hb dX3_momentsFor_49 rfl (lv_at hl 3 rfl) ?_
      refine n_imul hx hb dX3_momentsFor_50 ?_
      refine lv_iload_n hx hb dX3_momentsFor_51 rfl (lv_at hl 2 rfl) ?_
      refine gc_s (C := RX3) (rest := []) X hml hl.1 (c3_shares l (2 * ca9) sa9 (by omega) (by omega) (by omega)) ok3_shares wm_X3_18 ⟨Nat.le_of_ble_eq_true rfl, Nat.le_of_ble_eq_true rfl⟩ ⟨Nat.le_refl _, Nat.le_refl _⟩ rfl (Nat.le_of_ble_eq_true rfl) dX3_momentsFor_52 (fun r_52 hr_52 => ?_) rfl
      subst hr_52
      refine lv_goto (tgt := 68) hx hb dX3_momentsFor_55 (by decide) ?_
      exact re_p hx hb hr hk (by unfold pc_mfS; rw [if_neg (by decide), if_pos rfl]; first | (rw [if_pos (by omega)]; done) | (rw [if_neg (by omega)]; done)) dX3_momentsFor_68
