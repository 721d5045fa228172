theorem ok1_readFighter : cOk RX1 yX1_readFighter cX1_readFighter 5 (some .boolean) 0 := ⟨wc_X1_readFighter, wi_X1_readFighter, ws_X1_readFighter, wn_X1, rfl, by decide, by decide, by decide +kernel⟩
set_option maxHeartbeats 4000000 in
set_option maxRecDepth 100000 in
theorem c1_readFighter (l : Launch) (G : CG) (a d : Nat → Nat) (z : RS × RS)  (n : Nat) (T : Nat → Nat) (ht : cTp z.1 n T) (a9 : Nat) (ha : z.1.1 2 = nI a9) (hab : a9 ≤ 9000) (E : Sc) (he : cSn z.2 E) (h5 : E.1 1 < 5) : cTi G l yX1_readFighter cX1_readFighter 5 (some .boolean) 4 91 [.ref (a 0)] (fun q9 : RS × RS => wT1 G a d q9.1 ++ w5 G d q9.2) z (fun r z9 => (fk_w T n a9 = 0 → r = nI 1 ∧ cSn z9.2 (sc_add E (fk_v T n a9 0).toNat (fk_v T n a9 1).toNat (fk_v T n a9 2).toNat (fk_v T n a9 3).toNat)) ∧ (¬ fk_w T n a9 = 0 → r = nI 0) ∧ z9.1.1 2 = nI (fk_a T n a9) ∧ tkF z.1 z9.1) := by
  refine cTi_in (by decide) rfl (Nat.le_of_ble_eq_true rfl) ?_
  intro p e s m args below meth c A ls X hT hml hr hk hl w
  have hx := X.1
  have hb := X.2.1
  have hts := X.2.2.1
  have hown := X.2.2.2.1
  have hl : lv_has ls 5 [(0, .ref (a 0))] := hl
  have htT := ht.2.2.2
  have t1 := ht.2.1
  have hl_3 := tk_le T n a9
  obtain ⟨ks_0, vs_0, hq_0, hw_0⟩ := hT.2.2
  refine va_ldcS hx hb hown hq_0 dX1_readFighter_0 ?_
  refine lv_aload_n hx hb dX1_readFighter_2 rfl (lv_at hl 0 rfl) ?_
  refine gc_i (C := RX1) (ci := 1) (rest := [.ref ks_0]) (w := (fun q9 : RS => wT1 G a d q9)) (wr := [((d 0), .inr (4, [.int (z.2.1 0), .ref (d 2), .ref (d 3), .int (z.2.1 3), .ref (d 5), .ref (d 6), .ref (d 7), .ref (d 8), .int (z.2.1 8), .int (z.2.1 9), .int (z.2.1 10), .ref (d 12), .int (z.2.1 12)])), ((d 2), .inl (G.2.1, 40, .inl (z.2.2.1 1))), ((d 3), .inl (G.2.1, 40, .inl (z.2.2.1 2))), ((d 5), .inl (G.2.1, 5, .inl (z.2.2.1 4))), ((d 6), .inl (G.2.1, 5, .inl (z.2.2.1 5))), ((d 7), .inl (G.2.1, 5, .inl (z.2.2.1 6))), ((d 8), .inl (G.2.1, 5, .inl (z.2.2.1 7))), ((d 12), .inl (G.2.1, 5, .inl (z.2.2.1 11)))]) (wn := (fun u9 => wT1 G a d ((u9, z.2)).1 ++ w5 G d ((u9, z.2)).2)) X hml hl.1 (c1_peek l G a d z.1 n T ht a9 ha (by omega)) ok1_peek wm_X1_46 ⟨Nat.le_of_ble_eq_true rfl, Nat.le_of_ble_eq_true rfl⟩ ⟨Nat.le_refl _, Nat.le_refl _⟩ w [0, 1] [2, 3, 4, 5, 6, 7, 8, 9] [8, 9, 0, 1, 2, 3, 4, 5, 6, 7] rfl (by decide) rfl (by decide) (by decide) (fun _ => rfl) (by decide) rfl rfl rfl (Nat.le_of_ble_eq_true rfl) dX1_readFighter_3 (fun r_3 u_3 H locs hr_3 w => ?_)
  obtain ⟨z_3, ez_3⟩ : ∃ q9 : RS × RS, q9 = (u_3, z.2) := ⟨_, rfl⟩
  have w : cW G A s (wT1 G a d z_3.1 ++ w5 G d z_3.2) H locs := by rw [ez_3]; exact w
  have eu_3_this : z_3.1 = u_3 := by rw [ez_3]
  rw [← eu_3_this] at hr_3
  have ek_3_dr : z_3.2 = z.2 := by rw [ez_3]
  obtain ⟨hr_3, pa_3, pf_3⟩ := hr_3
  subst hr_3
  have ph_3 := tk_h_le htT n a9
  refine lv_i2c (v := (nI (tk_h T n a9))) hx hb dX1_readFighter_6 (i16_nI (by omega)) ?_
  refine sc_x (rest := []) ⟨X.1, X.2.1, X.2.2.1, X.2.2.2.1⟩ hml hl.1 (sj_indexOf l ks_0 vs_0 4 sK1 (tk_h T n a9) (by omega) (by decide) (by decide) sK1_le) okJ_indexOf1 wJ_m62_X1 ⟨Nat.le_of_ble_eq_true rfl, Nat.le_of_ble_eq_true rfl⟩ ⟨Nat.le_refl _, Nat.le_refl _⟩ hT.1 hw_0 w.2.2 rfl (Nat.le_of_ble_eq_true rfl) dX1_readFighter_7 (fun r_7 hr_7 => ?_)
  refine tp_i (sP_1 hr_7) ?_
  have dj_7 := sJ1_ok (tk_h T n a9)
  refine lv_istore_n (lv' := [(1, .int (iZ (sJ1 (tk_h T n a9)))), (0, .ref (a 0))]) hx hb dX1_readFighter_10 rfl hl (by decide) rfl (fun ls hl => ?_)
  refine lv_iload_n hx hb dX1_readFighter_11 rfl (lv_at hl 0 rfl) ?_
  refine z_if_ge (tgt := 17) hx hb dX1_readFighter_12 (by decide) (by omega) (by omega) (fun c_12_1 => ?_) (fun c_12_1 => ?_)
  · skip
    refine lv_aload_n hx hb dX1_readFighter_17 rfl (lv_at hl 1 rfl) ?_
    refine lv_dup hx hb dX1_readFighter_18 rfl ?_
    refine ag_TD_X1_36_this X w.1 dX1_readFighter_19 ?_
    refine tp_i (show z_3.1.1 2 = (nI (tk_s T n a9)) from pa_3) ?_
    refine lv_iconst (v := (nI 1)) hx hb dX1_readFighter_22 (by decide) ?_
    refine n_iadd hx hb dX1_readFighter_23 ?_
    refine ap_TD_X1_36_this X w dX1_readFighter_24 (fun z_24 H locs ez_24 w => ?_)
    have hf_24 : tkF z.1 z_24.1 := by rw [ez_24]; exact tkF_tr pf_3 (tkF_I _ _)
    have hd_24 : z_24.2 = z.2 := by rw [ez_24]; exact ek_3_dr
    refine lv_aload_n hx hb dX1_readFighter_27 rfl (lv_at hl 1 rfl) ?_
    refine lv_iconst (v := (nI 1)) hx hb dX1_readFighter_28 (by decide) ?_
    refine lv_bipush (v := (nI 9)) hx hb dX1_readFighter_29 (by decide) ?_
    refine gc_i (C := RX1) (ci := 1) (rest := []) (w := (fun q9 : RS => wT1 G a d q9)) (wr := [((d 0), .inr (4, [.int (z_24.2.1 0), .ref (d 2), .ref (d 3), .int (z_24.2.1 3), .ref (d 5), .ref (d 6), .ref (d 7), .ref (d 8), .int (z_24.2.1 8), .int (z_24.2.1 9), .int (z_24.2.1 10), .ref (d 12), .int (z_24.2.1 12)])), ((d 2), .inl (G.2.1, 40, .inl (z_24.2.2.1 1))), ((d 3), .inl (G.2.1, 40, .inl (z_24.2.2.1 2))), ((d 5), .inl (G.2.1, 5, .inl (z_24.2.2.1 4))), ((d 6), .inl (G.2.1, 5, .inl (z_24.2.2.1 5))), ((d 7), .inl (G.2.1, 5, .inl (z_24.2.2.1 6))), ((d 8), .inl (G.2.1, 5, .inl (z_24.2.2.1 7))), ((d 12), .inl (G.2.1, 5, .inl (z_24.2.2.1 11)))]) (wn := (fun u9 => wT1 G a d ((u9, z_24.2)).1 ++ w5 G d ((u9, z_24.2)).2)) X hml hl.1 (c1_takeDigit l G a d z_24.1 1 9 n T (cTp_F ht hf_24) (tk_s T n a9 + 1) (by rw [ez_24]; rfl) (by omega) (by decide) (by decide)) ok1_takeDigit wm_X1_80 ⟨Nat.le_of_ble_eq_true rfl, Nat.le_of_ble_eq_true rfl⟩ ⟨Nat.le_refl _, Nat.le_refl _⟩ w [0, 1] [2, 3, 4, 5, 6, 7, 8, 9] [8, 9, 0, 1, 2, 3, 4, 5, 6, 7] rfl (by decide) rfl (by decide) (by decide) (fun _ => rfl) (by decide) rfl rfl rfl (Nat.le_of_ble_eq_true rfl) dX1_readFighter_31 (fun r_31 u_31 H locs hr_31 w => ?_)
    obtain ⟨z_31, ez_31⟩ : ∃ q9 : RS × RS, q9 = (u_31, z_24.2) := ⟨_, rfl⟩
    have w : cW G A s (wT1 G a d z_31.1 ++ w5 G d z_31.2) H locs := by rw [ez_31]; exact w
    have eu_31_this : z_31.1 = u_31 := by rw [ez_31]
    rw [← eu_31_this] at hr_31
    have ek_31_dr : z_31.2 = z_24.2 := by rw [ez_31]
    obtain ⟨hr_31, pa_31, pf_31⟩ := dg_r hr_31
    subst hr_31
    have d_31 := dg_ok T n 1 9 (tk_s T n a9 + 1)
    have hl_31 := tk_le T n (tk_s T n a9 + 1)
    have ph_31 := tk_h_le htT n (tk_s T n a9 + 1)
    have hf_31 : tkF z.1 z_31.1 := tkF_tr hf_24 pf_31
    have hd_31 : z_31.2 = z.2 := ek_31_dr.trans hd_24
    refine lv_istore_n (lv' := [(2, .int (iZ (dgv T n 1 9 (tk_s T n a9 + 1)))), (1, .int (iZ (sJ1 (tk_h T n a9)))), (0, .ref (a 0))]) hx hb dX1_readFighter_34 rfl hl (by decide) rfl (fun ls hl => ?_)
    refine lv_iload_n hx hb dX1_readFighter_35 rfl (lv_at hl 0 rfl) ?_
    refine z_if_ge (tgt := 41) hx hb dX1_readFighter_36 (by decide) (by omega) (by omega) (fun c_36_2 => ?_) (fun c_36_2 => ?_)
    · skip
      refine lv_aload_n hx hb dX1_readFighter_41 rfl (lv_at hl 2 rfl) ?_
      refine lv_iconst (v := (nI 1)) hx hb dX1_readFighter_42 (by decide) ?_
      refine lv_bipush (v := (nI 6)) hx hb dX1_readFighter_43 (by decide) ?_
      refine gc_i (C := RX1) (ci := 1) (rest := []) (w := (fun q9 : RS => wT1 G a d q9)) (wr := [((d 0), .inr (4, [.int (z_31.2.1 0), .ref (d 2), .ref (d 3), .int (z_31.2.1 3), .ref (d 5), .ref (d 6), .ref (d 7), .ref (d 8), .int (z_31.2.1 8), .int (z_31.2.1 9), .int (z_31.2.1 10), .ref (d 12), .int (z_31.2.1 12)])), ((d 2), .inl (G.2.1, 40, .inl (z_31.2.2.1 1))), ((d 3), .inl (G.2.1, 40, .inl (z_31.2.2.1 2))), ((d 5), .inl (G.2.1, 5, .inl (z_31.2.2.1 4))), ((d 6), .inl (G.2.1, 5, .inl (z_31.2.2.1 5))), ((d 7), .inl (G.2.1, 5, .inl (z_31.2.2.1 6))), ((d 8), .inl (G.2.1, 5, .inl (z_31.2.2.1 7))), ((d 12), .inl (G.2.1, 5, .inl (z_31.2.2.1 11)))]) (wn := (fun u9 => wT1 G a d ((u9, z_31.2)).1 ++ w5 G d ((u9, z_31.2)).2)) X hml hl.1 (c1_takeDigit l G a d z_31.1 1 6 n T (cTp_F ht hf_31) (dga T n 1 9 (tk_s T n a9 + 1)) pa_31 (by omega) (by decide) (by decide)) ok1_takeDigit wm_X1_80 ⟨Nat.le_of_ble_eq_true rfl, Nat.le_of_ble_eq_true rfl⟩ ⟨Nat.le_refl _, Nat.le_refl _⟩ w [0, 1] [2, 3, 4, 5, 6, 7, 8, 9] [8, 9, 0, 1, 2, 3, 4, 5, 6, 7] rfl (by decide) rfl (by decide) (by decide) (fun _ => rfl) (by decide) rfl rfl rfl (Nat.le_of_ble_eq_true rfl) dX1_readFighter_45 (fun r_45 u_45 H locs hr_45 w => ?_)
      obtain ⟨z_45, ez_45⟩ : ∃ q9 : RS × RS, q9 = (u_45, z_31.2) := ⟨_, rfl⟩
      have w : cW G A s (wT1 G a d z_45.1 ++ w5 G d z_45.2) H locs := by rw [ez_45]; exact w
      have eu_45_this : z_45.1 = u_45 := by rw [ez_45]
      rw [← eu_45_this] at hr_45
      have ek_45_dr : z_45.2 = z_31.2 := by rw [ez_45]
      obtain ⟨hr_45, pa_45, pf_45⟩ := dg_r hr_45
      subst hr_45
      have d_45 := dg_ok T n 1 6 (dga T n 1 9 (tk_s T n a9 + 1))
      have hl_45 := tk_le T n (dga T n 1 9 (tk_s T n a9 + 1))
      have ph_45 := tk_h_le htT n (dga T n 1 9 (tk_s T n a9 + 1))
      have hf_45 : tkF z.1 z_45.1 := tkF_tr hf_31 pf_45
      have hd_45 : z_45.2 = z.2 := ek_45_dr.trans hd_31
      refine lv_istore_n (lv' := [(3, .int (iZ (dgv T n 1 6 (dga T n 1 9 (tk_s T n a9 + 1))))), (2, .int (iZ (dgv T n 1 9 (tk_s T n a9 + 1)))), (1, .int (iZ (sJ1 (tk_h T n a9)))), (0, .ref (a 0))]) hx hb dX1_readFighter_48 rfl hl (by decide) rfl (fun ls hl => ?_)
      refine lv_iload_n hx hb dX1_readFighter_49 rfl (lv_at hl 0 rfl) ?_
      refine z_if_ge (tgt := 55) hx hb dX1_readFighter_50 (by decide) (by omega) (by omega) (fun c_50_3 => ?_) (fun c_50_3 => ?_)
      · skip
        refine lv_aload_n hx hb dX1_readFighter_55 rfl (lv_at hl 3 rfl) ?_
        refine lv_bipush (v := (nI 45)) hx hb dX1_readFighter_56 (by decide) ?_
        refine gc_i (C := RX1) (ci := 1) (rest := []) (w := (fun q9 : RS => wT1 G a d q9)) (wr := [((d 0), .inr (4, [.int (z_45.2.1 0), .ref (d 2), .ref (d 3), .int (z_45.2.1 3), .ref (d 5), .ref (d 6), .ref (d 7), .ref (d 8), .int (z_45.2.1 8), .int (z_45.2.1 9), .int (z_45.2.1 10), .ref (d 12), .int (z_45.2.1 12)])), ((d 2), .inl (G.2.1, 40, .inl (z_45.2.2.1 1))), ((d 3), .inl (G.2.1, 40, .inl (z_45.2.2.1 2))), ((d 5), .inl (G.2.1, 5, .inl (z_45.2.2.1 4))), ((d 6), .inl (G.2.1, 5, .inl (z_45.2.2.1 5))), ((d 7), .inl (G.2.1, 5, .inl (z_45.2.2.1 6))), ((d 8), .inl (G.2.1, 5, .inl (z_45.2.2.1 7))), ((d 12), .inl (G.2.1, 5, .inl (z_45.2.2.1 11)))]) (wn := (fun u9 => wT1 G a d ((u9, z_45.2)).1 ++ w5 G d ((u9, z_45.2)).2)) X hml hl.1 (c1_take l G a d z_45.1 45 n T (cTp_F ht hf_45) (dga T n 1 6 (dga T n 1 9 (tk_s T n a9 + 1))) pa_45 (by omega) (by decide)) ok1_take wm_X1_50 ⟨Nat.le_of_ble_eq_true rfl, Nat.le_of_ble_eq_true rfl⟩ ⟨Nat.le_refl _, Nat.le_refl _⟩ w [0, 1] [2, 3, 4, 5, 6, 7, 8, 9] [8, 9, 0, 1, 2, 3, 4, 5, 6, 7] rfl (by decide) rfl (by decide) (by decide) (fun _ => rfl) (by decide) rfl rfl rfl (Nat.le_of_ble_eq_true rfl) dX1_readFighter_58 (fun r_58 u_58 H locs hr_58 w => ?_)
        obtain ⟨z_58, ez_58⟩ : ∃ q9 : RS × RS, q9 = (u_58, z_45.2) := ⟨_, rfl⟩
        have w : cW G A s (wT1 G a d z_58.1 ++ w5 G d z_58.2) H locs := by rw [ez_58]; exact w
        have eu_58_this : z_58.1 = u_58 := by rw [ez_58]
        rw [← eu_58_this] at hr_58
        have ek_58_dr : z_58.2 = z_45.2 := by rw [ez_58]
        obtain ⟨hr_58, pa_58, pf_58⟩ := hr_58
        subst hr_58
        have d_58 := i10 (tk_h T n (dga T n 1 6 (dga T n 1 9 (tk_s T n a9 + 1))) = 45)
        have hl_58 := tk_le T n (dga T n 1 6 (dga T n 1 9 (tk_s T n a9 + 1)))
        have hf_58 : tkF z.1 z_58.1 := tkF_tr hf_45 pf_58
        have hd_58 : z_58.2 = z.2 := ek_58_dr.trans hd_45
        refine n_if_eq (tgt := 74) hx hb dX1_readFighter_61 (by decide) (by omega) (fun c_61_4 => ?_) (fun c_61_4 => ?_)
        · skip
          refine lv_iconst (v := (nI 0)) hx hb dX1_readFighter_74 (by decide) ?_
          refine lv_istore (lv' := [(4, .int (nI 0)), (3, .int (iZ (dgv T n 1 6 (dga T n 1 9 (tk_s T n a9 + 1))))), (2, .int (iZ (dgv T n 1 9 (tk_s T n a9 + 1)))), (1, .int (iZ (sJ1 (tk_h T n a9)))), (0, .ref (a 0))]) hx hb dX1_readFighter_75 hl (by decide) rfl (fun ls hl => ?_)
          refine lv_iload hx hb dX1_readFighter_77 (lv_at hl 0 rfl) ?_
          refine n_if_ge (tgt := 84) hx hb dX1_readFighter_79 (by decide) (by omega) (fun c_79_5 => ?_) (fun c_79_5 => ?_)
          · skip
            have f9 := fkD (a := a9) (b0 := tk_s T n a9 + 1) (b1 := dga T n 1 9 (tk_s T n a9 + 1)) (b2 := dga T n 1 6 (dga T n 1 9 (tk_s T n a9 + 1))) (by omega) rfl (by omega) (by omega) (by omega) (by omega) (by omega)
            have f8 := fk_pos f9.1
            have f7 : fk_v T n a9 0 = ((tk_kd (tk_h T n a9) : Nat) : Int) := rfl
            have hl : lv_has ls 5 [(4, .int (nI 0)), (3, .int (iZ (dgv T n 1 6 (dga T n 1 9 (tk_s T n a9 + 1))))), (2, .int (iZ (dgv T n 1 9 (tk_s T n a9 + 1)))), (1, .int (nI ((fk_v T n a9 0).toNat))), (0, .ref (a 0))] := by rw [show (nI ((fk_v T n a9 0).toNat)) = (iZ (sJ1 (tk_h T n a9))) from (by rw [← iZ_n]; exact congrArg iZ (by omega))]; exact hl
            have hl : lv_has ls 5 [(4, .int (nI 0)), (3, .int (iZ (dgv T n 1 6 (dga T n 1 9 (tk_s T n a9 + 1))))), (2, .int (nI ((fk_v T n a9 1).toNat))), (1, .int (nI ((fk_v T n a9 0).toNat))), (0, .ref (a 0))] := by rw [show (nI ((fk_v T n a9 1).toNat)) = (iZ (dgv T n 1 9 (tk_s T n a9 + 1))) from (by rw [← iZ_n]; exact congrArg iZ (by omega))]; exact hl
            have hl : lv_has ls 5 [(4, .int (nI 0)), (3, .int (nI ((fk_v T n a9 2).toNat))), (2, .int (nI ((fk_v T n a9 1).toNat))), (1, .int (nI ((fk_v T n a9 0).toNat))), (0, .ref (a 0))] := by rw [show (nI ((fk_v T n a9 2).toNat)) = (iZ (dgv T n 1 6 (dga T n 1 9 (tk_s T n a9 + 1)))) from (by rw [← iZ_n]; exact congrArg iZ (by omega))]; exact hl
            have hl : lv_has ls 5 [(4, .int (nI ((fk_v T n a9 3).toNat))), (3, .int (nI ((fk_v T n a9 2).toNat))), (2, .int (nI ((fk_v T n a9 1).toNat))), (1, .int (nI ((fk_v T n a9 0).toNat))), (0, .ref (a 0))] := by rw [show (nI ((fk_v T n a9 3).toNat)) = (nI 0) from (congrArg nI (by omega))]; exact hl
            refine lv_aload_n hx hb dX1_readFighter_84 rfl (lv_at hl 4 rfl) ?_
            refine ag_TD_X1_18_this X w.1 dX1_readFighter_85 ?_
            refine lv_iload_n hx hb dX1_readFighter_88 rfl (lv_at hl 3 rfl) ?_
            refine lv_iload_n hx hb dX1_readFighter_89 rfl (lv_at hl 2 rfl) ?_
            refine lv_iload_n hx hb dX1_readFighter_90 rfl (lv_at hl 1 rfl) ?_
            refine lv_iload hx hb dX1_readFighter_91 (lv_at hl 0 rfl) ?_
            refine gc_i (C := RX5) (ci := 4) (rest := []) (w := (fun q9 : RS => w5 G d q9)) (wr := [((a 0), .inr (1, [.ref (a 1), .int (z_58.1.1 1), .int (z_58.1.1 2), .ref (d 0)])), ((a 1), .inl (G.2.1, 100, .inl (z_58.1.2.1 0)))]) (wn := (fun u9 => wT1 G a d ((z_58.1, u9)).1 ++ w5 G d ((z_58.1, u9)).2)) X hml hl.1 (c5_addFighter l G d z_58.2 ((fk_v T n a9 0).toNat) ((fk_v T n a9 1).toNat) ((fk_v T n a9 2).toNat) ((fk_v T n a9 3).toNat) E (by rw [hd_58]; exact he) h5) ok5_addFighter wm_X1_84 ⟨Nat.le_of_ble_eq_true rfl, Nat.le_of_ble_eq_true rfl⟩ ⟨Nat.le_refl _, Nat.le_refl _⟩ w [2, 3, 4, 5, 6, 7, 8, 9] [0, 1] [0, 1, 2, 3, 4, 5, 6, 7, 8, 9] rfl (by decide) rfl (by decide) (by decide) (fun _ => rfl) (by decide) rfl rfl rfl (Nat.le_of_ble_eq_true rfl) dX1_readFighter_93 (fun r_93 u_93 H locs hr_93 w => ?_)
            obtain ⟨z_93, ez_93⟩ : ∃ q9 : RS × RS, q9 = (z_58.1, u_93) := ⟨_, rfl⟩
            have w : cW G A s (wT1 G a d z_93.1 ++ w5 G d z_93.2) H locs := by rw [ez_93]; exact w
            have eu_93_dr : z_93.2 = u_93 := by rw [ez_93]
            rw [← eu_93_dr] at hr_93
            have ek_93_this : z_93.1 = z_58.1 := by rw [ez_93]
            obtain ⟨hr_93, hc_93⟩ := hr_93
            subst hr_93
            have ek9 := ek_93_this
            refine lv_pop hx hb dX1_readFighter_96 rfl ?_
            refine lv_iconst (v := (nI 1)) hx hb dX1_readFighter_97 (by decide) ?_
            exact ce_iz (w := (fun q9 : RS × RS => wT1 G a d q9.1 ++ w5 G d q9.2)) (z := z_93) X hr hk w (by first | exact Or.inl rfl | exact Or.inr rfl) (⟨fun _ => ⟨rfl, hc_93⟩, fun g9 => absurd f9.1 g9, by rw [ek9, f9.2.1]; first | (rw [pa_68]; exact congrArg nI (by omega)) | (rw [pa_58]; exact congrArg nI (by omega)), by rw [ek9]; first | exact hf_68 | exact hf_58⟩) dX1_readFighter_98
          · skip
            refine lv_iconst (v := (nI 0)) hx hb dX1_readFighter_82 (by decide) ?_
            exact ce_iz (w := (fun q9 : RS × RS => wT1 G a d q9.1 ++ w5 G d q9.2)) (z := z_58) X hr hk w (by first | exact Or.inl rfl | exact Or.inr rfl) (by exfalso; omega) dX1_readFighter_83
        · skip
          refine lv_aload_n hx hb dX1_readFighter_64 rfl (lv_at hl 3 rfl) ?_
          refine lv_iconst (v := (nI 0)) hx hb dX1_readFighter_65 (by decide) ?_
          refine lv_bipush (v := (nI 6)) hx hb dX1_readFighter_66 (by decide) ?_
          refine gc_i (C := RX1) (ci := 1) (rest := []) (w := (fun q9 : RS => wT1 G a d q9)) (wr := [((d 0), .inr (4, [.int (z_58.2.1 0), .ref (d 2), .ref (d 3), .int (z_58.2.1 3), .ref (d 5), .ref (d 6), .ref (d 7), .ref (d 8), .int (z_58.2.1 8), .int (z_58.2.1 9), .int (z_58.2.1 10), .ref (d 12), .int (z_58.2.1 12)])), ((d 2), .inl (G.2.1, 40, .inl (z_58.2.2.1 1))), ((d 3), .inl (G.2.1, 40, .inl (z_58.2.2.1 2))), ((d 5), .inl (G.2.1, 5, .inl (z_58.2.2.1 4))), ((d 6), .inl (G.2.1, 5, .inl (z_58.2.2.1 5))), ((d 7), .inl (G.2.1, 5, .inl (z_58.2.2.1 6))), ((d 8), .inl (G.2.1, 5, .inl (z_58.2.2.1 7))), ((d 12), .inl (G.2.1, 5, .inl (z_58.2.2.1 11)))]) (wn := (fun u9 => wT1 G a d ((u9, z_58.2)).1 ++ w5 G d ((u9, z_58.2)).2)) X hml hl.1 (c1_takeDigit l G a d z_58.1 0 6 n T (cTp_F ht hf_58) (tk_s T n (dga T n 1 6 (dga T n 1 9 (tk_s T n a9 + 1))) + (if tk_h T n (dga T n 1 6 (dga T n 1 9 (tk_s T n a9 + 1))) = 45 then 1 else 0)) pa_58 (by omega) (by decide) (by decide)) ok1_takeDigit wm_X1_80 ⟨Nat.le_of_ble_eq_true rfl, Nat.le_of_ble_eq_true rfl⟩ ⟨Nat.le_refl _, Nat.le_refl _⟩ w [0, 1] [2, 3, 4, 5, 6, 7, 8, 9] [8, 9, 0, 1, 2, 3, 4, 5, 6, 7] rfl (by decide) rfl (by decide) (by decide) (fun _ => rfl) (by decide) rfl rfl rfl (Nat.le_of_ble_eq_true rfl) dX1_readFighter_68 (fun r_68 u_68 H locs hr_68 w => ?_)
          obtain ⟨z_68, ez_68⟩ : ∃ q9 : RS × RS, q9 = (u_68, z_58.2) := ⟨_, rfl⟩
          have w : cW G A s (wT1 G a d z_68.1 ++ w5 G d z_68.2) H locs := by rw [ez_68]; exact w
          have eu_68_this : z_68.1 = u_68 := by rw [ez_68]
          rw [← eu_68_this] at hr_68
          have ek_68_dr : z_68.2 = z_58.2 := by rw [ez_68]
          obtain ⟨hr_68, pa_68, pf_68⟩ := dg_r hr_68
          subst hr_68
          have d_68 := dg_ok T n 0 6 (tk_s T n (dga T n 1 6 (dga T n 1 9 (tk_s T n a9 + 1))) + (if tk_h T n (dga T n 1 6 (dga T n 1 9 (tk_s T n a9 + 1))) = 45 then 1 else 0))
          have hl_68 := tk_le T n (tk_s T n (dga T n 1 6 (dga T n 1 9 (tk_s T n a9 + 1))) + (if tk_h T n (dga T n 1 6 (dga T n 1 9 (tk_s T n a9 + 1))) = 45 then 1 else 0))
          have ph_68 := tk_h_le htT n (tk_s T n (dga T n 1 6 (dga T n 1 9 (tk_s T n a9 + 1))) + (if tk_h T n (dga T n 1 6 (dga T n 1 9 (tk_s T n a9 + 1))) = 45 then 1 else 0))
          have hf_68 : tkF z.1 z_68.1 := tkF_tr hf_58 pf_68
          have hd_68 : z_68.2 = z.2 := ek_68_dr.trans hd_58
          refine lv_goto (tgt := 75) hx hb dX1_readFighter_71 (by decide) ?_
          refine lv_istore (lv' := [(4, .int (iZ (dgv T n 0 6 (tk_s T n (dga T n 1 6 (dga T n 1 9 (tk_s T n a9 + 1))) + (if tk_h T n (dga T n 1 6 (dga T n 1 9 (tk_s T n a9 + 1))) = 45 then 1 else 0))))), (3, .int (iZ (dgv T n 1 6 (dga T n 1 9 (tk_s T n a9 + 1))))), (2, .int (iZ (dgv T n 1 9 (tk_s T n a9 + 1)))), (1, .int (iZ (sJ1 (tk_h T n a9)))), (0, .ref (a 0))]) hx hb dX1_readFighter_75 hl (by decide) rfl (fun ls hl => ?_)
          refine lv_iload hx hb dX1_readFighter_77 (lv_at hl 0 rfl) ?_
          refine z_if_ge (tgt := 84) hx hb dX1_readFighter_79 (by decide) (by omega) (by omega) (fun c_79_6 => ?_) (fun c_79_6 => ?_)
          · skip
            have f9 := fkF (a := a9) (b0 := tk_s T n a9 + 1) (b1 := dga T n 1 9 (tk_s T n a9 + 1)) (b2 := dga T n 1 6 (dga T n 1 9 (tk_s T n a9 + 1))) (b3 := tk_s T n (dga T n 1 6 (dga T n 1 9 (tk_s T n a9 + 1))) + (if tk_h T n (dga T n 1 6 (dga T n 1 9 (tk_s T n a9 + 1))) = 45 then 1 else 0)) (by omega) rfl (by omega) (by omega) (by omega) (by omega) (by omega) (by omega) (by omega)
            have f8 := fk_pos f9.1
            have f7 : fk_v T n a9 0 = ((tk_kd (tk_h T n a9) : Nat) : Int) := rfl
            have hl : lv_has ls 5 [(4, .int (iZ (dgv T n 0 6 (tk_s T n (dga T n 1 6 (dga T n 1 9 (tk_s T n a9 + 1))) + (if tk_h T n (dga T n 1 6 (dga T n 1 9 (tk_s T n a9 + 1))) = 45 then 1 else 0))))), (3, .int (iZ (dgv T n 1 6 (dga T n 1 9 (tk_s T n a9 + 1))))), (2, .int (iZ (dgv T n 1 9 (tk_s T n a9 + 1)))), (1, .int (nI ((fk_v T n a9 0).toNat))), (0, .ref (a 0))] := by rw [show (nI ((fk_v T n a9 0).toNat)) = (iZ (sJ1 (tk_h T n a9))) from (by rw [← iZ_n]; exact congrArg iZ (by omega))]; exact hl
            have hl : lv_has ls 5 [(4, .int (iZ (dgv T n 0 6 (tk_s T n (dga T n 1 6 (dga T n 1 9 (tk_s T n a9 + 1))) + (if tk_h T n (dga T n 1 6 (dga T n 1 9 (tk_s T n a9 + 1))) = 45 then 1 else 0))))), (3, .int (iZ (dgv T n 1 6 (dga T n 1 9 (tk_s T n a9 + 1))))), (2, .int (nI ((fk_v T n a9 1).toNat))), (1, .int (nI ((fk_v T n a9 0).toNat))), (0, .ref (a 0))] := by rw [show (nI ((fk_v T n a9 1).toNat)) = (iZ (dgv T n 1 9 (tk_s T n a9 + 1))) from (by rw [← iZ_n]; exact congrArg iZ (by omega))]; exact hl
            have hl : lv_has ls 5 [(4, .int (iZ (dgv T n 0 6 (tk_s T n (dga T n 1 6 (dga T n 1 9 (tk_s T n a9 + 1))) + (if tk_h T n (dga T n 1 6 (dga T n 1 9 (tk_s T n a9 + 1))) = 45 then 1 else 0))))), (3, .int (nI ((fk_v T n a9 2).toNat))), (2, .int (nI ((fk_v T n a9 1).toNat))), (1, .int (nI ((fk_v T n a9 0).toNat))), (0, .ref (a 0))] := by rw [show (nI ((fk_v T n a9 2).toNat)) = (iZ (dgv T n 1 6 (dga T n 1 9 (tk_s T n a9 + 1)))) from (by rw [← iZ_n]; exact congrArg iZ (by omega))]; exact hl
            have hl : lv_has ls 5 [(4, .int (nI ((fk_v T n a9 3).toNat))), (3, .int (nI ((fk_v T n a9 2).toNat))), (2, .int (nI ((fk_v T n a9 1).toNat))), (1, .int (nI ((fk_v T n a9 0).toNat))), (0, .ref (a 0))] := by rw [show (nI ((fk_v T n a9 3).toNat)) = (iZ (dgv T n 0 6 (tk_s T n (dga T n 1 6 (dga T n 1 9 (tk_s T n a9 + 1))) + (if tk_h T n (dga T n 1 6 (dga T n 1 9 (tk_s T n a9 + 1))) = 45 then 1 else 0)))) from (by rw [← iZ_n]; exact congrArg iZ (by omega))]; exact hl
            refine lv_aload_n hx hb dX1_readFighter_84 rfl (lv_at hl 4 rfl) ?_
            refine ag_TD_X1_18_this X w.1 dX1_readFighter_85 ?_
            refine lv_iload_n hx hb dX1_readFighter_88 rfl (lv_at hl 3 rfl) ?_
            refine lv_iload_n hx hb dX1_readFighter_89 rfl (lv_at hl 2 rfl) ?_
            refine lv_iload_n hx hb dX1_readFighter_90 rfl (lv_at hl 1 rfl) ?_
            refine lv_iload hx hb dX1_readFighter_91 (lv_at hl 0 rfl) ?_
            refine gc_i (C := RX5) (ci := 4) (rest := []) (w := (fun q9 : RS => w5 G d q9)) (wr := [((a 0), .inr (1, [.ref (a 1), .int (z_68.1.1 1), .int (z_68.1.1 2), .ref (d 0)])), ((a 1), .inl (G.2.1, 100, .inl (z_68.1.2.1 0)))]) (wn := (fun u9 => wT1 G a d ((z_68.1, u9)).1 ++ w5 G d ((z_68.1, u9)).2)) X hml hl.1 (c5_addFighter l G d z_68.2 ((fk_v T n a9 0).toNat) ((fk_v T n a9 1).toNat) ((fk_v T n a9 2).toNat) ((fk_v T n a9 3).toNat) E (by rw [hd_68]; exact he) h5) ok5_addFighter wm_X1_84 ⟨Nat.le_of_ble_eq_true rfl, Nat.le_of_ble_eq_true rfl⟩ ⟨Nat.le_refl _, Nat.le_refl _⟩ w [2, 3, 4, 5, 6, 7, 8, 9] [0, 1] [0, 1, 2, 3, 4, 5, 6, 7, 8, 9] rfl (by decide) rfl (by decide) (by decide) (fun _ => rfl) (by decide) rfl rfl rfl (Nat.le_of_ble_eq_true rfl) dX1_readFighter_93 (fun r_93 u_93 H locs hr_93 w => ?_)
            obtain ⟨z_93, ez_93⟩ : ∃ q9 : RS × RS, q9 = (z_68.1, u_93) := ⟨_, rfl⟩
            have w : cW G A s (wT1 G a d z_93.1 ++ w5 G d z_93.2) H locs := by rw [ez_93]; exact w
            have eu_93_dr : z_93.2 = u_93 := by rw [ez_93]
            rw [← eu_93_dr] at hr_93
            have ek_93_this : z_93.1 = z_68.1 := by rw [ez_93]
            obtain ⟨hr_93, hc_93⟩ := hr_93
            subst hr_93
            have ek9 := ek_93_this
            refine lv_pop hx hb dX1_readFighter_96 rfl ?_
            refine lv_iconst (v := (nI 1)) hx hb dX1_readFighter_97 (by decide) ?_
            exact ce_iz (w := (fun q9 : RS × RS => wT1 G a d q9.1 ++ w5 G d q9.2)) (z := z_93) X hr hk w (by first | exact Or.inl rfl | exact Or.inr rfl) (⟨fun _ => ⟨rfl, hc_93⟩, fun g9 => absurd f9.1 g9, by rw [ek9, f9.2.1]; first | (rw [pa_68]; exact congrArg nI (by omega)) | (rw [pa_58]; exact congrArg nI (by omega)), by rw [ek9]; first | exact hf_68 | exact hf_58⟩) dX1_readFighter_98
          · skip
            refine lv_iconst (v := (nI 0)) hx hb dX1_readFighter_82 (by decide) ?_
            exact ce_iz (w := (fun q9 : RS × RS => wT1 G a d q9.1 ++ w5 G d q9.2)) (z := z_68) X hr hk w (by first | exact Or.inl rfl | exact Or.inr rfl) (by have f9 := fkE (T := T) (n := n) (a := a9) (b0 := tk_s T n a9 + 1) (b1 := dga T n 1 9 (tk_s T n a9 + 1)) (b2 := dga T n 1 6 (dga T n 1 9 (tk_s T n a9 + 1))) (b3 := tk_s T n (dga T n 1 6 (dga T n 1 9 (tk_s T n a9 + 1))) + (if tk_h T n (dga T n 1 6 (dga T n 1 9 (tk_s T n a9 + 1))) = 45 then 1 else 0)) (by omega) rfl (by omega) (by omega) (by omega) (by omega) (by omega) (by omega) (by omega); exact ⟨fun g9 => by exfalso; omega, fun _ => rfl, by rw [f9.2]; exact (by rw [pa_68]; exact congrArg nI (by omega)), hf_68⟩) dX1_readFighter_83
      · skip
        refine lv_iconst (v := (nI 0)) hx hb dX1_readFighter_53 (by decide) ?_
        exact ce_iz (w := (fun q9 : RS × RS => wT1 G a d q9.1 ++ w5 G d q9.2)) (z := z_45) X hr hk w (by first | exact Or.inl rfl | exact Or.inr rfl) (by have f9 := fkC (T := T) (n := n) (a := a9) (b0 := tk_s T n a9 + 1) (b1 := dga T n 1 9 (tk_s T n a9 + 1)) (by omega) rfl (by omega) (by omega) (by omega); exact ⟨fun g9 => by exfalso; omega, fun _ => rfl, by rw [f9.2]; exact (by rw [pa_45]; exact congrArg nI (by omega)), hf_45⟩) dX1_readFighter_54
    · skip
      refine lv_iconst (v := (nI 0)) hx hb dX1_readFighter_39 (by decide) ?_
      exact ce_iz (w := (fun q9 : RS × RS => wT1 G a d q9.1 ++ w5 G d q9.2)) (z := z_31) X hr hk w (by first | exact Or.inl rfl | exact Or.inr rfl) (by have f9 := fkB (T := T) (n := n) (a := a9) (b0 := tk_s T n a9 + 1) (by omega) rfl (by omega); exact ⟨fun g9 => by exfalso; omega, fun _ => rfl, by rw [f9.2]; exact (by rw [pa_31]; exact congrArg nI (by omega)), hf_31⟩) dX1_readFighter_40
  · skip
    refine lv_iconst (v := (nI 0)) hx hb dX1_readFighter_15 (by decide) ?_
    exact ce_iz (w := (fun q9 : RS × RS => wT1 G a d q9.1 ++ w5 G d q9.2)) (z := z_3) X hr hk w (by first | exact Or.inl rfl | exact Or.inr rfl) (by have f9 := fkA (T := T) (n := n) (a := a9) (by omega); exact ⟨fun g9 => by exfalso; omega, fun _ => rfl, by rw [f9.2]; exact pa_3, pf_3⟩) dX1_readFighter_16
