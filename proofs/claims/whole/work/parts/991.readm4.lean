theorem ok1_read : cOk RX1 yX1_read cX1_read 1 (some .boolean) 0 := ⟨wc_X1_read, wi_X1_read, ws_X1_read, wn_X1, rfl, by decide, by decide, by decide +kernel⟩
set_option maxHeartbeats 4000000 in
set_option maxRecDepth 100000 in
theorem c1_read (l : Launch) (G : CG) (a d : Nat → Nat) (z : RS × RS)  (n : Nat) (T : Nat → Nat) (ht : cTp z.1 n T) (k8 : Nat) (hk8 : z.2.1 8 = nI k8) : cTi G l yX1_read cX1_read 1 (some .boolean) 6 135 [.ref (a 0)] (fun q9 : RS × RS => wT1 G a d q9.1 ++ w5 G d q9.2) z (fun r z9 => (ps_W T n = 0 → r = nI 1 ∧ cSn z9.2 (gF (dE k8 (z.2.1 12)) T n (ps_K T n))) ∧ (¬ ps_W T n = 0 → r = nI 0) ∧ z9.1.1 2 = nI (ps_A T n) ∧ tkF z.1 z9.1) := by
  refine cTi_in (by decide) rfl (Nat.le_of_ble_eq_true rfl) ?_
  intro p e s m args below meth c A ls X hT hml hr hk hl w
  have hx := X.1
  have hb := X.2.1
  have hts := X.2.2.1
  have hown := X.2.2.2.1
  have hl : lv_has ls 1 [(0, .ref (a 0))] := hl
  have htT := ht.2.2.2
  have t1 := ht.2.1
  refine lv_aload_n hx hb dX1_read_0 rfl (lv_at hl 0 rfl) ?_
  refine lv_iconst (v := (nI 0)) hx hb dX1_read_1 (by decide) ?_
  refine ap_TD_X1_36_this X w dX1_read_2 (fun z_2 H locs ez_2 w => ?_)
  refine lv_aload_n hx hb dX1_read_5 rfl (lv_at hl 0 rfl) ?_
  refine ag_TD_X1_18_this X w.1 dX1_read_6 ?_
  refine gc_v (C := RX5) (ci := 4) (rest := []) (w := (fun q9 : RS => w5 G d q9)) (wr := [((a 0), .inr (1, [.ref (a 1), .int (z_2.1.1 1), .int (z_2.1.1 2), .ref (d 0)])), ((a 1), .inl (G.2.1, 100, .inl (z_2.1.2.1 0)))]) (wn := (fun u9 => wT1 G a d ((z_2.1, u9)).1 ++ w5 G d ((z_2.1, u9)).2)) X hml hl.1 (c5_clear l G d z_2.2) ok5_clear wm_X1_39 ⟨Nat.le_of_ble_eq_true rfl, Nat.le_of_ble_eq_true rfl⟩ ⟨Nat.le_refl _, Nat.le_refl _⟩ w [2, 3, 4, 5, 6, 7, 8, 9] [0, 1] [0, 1, 2, 3, 4, 5, 6, 7, 8, 9] rfl (by decide) rfl (by decide) (by decide) (fun _ => rfl) (by decide) rfl rfl rfl (Nat.le_of_ble_eq_true rfl) dX1_read_9 (fun u_9 H locs hr_9 w => ?_)
  obtain ⟨z_9, ez_9⟩ : ∃ q9 : RS × RS, q9 = (z_2.1, u_9) := ⟨_, rfl⟩
  have w : cW G A s (wT1 G a d z_9.1 ++ w5 G d z_9.2) H locs := by rw [ez_9]; exact w
  have eu_9_dr : z_9.2 = u_9 := by rw [ez_9]
  rw [← eu_9_dr] at hr_9
  have ek_9_this : z_9.1 = z_2.1 := by rw [ez_9]
  have hE : cSn z_9.2 (dE k8 (z.2.1 12)) := by rw [hr_9, ez_2]; exact dE_cn hk8
  have ha9 : z_9.1.1 2 = nI 0 := by rw [ek_9_this, ez_2]; rfl
  have hf_9 : tkF z.1 z_9.1 := by rw [ek_9_this, ez_2]; exact tkF_I _ _
  refine lv_aload_n hx hb dX1_read_12 rfl (lv_at hl 0 rfl) ?_
  refine gc_ti (C := RX1) (ci := 1) (rest := []) (w := (fun q9 : RS × RS => wT1 G a d q9.1 ++ w5 G d q9.2)) (wr := []) (wn := (fun q9 : RS × RS => wT1 G a d q9.1 ++ w5 G d q9.2)) hT X hml hl.1 (c1_readGround l G a d z_9 n T (cTp_F ht hf_9) ha9 (dE k8 (z.2.1 12)) hE rfl (fun _ => Nat.zero_le _)) ok1_readGround wm_X1_42 ⟨Nat.le_of_ble_eq_true rfl, Nat.le_of_ble_eq_true rfl⟩ ⟨Nat.le_refl _, Nat.le_refl _⟩ w [0, 1, 2, 3, 4, 5, 6, 7, 8, 9] [] [0, 1, 2, 3, 4, 5, 6, 7, 8, 9] rfl (by decide) rfl (by decide) (by decide) (fun _ => rfl) (by decide) rfl rfl rfl (Nat.le_of_ble_eq_true rfl) dX1_read_13 (fun r_13 z_13 H locs hr_13 w => ?_)
  have d_13 := i10 (tk_h T n 0 = 46)
  have h8 : r_13 = nI (if tk_h T n 0 = 46 then 1 else 0) := by by_cases g1 : tk_h T n 0 = 46; rw [if_pos g1]; exact (hr_13.1 g1).1; rw [if_neg g1]; exact (hr_13.2.1 g1).1
  refine tp_i h8 ?_
  have hf_13 := tkF_tr hf_9 hr_13.2.2
  refine n_if_ne (tgt := 21) hx hb dX1_read_16 (by decide) (by omega) (fun c_16_1 => ?_) (fun c_16_1 => ?_)
  · skip
    obtain ⟨g_13, b8, hb_13, hs_13, hl_13⟩ := (hr_13.1 (by omega)).2
    have hh8 := tk_hs hs_13
    have hi8 := tk_hid T n b8
    have hj8 := tk_le T n b8
    refine lv_aload_n hx hb dX1_read_21 rfl (lv_at hl 0 rfl) ?_
    refine gc_i (C := RX1) (ci := 1) (rest := []) (w := (fun q9 : RS => wT1 G a d q9)) (wr := [((d 0), .inr (4, [.int (z_13.2.1 0), .ref (d 2), .ref (d 3), .int (z_13.2.1 3), .ref (d 5), .ref (d 6), .ref (d 7), .ref (d 8), .int (z_13.2.1 8), .int (z_13.2.1 9), .int (z_13.2.1 10), .ref (d 12), .int (z_13.2.1 12)])), ((d 2), .inl (G.2.1, 40, .inl (z_13.2.2.1 1))), ((d 3), .inl (G.2.1, 40, .inl (z_13.2.2.1 2))), ((d 5), .inl (G.2.1, 5, .inl (z_13.2.2.1 4))), ((d 6), .inl (G.2.1, 5, .inl (z_13.2.2.1 5))), ((d 7), .inl (G.2.1, 5, .inl (z_13.2.2.1 6))), ((d 8), .inl (G.2.1, 5, .inl (z_13.2.2.1 7))), ((d 12), .inl (G.2.1, 5, .inl (z_13.2.2.1 11)))]) (wn := (fun u9 => wT1 G a d ((u9, z_13.2)).1 ++ w5 G d ((u9, z_13.2)).2)) X hml hl.1 (c1_peek l G a d z_13.1 n T (cTp_F ht hf_13) b8 hb_13 (by omega)) ok1_peek wm_X1_46 ⟨Nat.le_of_ble_eq_true rfl, Nat.le_of_ble_eq_true rfl⟩ ⟨Nat.le_refl _, Nat.le_refl _⟩ w [0, 1] [2, 3, 4, 5, 6, 7, 8, 9] [8, 9, 0, 1, 2, 3, 4, 5, 6, 7] rfl (by decide) rfl (by decide) (by decide) (fun _ => rfl) (by decide) rfl rfl rfl (Nat.le_of_ble_eq_true rfl) dX1_read_22 (fun r_22 u_22 H locs hr_22 w => ?_)
    obtain ⟨z_22, ez_22⟩ : ∃ q9 : RS × RS, q9 = (u_22, z_13.2) := ⟨_, rfl⟩
    have w : cW G A s (wT1 G a d z_22.1 ++ w5 G d z_22.2) H locs := by rw [ez_22]; exact w
    have eu_22_this : z_22.1 = u_22 := by rw [ez_22]
    rw [← eu_22_this] at hr_22
    have ek_22_dr : z_22.2 = z_13.2 := by rw [ez_22]
    obtain ⟨hr_22, pa_22, pf_22⟩ := hr_22
    subst hr_22
    have ph_22 := tk_h_le htT n b8
    refine n_if_eq (tgt := 44) hx hb dX1_read_25 (by decide) (by omega) (fun c_25_2 => ?_) (fun c_25_2 => ?_)
    · skip
      refine lv_iconst (v := (nI 1)) hx hb dX1_read_44 (by decide) ?_
      refine lv_goto (tgt := 49) hx hb dX1_read_45 (by decide) ?_
      exact ce_iz (w := (fun q9 : RS × RS => wT1 G a d q9.1 ++ w5 G d q9.2)) (z := z_22) X hr hk w (by first | exact Or.inl rfl | exact Or.inr rfl) (by have f9 := pw_b (T := T) (n := n) (by omega) (by omega); exact ⟨fun _ => ⟨rfl, by rw [f9.2.2, ek_22_dr]; exact g_13⟩, fun g9 => absurd f9.1 g9, by rw [f9.2.1, ← hs_13]; exact pa_22, tkF_tr hf_13 pf_22⟩) dX1_read_49
    · skip
      refine lv_aload_n hx hb dX1_read_28 rfl (lv_at hl 0 rfl) ?_
      refine lv_bipush (v := (nI 59)) hx hb dX1_read_29 (by decide) ?_
      refine gc_i (C := RX1) (ci := 1) (rest := []) (w := (fun q9 : RS => wT1 G a d q9)) (wr := [((d 0), .inr (4, [.int (z_22.2.1 0), .ref (d 2), .ref (d 3), .int (z_22.2.1 3), .ref (d 5), .ref (d 6), .ref (d 7), .ref (d 8), .int (z_22.2.1 8), .int (z_22.2.1 9), .int (z_22.2.1 10), .ref (d 12), .int (z_22.2.1 12)])), ((d 2), .inl (G.2.1, 40, .inl (z_22.2.2.1 1))), ((d 3), .inl (G.2.1, 40, .inl (z_22.2.2.1 2))), ((d 5), .inl (G.2.1, 5, .inl (z_22.2.2.1 4))), ((d 6), .inl (G.2.1, 5, .inl (z_22.2.2.1 5))), ((d 7), .inl (G.2.1, 5, .inl (z_22.2.2.1 6))), ((d 8), .inl (G.2.1, 5, .inl (z_22.2.2.1 7))), ((d 12), .inl (G.2.1, 5, .inl (z_22.2.2.1 11)))]) (wn := (fun u9 => wT1 G a d ((u9, z_22.2)).1 ++ w5 G d ((u9, z_22.2)).2)) X hml hl.1 (c1_take l G a d z_22.1 59 n T (cTp_F ht (tkF_tr hf_13 pf_22)) (tk_s T n b8) pa_22 (by omega) (by decide)) ok1_take wm_X1_50 ⟨Nat.le_of_ble_eq_true rfl, Nat.le_of_ble_eq_true rfl⟩ ⟨Nat.le_refl _, Nat.le_refl _⟩ w [0, 1] [2, 3, 4, 5, 6, 7, 8, 9] [8, 9, 0, 1, 2, 3, 4, 5, 6, 7] rfl (by decide) rfl (by decide) (by decide) (fun _ => rfl) (by decide) rfl rfl rfl (Nat.le_of_ble_eq_true rfl) dX1_read_31 (fun r_31 u_31 H locs hr_31 w => ?_)
      obtain ⟨z_31, ez_31⟩ : ∃ q9 : RS × RS, q9 = (u_31, z_22.2) := ⟨_, rfl⟩
      have w : cW G A s (wT1 G a d z_31.1 ++ w5 G d z_31.2) H locs := by rw [ez_31]; exact w
      have eu_31_this : z_31.1 = u_31 := by rw [ez_31]
      rw [← eu_31_this] at hr_31
      have ek_31_dr : z_31.2 = z_22.2 := by rw [ez_31]
      obtain ⟨hr_31, pa_31, pf_31⟩ := hr_31
      subst hr_31
      have d_31 := i10 (tk_h T n (tk_s T n b8) = 59)
      have hl_31 := tk_le T n (tk_s T n b8)
      refine n_if_eq (tgt := 48) hx hb dX1_read_34 (by decide) (by omega) (fun c_34_3 => ?_) (fun c_34_3 => ?_)
      · skip
        refine lv_iconst (v := (nI 0)) hx hb dX1_read_48 (by decide) ?_
        exact ce_iz (w := (fun q9 : RS × RS => wT1 G a d q9.1 ++ w5 G d q9.2)) (z := z_31) X hr hk w (by first | exact Or.inl rfl | exact Or.inr rfl) (by have f9 := pw_c (T := T) (n := n) (by omega) (by omega) (by omega); exact ⟨fun g9 => by exfalso; omega, fun _ => rfl, by rw [f9.2, pa_31, tk_id, ← hs_13]; exact congrArg nI (by omega), tkF_tr hf_13 (tkF_tr pf_22 pf_31)⟩) dX1_read_49
      · skip
        have hf_31 : tkF z.1 z_31.1 := tkF_tr hf_13 (tkF_tr pf_22 pf_31)
        have hp_31 : z_31.1.1 2 = nI (ps_0 T n) := by rw [pa_31, tk_id]; unfold ps_0; rw [← hs_13]; exact congrArg nI (by omega)
        have hg_31 : cSn z_31.2 (gF (dE k8 (z.2.1 12)) T n 0) := by rw [ek_31_dr, ek_22_dr]; exact g_13
        refine lv_aload_n hx hb dX1_read_37 rfl (lv_at hl 0 rfl) ?_
        refine gc_ti (C := RX1) (ci := 1) (rest := []) (w := (fun q9 : RS × RS => wT1 G a d q9.1 ++ w5 G d q9.2)) (wr := []) (wn := (fun q9 : RS × RS => wT1 G a d q9.1 ++ w5 G d q9.2)) hT X hml hl.1 (c1_readFighters l G a d z_31 n T (cTp_F ht hf_31) hp_31 (dE k8 (z.2.1 12)) hg_31 rfl) ok1_readFighters wm_X1_54 ⟨Nat.le_of_ble_eq_true rfl, Nat.le_of_ble_eq_true rfl⟩ ⟨Nat.le_refl _, Nat.le_refl _⟩ w [0, 1, 2, 3, 4, 5, 6, 7, 8, 9] [] [0, 1, 2, 3, 4, 5, 6, 7, 8, 9] rfl (by decide) rfl (by decide) (by decide) (fun _ => rfl) (by decide) rfl rfl rfl (Nat.le_of_ble_eq_true rfl) dX1_read_38 (fun r_38 z_38 H locs hr_38 w => ?_)
        obtain ⟨hr_38, pa_38, pg_38, pf_38⟩ := hr_38
        subst hr_38
        have pd := pw_d (T := T) (n := n) (by omega) (by omega)
        refine n_if_eq (tgt := 48) hx hb dX1_read_41 (by decide) (by omega) (fun c_41_4 => ?_) (fun c_41_4 => ?_)
        · skip
          refine lv_iconst (v := (nI 0)) hx hb dX1_read_48 (by decide) ?_
          exact ce_iz (w := (fun q9 : RS × RS => wT1 G a d q9.1 ++ w5 G d q9.2)) (z := z_38) X hr hk w (by first | exact Or.inl rfl | exact Or.inr rfl) (by have f9 := pd.2.1 (by omega); exact ⟨fun g9 => by exfalso; omega, fun _ => rfl, by rw [pd.2.2.2.1]; exact pa_38, tkF_tr hf_31 pf_38⟩) dX1_read_49
        · skip
          refine lv_iconst (v := (nI 1)) hx hb dX1_read_44 (by decide) ?_
          refine lv_goto (tgt := 49) hx hb dX1_read_45 (by decide) ?_
          exact ce_iz (w := (fun q9 : RS × RS => wT1 G a d q9.1 ++ w5 G d q9.2)) (z := z_38) X hr hk w (by first | exact Or.inl rfl | exact Or.inr rfl) (by have f9 := pd.1 (by omega); exact ⟨fun _ => ⟨rfl, by rw [pd.2.2.2.2]; exact pg_38 (by omega)⟩, fun g9 => absurd f9 g9, by rw [pd.2.2.2.1]; exact pa_38, tkF_tr hf_31 pf_38⟩) dX1_read_49
  · skip
    refine lv_iconst (v := (nI 0)) hx hb dX1_read_19 (by decide) ?_
    exact ce_iz (w := (fun q9 : RS × RS => wT1 G a d q9.1 ++ w5 G d q9.2)) (z := z_13) X hr hk w (by first | exact Or.inl rfl | exact Or.inr rfl) (by have f9 := pw_a (T := T) (n := n) (by omega); exact ⟨fun g9 => by exfalso; omega, fun _ => rfl, by rw [f9.2]; exact (hr_13.2.1 (by omega)).2, hf_13⟩) dX1_read_20
