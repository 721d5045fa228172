set_option maxHeartbeats 4000000 in
set_option maxRecDepth 100000 in
theorem k_reaches3 (l : Launch) (g : RG) (z : RS) (t : Int32) (S : Sc) (hz : rSc z S) (ho : oSc S) (htd : ¬ S.1 4 = 0) : rMv g l yX8_reaches cX8_reaches 2 none 5 113 [.int t] z (fun z' => rSc z' S ∧ rFr [] [5] z z') := by
  refine rMv_in (by decide) rfl (Nat.le_of_ble_eq_true rfl) ?_
  intro p e s m args below meth c A ls X hml hr hk hl w
  have hx := X.1
  have hb := X.2.1
  have hts := X.2.2.1
  have hown := X.2.2.2.1
  have hl : lv_has ls 2 [(0, .ref g.2.2.2.1), (1, .int t)] := hl
  obtain ⟨hz0, hz1, hz4, hm0, hm1, hm2, hso, hki, hsr, hpa, hhu, hco⟩ := id hz
  obtain ⟨o1, o2, o3, o4, o5, o6, oso, oki, osr, opa, ohu, oco⟩ := id ho
  refine lv_aload_n hx hb dX8_reaches_0 rfl (lv_at hl 0 rfl) ?_
  refine rc_p (rest := []) X hml hl.1 (k_turnS l g z S hz ho) ok_isTurned wm_X8_80 ⟨Nat.le_of_ble_eq_true rfl, Nat.le_of_ble_eq_true rfl⟩ ⟨Nat.le_refl _, Nat.le_refl _⟩ w.1 rfl (Nat.le_of_ble_eq_true rfl) dX8_reaches_1 (fun r_1 hr_1 => ?_)
  have h9 : r_1 = nI 1 := by rw [hr_1, td_y htd]
  subst h9
  refine n_if_ne (tgt := 53) hx hb dX8_reaches_4 (by decide) (by omega) (fun c_4_1 => ?_) (fun c_4_1 => ?_)
  · skip
    refine lv_aload_n hx hb dX8_reaches_53 rfl (lv_at hl 0 rfl) ?_
    refine rc_p (rest := []) X hml hl.1 (k_turnS l g z S hz ho) ok_isTurned wm_X8_80 ⟨Nat.le_of_ble_eq_true rfl, Nat.le_of_ble_eq_true rfl⟩ ⟨Nat.le_refl _, Nat.le_refl _⟩ w.1 rfl (Nat.le_of_ble_eq_true rfl) dX8_reaches_54 (fun r_54 hr_54 => ?_)
    have h9 : r_54 = nI 1 := by rw [hr_54, td_y htd]
    subst h9
    refine n_if_ne (tgt := 70) hx hb dX8_reaches_57 (by decide) (by omega) (fun c_57_2 => ?_) (fun c_57_2 => ?_)
    · skip
      exact re_v X hr hk w (⟨hz, rFr_rf _ _ _⟩) dX8_reaches_70
    · skip
      exact absurd c_57_2 (by decide)
  · skip
    exact absurd c_4_1 (by decide)

theorem k_rch (l : Launch) (g : RG) (z : RS) (t9 : Nat) (S : Sc) (hz : rSc z S) (ho : oSc S) (tg : Nat) (htg : z.1 6 = nI tg) (hg1 : tg ≤ 1) (ht : t9 ≤ 10000) (hmo : S.1 3 ≤ 10000) : rMv g l yX8_reaches cX8_reaches 2 none 5 113 [.int (nI t9)] z (fun z' => rSc z' (sp_rch S tg t9) ∧ rFr [] [5] z z') := by
  unfold sp_rch
  by_cases hnt : S.1 4 = 0
  · rw [if_pos hnt]
    exact k_reaches l g z t9 S hz ho tg htg hg1 hnt ht hmo
  · rw [if_neg hnt]
    exact k_reaches3 l g z (nI t9) S hz ho hnt

theorem ok_fields : rOk yX8_fields cX8_fields 6 (some .int) 2 := ⟨wc_X8_fields, wi_X8_fields, ws_X8_fields, rfl, by decide, by decide, by decide +kernel⟩
set_option maxHeartbeats 4000000 in
set_option maxRecDepth 100000 in
theorem k_fields (l : Launch) (g : RG) (z : RS) (xa9 : Int32) (xb9 : Int32) (S : Sc) (hz : rSc z S) (ho : oSc S) (htg : z.1 6 = nI 0) (hmo : S.1 3 ≤ 400) (hcm : ¬ S.1 4 = 0 → sp_cm420 S) : rMi g l yX8_fields cX8_fields 6 (some .int) 6 134 [.int xa9, .int xb9] z (fun r z' => r = an_flds S xa9 xb9 ∧ rSc z' (nx_flds S xa9 xb9) ∧ rFr [] [5, 17] z z') := by
  refine rMi_in (by decide) rfl (Nat.le_of_ble_eq_true rfl) ?_
  intro p e s m args below meth c A ls X hml hr hk hl w
  have hx := X.1
  have hb := X.2.1
  have hts := X.2.2.1
  have hown := X.2.2.2.1
  have hl : lv_has ls 6 [(0, .ref g.2.2.2.1), (1, .int xa9), (2, .int xb9)] := hl
  obtain ⟨hz0, hz1, hz4, hm0, hm1, hm2, hso, hki, hsr, hpa, hhu, hco⟩ := id hz
  obtain ⟨o1, o2, o3, o4, o5, o6, oso, oki, osr, opa, ohu, oco⟩ := id ho
  refine lv_iload_n hx hb dX8_fields_0 rfl (lv_at hl 1 rfl) ?_
  refine lv_i2l (v := xa9.toInt64) hx hb dX8_fields_1 rfl ?_
  refine lv_lconst (v := 0) hx hb dX8_fields_2 (by decide) ?_
  refine lv_ldc2 hx hb hown (hts _ wk_X8_134) dX8_fields_3 ?_
  refine rc_s (rest := []) ⟨X.1, X.2.1, X.2.2.1, X.2.2.2.1⟩ hml hl.1 (k_in l xa9.toInt64 0 400) ok_in wm_X8_69 ⟨Nat.le_of_ble_eq_true rfl, Nat.le_of_ble_eq_true rfl⟩ ⟨Nat.le_refl _, Nat.le_refl _⟩ rfl (Nat.le_of_ble_eq_true rfl) dX8_fields_6 (fun r_6 hr_6 => ?_)
  have h9 : r_6 = nI (pc_inI xa9.toInt (0) (400)) := by rw [hr_6]; exact congrArg nI (pc_in_I (in_toI _) (by decide) (by decide))
  subst h9
  have i_6 := pc_inI_ok xa9.toInt (0) (400)
  refine n_if_eq (tgt := 24) hx hb dX8_fields_9 (by decide) (by omega) (fun c_9_1 => ?_) (fun c_9_1 => ?_)
  · skip
    refine lv_iconst (v := (iZ (-1))) hx hb dX8_fields_24 (by decide) ?_
    exact re_i X hr hk w (⟨by unfold an_flds; rw [if_neg (by omega)], by unfold nx_flds; rw [if_neg (by omega)]; exact hz, rFr_rf _ _ _⟩) dX8_fields_25
  · skip
    refine lv_iload_n hx hb dX8_fields_12 rfl (lv_at hl 2 rfl) ?_
    refine lv_i2l (v := xb9.toInt64) hx hb dX8_fields_13 rfl ?_
    refine lv_lconst (v := 1) hx hb dX8_fields_14 (by decide) ?_
    refine lv_ldc2 hx hb hown (hts _ wk_X8_251) dX8_fields_15 ?_
    refine rc_s (rest := []) ⟨X.1, X.2.1, X.2.2.1, X.2.2.2.1⟩ hml hl.1 (k_in l xb9.toInt64 1 90) ok_in wm_X8_69 ⟨Nat.le_of_ble_eq_true rfl, Nat.le_of_ble_eq_true rfl⟩ ⟨Nat.le_refl _, Nat.le_refl _⟩ rfl (Nat.le_of_ble_eq_true rfl) dX8_fields_18 (fun r_18 hr_18 => ?_)
    have h9 : r_18 = nI (pc_inI xb9.toInt (1) (90)) := by rw [hr_18]; exact congrArg nI (pc_in_I (in_toI _) (by decide) (by decide))
    subst h9
    have i_18 := pc_inI_ok xb9.toInt (1) (90)
    refine n_if_ne (tgt := 26) hx hb dX8_fields_21 (by decide) (by omega) (fun c_21_2 => ?_) (fun c_21_2 => ?_)
    · skip
      refine lv_aload_n hx hb dX8_fields_26 rfl (lv_at hl 0 rfl) ?_
      refine rc_p (rest := []) X hml hl.1 (k_over l g z S hz ho) ok_over wm_X8_174 ⟨Nat.le_of_ble_eq_true rfl, Nat.le_of_ble_eq_true rfl⟩ ⟨Nat.le_refl _, Nat.le_refl _⟩ w.1 rfl (Nat.le_of_ble_eq_true rfl) dX8_fields_27 (fun r_27 hr_27 => ?_)
      subst hr_27
      have d_27 := sp_over_le S
      refine n_if_eq (tgt := 36) hx hb dX8_fields_30 (by decide) (by omega) (fun c_30_3 => ?_) (fun c_30_3 => ?_)
      · skip
        obtain ⟨ka9, hq_ka9, rfl⟩ := iv_n (x := xa9) (by omega)
        obtain ⟨kb9, hq_kb9, rfl⟩ := iv_n (x := xb9) (by omega)
        refine lv_aload_n hx hb dX8_fields_36 rfl (lv_at hl 0 rfl) ?_
        refine rc_v (rest := []) X hml hl.1 (k_asides l g z) ok_asides wm_X8_223 ⟨Nat.le_of_ble_eq_true rfl, Nat.le_of_ble_eq_true rfl⟩ ⟨Nat.le_refl _, Nat.le_refl _⟩ w rfl (Nat.le_of_ble_eq_true rfl) dX8_fields_37 (fun z_37 H locs hr_37 w => ?_)
        skip
        refine lv_iconst (v := (nI 0)) hx hb dX8_fields_40 (by decide) ?_
        refine lv_istore_n (lv' := [(3, .int (nI 0)), (0, .ref g.2.2.2.1), (1, .int (nI ka9)), (2, .int (nI kb9))]) hx hb dX8_fields_41 rfl hl (by decide) rfl (fun ls hl => ?_)
        refine lv_iconst (v := (nI 0)) hx hb dX8_fields_42 (by decide) ?_
        refine lv_istore (lv' := [(4, .int (nI 0)), (3, .int (nI 0)), (0, .ref g.2.2.2.1), (1, .int (nI ka9)), (2, .int (nI kb9))]) hx hb dX8_fields_43 hl (by decide) rfl (fun ls hl => ?_)
        have lp_45 : ∀ (n_45 : Nat) (i9a : Nat) (hi9a : i9a ≤ kb9) (hm_45 : kb9 - i9a < n_45) (ls : Array Slot) (zz : RS) (H : Heap) (locs : List Loc) (w : rW g A s zz H locs) (hS : rSc zz (sD S (sp_fds S ka9 i9a).2)) (ha9 : ∀ k, k < 13 → k ≠ 2 → zz.2.1 17 k = z.2.1 5 k) (hfz : rFr [] [5, 17] z zz), lv_has ls 6 [(0, .ref g.2.2.2.1), (1, .int (nI ka9)), (2, .int (nI kb9)), (3, .int (nI ((sp_fds S ka9 i9a).1))), (4, .int (nI i9a))] → W p l e (ro_m 6 134) s m args below meth c H locs 0 0 (MQ below (va_Qi (fun r z' => r = an_flds S (nI ka9) (nI kb9) ∧ rSc z' (nx_flds S (nI ka9) (nI kb9)) ∧ rFr [] [5, 17] z z') (rB g A) A) args s 0 0 A) (F0 m 45 ls []) := by
          intro n_45
          induction n_45 with
          | zero => intro i9a hi9a hm; exact absurd hm (Nat.not_lt_zero _)
          | succ n_45 ih_45 =>
            intro i9a hi9a hm_45 ls zz H locs w hS ha9 hfz hl
            refine lv_iload hx hb dX8_fields_45 (lv_at hl 4 rfl) ?_
            refine lv_iload_n hx hb dX8_fields_47 rfl (lv_at hl 2 rfl) ?_
            refine n_icmp_ge (tgt := 121) hx hb dX8_fields_48 (by decide) (by omega) (by omega) (fun c_48_4 => ?_) (fun c_48_4 => ?_)
            · skip
              refine lv_iload_n hx hb dX8_fields_121 rfl (lv_at hl 3 rfl) ?_
              exact re_i X hr hk w (by have e8 : i9a = kb9 := (by omega); subst e8; exact ⟨by unfold an_flds; rw [if_pos (by omega), if_pos (by omega), show (nI ka9).toInt.toNat = ka9 by omega, show (nI i9a).toInt.toNat = i9a by omega], by unfold nx_flds; rw [if_pos (by omega), show (nI ka9).toInt.toNat = ka9 by omega, show (nI i9a).toInt.toNat = i9a by omega]; exact hS, hfz⟩) dX8_fields_122
            · skip
              refine lv_aload_n hx hb dX8_fields_51 rfl (lv_at hl 0 rfl) ?_
              refine lv_iload_n hx hb dX8_fields_52 rfl (lv_at hl 1 rfl) ?_
              refine rc_v (rest := []) X hml hl.1 (k_rch l g zz ka9 (sD S (sp_fds S ka9 i9a).2) hS ho 0 ((hfz.1 6 (by decide)).trans htg) (by omega) (by omega) (show S.1 3 ≤ 10000 by omega)) ok_reaches wm_X8_214 ⟨Nat.le_of_ble_eq_true rfl, Nat.le_of_ble_eq_true rfl⟩ ⟨Nat.le_refl _, Nat.le_refl _⟩ w rfl (Nat.le_of_ble_eq_true rfl) dX8_fields_53 (fun z_53 H locs hr_53 w => ?_)
              have g53 := gdo_rch (S := sD S (sp_fds S ka9 i9a).2) ho hcm (t := ka9) (by omega) hmo
              have lp_56 : ∀ (n_56 : Nat) (T9 : Sc) (hT9 : gdo T9 ∧ sp_wr T9 = sp_wr (sp_rch (sD S (sp_fds S ka9 i9a).2) 0 ka9)) (hm_56 : sp_mu T9 < n_56) (ls : Array Slot) (zy : RS) (H : Heap) (locs : List Loc) (w : rW g A s zy H locs) (hY : rSc zy T9) (hfy : rFr [] [5] zz zy), lv_has ls 6 [(0, .ref g.2.2.2.1), (1, .int (nI ka9)), (2, .int (nI kb9)), (3, .int (nI ((sp_fds S ka9 i9a).1))), (4, .int (nI i9a))] → W p l e (ro_m 6 134) s m args below meth c H locs 0 0 (MQ below (va_Qi (fun r z' => r = an_flds S (nI ka9) (nI kb9) ∧ rSc z' (nx_flds S (nI ka9) (nI kb9)) ∧ rFr [] [5, 17] z z') (rB g A) A) args s 0 0 A) (F0 m 56 ls []) := by
                intro n_56
                induction n_56 with
                | zero => intro T9 hT9 hm; exact absurd hm (Nat.not_lt_zero _)
                | succ n_56 ih_56 =>
                  intro T9 hT9 hm_56 ls zy H locs w hY hfy hl
                  refine lv_aload_n hx hb dX8_fields_56 rfl (lv_at hl 0 rfl) ?_
                  refine rc_p (rest := []) X hml hl.1 (k_over l g zy T9 hY hT9.1.1) ok_over wm_X8_174 ⟨Nat.le_of_ble_eq_true rfl, Nat.le_of_ble_eq_true rfl⟩ ⟨Nat.le_refl _, Nat.le_refl _⟩ w.1 rfl (Nat.le_of_ble_eq_true rfl) dX8_fields_57 (fun r_57 hr_57 => ?_)
                  subst hr_57
                  have ov9 := sp_over_le T9
                  refine n_if_ne (tgt := 71) hx hb dX8_fields_60 (by decide) (by omega) (fun c_60_5 => ?_) (fun c_60_5 => ?_)
                  · skip
                    refine lv_iload_n hx hb dX8_fields_71 rfl (lv_at hl 3 rfl) ?_
                    refine lv_aload_n hx hb dX8_fields_72 rfl (lv_at hl 0 rfl) ?_
                    refine rc_p (rest := [.int (nI ((sp_fds S ka9 i9a).1))]) X hml hl.1 (k_over l g zy T9 hY hT9.1.1) ok_over wm_X8_174 ⟨Nat.le_of_ble_eq_true rfl, Nat.le_of_ble_eq_true rfl⟩ ⟨Nat.le_refl _, Nat.le_refl _⟩ w.1 rfl (Nat.le_of_ble_eq_true rfl) dX8_fields_73 (fun r_73 hr_73 => ?_)
                    subst hr_73
                    refine lv_iconst (v := (nI 1)) hx hb dX8_fields_76 (by decide) ?_
                    refine jn (tgt := 85) (rest := [.int (nI ((sp_fds S ka9 i9a).1))]) (fun v9 => ∃ x9 : Nat, x9 = (if (sp_over T9) = 1 then 1 else 0) ∧ v9 = nI x9) (fun v_ hv_ => ?_) (fun k_85 => ?_)
                    · obtain ⟨x_85, ex_85, rfl⟩ := hv_
                      refine n_iadd hx hb dX8_fields_85 ?_
                      refine lv_istore_n (lv' := [(3, .int (nI (((sp_fds S ka9 i9a).1) + x_85))), (0, .ref g.2.2.2.1), (1, .int (nI ka9)), (2, .int (nI kb9)), (4, .int (nI i9a))]) hx hb dX8_fields_86 rfl hl (by decide) rfl (fun ls hl => ?_)
                      refine lv_aload_n hx hb dX8_fields_87 rfl (lv_at hl 1 rfl) ?_
                      refine rg_5 X w.1 dX8_fields_88 ?_
                      refine lv_iconst (v := (nI 2)) hx hb dX8_fields_91 (by decide) ?_
                      refine rn_5 X w.1 (by omega) dX8_fields_92 ?_
                      refine tp_i (show zy.2.1 5 2 = T9.2.2 from (rs_dr hY :)) ?_
                      refine lv_istore (lv' := [(5, .int T9.2.2), (3, .int (nI (((sp_fds S ka9 i9a).1) + x_85))), (0, .ref g.2.2.2.1), (1, .int (nI ka9)), (2, .int (nI kb9)), (4, .int (nI i9a))]) hx hb dX8_fields_93 hl (by decide) rfl (fun ls hl => ?_)
                      refine lv_aload_n hx hb dX8_fields_95 rfl (lv_at hl 2 rfl) ?_
                      refine rc_v (rest := []) X hml hl.1 (k_backs l g zy) ok_backs wm_X8_229 ⟨Nat.le_of_ble_eq_true rfl, Nat.le_of_ble_eq_true rfl⟩ ⟨Nat.le_refl _, Nat.le_refl _⟩ w rfl (Nat.le_of_ble_eq_true rfl) dX8_fields_96 (fun z_96 H locs hr_96 w => ?_)
                      have f96 : rFr [] [5, 17] zz z_96 := rFr_tr (rFr_w hfy (fun _ q => q) (by simp)) (rFr_w hr_96.2 (fun _ q => q) (by simp))
                      have a96 : ∀ k, zy.2.1 17 k = zz.2.1 17 k := fun k => congrFun (hfy.2.1 17 (by decide)) k
                      have b96 : ∀ k, z_96.2.1 17 k = zz.2.1 17 k := fun k => (congrFun (hr_96.2.2.1 17 (by decide)) k).trans (a96 k)
                      refine lv_aload_n hx hb dX8_fields_99 rfl (lv_at hl 2 rfl) ?_
                      refine rg_5 X w.1 dX8_fields_100 ?_
                      refine lv_iconst (v := (nI 2)) hx hb dX8_fields_103 (by decide) ?_
                      refine lv_iload hx hb dX8_fields_104 (lv_at hl 0 rfl) ?_
                      refine ru_5 X w (by omega) dX8_fields_106 (fun z_106 H locs ez_106 w => ?_)
                      refine lv_aload_n hx hb dX8_fields_107 rfl (lv_at hl 2 rfl) ?_
                      refine rg_17 X w.1 dX8_fields_108 ?_
                      refine lv_iconst (v := (nI 2)) hx hb dX8_fields_111 (by decide) ?_
                      refine lv_iload hx hb dX8_fields_112 (lv_at hl 0 rfl) ?_
                      refine ru_17 X w (by omega) dX8_fields_114 (fun z_114 H locs ez_114 w => ?_)
                      refine lv_iinc (v := (nI (i9a + 1))) (lv' := [(4, .int (nI (i9a + 1))), (5, .int T9.2.2), (3, .int (nI (((sp_fds S ka9 i9a).1) + x_85))), (0, .ref g.2.2.2.1), (1, .int (nI ka9)), (2, .int (nI kb9))]) hx hb dX8_fields_115 hl (k := 5) rfl (by first | exact nI_1 _ | (rw [show Int32.ofInt 1 = nI 1 from by decide, nI_add])) (by decide) rfl (fun ls hl => ?_)
                      refine lv_goto (tgt := 45) hx hb dX8_fields_118 (by decide) ?_
                      have w9 : T9 = sp_wr (sp_rch (sD S (sp_fds S ka9 i9a).2) 0 ka9) := (wr_e (by assumption)).symm.trans hT9.2
                      have f9 : (sp_fds S ka9 i9a).1 + x_85 = (sp_fds S ka9 (i9a + 1)).1 := by rw [ex_85, w9]; rfl
                      have d9 : T9.2.2 = (sp_fds S ka9 (i9a + 1)).2 := by rw [w9]; rfl
                      rw [f9] at hl
                      exact ih_45 (i9a + 1) (by omega) (by omega) ls z_114 _ _ w (by rw [← d9, ez_114, ez_106]; exact fd_back hz (rFr_tr (rFr_tr (rFr_tr hfz f96) (rFr_A _ (by decide))) (rFr_A _ (by decide))) (fun k hk hk2 => (show upd (z_96.2.1 5) 2 T9.2.2 k = z.2.1 5 k from (if_neg hk2).trans ((hr_96.1 k hk).trans ((a96 k).trans (ha9 k hk hk2))))) rfl) (by rw [ez_114, ez_106]; intro k hk hk2; exact (show upd (z_96.2.1 17) 2 T9.2.2 k = z.2.1 5 k from (if_neg hk2).trans ((b96 k).trans (ha9 k hk hk2)))) (by rw [ez_114, ez_106]; exact rFr_tr (rFr_tr (rFr_tr hfz f96) (rFr_A _ (by decide))) (rFr_A _ (by decide))) (lv_sub hl [3, 4, 5, 2, 0] rfl)
                    · skip
                      refine n_icmp_ne (tgt := 84) hx hb dX8_fields_77 (by decide) (by omega) (by omega) (fun c_77_7 => ?_) (fun c_77_7 => ?_)
                      · skip
                        refine lv_iconst (v := (nI 0)) hx hb dX8_fields_84 (by decide) ?_
                        exact k_85 _ ⟨_, by simp only [if_neg c_77_7], rfl⟩
                      · skip
                        refine lv_iconst (v := (nI 1)) hx hb dX8_fields_80 (by decide) ?_
                        refine lv_goto (tgt := 85) hx hb dX8_fields_81 (by decide) ?_
                        exact k_85 _ ⟨_, by simp only [if_pos c_77_7], rfl⟩
                  · skip
                    refine lv_aload_n hx hb dX8_fields_63 rfl (lv_at hl 0 rfl) ?_
                    refine rc_i (rest := []) X hml hl.1 (k_fights l g zy T9 hY hT9.1.1 (by have q9 := hs_le hT9.1.1; have q8 := hT9.1.2.2; omega)) ok_fights wm_X8_192 ⟨Nat.le_of_ble_eq_true rfl, Nat.le_of_ble_eq_true rfl⟩ ⟨Nat.le_refl _, Nat.le_refl _⟩ w rfl (Nat.le_of_ble_eq_true rfl) dX8_fields_64 (fun r_64 z_64 H locs hr_64 w => ?_)
                    have mu9 := (fg_gdo hT9.1 (by assumption)).2
                    refine lv_pop hx hb dX8_fields_67 rfl ?_
                    refine lv_goto (tgt := 56) hx hb dX8_fields_68 (by decide) ?_
                    exact ih_56 (sp_fgS T9) ⟨(fg_gdo hT9.1 (by assumption)).1, (wr_s hT9.1 (by assumption)).trans hT9.2⟩ (by omega) ls z_64 _ _ w hr_64.2.1 (rFr_tr hfy hr_64.2.2) (lv_sub hl [0, 1, 2, 3, 4] rfl)
              exact lp_56 _ (sp_rch (sD S (sp_fds S ka9 i9a).2) 0 ka9) ⟨g53, rfl⟩ (Nat.lt_succ_self _) ls z_53 _ _ w hr_53.1 hr_53.2 (lv_sub hl [0, 1, 2, 3, 4] rfl)
        exact lp_45 _ 0 (Nat.zero_le _) (Nat.lt_succ_self _) ls z_37 _ _ w (rSc_fr (rFr_w (is' := []) (ks' := [17]) hr_37.2 (fun _ q => q) (fun _ q => q)) (by decide) (by decide) (by decide) (by decide) (by decide) (by decide) hz) (fun k hk _ => hr_37.1 k hk) (rFr_w hr_37.2 (fun _ q => q) (by simp)) (lv_sub hl [2, 3, 4, 1, 0] rfl)
      · skip
        refine lv_bipush (v := (iZ (-2))) hx hb dX8_fields_33 (by decide) ?_
        exact re_i X hr hk w (⟨by unfold an_flds; rw [if_pos (by omega), if_neg (by omega)], by unfold nx_flds; rw [if_neg (by omega)]; exact hz, rFr_rf _ _ _⟩) dX8_fields_35
    · skip
      refine lv_iconst (v := (iZ (-1))) hx hb dX8_fields_24 (by decide) ?_
      exact re_i X hr hk w (⟨by unfold an_flds; rw [if_neg (by omega)], by unfold nx_flds; rw [if_neg (by omega)]; exact hz, rFr_rf _ _ _⟩) dX8_fields_25
