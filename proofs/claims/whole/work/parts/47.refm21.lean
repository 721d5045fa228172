theorem rSc_fx {is ks js : List Nat} {z z' : RS} {S : Sc} (h : rFx is ks js z z') (h0 : 0 ∉ is) (h1 : 1 ∉ is) (h4 : 4 ∉ is) (a2 : 2 ∉ ks) (a3 : 3 ∉ ks) (a5 : 5 ∉ ks) (hz : rSc z S) : rSc z' S := by
  have e : rFr is ks z (z'.1, z'.2.1, z.2.2) := ⟨h.1, h.2.1, rfl⟩
  exact (show rSc (z'.1, z'.2.1, z.2.2) S from rSc_fr e h0 h1 h4 a2 a3 a5 hz)
theorem mv_s {zz : RS} {i : Nat} {G9 : Nat → Int64} {v : Int64} (h : ∀ q, q < i → zz.2.2 29 q = G9 q) (hv : v = G9 i) : ∀ q, q < i + 1 → (sL zz 29 i v).2.2 29 q = G9 q := by
  intro q hq
  show vp_updL (zz.2.2 29) i v q = G9 q
  unfold vp_updL
  by_cases e : q = i
  · rw [if_pos e, hv, e]
  · rw [if_neg e]
    exact h q (by omega)
theorem ok_film : rOk yX8_film cX8_film 7 (some .int) 4 := ⟨wc_X8_film, wi_X8_film, ws_X8_film, rfl, by decide, by decide, by decide +kernel⟩
set_option maxHeartbeats 4000000 in
set_option maxRecDepth 100000 in
theorem k_film (l : Launch) (g : RG) (z : RS) (xa9 : Int32) (xb9 : Int32) (xc9 : Int32) (xd9 : Int32) (S : Sc) (hz : rSc z S) (ho : oSc S) (htg : z.1 6 = nI 0) (hlt : ∃ U9, rLt z U9) (hmo : S.1 3 ≤ 400) (L N9 : Nat → Nat) (I9 : Nat → Nat → Int64) (hsh : rSh z L N9 I9) : rMi g l yX8_film cX8_film 7 (some .int) 8 179 [.int xa9, .int xb9, .int xc9, .int xd9] z (fun r z' => r = an_film S L N9 xa9 xb9 xc9 xd9 ∧ rSc z' S ∧ (∃ U9, rLt z' U9) ∧ rSh z' L N9 (ni_film S L N9 I9 xa9 xb9 xc9 xd9) ∧ rFx [22, 23] [5, 17, 18, 19, 20, 21] [28] z z') := by
  refine rMi_in (by decide) rfl (Nat.le_of_ble_eq_true rfl) ?_
  intro p e s m args below meth c A ls X hml hr hk hl w
  have hx := X.1
  have hb := X.2.1
  have hts := X.2.2.1
  have hown := X.2.2.2.1
  have hl : lv_has ls 7 [(0, .ref g.2.2.2.1), (1, .int xa9), (2, .int xb9), (3, .int xc9), (4, .int xd9)] := hl
  obtain ⟨hz0, hz1, hz4, hm0, hm1, hm2, hso, hki, hsr, hpa, hhu, hco⟩ := id hz
  obtain ⟨o1, o2, o3, o4, o5, o6, oso, oki, osr, opa, ohu, oco⟩ := id ho
  refine lv_iload_n hx hb dX8_film_0 rfl (lv_at hl 1 rfl) ?_
  refine lv_i2l (v := xa9.toInt64) hx hb dX8_film_1 rfl ?_
  refine lv_lconst (v := 1) hx hb dX8_film_2 (by decide) ?_
  refine lv_ldc2 hx hb hown (hts _ wk_X8_276) dX8_film_3 ?_
  refine rc_s (rest := []) ⟨X.1, X.2.1, X.2.2.1, X.2.2.2.1⟩ hml hl.1 (k_in l xa9.toInt64 1 24) ok_in wm_X8_69 ⟨Nat.le_of_ble_eq_true rfl, Nat.le_of_ble_eq_true rfl⟩ ⟨Nat.le_refl _, Nat.le_refl _⟩ rfl (Nat.le_of_ble_eq_true rfl) dX8_film_6 (fun r_6 hr_6 => ?_)
  have h9 : r_6 = nI (pc_inI xa9.toInt (1) (24)) := by rw [hr_6]; exact congrArg nI (pc_in_I (in_toI _) (by decide) (by decide))
  subst h9
  have i_6 := pc_inI_ok xa9.toInt (1) (24)
  refine n_if_eq (tgt := 26) hx hb dX8_film_9 (by decide) (by omega) (fun c_9_1 => ?_) (fun c_9_1 => ?_)
  · skip
    refine lv_iconst (v := (iZ (-1))) hx hb dX8_film_26 (by decide) ?_
    exact re_i X hr hk w (⟨by unfold an_film; rw [if_neg (by omega)], hz, hlt, by unfold ni_film; rw [if_neg (by omega)]; exact hsh, rFx_rf _ _ _ _⟩) dX8_film_27
  · skip
    refine lv_iload_n hx hb dX8_film_12 rfl (lv_at hl 2 rfl) ?_
    refine rc_s (rest := []) ⟨X.1, X.2.1, X.2.2.1, X.2.2.2.1⟩ hml hl.1 (k_isSheet l xb9) ok_isSheet wm_X8_264 ⟨Nat.le_of_ble_eq_true rfl, Nat.le_of_ble_eq_true rfl⟩ ⟨Nat.le_refl _, Nat.le_refl _⟩ rfl (Nat.le_of_ble_eq_true rfl) dX8_film_13 (fun r_13 hr_13 => ?_)
    subst hr_13
    have i_13 := pc_inI_ok xb9.toInt 0 3
    refine n_if_eq (tgt := 26) hx hb dX8_film_16 (by decide) (by omega) (fun c_16_2 => ?_) (fun c_16_2 => ?_)
    · skip
      refine lv_iconst (v := (iZ (-1))) hx hb dX8_film_26 (by decide) ?_
      exact re_i X hr hk w (⟨by unfold an_film; rw [if_neg (by omega)], hz, hlt, by unfold ni_film; rw [if_neg (by omega)]; exact hsh, rFx_rf _ _ _ _⟩) dX8_film_27
    · skip
      refine lv_iload_n hx hb dX8_film_19 rfl (lv_at hl 3 rfl) ?_
      refine rc_s (rest := []) ⟨X.1, X.2.1, X.2.2.1, X.2.2.2.1⟩ hml hl.1 (k_isLane l xc9) ok_isLane wm_X8_267 ⟨Nat.le_of_ble_eq_true rfl, Nat.le_of_ble_eq_true rfl⟩ ⟨Nat.le_refl _, Nat.le_refl _⟩ rfl (Nat.le_of_ble_eq_true rfl) dX8_film_20 (fun r_20 hr_20 => ?_)
      subst hr_20
      have i_20 := pc_inI_ok xc9.toInt 0 3
      refine n_if_ne (tgt := 28) hx hb dX8_film_23 (by decide) (by omega) (fun c_23_3 => ?_) (fun c_23_3 => ?_)
      · skip
        obtain ⟨ka9, hq_ka9, rfl⟩ := iv_n (x := xa9) (by omega)
        obtain ⟨kb9, hq_kb9, rfl⟩ := iv_n (x := xb9) (by omega)
        obtain ⟨kc9, hq_kc9, rfl⟩ := iv_n (x := xc9) (by omega)
        have q2 := (hsh kb9 (by omega)).2.2.2.1
        refine lv_aload_n hx hb dX8_film_28 rfl (lv_at hl 0 rfl) ?_
        refine rc_p (rest := []) X hml hl.1 (k_isOff l g z S hz ho) ok_isOff wm_X8_241 ⟨Nat.le_of_ble_eq_true rfl, Nat.le_of_ble_eq_true rfl⟩ ⟨Nat.le_refl _, Nat.le_refl _⟩ w.1 rfl (Nat.le_of_ble_eq_true rfl) dX8_film_29 (fun r_29 hr_29 => ?_)
        have h9 : r_29 = nI (pc_off S) := hr_29
        subst h9
        have f_29 := pc_off_ok S
        refine n_if_eq (tgt := 38) hx hb dX8_film_32 (by decide) (by omega) (fun c_32_4 => ?_) (fun c_32_4 => ?_)
        · skip
          refine lv_aload_n hx hb dX8_film_38 rfl (lv_at hl 0 rfl) ?_
          refine lv_iload_n hx hb dX8_film_39 rfl (lv_at hl 2 rfl) ?_
          refine lv_iload_n hx hb dX8_film_40 rfl (lv_at hl 3 rfl) ?_
          refine lv_iload hx hb dX8_film_41 (lv_at hl 4 rfl) ?_
          refine lv_iload_n hx hb dX8_film_43 rfl (lv_at hl 1 rfl) ?_
          refine rc_p (rest := []) X hml hl.1 (k_why l g z kb9 kc9 xd9 ka9 L N9 I9 hsh (by omega) (by omega) (by omega)) ok_why wm_X8_272 ⟨Nat.le_of_ble_eq_true rfl, Nat.le_of_ble_eq_true rfl⟩ ⟨Nat.le_refl _, Nat.le_refl _⟩ w.1 rfl (Nat.le_of_ble_eq_true rfl) dX8_film_44 (fun r_44 hr_44 => ?_)
          subst hr_44
          have y_44 := pw_why_ok L N9 kb9 kc9 xd9.toInt ka9
          refine lv_istore (lv' := [(5, .int (iZ (pw_why L N9 kb9 kc9 xd9.toInt ka9))), (0, .ref g.2.2.2.1), (1, .int (nI ka9)), (2, .int (nI kb9)), (3, .int (nI kc9)), (4, .int xd9)]) hx hb dX8_film_47 hl (by decide) rfl (fun ls hl => ?_)
          refine lv_iload hx hb dX8_film_49 (lv_at hl 0 rfl) ?_
          refine z_if_ge (tgt := 57) hx hb dX8_film_51 (by decide) (by omega) (by omega) (fun c_51_5 => ?_) (fun c_51_5 => ?_)
          · skip
            obtain ⟨kd9, hq_kd9, rfl⟩ := iv_n (x := xd9) (by omega)
            refine lv_aload_n hx hb dX8_film_57 rfl (lv_at hl 1 rfl) ?_
            refine rc_v (rest := []) X hml hl.1 (k_looks l g z S hz ho 0 htg (by omega) hlt (ov_0 (show sp_over S = 0 by omega)).2 (by omega) (show S.1 4 = 0 by omega)) ok_looks wm_X8_244 ⟨Nat.le_of_ble_eq_true rfl, Nat.le_of_ble_eq_true rfl⟩ ⟨Nat.le_refl _, Nat.le_refl _⟩ w rfl (Nat.le_of_ble_eq_true rfl) dX8_film_58 (fun z_58 H locs hr_58 w => ?_)
            skip
            refine lv_iconst (v := (nI 0)) hx hb dX8_film_61 (by decide) ?_
            refine lv_istore (lv' := [(6, .int (nI 0)), (5, .int (iZ (pw_why L N9 kb9 kc9 (nI kd9).toInt ka9))), (0, .ref g.2.2.2.1), (1, .int (nI ka9)), (2, .int (nI kb9)), (3, .int (nI kc9)), (4, .int (nI kd9))]) hx hb dX8_film_62 hl (by decide) rfl (fun ls hl => ?_)
            have lp_64 : ∀ (n_64 : Nat) (i9a : Nat) (hi9a : i9a ≤ ka9) (hm_64 : ka9 - i9a < n_64) (ls : Array Slot) (zz : RS) (H : Heap) (locs : List Loc) (w : rW g A s zz H locs) (hw9 : rSh zz L N9 (pw_put I9 kb9 kd9 i9a (fun q => pw_low (L kb9) (nI (sp_byv S 0 q)).toInt64))) (hfz : rFx [] [] [28] z_58 zz), lv_has ls 7 [(0, .ref g.2.2.2.1), (1, .int (nI ka9)), (2, .int (nI kb9)), (3, .int (nI kc9)), (4, .int (nI kd9)), (6, .int (nI i9a))] → W p l e (ro_m 8 179) s m args below meth c H locs 0 0 (MQ below (va_Qi (fun r z' => r = an_film S L N9 (nI ka9) (nI kb9) (nI kc9) (nI kd9) ∧ rSc z' S ∧ (∃ U9, rLt z' U9) ∧ rSh z' L N9 (ni_film S L N9 I9 (nI ka9) (nI kb9) (nI kc9) (nI kd9)) ∧ rFx [22, 23] [5, 17, 18, 19, 20, 21] [28] z z') (rB g A) A) args s 0 0 A) (F0 m 64 ls []) := by
              intro n_64
              induction n_64 with
              | zero => intro i9a hi9a hm; exact absurd hm (Nat.not_lt_zero _)
              | succ n_64 ih_64 =>
                intro i9a hi9a hm_64 ls zz H locs w hw9 hfz hl
                refine lv_iload hx hb dX8_film_64 (lv_at hl 5 rfl) ?_
                refine lv_iload_n hx hb dX8_film_66 rfl (lv_at hl 1 rfl) ?_
                refine n_icmp_ge (tgt := 94) hx hb dX8_film_67 (by decide) (by omega) (by omega) (fun c_67_6 => ?_) (fun c_67_6 => ?_)
                · skip
                  refine lv_iload_n hx hb dX8_film_94 rfl (lv_at hl 1 rfl) ?_
                  exact re_i X hr hk w (by have e8 : i9a = ka9 := (by omega); subst e8; exact ⟨by unfold an_film; rw [if_pos (by omega), if_pos (by omega), show (nI i9a).toInt.toNat = i9a by omega, show (nI kb9).toInt.toNat = kb9 by omega, show (nI kc9).toInt.toNat = kc9 by omega, if_neg (by omega)], rSc_fx hfz (by decide) (by decide) (by decide) (by decide) (by decide) (by decide) hr_58.1, (by obtain ⟨U9, hU⟩ := hr_58.2.1; exact ⟨U9, fun j hj => (congrFun (hfz.2.1 19 (by decide)) j).trans (hU.1 j hj), hU.2⟩), (by unfold ni_film; rw [show (nI i9a).toInt.toNat = i9a by omega, show (nI kb9).toInt.toNat = kb9 by omega, show (nI kc9).toInt.toNat = kc9 by omega, show (nI kd9).toInt.toNat = kd9 by omega, if_pos (by omega)]; exact hw9), rFx_tr (rFx_of hr_58.2.2.2.2.2.2 (fun _ q => q) (fun _ q => q)) (rFx_w hfz (by simp) (by simp) (fun _ q => q))⟩) dX8_film_95
                · skip
                  refine lv_aload_n hx hb dX8_film_70 rfl (lv_at hl 0 rfl) ?_
                  refine lv_iload_n hx hb dX8_film_71 rfl (lv_at hl 2 rfl) ?_
                  refine lv_iload hx hb dX8_film_72 (lv_at hl 4 rfl) ?_
                  refine lv_iload hx hb dX8_film_74 (lv_at hl 5 rfl) ?_
                  refine n_iadd hx hb dX8_film_76 ?_
                  refine lv_aload_n hx hb dX8_film_77 rfl (lv_at hl 0 rfl) ?_
                  refine rg_21 X w.1 dX8_film_78 ?_
                  refine lv_iload hx hb dX8_film_81 (lv_at hl 5 rfl) ?_
                  refine rn_21 X w.1 (by omega) dX8_film_83 ?_
                  refine tp_i (show zz.2.1 21 i9a = (nI (sp_byv S 0 i9a)) from (congrFun (hfz.2.1 21 (by decide)) _).trans (hr_58.2.2.2.2.2.1 i9a (by omega))) ?_
                  refine lv_i2l (v := (nI (sp_byv S 0 i9a)).toInt64) hx hb dX8_film_84 rfl ?_
                  refine rc_v (rest := []) X hml hl.1 (k_puts l g zz kb9 (kd9 + i9a) ((nI (sp_byv S 0 i9a)).toInt64) L N9 (pw_put I9 kb9 kd9 i9a (fun q => pw_low (L kb9) (nI (sp_byv S 0 q)).toInt64)) hw9 (by omega) (by omega)) ok_puts wm_X8_278 ⟨Nat.le_of_ble_eq_true rfl, Nat.le_of_ble_eq_true rfl⟩ ⟨Nat.le_refl _, Nat.le_refl _⟩ w rfl (Nat.le_of_ble_eq_true rfl) dX8_film_85 (fun z_85 H locs hr_85 w => ?_)
                  skip
                  refine lv_iinc (v := (nI (i9a + 1))) (lv' := [(6, .int (nI (i9a + 1))), (0, .ref g.2.2.2.1), (1, .int (nI ka9)), (2, .int (nI kb9)), (3, .int (nI kc9)), (4, .int (nI kd9))]) hx hb dX8_film_88 hl (k := 5) rfl (by first | exact nI_1 _ | (rw [show Int32.ofInt 1 = nI 1 from by decide, nI_add])) (by decide) rfl (fun ls hl => ?_)
                  refine lv_goto (tgt := 64) hx hb dX8_film_91 (by decide) ?_
                  exact ih_64 (i9a + 1) (by omega) (by omega) ls z_85 _ _ w (pp_s hr_85.1 rfl) (rFx_tr hfz hr_85.2) (lv_sub hl [1, 2, 3, 4, 5, 0] rfl)
            exact lp_64 _ 0 (Nat.zero_le _) (Nat.lt_succ_self _) ls z_58 _ _ w (pp_0 (sh_fr hr_58.2.2.2.2.2.2 (by decide) (by decide) hsh) _ _ _) (rFx_rf _ _ _ _) (lv_sub hl [2, 3, 4, 5, 6, 0] rfl)
          · skip
            refine lv_iload hx hb dX8_film_54 (lv_at hl 0 rfl) ?_
            exact re_i X hr hk w (⟨by unfold an_film; rw [if_pos (by omega), if_pos (by omega), show (nI ka9).toInt.toNat = ka9 by omega, show (nI kb9).toInt.toNat = kb9 by omega, show (nI kc9).toInt.toNat = kc9 by omega, if_pos (by omega)], hz, hlt, by unfold ni_film; rw [show (nI ka9).toInt.toNat = ka9 by omega, show (nI kb9).toInt.toNat = kb9 by omega, show (nI kc9).toInt.toNat = kc9 by omega, if_neg (by omega)]; exact hsh, rFx_rf _ _ _ _⟩) dX8_film_56
        · skip
          refine lv_bipush (v := (iZ (-2))) hx hb dX8_film_35 (by decide) ?_
          exact re_i X hr hk w (⟨by unfold an_film; rw [if_pos (by omega), if_neg (by omega)], hz, hlt, by unfold ni_film; rw [if_neg (by omega)]; exact hsh, rFx_rf _ _ _ _⟩) dX8_film_37
      · skip
        refine lv_iconst (v := (iZ (-1))) hx hb dX8_film_26 (by decide) ?_
        exact re_i X hr hk w (⟨by unfold an_film; rw [if_neg (by omega)], hz, hlt, by unfold ni_film; rw [if_neg (by omega)]; exact hsh, rFx_rf _ _ _ _⟩) dX8_film_27

theorem ok_copy : rOk yX8_copy cX8_copy 7 (some .int) 5 := ⟨wc_X8_copy, wi_X8_copy, ws_X8_copy, rfl, by decide, by decide, by decide +kernel⟩
set_option maxHeartbeats 4000000 in
set_option maxRecDepth 100000 in
theorem k_copy (l : Launch) (g : RG) (z : RS) (xa9 : Int32) (xb9 : Int32) (xc9 : Int32) (xd9 : Int32) (xe9 : Int32) (L N9 : Nat → Nat) (I9 : Nat → Nat → Int64) (hsh : rSh z L N9 I9) : rMi g l yX8_copy cX8_copy 7 (some .int) 2 45 [.int xa9, .int xb9, .int xc9, .int xd9, .int xe9] z (fun r z' => r = an_copy L N9 xa9 xb9 xc9 xd9 xe9 ∧ rSh z' L N9 (ni_copy L N9 I9 xa9 xb9 xc9 xd9 xe9) ∧ rFx [] [] [28, 29] z z') := by
  refine rMi_in (by decide) rfl (Nat.le_of_ble_eq_true rfl) ?_
  intro p e s m args below meth c A ls X hml hr hk hl w
  have hx := X.1
  have hb := X.2.1
  have hts := X.2.2.1
  have hown := X.2.2.2.1
  have hl : lv_has ls 7 [(0, .ref g.2.2.2.1), (1, .int xa9), (2, .int xb9), (3, .int xc9), (4, .int xd9), (5, .int xe9)] := hl
  refine lv_iload_n hx hb dX8_copy_0 rfl (lv_at hl 1 rfl) ?_
  refine rc_s (rest := []) ⟨X.1, X.2.1, X.2.2.1, X.2.2.2.1⟩ hml hl.1 (k_isSheet l xa9) ok_isSheet wm_X8_264 ⟨Nat.le_of_ble_eq_true rfl, Nat.le_of_ble_eq_true rfl⟩ ⟨Nat.le_refl _, Nat.le_refl _⟩ rfl (Nat.le_of_ble_eq_true rfl) dX8_copy_1 (fun r_1 hr_1 => ?_)
  subst hr_1
  have i_1 := pc_inI_ok xa9.toInt 0 3
  refine n_if_eq (tgt := 14) hx hb dX8_copy_4 (by decide) (by omega) (fun c_4_1 => ?_) (fun c_4_1 => ?_)
  · skip
    refine lv_iconst (v := (iZ (-1))) hx hb dX8_copy_14 (by decide) ?_
    exact re_i X hr hk w (⟨by unfold an_copy; rw [if_neg (by omega)], by unfold ni_copy; rw [if_neg (by omega)]; exact hsh, rFx_rf _ _ _ _⟩) dX8_copy_15
  · skip
    refine lv_iload_n hx hb dX8_copy_7 rfl (lv_at hl 3 rfl) ?_
    refine rc_s (rest := []) ⟨X.1, X.2.1, X.2.2.1, X.2.2.2.1⟩ hml hl.1 (k_isSheet l xc9) ok_isSheet wm_X8_264 ⟨Nat.le_of_ble_eq_true rfl, Nat.le_of_ble_eq_true rfl⟩ ⟨Nat.le_refl _, Nat.le_refl _⟩ rfl (Nat.le_of_ble_eq_true rfl) dX8_copy_8 (fun r_8 hr_8 => ?_)
    subst hr_8
    have i_8 := pc_inI_ok xc9.toInt 0 3
    refine n_if_ne (tgt := 16) hx hb dX8_copy_11 (by decide) (by omega) (fun c_11_2 => ?_) (fun c_11_2 => ?_)
    · skip
      obtain ⟨ka9, hq_ka9, rfl⟩ := iv_n (x := xa9) (by omega)
      obtain ⟨kc9, hq_kc9, rfl⟩ := iv_n (x := xc9) (by omega)
      have q1 := hsh ka9 (by omega)
      have q2 := hsh kc9 (by omega)
      obtain ⟨_, _, q3, q4, q5⟩ := q1
      obtain ⟨_, _, q6, q7, q8⟩ := q2
      refine lv_aload_n hx hb dX8_copy_16 rfl (lv_at hl 0 rfl) ?_
      refine rg_26 X w.1 dX8_copy_17 ?_
      refine lv_iload_n hx hb dX8_copy_20 rfl (lv_at hl 1 rfl) ?_
      refine rn_26 X w.1 (by omega) dX8_copy_21 ?_
      refine tp_i (show z.2.1 26 ka9 = (iZ (((L ka9 : Nat) : Int) - (1 : Int))) from (hsh ka9 (by omega)).1) ?_
      refine z_if_lt (tgt := 34) hx hb dX8_copy_22 (by decide) (by omega) (by omega) (fun c_22_3 => ?_) (fun c_22_3 => ?_)
      · skip
        refine lv_bipush (v := (iZ (-11))) hx hb dX8_copy_34 (by decide) ?_
        exact re_i X hr hk w (⟨by unfold an_copy; rw [if_pos (by omega), show (nI ka9).toInt.toNat = ka9 by omega, show (nI kc9).toInt.toNat = kc9 by omega, if_pos (by omega)], by unfold ni_copy; rw [show (nI ka9).toInt.toNat = ka9 by omega, show (nI kc9).toInt.toNat = kc9 by omega, if_neg (by omega)]; exact hsh, rFx_rf _ _ _ _⟩) dX8_copy_36
      · skip
        refine lv_aload_n hx hb dX8_copy_25 rfl (lv_at hl 0 rfl) ?_
        refine rg_26 X w.1 dX8_copy_26 ?_
        refine lv_iload_n hx hb dX8_copy_29 rfl (lv_at hl 3 rfl) ?_
        refine rn_26 X w.1 (by omega) dX8_copy_30 ?_
        refine tp_i (show z.2.1 26 kc9 = (iZ (((L kc9 : Nat) : Int) - (1 : Int))) from (hsh kc9 (by omega)).1) ?_
        refine z_if_ge (tgt := 37) hx hb dX8_copy_31 (by decide) (by omega) (by omega) (fun c_31_4 => ?_) (fun c_31_4 => ?_)
        · skip
          refine lv_aload_n hx hb dX8_copy_37 rfl (lv_at hl 0 rfl) ?_
          refine rg_26 X w.1 dX8_copy_38 ?_
          refine lv_iload_n hx hb dX8_copy_41 rfl (lv_at hl 1 rfl) ?_
          refine rn_26 X w.1 (by omega) dX8_copy_42 ?_
          refine tp_i (show z.2.1 26 ka9 = (iZ (((L ka9 : Nat) : Int) - (1 : Int))) from (hsh ka9 (by omega)).1) ?_
          refine lv_aload_n hx hb dX8_copy_43 rfl (lv_at hl 0 rfl) ?_
          refine rg_26 X w.1 dX8_copy_44 ?_
          refine lv_iload_n hx hb dX8_copy_47 rfl (lv_at hl 3 rfl) ?_
          refine rn_26 X w.1 (by omega) dX8_copy_48 ?_
          refine tp_i (show z.2.1 26 kc9 = (iZ (((L kc9 : Nat) : Int) - (1 : Int))) from (hsh kc9 (by omega)).1) ?_
          refine z_icmp_eq (tgt := 55) hx hb dX8_copy_49 (by decide) (by omega) (by omega) (by omega) (by omega) (fun c_49_5 => ?_) (fun c_49_5 => ?_)
          · skip
            refine lv_iload hx hb dX8_copy_55 (lv_at hl 5 rfl) ?_
            refine lv_if_lt (tgt := 95) hx hb dX8_copy_57 (by decide) (fun c_57_6 => ?_) (fun c_57_6 => ?_)
            · skip
              have q57 := i_lt0.mp (by assumption : xe9 < 0)
              refine lv_bipush (v := (iZ (-13))) hx hb dX8_copy_95 (by decide) ?_
              exact re_i X hr hk w (⟨by unfold an_copy; rw [if_pos (by omega), show (nI ka9).toInt.toNat = ka9 by omega, show (nI kc9).toInt.toNat = kc9 by omega, if_neg (by omega), if_pos (by omega), if_neg (by omega)], by unfold ni_copy; rw [show (nI ka9).toInt.toNat = ka9 by omega, show (nI kc9).toInt.toNat = kc9 by omega, if_neg (by omega)]; exact hsh, rFx_rf _ _ _ _⟩) dX8_copy_97
            · skip
              have q57 := mt i_lt0.mpr (by assumption : ¬ xe9 < 0)
              have q58 : xe9.toInt < 2147483648 := Int32.toInt_lt xe9
              obtain ⟨ke9, hq_ke9, rfl⟩ := iv_n (x := xe9) (by omega)
              refine lv_aload_n hx hb dX8_copy_60 rfl (lv_at hl 0 rfl) ?_
              refine lv_iload_n hx hb dX8_copy_61 rfl (lv_at hl 1 rfl) ?_
              refine lv_aload_n hx hb dX8_copy_62 rfl (lv_at hl 0 rfl) ?_
              refine rg_26 X w.1 dX8_copy_63 ?_
              refine lv_iload_n hx hb dX8_copy_66 rfl (lv_at hl 1 rfl) ?_
              refine rn_26 X w.1 (by omega) dX8_copy_67 ?_
              refine tp_i (show z.2.1 26 ka9 = (iZ (((L ka9 : Nat) : Int) - (1 : Int))) from (hsh ka9 (by omega)).1) ?_
              refine tp_i (by rw [← iZ_n]; exact congrArg iZ (by omega) : (iZ (((L ka9 : Nat) : Int) - (1 : Int))) = (nI (L ka9 - 1))) ?_
              refine lv_iload_n hx hb dX8_copy_68 rfl (lv_at hl 2 rfl) ?_
              refine lv_iload hx hb dX8_copy_69 (lv_at hl 5 rfl) ?_
              refine rc_p (rest := []) X hml hl.1 (k_why l g z ka9 (L ka9 - 1) xb9 ke9 L N9 I9 hsh (by omega) (by omega) (by omega)) ok_why wm_X8_272 ⟨Nat.le_of_ble_eq_true rfl, Nat.le_of_ble_eq_true rfl⟩ ⟨Nat.le_refl _, Nat.le_refl _⟩ w.1 rfl (Nat.le_of_ble_eq_true rfl) dX8_copy_71 (fun r_71 hr_71 => ?_)
              subst hr_71
              have y_71 := pw_why_ok L N9 ka9 (L ka9 - 1) xb9.toInt ke9
              refine z_if_lt (tgt := 95) hx hb dX8_copy_74 (by decide) (by omega) (by omega) (fun c_74_7 => ?_) (fun c_74_7 => ?_)
              · skip
                refine lv_bipush (v := (iZ (-13))) hx hb dX8_copy_95 (by decide) ?_
                exact re_i X hr hk w (⟨by unfold an_copy; rw [if_pos (by omega), show (nI ka9).toInt.toNat = ka9 by omega, show (nI kc9).toInt.toNat = kc9 by omega, if_neg (by omega), if_pos (by omega), if_neg (by omega)], by unfold ni_copy; rw [show (nI ka9).toInt.toNat = ka9 by omega, show (nI kc9).toInt.toNat = kc9 by omega, if_neg (by omega)]; exact hsh, rFx_rf _ _ _ _⟩) dX8_copy_97
              · skip
                refine lv_aload_n hx hb dX8_copy_77 rfl (lv_at hl 0 rfl) ?_
                refine lv_iload_n hx hb dX8_copy_78 rfl (lv_at hl 3 rfl) ?_
                refine lv_aload_n hx hb dX8_copy_79 rfl (lv_at hl 0 rfl) ?_
                refine rg_26 X w.1 dX8_copy_80 ?_
                refine lv_iload_n hx hb dX8_copy_83 rfl (lv_at hl 3 rfl) ?_
                refine rn_26 X w.1 (by omega) dX8_copy_84 ?_
                refine tp_i (show z.2.1 26 kc9 = (iZ (((L kc9 : Nat) : Int) - (1 : Int))) from (hsh kc9 (by omega)).1) ?_
                refine tp_i (by rw [← iZ_n]; exact congrArg iZ (by omega) : (iZ (((L kc9 : Nat) : Int) - (1 : Int))) = (nI (L kc9 - 1))) ?_
                refine lv_iload hx hb dX8_copy_85 (lv_at hl 4 rfl) ?_
                refine lv_iload hx hb dX8_copy_87 (lv_at hl 5 rfl) ?_
                refine rc_p (rest := []) X hml hl.1 (k_why l g z kc9 (L kc9 - 1) xd9 ke9 L N9 I9 hsh (by omega) (by omega) (by omega)) ok_why wm_X8_272 ⟨Nat.le_of_ble_eq_true rfl, Nat.le_of_ble_eq_true rfl⟩ ⟨Nat.le_refl _, Nat.le_refl _⟩ w.1 rfl (Nat.le_of_ble_eq_true rfl) dX8_copy_89 (fun r_89 hr_89 => ?_)
                subst hr_89
                have y_89 := pw_why_ok L N9 kc9 (L kc9 - 1) xd9.toInt ke9
                refine z_if_ge (tgt := 98) hx hb dX8_copy_92 (by decide) (by omega) (by omega) (fun c_92_8 => ?_) (fun c_92_8 => ?_)
                · skip
                  obtain ⟨kb9, hq_kb9, rfl⟩ := iv_n (x := xb9) (by omega)
                  obtain ⟨kd9, hq_kd9, rfl⟩ := iv_n (x := xd9) (by omega)
                  refine lv_iconst (v := (nI 0)) hx hb dX8_copy_98 (by decide) ?_
                  refine lv_istore (lv' := [(6, .int (nI 0)), (0, .ref g.2.2.2.1), (1, .int (nI ka9)), (2, .int (nI kb9)), (3, .int (nI kc9)), (4, .int (nI kd9)), (5, .int (nI ke9))]) hx hb dX8_copy_99 hl (by decide) rfl (fun ls hl => ?_)
                  have lp_101 : ∀ (n_101 : Nat) (i9a : Nat) (hi9a : i9a ≤ ke9) (hm_101 : ke9 - i9a < n_101) (ls : Array Slot) (zz : RS) (H : Heap) (locs : List Loc) (w : rW g A s zz H locs) (hm9 : ∀ q, q < i9a → zz.2.2 29 q = I9 ka9 (kb9 + q)) (hfz : rFx [] [] [28, 29] z zz) (hsz : rSh zz L N9 I9), lv_has ls 7 [(0, .ref g.2.2.2.1), (1, .int (nI ka9)), (2, .int (nI kb9)), (3, .int (nI kc9)), (4, .int (nI kd9)), (5, .int (nI ke9)), (6, .int (nI i9a))] → W p l e (ro_m 2 45) s m args below meth c H locs 0 0 (MQ below (va_Qi (fun r z' => r = an_copy L N9 (nI ka9) (nI kb9) (nI kc9) (nI kd9) (nI ke9) ∧ rSh z' L N9 (ni_copy L N9 I9 (nI ka9) (nI kb9) (nI kc9) (nI kd9) (nI ke9)) ∧ rFx [] [] [28, 29] z z') (rB g A) A) args s 0 0 A) (F0 m 101 ls []) := by
                    intro n_101
                    induction n_101 with
                    | zero => intro i9a hi9a hm; exact absurd hm (Nat.not_lt_zero _)
                    | succ n_101 ih_101 =>
                      intro i9a hi9a hm_101 ls zz H locs w hm9 hfz hsz hl
                      refine lv_iload hx hb dX8_copy_101 (lv_at hl 6 rfl) ?_
                      refine lv_iload hx hb dX8_copy_103 (lv_at hl 5 rfl) ?_
                      refine n_icmp_ge (tgt := 135) hx hb dX8_copy_105 (by decide) (by omega) (by omega) (fun c_105_9 => ?_) (fun c_105_9 => ?_)
                      · skip
                        refine lv_iconst (v := (nI 0)) hx hb dX8_copy_135 (by decide) ?_
                        refine lv_istore (lv' := [(6, .int (nI 0)), (0, .ref g.2.2.2.1), (1, .int (nI ka9)), (2, .int (nI kb9)), (3, .int (nI kc9)), (4, .int (nI kd9)), (5, .int (nI ke9))]) hx hb dX8_copy_136 hl (by decide) rfl (fun ls hl => ?_)
                        have lp_138 : ∀ (n_138 : Nat) (i9b : Nat) (hi9b : i9b ≤ ke9) (hm_138 : ke9 - i9b < n_138) (ls : Array Slot) (zy : RS) (H : Heap) (locs : List Loc) (w : rW g A s zy H locs) (hn9 : ∀ q, q < ke9 → zy.2.2 29 q = I9 ka9 (kb9 + q)) (hfy : rFx [] [] [28, 29] z zy) (hw9 : rSh zy L N9 (pw_put I9 kc9 kd9 i9b (fun q => I9 ka9 (kb9 + q)))), lv_has ls 7 [(0, .ref g.2.2.2.1), (1, .int (nI ka9)), (2, .int (nI kb9)), (3, .int (nI kc9)), (4, .int (nI kd9)), (5, .int (nI ke9)), (6, .int (nI i9b))] → W p l e (ro_m 2 45) s m args below meth c H locs 0 0 (MQ below (va_Qi (fun r z' => r = an_copy L N9 (nI ka9) (nI kb9) (nI kc9) (nI kd9) (nI ke9) ∧ rSh z' L N9 (ni_copy L N9 I9 (nI ka9) (nI kb9) (nI kc9) (nI kd9) (nI ke9)) ∧ rFx [] [] [28, 29] z z') (rB g A) A) args s 0 0 A) (F0 m 138 ls []) := by
                          intro n_138
                          induction n_138 with
                          | zero => intro i9b hi9b hm; exact absurd hm (Nat.not_lt_zero _)
                          | succ n_138 ih_138 =>
                            intro i9b hi9b hm_138 ls zy H locs w hn9 hfy hw9 hl
                            refine lv_iload hx hb dX8_copy_138 (lv_at hl 6 rfl) ?_
                            refine lv_iload hx hb dX8_copy_140 (lv_at hl 5 rfl) ?_
                            refine n_icmp_ge (tgt := 173) hx hb dX8_copy_142 (by decide) (by omega) (by omega) (fun c_142_10 => ?_) (fun c_142_10 => ?_)
                            · skip
                              refine lv_iload hx hb dX8_copy_173 (lv_at hl 5 rfl) ?_
                              exact re_i X hr hk w (by have e8 : i9b = ke9 := (by omega); subst e8; exact ⟨by unfold an_copy; rw [if_pos (by omega), show (nI ka9).toInt.toNat = ka9 by omega, show (nI kc9).toInt.toNat = kc9 by omega, if_neg (by omega), if_pos (by omega), if_pos (by omega)], by unfold ni_copy; rw [show (nI ka9).toInt.toNat = ka9 by omega, show (nI kc9).toInt.toNat = kc9 by omega, show (nI kb9).toInt.toNat = kb9 by omega, show (nI kd9).toInt.toNat = kd9 by omega, show (nI i9b).toInt.toNat = i9b by omega, if_pos (by omega)]; exact hw9, hfy⟩) dX8_copy_175
                            · skip
                              refine lv_aload_n hx hb dX8_copy_145 rfl (lv_at hl 0 rfl) ?_
                              refine rg_28 X w.1 dX8_copy_146 ?_
                              refine lv_bipush (v := (nI 24)) hx hb dX8_copy_149 (by decide) ?_
                              refine lv_iload_n hx hb dX8_copy_151 rfl (lv_at hl 3 rfl) ?_
                              refine n_imul hx hb dX8_copy_152 ?_
                              refine lv_iload hx hb dX8_copy_153 (lv_at hl 4 rfl) ?_
                              refine n_iadd hx hb dX8_copy_155 ?_
                              refine lv_iload hx hb dX8_copy_156 (lv_at hl 6 rfl) ?_
                              refine n_iadd hx hb dX8_copy_158 ?_
                              refine lv_aload_n hx hb dX8_copy_159 rfl (lv_at hl 0 rfl) ?_
                              refine rg_29 X w.1 dX8_copy_160 ?_
                              refine lv_iload hx hb dX8_copy_163 (lv_at hl 6 rfl) ?_
                              refine rn_29 X w.1 (by omega) dX8_copy_165 ?_
                              refine ru_28 X w (by omega) dX8_copy_166 (fun z_166 H locs ez_166 w => ?_)
                              refine lv_iinc (v := (nI (i9b + 1))) (lv' := [(6, .int (nI (i9b + 1))), (0, .ref g.2.2.2.1), (1, .int (nI ka9)), (2, .int (nI kb9)), (3, .int (nI kc9)), (4, .int (nI kd9)), (5, .int (nI ke9))]) hx hb dX8_copy_167 hl (k := 6) rfl (by first | exact nI_1 _ | (rw [show Int32.ofInt 1 = nI 1 from by decide, nI_add])) (by decide) rfl (fun ls hl => ?_)
                              refine lv_goto (tgt := 138) hx hb dX8_copy_170 (by decide) ?_
                              exact ih_138 (i9b + 1) (by omega) (by omega) ls z_166 _ _ w (by rw [ez_166]; exact hn9) (by rw [ez_166]; exact rFx_tr hfy (rFx_L _ (by decide))) (by rw [ez_166, Nat.add_assoc]; exact pp_s (rw_it hw9 (by omega) (by omega) _) (hn9 i9b (by omega))) (lv_sub hl [1, 2, 3, 4, 5, 6, 0] rfl)
                        exact lp_138 _ 0 (Nat.zero_le _) (Nat.lt_succ_self _) ls zz _ _ w (by have e8 : i9a = ke9 := (by omega); subst e8; exact hm9) hfz (pp_0 hsz _ _ _) (lv_sub hl [1, 2, 3, 4, 5, 6, 0] rfl)
                      · skip
                        refine lv_aload_n hx hb dX8_copy_108 rfl (lv_at hl 0 rfl) ?_
                        refine rg_29 X w.1 dX8_copy_109 ?_
                        refine lv_iload hx hb dX8_copy_112 (lv_at hl 6 rfl) ?_
                        refine lv_aload_n hx hb dX8_copy_114 rfl (lv_at hl 0 rfl) ?_
                        refine rg_28 X w.1 dX8_copy_115 ?_
                        refine lv_bipush (v := (nI 24)) hx hb dX8_copy_118 (by decide) ?_
                        refine lv_iload_n hx hb dX8_copy_120 rfl (lv_at hl 1 rfl) ?_
                        refine n_imul hx hb dX8_copy_121 ?_
                        refine lv_iload_n hx hb dX8_copy_122 rfl (lv_at hl 2 rfl) ?_
                        refine n_iadd hx hb dX8_copy_123 ?_
                        refine lv_iload hx hb dX8_copy_124 (lv_at hl 6 rfl) ?_
                        refine n_iadd hx hb dX8_copy_126 ?_
                        refine rn_28 X w.1 (by omega) dX8_copy_127 ?_
                        refine ru_29 X w (by omega) dX8_copy_128 (fun z_128 H locs ez_128 w => ?_)
                        refine lv_iinc (v := (nI (i9a + 1))) (lv' := [(6, .int (nI (i9a + 1))), (0, .ref g.2.2.2.1), (1, .int (nI ka9)), (2, .int (nI kb9)), (3, .int (nI kc9)), (4, .int (nI kd9)), (5, .int (nI ke9))]) hx hb dX8_copy_129 hl (k := 6) rfl (by first | exact nI_1 _ | (rw [show Int32.ofInt 1 = nI 1 from by decide, nI_add])) (by decide) rfl (fun ls hl => ?_)
                        refine lv_goto (tgt := 101) hx hb dX8_copy_132 (by decide) ?_
                        exact ih_101 (i9a + 1) (by omega) (by omega) ls z_128 _ _ w (by rw [ez_128]; intro q hq; exact mv_s hm9 (by rw [Nat.add_assoc]; exact ((hsz ka9 (by omega)).2.2.2.2 (kb9 + i9a) (by omega))) q hq) (by rw [ez_128]; exact rFx_tr hfz (rFx_L _ (by decide))) (by rw [ez_128]; exact hsz) (lv_sub hl [1, 2, 3, 4, 5, 6, 0] rfl)
                  exact lp_101 _ 0 (Nat.zero_le _) (Nat.lt_succ_self _) ls z _ _ w (fun q h => absurd h (Nat.not_lt_zero _)) (rFx_rf _ _ _ _) hsh (lv_sub hl [1, 2, 3, 4, 5, 6, 0] rfl)
                · skip
                  refine lv_bipush (v := (iZ (-13))) hx hb dX8_copy_95 (by decide) ?_
                  exact re_i X hr hk w (⟨by unfold an_copy; rw [if_pos (by omega), show (nI ka9).toInt.toNat = ka9 by omega, show (nI kc9).toInt.toNat = kc9 by omega, if_neg (by omega), if_pos (by omega), if_neg (by omega)], by unfold ni_copy; rw [show (nI ka9).toInt.toNat = ka9 by omega, show (nI kc9).toInt.toNat = kc9 by omega, if_neg (by omega)]; exact hsh, rFx_rf _ _ _ _⟩) dX8_copy_97
          · skip
            refine lv_bipush (v := (iZ (-12))) hx hb dX8_copy_52 (by decide) ?_
            exact re_i X hr hk w (⟨by unfold an_copy; rw [if_pos (by omega), show (nI ka9).toInt.toNat = ka9 by omega, show (nI kc9).toInt.toNat = kc9 by omega, if_neg (by omega), if_neg (by omega)], by unfold ni_copy; rw [show (nI ka9).toInt.toNat = ka9 by omega, show (nI kc9).toInt.toNat = kc9 by omega, if_neg (by omega)]; exact hsh, rFx_rf _ _ _ _⟩) dX8_copy_54
        · skip
          refine lv_bipush (v := (iZ (-11))) hx hb dX8_copy_34 (by decide) ?_
          exact re_i X hr hk w (⟨by unfold an_copy; rw [if_pos (by omega), show (nI ka9).toInt.toNat = ka9 by omega, show (nI kc9).toInt.toNat = kc9 by omega, if_pos (by omega)], by unfold ni_copy; rw [show (nI ka9).toInt.toNat = ka9 by omega, show (nI kc9).toInt.toNat = kc9 by omega, if_neg (by omega)]; exact hsh, rFx_rf _ _ _ _⟩) dX8_copy_36
    · skip
      refine lv_iconst (v := (iZ (-1))) hx hb dX8_copy_14 (by decide) ?_
      exact re_i X hr hk w (⟨by unfold an_copy; rw [if_neg (by omega)], by unfold ni_copy; rw [if_neg (by omega)]; exact hsh, rFx_rf _ _ _ _⟩) dX8_copy_15
