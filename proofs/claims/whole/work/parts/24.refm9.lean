theorem ok_of : rOk yX8_of cX8_of 3 (some .int) 2 := ⟨wc_X8_of, wi_X8_of, ws_X8_of, rfl, by decide, by decide, by decide +kernel⟩
set_option maxHeartbeats 4000000 in
set_option maxRecDepth 100000 in
theorem k_of (l : Launch) (g : RG) (z : RS) (xa9 : Int32) (xb9 : Int32) (S : Sc) (hz : rSc z S) (ho : oSc S) : rMp g l yX8_of cX8_of 3 (some .int) 4 86 [.int xa9, .int xb9] z (fun r => r = an_of S xa9 xb9) := by
  refine rMp_in (by decide) rfl (Nat.le_of_ble_eq_true rfl) ?_
  intro p e s m args below meth c ls X hml hr hk hl w
  have hx := X.1
  have hb := X.2.1
  have hts := X.2.2.1
  have hown := X.2.2.2.1
  have hl : lv_has ls 3 [(0, .ref g.2.2.2.1), (1, .int xa9), (2, .int xb9)] := hl
  obtain ⟨hz0, hz1, hz4, hm0, hm1, hm2, hso, hki, hsr, hpa, hhu, hco⟩ := id hz
  obtain ⟨o1, o2, o3, o4, o5, o6, oso, oki, osr, opa, ohu, oco⟩ := id ho
  refine lv_aload_n hx hb dX8_of_0 rfl (lv_at hl 0 rfl) ?_
  refine lv_iload_n hx hb dX8_of_1 rfl (lv_at hl 1 rfl) ?_
  refine rc_p (rest := []) X hml hl.1 (k_isF l g z xa9 S hz ho) ok_isFighter wm_X8_123 ⟨Nat.le_of_ble_eq_true rfl, Nat.le_of_ble_eq_true rfl⟩ ⟨Nat.le_refl _, Nat.le_refl _⟩ w rfl (Nat.le_of_ble_eq_true rfl) dX8_of_2 (fun r_2 hr_2 => ?_)
  subst hr_2
  have i_2 := pc_inI_ok xa9.toInt 0 (((S.1 1 : Nat) : Int) - (1 : Int))
  refine n_if_eq (tgt := 20) hx hb dX8_of_5 (by decide) (by omega) (fun c_5_1 => ?_) (fun c_5_1 => ?_)
  · skip
    refine lv_iconst (v := (iZ (-1))) hx hb dX8_of_20 (by decide) ?_
    exact re_p hx hb hr hk (by unfold an_of; rw [if_neg (by omega)]) dX8_of_21
  · skip
    refine lv_iload_n hx hb dX8_of_8 rfl (lv_at hl 2 rfl) ?_
    refine lv_i2l (v := xb9.toInt64) hx hb dX8_of_9 rfl ?_
    refine lv_lconst (v := 0) hx hb dX8_of_10 (by decide) ?_
    refine lv_ldc2 hx hb hown (hts _ wk_X8_78) dX8_of_11 ?_
    refine rc_s (rest := []) ⟨X.1, X.2.1, X.2.2.1, X.2.2.2.1⟩ hml hl.1 (k_in l xb9.toInt64 0 6) ok_in wm_X8_69 ⟨Nat.le_of_ble_eq_true rfl, Nat.le_of_ble_eq_true rfl⟩ ⟨Nat.le_refl _, Nat.le_refl _⟩ rfl (Nat.le_of_ble_eq_true rfl) dX8_of_14 (fun r_14 hr_14 => ?_)
    have h9 : r_14 = nI (pc_inI xb9.toInt (0) (6)) := by rw [hr_14]; exact congrArg nI (pc_in_I (in_toI _) (by decide) (by decide))
    subst h9
    have i_14 := pc_inI_ok xb9.toInt (0) (6)
    refine n_if_ne (tgt := 22) hx hb dX8_of_17 (by decide) (by omega) (fun c_17_2 => ?_) (fun c_17_2 => ?_)
    · skip
      obtain ⟨ka9, hq_ka9, rfl⟩ := iv_n (x := xa9) (by omega)
      obtain ⟨kb9, hq_kb9, rfl⟩ := iv_n (x := xb9) (by omega)
      have q1 := ohu ka9
      refine lv_iload_n hx hb dX8_of_22 rfl (lv_at hl 2 rfl) ?_
      by_cases qlo : (nI kb9).toInt < 3
      · skip
        refine lv_tableOut (tgt := 109) hx hb dX8_of_23 (Or.inl qlo) (by decide) ?_
        refine lv_aload_n hx hb dX8_of_109 rfl (lv_at hl 0 rfl) ?_
        refine rg_3 X w dX8_of_110 ?_
        refine lv_iconst (v := (nI 3)) hx hb dX8_of_113 (by decide) ?_
        refine lv_iload_n hx hb dX8_of_114 rfl (lv_at hl 1 rfl) ?_
        refine n_imul hx hb dX8_of_115 ?_
        refine lv_iload_n hx hb dX8_of_116 rfl (lv_at hl 2 rfl) ?_
        refine n_iadd hx hb dX8_of_117 ?_
        refine rn_3 X w (by omega) dX8_of_118 ?_
        refine tp_i (show z.2.1 3 ((3 * ka9) + kb9) = (nI (S.2.1 (kb9 + 1) ka9)) from (rs_row hz ka9 kb9 (by omega) (by omega) :)) ?_
        exact re_p hx hb hr hk (by unfold an_of; rw [if_pos (by omega), if_neg (by omega), if_neg (by omega), if_neg (by omega), if_neg (by omega), show (nI ka9).toInt.toNat = ka9 by omega, show (nI kb9).toInt.toNat = kb9 by omega]) dX8_of_119
      by_cases qhi : (6 : Int) < (nI kb9).toInt
      · skip
        refine lv_tableOut (tgt := 109) hx hb dX8_of_23 (Or.inr qhi) (by decide) ?_
        refine lv_aload_n hx hb dX8_of_109 rfl (lv_at hl 0 rfl) ?_
        refine rg_3 X w dX8_of_110 ?_
        refine lv_iconst (v := (nI 3)) hx hb dX8_of_113 (by decide) ?_
        refine lv_iload_n hx hb dX8_of_114 rfl (lv_at hl 1 rfl) ?_
        refine n_imul hx hb dX8_of_115 ?_
        refine lv_iload_n hx hb dX8_of_116 rfl (lv_at hl 2 rfl) ?_
        refine n_iadd hx hb dX8_of_117 ?_
        refine rn_3 X w (by omega) dX8_of_118 ?_
        refine tp_i (show z.2.1 3 ((3 * ka9) + kb9) = (nI (S.2.1 (kb9 + 1) ka9)) from (rs_row hz ka9 kb9 (by omega) (by omega) :)) ?_
        exact re_p hx hb hr hk (by unfold an_of; rw [if_pos (by omega), if_neg (by omega), if_neg (by omega), if_neg (by omega), if_neg (by omega), show (nI ka9).toInt.toNat = ka9 by omega, show (nI kb9).toInt.toNat = kb9 by omega]) dX8_of_119
      rcases (show (nI kb9).toInt = 3 ∨ (nI kb9).toInt = 4 ∨ (nI kb9).toInt = 5 ∨ (nI kb9).toInt = 6 by omega) with qsw | qsw | qsw | qsw
      · skip
        refine lv_tableIn (off := 29) (tgt := 52) hx hb dX8_of_23 qlo qhi (by rw [qsw]; rfl) (by decide) ?_
        refine lv_aload_n hx hb dX8_of_52 rfl (lv_at hl 0 rfl) ?_
        refine lv_iload_n hx hb dX8_of_53 rfl (lv_at hl 1 rfl) ?_
        refine rc_p (rest := []) X hml hl.1 (k_hurtS l g z ka9 S hz ho (by omega)) ok_hurtOf wm_X8_91 ⟨Nat.le_of_ble_eq_true rfl, Nat.le_of_ble_eq_true rfl⟩ ⟨Nat.le_refl _, Nat.le_refl _⟩ w rfl (Nat.le_of_ble_eq_true rfl) dX8_of_54 (fun r_54 hr_54 => ?_)
        subst hr_54
        exact re_p hx hb hr hk (by unfold an_of; rw [if_pos (by omega), if_pos (by omega), show (nI ka9).toInt.toNat = ka9 by omega]) dX8_of_57
      · skip
        refine lv_tableIn (off := 35) (tgt := 58) hx hb dX8_of_23 qlo qhi (by rw [qsw]; rfl) (by decide) ?_
        refine lv_aload_n hx hb dX8_of_58 rfl (lv_at hl 0 rfl) ?_
        refine lv_iload_n hx hb dX8_of_59 rfl (lv_at hl 1 rfl) ?_
        refine lv_aload_n hx hb dX8_of_60 rfl (lv_at hl 0 rfl) ?_
        refine lv_iload_n hx hb dX8_of_61 rfl (lv_at hl 1 rfl) ?_
        refine rc_p (rest := [.int (nI ka9), .ref g.2.2.2.1]) X hml hl.1 (k_hurtS l g z ka9 S hz ho (by omega)) ok_hurtOf wm_X8_91 ⟨Nat.le_of_ble_eq_true rfl, Nat.le_of_ble_eq_true rfl⟩ ⟨Nat.le_refl _, Nat.le_refl _⟩ w rfl (Nat.le_of_ble_eq_true rfl) dX8_of_62 (fun r_62 hr_62 => ?_)
        subst hr_62
        refine rc_p (rest := []) X hml hl.1 (k_force l g z ka9 (S.2.1 4 ka9) S hz ho (by omega) (by omega)) ok_force wm_X8_126 ⟨Nat.le_of_ble_eq_true rfl, Nat.le_of_ble_eq_true rfl⟩ ⟨Nat.le_refl _, Nat.le_refl _⟩ w rfl (Nat.le_of_ble_eq_true rfl) dX8_of_65 (fun r_65 hr_65 => ?_)
        subst hr_65
        exact re_p hx hb hr hk (by unfold an_of; rw [if_pos (by omega), if_neg (by omega), if_pos (by omega), show (nI ka9).toInt.toNat = ka9 by omega] <;> rfl) dX8_of_68
      · skip
        refine lv_tableIn (off := 46) (tgt := 69) hx hb dX8_of_23 qlo qhi (by rw [qsw]; rfl) (by decide) ?_
        refine lv_aload_n hx hb dX8_of_69 rfl (lv_at hl 0 rfl) ?_
        refine lv_iload_n hx hb dX8_of_70 rfl (lv_at hl 1 rfl) ?_
        refine rc_p (rest := []) X hml hl.1 (k_place l g z ka9 S hz ho (by omega)) ok_place wm_X8_129 ⟨Nat.le_of_ble_eq_true rfl, Nat.le_of_ble_eq_true rfl⟩ ⟨Nat.le_refl _, Nat.le_refl _⟩ w rfl (Nat.le_of_ble_eq_true rfl) dX8_of_71 (fun r_71 hr_71 => ?_)
        subst hr_71
        exact re_p hx hb hr hk (by unfold an_of; rw [if_pos (by omega), if_neg (by omega), if_neg (by omega), if_pos (by omega), show (nI ka9).toInt.toNat = ka9 by omega]) dX8_of_74
      · skip
        refine lv_tableIn (off := 52) (tgt := 75) hx hb dX8_of_23 qlo qhi (by rw [qsw]; rfl) (by decide) ?_
        refine lv_iload_n hx hb dX8_of_75 rfl (lv_at hl 1 rfl) ?_
        refine n_if_eq (tgt := 94) hx hb dX8_of_76 (by decide) (by omega) (fun c_76_3 => ?_) (fun c_76_3 => ?_)
        · skip
          refine lv_bipush (v := (iZ (-4))) hx hb dX8_of_94 (by decide) ?_
          refine lv_goto (tgt := 108) hx hb dX8_of_96 (by decide) ?_
          exact re_p hx hb hr hk (by unfold an_of sp_of6; rw [if_pos (by omega), if_neg (by omega), if_neg (by omega), if_neg (by omega), if_pos (by omega), show (nI ka9).toInt.toNat = ka9 by omega]; first | (rw [if_pos (by omega)]; done) | (rw [if_neg (by omega), if_pos (by omega)]; done) | (rw [if_neg (by omega), if_neg (by omega), if_neg (by omega)]; done) | (rw [if_neg (by omega), if_neg (by omega), if_pos (by omega)]; done)) dX8_of_108
        · skip
          refine lv_aload_n hx hb dX8_of_79 rfl (lv_at hl 0 rfl) ?_
          refine rc_p (rest := []) X hml hl.1 (k_turnS l g z S hz ho) ok_isTurned wm_X8_80 ⟨Nat.le_of_ble_eq_true rfl, Nat.le_of_ble_eq_true rfl⟩ ⟨Nat.le_refl _, Nat.le_refl _⟩ w rfl (Nat.le_of_ble_eq_true rfl) dX8_of_80 (fun r_80 hr_80 => ?_)
          subst hr_80
          have d_80 := pc_td_ok S
          refine n_if_eq (tgt := 94) hx hb dX8_of_83 (by decide) (by omega) (fun c_83_4 => ?_) (fun c_83_4 => ?_)
          · skip
            refine lv_bipush (v := (iZ (-4))) hx hb dX8_of_94 (by decide) ?_
            refine lv_goto (tgt := 108) hx hb dX8_of_96 (by decide) ?_
            exact re_p hx hb hr hk (by unfold an_of sp_of6; rw [if_pos (by omega), if_neg (by omega), if_neg (by omega), if_neg (by omega), if_pos (by omega), show (nI ka9).toInt.toNat = ka9 by omega]; first | (rw [if_pos (by omega)]; done) | (rw [if_neg (by omega), if_pos (by omega)]; done) | (rw [if_neg (by omega), if_neg (by omega), if_neg (by omega)]; done) | (rw [if_neg (by omega), if_neg (by omega), if_pos (by omega)]; done)) dX8_of_108
          · skip
            refine lv_aload_n hx hb dX8_of_86 rfl (lv_at hl 0 rfl) ?_
            refine lv_iload_n hx hb dX8_of_87 rfl (lv_at hl 1 rfl) ?_
            refine rc_p (rest := []) X hml hl.1 (k_downS l g z ka9 S hz ho (by omega)) ok_isDown wm_X8_103 ⟨Nat.le_of_ble_eq_true rfl, Nat.le_of_ble_eq_true rfl⟩ ⟨Nat.le_refl _, Nat.le_refl _⟩ w rfl (Nat.le_of_ble_eq_true rfl) dX8_of_88 (fun r_88 hr_88 => ?_)
            subst hr_88
            have d_88 := pc_dn01 S ka9
            refine n_if_eq (tgt := 99) hx hb dX8_of_91 (by decide) (by omega) (fun c_91_5 => ?_) (fun c_91_5 => ?_)
            · skip
              refine lv_aload_n hx hb dX8_of_99 rfl (lv_at hl 0 rfl) ?_
              refine rg_5 X w dX8_of_100 ?_
              refine lv_bipush (v := (nI 8)) hx hb dX8_of_103 (by decide) ?_
              refine lv_iload_n hx hb dX8_of_105 rfl (lv_at hl 1 rfl) ?_
              refine n_iadd hx hb dX8_of_106 ?_
              refine rn_5 X w (by omega) dX8_of_107 ?_
              refine tp_i (show z.2.1 5 (8 + ka9) = (nI (S.2.1 5 ka9)) from hco ka9 (by omega)) ?_
              exact re_p hx hb hr hk (by unfold an_of sp_of6; rw [if_pos (by omega), if_neg (by omega), if_neg (by omega), if_neg (by omega), if_pos (by omega), show (nI ka9).toInt.toNat = ka9 by omega]; first | (rw [if_pos (by omega)]; done) | (rw [if_neg (by omega), if_pos (by omega)]; done) | (rw [if_neg (by omega), if_neg (by omega), if_neg (by omega)]; done) | (rw [if_neg (by omega), if_neg (by omega), if_pos (by omega)]; done)) dX8_of_108
            · skip
              refine lv_bipush (v := (iZ (-4))) hx hb dX8_of_94 (by decide) ?_
              refine lv_goto (tgt := 108) hx hb dX8_of_96 (by decide) ?_
              exact re_p hx hb hr hk (by unfold an_of sp_of6; rw [if_pos (by omega), if_neg (by omega), if_neg (by omega), if_neg (by omega), if_pos (by omega), show (nI ka9).toInt.toNat = ka9 by omega]; first | (rw [if_pos (by omega)]; done) | (rw [if_neg (by omega), if_pos (by omega)]; done) | (rw [if_neg (by omega), if_neg (by omega), if_neg (by omega)]; done) | (rw [if_neg (by omega), if_neg (by omega), if_pos (by omega)]; done)) dX8_of_108
    · skip
      refine lv_iconst (v := (iZ (-1))) hx hb dX8_of_20 (by decide) ?_
      exact re_p hx hb hr hk (by unfold an_of; rw [if_neg (by omega)]) dX8_of_21

theorem ok_count : rOk yX8_count cX8_count 2 (some .int) 1 := ⟨wc_X8_count, wi_X8_count, ws_X8_count, rfl, by decide, by decide, by decide +kernel⟩
set_option maxHeartbeats 4000000 in
set_option maxRecDepth 100000 in
theorem k_count (l : Launch) (g : RG) (z : RS) (xa9 : Int32) (S : Sc) (hz : rSc z S) (ho : oSc S) (u : Nat) (hps : z.1 16 = nI u) : rMp g l yX8_count cX8_count 2 (some .int) 4 85 [.int xa9] z (fun r => r = an_cnt S u xa9) := by
  refine rMp_in (by decide) rfl (Nat.le_of_ble_eq_true rfl) ?_
  intro p e s m args below meth c ls X hml hr hk hl w
  have hx := X.1
  have hb := X.2.1
  have hts := X.2.2.1
  have hown := X.2.2.2.1
  have hl : lv_has ls 2 [(0, .ref g.2.2.2.1), (1, .int xa9)] := hl
  obtain ⟨hz0, hz1, hz4, hm0, hm1, hm2, hso, hki, hsr, hpa, hhu, hco⟩ := id hz
  obtain ⟨o1, o2, o3, o4, o5, o6, oso, oki, osr, opa, ohu, oco⟩ := id ho
  refine lv_iload_n hx hb dX8_count_0 rfl (lv_at hl 1 rfl) ?_
  by_cases qlo : xa9.toInt < 0
  · skip
    refine lv_tableOut (tgt := 100) hx hb dX8_count_1 (Or.inl qlo) (by decide) ?_
    refine lv_iconst (v := (iZ (-1))) hx hb dX8_count_100 (by decide) ?_
    exact re_p hx hb hr hk (by unfold an_cnt; rw [if_neg (by omega), if_neg (by omega), if_neg (by omega), if_neg (by omega), if_neg (by omega), if_neg (by omega), if_neg (by omega), if_neg (by omega)]) dX8_count_101
  by_cases qhi : (7 : Int) < xa9.toInt
  · skip
    refine lv_tableOut (tgt := 100) hx hb dX8_count_1 (Or.inr qhi) (by decide) ?_
    refine lv_iconst (v := (iZ (-1))) hx hb dX8_count_100 (by decide) ?_
    exact re_p hx hb hr hk (by unfold an_cnt; rw [if_neg (by omega), if_neg (by omega), if_neg (by omega), if_neg (by omega), if_neg (by omega), if_neg (by omega), if_neg (by omega), if_neg (by omega)]) dX8_count_101
  rcases (show xa9.toInt = 0 ∨ xa9.toInt = 1 ∨ xa9.toInt = 2 ∨ xa9.toInt = 3 ∨ xa9.toInt = 4 ∨ xa9.toInt = 5 ∨ xa9.toInt = 6 ∨ xa9.toInt = 7 by omega) with qsw | qsw | qsw | qsw | qsw | qsw | qsw | qsw
  · skip
    refine lv_tableIn (off := 47) (tgt := 48) hx hb dX8_count_1 qlo qhi (by rw [qsw]; rfl) (by decide) ?_
    refine lv_aload_n hx hb dX8_count_48 rfl (lv_at hl 0 rfl) ?_
    refine rg_0 X w dX8_count_49 ?_
    refine tp_i (show z.1 0 = (nI (S.1 0)) from hz0) ?_
    exact re_p hx hb hr hk (by unfold an_cnt; rw [if_pos (by omega)]) dX8_count_52
  · skip
    refine lv_tableIn (off := 52) (tgt := 53) hx hb dX8_count_1 qlo qhi (by rw [qsw]; rfl) (by decide) ?_
    refine lv_aload_n hx hb dX8_count_53 rfl (lv_at hl 0 rfl) ?_
    refine rg_1 X w dX8_count_54 ?_
    refine tp_i (show z.1 1 = (nI (S.1 1)) from hz1) ?_
    exact re_p hx hb hr hk (by unfold an_cnt; rw [if_neg (by omega), if_pos (by omega)]) dX8_count_57
  · skip
    refine lv_tableIn (off := 57) (tgt := 58) hx hb dX8_count_1 qlo qhi (by rw [qsw]; rfl) (by decide) ?_
    refine lv_aload_n hx hb dX8_count_58 rfl (lv_at hl 0 rfl) ?_
    refine rg_5 X w dX8_count_59 ?_
    refine lv_iconst (v := (nI 0)) hx hb dX8_count_62 (by decide) ?_
    refine rn_5 X w (by omega) dX8_count_63 ?_
    refine tp_i (show z.2.1 5 0 = (nI (S.1 3)) from hm0) ?_
    exact re_p hx hb hr hk (by unfold an_cnt; rw [if_neg (by omega), if_neg (by omega), if_pos (by omega)]) dX8_count_64
  · skip
    refine lv_tableIn (off := 64) (tgt := 65) hx hb dX8_count_1 qlo qhi (by rw [qsw]; rfl) (by decide) ?_
    refine lv_aload_n hx hb dX8_count_65 rfl (lv_at hl 0 rfl) ?_
    refine rc_p (rest := []) X hml hl.1 (k_turnS l g z S hz ho) ok_isTurned wm_X8_80 ⟨Nat.le_of_ble_eq_true rfl, Nat.le_of_ble_eq_true rfl⟩ ⟨Nat.le_refl _, Nat.le_refl _⟩ w rfl (Nat.le_of_ble_eq_true rfl) dX8_count_66 (fun r_66 hr_66 => ?_)
    subst hr_66
    have d_66 := pc_td_ok S
    refine jn (tgt := 77) (rest := []) (fun v9 => ∃ x9 : Nat, x9 = (if (pc_td S) = 0 then 0 else 1) ∧ v9 = nI x9) (fun v_ hv_ => ?_) (fun k_77 => ?_)
    · obtain ⟨x_77, ex_77, rfl⟩ := hv_
      exact re_p hx hb hr hk (by have q7 : x_77 = pc_td S := (by rw [ex_77]; rcases d_66 with q | q <;> rw [q.1] <;> rfl); rw [q7]; unfold an_cnt; rw [if_neg (by omega), if_neg (by omega), if_neg (by omega), if_pos (by omega)]) dX8_count_77
    · skip
      refine n_if_eq (tgt := 76) hx hb dX8_count_69 (by decide) (by omega) (fun c_69_2 => ?_) (fun c_69_2 => ?_)
      · skip
        refine lv_iconst (v := (nI 0)) hx hb dX8_count_76 (by decide) ?_
        exact k_77 _ ⟨_, by simp only [if_pos c_69_2], rfl⟩
      · skip
        refine lv_iconst (v := (nI 1)) hx hb dX8_count_72 (by decide) ?_
        refine lv_goto (tgt := 77) hx hb dX8_count_73 (by decide) ?_
        exact k_77 _ ⟨_, by simp only [if_neg c_69_2], rfl⟩
  · skip
    refine lv_tableIn (off := 77) (tgt := 78) hx hb dX8_count_1 qlo qhi (by rw [qsw]; rfl) (by decide) ?_
    refine lv_aload_n hx hb dX8_count_78 rfl (lv_at hl 0 rfl) ?_
    refine rg_5 X w dX8_count_79 ?_
    refine lv_iconst (v := (nI 1)) hx hb dX8_count_82 (by decide) ?_
    refine rn_5 X w (by omega) dX8_count_83 ?_
    refine tp_i (show z.2.1 5 1 = (pc_sd (S.1 4)) from hm1) ?_
    exact re_p hx hb hr hk (by unfold an_cnt; rw [if_neg (by omega), if_neg (by omega), if_neg (by omega), if_neg (by omega), if_pos (by omega)]) dX8_count_84
  · skip
    refine lv_tableIn (off := 84) (tgt := 85) hx hb dX8_count_1 qlo qhi (by rw [qsw]; rfl) (by decide) ?_
    refine lv_aload_n hx hb dX8_count_85 rfl (lv_at hl 0 rfl) ?_
    refine rg_16 X w dX8_count_86 ?_
    refine tp_i (show z.1 16 = (nI u) from hps) ?_
    exact re_p hx hb hr hk (by unfold an_cnt; rw [if_neg (by omega), if_neg (by omega), if_neg (by omega), if_neg (by omega), if_neg (by omega), if_pos (by omega)]) dX8_count_89
  · skip
    refine lv_tableIn (off := 89) (tgt := 90) hx hb dX8_count_1 qlo qhi (by rw [qsw]; rfl) (by decide) ?_
    refine lv_aload_n hx hb dX8_count_90 rfl (lv_at hl 0 rfl) ?_
    refine rc_p (rest := []) X hml hl.1 (k_down l g z S hz ho) ok_down wm_X8_171 ⟨Nat.le_of_ble_eq_true rfl, Nat.le_of_ble_eq_true rfl⟩ ⟨Nat.le_refl _, Nat.le_refl _⟩ w rfl (Nat.le_of_ble_eq_true rfl) dX8_count_91 (fun r_91 hr_91 => ?_)
    subst hr_91
    have d_91 := sp_dnL_lt S (S.1 1)
    have b_91 := pw_32 o3
    exact re_p hx hb hr hk (by unfold an_cnt; rw [if_neg (by omega), if_neg (by omega), if_neg (by omega), if_neg (by omega), if_neg (by omega), if_neg (by omega), if_pos (by omega)]) dX8_count_94
  · skip
    refine lv_tableIn (off := 94) (tgt := 95) hx hb dX8_count_1 qlo qhi (by rw [qsw]; rfl) (by decide) ?_
    refine lv_aload_n hx hb dX8_count_95 rfl (lv_at hl 0 rfl) ?_
    refine rc_p (rest := []) X hml hl.1 (k_over l g z S hz ho) ok_over wm_X8_174 ⟨Nat.le_of_ble_eq_true rfl, Nat.le_of_ble_eq_true rfl⟩ ⟨Nat.le_refl _, Nat.le_refl _⟩ w rfl (Nat.le_of_ble_eq_true rfl) dX8_count_96 (fun r_96 hr_96 => ?_)
    subst hr_96
    have d_96 := sp_over_le S
    exact re_p hx hb hr hk (by unfold an_cnt; rw [if_neg (by omega), if_neg (by omega), if_neg (by omega), if_neg (by omega), if_neg (by omega), if_neg (by omega), if_neg (by omega), if_pos (by omega)]) dX8_count_99
