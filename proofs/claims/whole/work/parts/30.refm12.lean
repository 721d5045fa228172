theorem ok_likely : rOk yX8_likely cX8_likely 5 (some .int) 0 := ⟨wc_X8_likely, wi_X8_likely, ws_X8_likely, rfl, by decide, by decide, by decide +kernel⟩
set_option maxHeartbeats 4000000 in
set_option maxRecDepth 100000 in
theorem k_likely (l : Launch) (g : RG) (z : RS)  (S : Sc) (hz : rSc z S) (ho : oSc S) (V9 : Nat → Nat) (hlt : rLt z V9) : rMi g l yX8_likely cX8_likely 5 (some .int) 3 80 [] z (fun r z' => r = nI (sp_ch S V9) ∧ (∃ U9, rLt z' U9) ∧ rFr [] [18, 19, 20] z z') := by
  refine rMi_in (by decide) rfl (Nat.le_of_ble_eq_true rfl) ?_
  intro p e s m args below meth c A ls X hml hr hk hl w
  have hx := X.1
  have hb := X.2.1
  have hts := X.2.2.1
  have hown := X.2.2.2.1
  have hl : lv_has ls 5 [(0, .ref g.2.2.2.1)] := hl
  obtain ⟨hz0, hz1, hz4, hm0, hm1, hm2, hso, hki, hsr, hpa, hhu, hco⟩ := id hz
  obtain ⟨o1, o2, o3, o4, o5, o6, oso, oki, osr, opa, ohu, oco⟩ := id ho
  refine lv_aload_n hx hb dX8_likely_0 rfl (lv_at hl 0 rfl) ?_
  refine rc_i (rest := []) X hml hl.1 (k_lines l g z S hz ho) ok_lines wm_X8_203 ⟨Nat.le_of_ble_eq_true rfl, Nat.le_of_ble_eq_true rfl⟩ ⟨Nat.le_refl _, Nat.le_refl _⟩ w rfl (Nat.le_of_ble_eq_true rfl) dX8_likely_1 (fun r_1 z_1 H locs hr_1 w => ?_)
  obtain ⟨h9, hro, fz1⟩ := hr_1
  subst h9
  have n4 := hro.1
  have fz2 := rFr_w (is' := []) (ks' := [18, 19, 20]) fz1 (by simp) (by simp)
  have lz1 : rLt z_1 V9 := ⟨fun j hj => (congrFun (fz1.2.1 19 (by decide)) _).trans (hlt.1 j hj), hlt.2⟩
  refine lv_istore_n (lv' := [(1, .int (nI (sp_rn S))), (0, .ref g.2.2.2.1)]) hx hb dX8_likely_4 rfl hl (by decide) rfl (fun ls hl => ?_)
  refine lv_iload_n hx hb dX8_likely_5 rfl (lv_at hl 0 rfl) ?_
  refine n_if_ne (tgt := 12) hx hb dX8_likely_6 (by decide) (by omega) (fun c_6_1 => ?_) (fun c_6_1 => ?_)
  · skip
    refine lv_iload_n hx hb dX8_likely_12 rfl (lv_at hl 0 rfl) ?_
    refine lv_iconst (v := (nI 1)) hx hb dX8_likely_13 (by decide) ?_
    refine tp_i (show nI 1 = iZ (1 : Int) from by decide) ?_
    refine tp_i2 (iZ_n (sp_rn S)).symm ?_
    refine z_isub hx hb dX8_likely_14 ?_
    refine lv_istore_n (lv' := [(2, .int (iZ ((((sp_rn S : Nat) : Int)) - ((1 : Int))))), (1, .int (nI (sp_rn S))), (0, .ref g.2.2.2.1)]) hx hb dX8_likely_15 rfl hl (by decide) rfl (fun ls hl => ?_)
    have lp_16 : ∀ (n_16 : Nat) (kr9 : Nat) (hkr : kr9 ≤ sp_rn S) (hm_16 : kr9 < n_16) (ls : Array Slot) (zz : RS) (H : Heap) (locs : List Loc) (w : rW g A s zz H locs) (hfz : rFr [] [18, 19, 20] z zz) (hf1 : rFr [] [19, 20] z_1 zz) (hlz : rLt zz (sp_bs S (sp_ro S) (sp_rn S) V9 (36 * sp_rn S - 36 * kr9))), lv_has ls 5 [(0, .ref g.2.2.2.1), (1, .int (nI (sp_rn S))), (2, .int (iZ (((kr9 : Nat) : Int) - (1 : Int))))] → W p l e (ro_m 3 80) s m args below meth c H locs 0 0 (MQ below (va_Qi (fun r z' => r = nI (sp_ch S V9) ∧ (∃ U9, rLt z' U9) ∧ rFr [] [18, 19, 20] z z') (rB g A) A) args s 0 0 A) (F0 m 16 ls []) := by
      intro n_16
      induction n_16 with
      | zero => intro kr9 hkr hm; exact absurd hm (Nat.not_lt_zero _)
      | succ n_16 ih_16 =>
        intro kr9 hkr hm_16 ls zz H locs w hfz hf1 hlz hl
        refine lv_iload_n hx hb dX8_likely_16 rfl (lv_at hl 2 rfl) ?_
        refine z_if_lt (tgt := 87) hx hb dX8_likely_17 (by decide) (by omega) (by omega) (fun c_17_2 => ?_) (fun c_17_2 => ?_)
        · skip
          have ek : kr9 = 0 := by omega
          subst ek
          have ra := (hro.2 (sp_rn S - 1) (by omega)).2
          have rb := (hro.2 0 (by omega)).2
          have ca := oco (sp_ro S (sp_rn S - 1))
          have hb9 := ohu (sp_ro S 0)
          have hc9 := ohu 0
          refine lv_aload_n hx hb dX8_likely_87 rfl (lv_at hl 0 rfl) ?_
          refine rg_5 X w.1 dX8_likely_88 ?_
          refine lv_bipush (v := (nI 8)) hx hb dX8_likely_91 (by decide) ?_
          refine lv_aload_n hx hb dX8_likely_93 rfl (lv_at hl 0 rfl) ?_
          refine rg_18 X w.1 dX8_likely_94 ?_
          refine lv_iload_n hx hb dX8_likely_97 rfl (lv_at hl 1 rfl) ?_
          refine lv_iconst (v := (nI 1)) hx hb dX8_likely_98 (by decide) ?_
          refine n_isub hx hb dX8_likely_99 (by omega) ?_
          refine rn_18 X w.1 (by omega) dX8_likely_100 ?_
          refine tp_i (show zz.2.1 18 ((sp_rn S) - 1) = (nI (sp_ro S ((sp_rn S) - 1))) from (congrFun (hf1.2.1 18 (by decide)) _).trans (hro.2 ((sp_rn S) - 1) (by omega)).1) ?_
          refine n_iadd hx hb dX8_likely_101 ?_
          refine rn_5 X w.1 (by omega) dX8_likely_102 ?_
          refine tp_i (show zz.2.1 5 (8 + (sp_ro S ((sp_rn S) - 1))) = (nI (S.2.1 5 (sp_ro S ((sp_rn S) - 1)))) from (congrFun (hfz.2.1 5 (by decide)) _).trans (hco (sp_ro S ((sp_rn S) - 1)) (by omega))) ?_
          refine lv_iconst (v := (nI 2)) hx hb dX8_likely_103 (by decide) ?_
          refine tp_i (show nI 2 = iZ (2 : Int) from by decide) ?_
          refine tp_i2 (iZ_n (S.2.1 5 (sp_ro S ((sp_rn S) - 1)))).symm ?_
          refine z_isub hx hb dX8_likely_104 ?_
          refine tp_i (congrArg iZ (by omega) : (iZ ((((S.2.1 5 (sp_ro S ((sp_rn S) - 1)) : Nat) : Int)) - ((2 : Int)))) = (iZ (((S.2.1 5 (sp_ro S (sp_rn S - 1)) : Nat) : Int) - (2 : Int) - ((0 : Nat) : Int)))) ?_
          refine lv_istore_n (lv' := [(2, .int (iZ (((S.2.1 5 (sp_ro S (sp_rn S - 1)) : Nat) : Int) - (2 : Int) - ((0 : Nat) : Int)))), (0, .ref g.2.2.2.1), (1, .int (nI (sp_rn S)))]) hx hb dX8_likely_105 rfl hl (by decide) rfl (fun ls hl => ?_)
          have lp_106 : ∀ (n_106 : Nat) (i9a : Nat) (hi9a : i9a ≤ S.2.1 5 (sp_ro S (sp_rn S - 1)) - 1 - S.1 3) (hm_106 : S.2.1 5 (sp_ro S (sp_rn S - 1)) - i9a < n_106) (ls : Array Slot) (zz : RS) (H : Heap) (locs : List Loc) (w : rW g A s zz H locs) (hfz : rFr [] [18, 19, 20] z zz) (hf1 : rFr [] [19, 20] z_1 zz) (hlz : rLt zz (sp_lk S (sp_ro S) (sp_rn S) (sp_bs S (sp_ro S) (sp_rn S) V9 (36 * sp_rn S)) i9a)), lv_has ls 5 [(0, .ref g.2.2.2.1), (1, .int (nI (sp_rn S))), (2, .int (iZ (((S.2.1 5 (sp_ro S (sp_rn S - 1)) : Nat) : Int) - (2 : Int) - ((i9a : Nat) : Int))))] → W p l e (ro_m 3 80) s m args below meth c H locs 0 0 (MQ below (va_Qi (fun r z' => r = nI (sp_ch S V9) ∧ (∃ U9, rLt z' U9) ∧ rFr [] [18, 19, 20] z z') (rB g A) A) args s 0 0 A) (F0 m 106 ls []) := by
            intro n_106
            induction n_106 with
            | zero => intro i9a hi9a hm; exact absurd hm (Nat.not_lt_zero _)
            | succ n_106 ih_106 =>
              intro i9a hi9a hm_106 ls zz H locs w hfz hf1 hlz hl
              refine lv_iload_n hx hb dX8_likely_106 rfl (lv_at hl 2 rfl) ?_
              refine lv_aload_n hx hb dX8_likely_107 rfl (lv_at hl 0 rfl) ?_
              refine rg_5 X w.1 dX8_likely_108 ?_
              refine lv_iconst (v := (nI 0)) hx hb dX8_likely_111 (by decide) ?_
              refine rn_5 X w.1 (by omega) dX8_likely_112 ?_
              refine tp_i (show zz.2.1 5 0 = (nI (S.1 3)) from (congrFun (hfz.2.1 5 (by decide)) _).trans hm0) ?_
              refine tp_i (iZ_n (S.1 3)).symm ?_
              refine z_icmp_lt (tgt := 130) hx hb dX8_likely_113 (by decide) (by omega) (by omega) (by omega) (by omega) (fun c_113_3 => ?_) (fun c_113_3 => ?_)
              · skip
                refine lv_aload_n hx hb dX8_likely_130 rfl (lv_at hl 0 rfl) ?_
                refine rg_19 X w.1 dX8_likely_131 ?_
                refine lv_bipush (v := (nI 6)) hx hb dX8_likely_134 (by decide) ?_
                refine lv_aload_n hx hb dX8_likely_136 rfl (lv_at hl 0 rfl) ?_
                refine lv_aload_n hx hb dX8_likely_137 rfl (lv_at hl 0 rfl) ?_
                refine rg_18 X w.1 dX8_likely_138 ?_
                refine lv_iconst (v := (nI 0)) hx hb dX8_likely_141 (by decide) ?_
                refine rn_18 X w.1 (by omega) dX8_likely_142 ?_
                refine tp_i (show zz.2.1 18 0 = (nI (sp_ro S 0)) from (congrFun (hf1.2.1 18 (by decide)) _).trans (hro.2 0 (by omega)).1) ?_
                refine rc_p (rest := [.int (nI 6), .ref (g.2.2.2.2 19)]) X hml hl.1 (k_hurtS l g zz (sp_ro S 0) S (rSc_fr hfz (by decide) (by decide) (by decide) (by decide) (by decide) (by decide) hz) ho (by omega)) ok_hurtOf wm_X8_91 ⟨Nat.le_of_ble_eq_true rfl, Nat.le_of_ble_eq_true rfl⟩ ⟨Nat.le_refl _, Nat.le_refl _⟩ w.1 rfl (Nat.le_of_ble_eq_true rfl) dX8_likely_143 (fun r_143 hr_143 => ?_)
                subst hr_143
                refine n_imul hx hb dX8_likely_146 ?_
                refine lv_aload_n hx hb dX8_likely_147 rfl (lv_at hl 0 rfl) ?_
                refine lv_iconst (v := (nI 0)) hx hb dX8_likely_148 (by decide) ?_
                refine rc_p (rest := [.int (nI (6 * (S.2.1 4 (sp_ro S 0)))), .ref (g.2.2.2.2 19)]) X hml hl.1 (k_hurtS l g zz 0 S (rSc_fr hfz (by decide) (by decide) (by decide) (by decide) (by decide) (by decide) hz) ho (by omega)) ok_hurtOf wm_X8_91 ⟨Nat.le_of_ble_eq_true rfl, Nat.le_of_ble_eq_true rfl⟩ ⟨Nat.le_refl _, Nat.le_refl _⟩ w.1 rfl (Nat.le_of_ble_eq_true rfl) dX8_likely_149 (fun r_149 hr_149 => ?_)
                subst hr_149
                refine n_iadd hx hb dX8_likely_152 ?_
                refine rn_19 X w.1 (by omega) dX8_likely_153 ?_
                refine tp_i (show zz.2.1 19 ((6 * (S.2.1 4 (sp_ro S 0))) + (S.2.1 4 0)) = (nI (sp_lk S (sp_ro S) (sp_rn S) (sp_bs S (sp_ro S) (sp_rn S) V9 (36 * sp_rn S)) i9a ((6 * (S.2.1 4 (sp_ro S 0))) + (S.2.1 4 0)))) from hlz.1 ((6 * (S.2.1 4 (sp_ro S 0))) + (S.2.1 4 0)) (by omega)) ?_
                exact re_i X hr hk w (⟨by unfold sp_ch; rw [if_neg (by omega), show S.2.1 5 (sp_ro S (sp_rn S - 1)) - 1 - S.1 3 = i9a by omega], ⟨_, hlz⟩, hfz⟩) dX8_likely_154
              · skip
                refine lv_aload_n hx hb dX8_likely_116 rfl (lv_at hl 0 rfl) ?_
                refine lv_iload_n hx hb dX8_likely_117 rfl (lv_at hl 1 rfl) ?_
                refine lv_iload_n hx hb dX8_likely_118 rfl (lv_at hl 2 rfl) ?_
                refine lv_iconst (v := (nI 1)) hx hb dX8_likely_119 (by decide) ?_
                refine tp_i (show nI 1 = iZ (1 : Int) from by decide) ?_
                refine z_iadd hx hb dX8_likely_120 ?_
                refine tp_i (by rw [← iZ_n]; exact congrArg iZ (by omega) : (iZ ((((S.2.1 5 (sp_ro S (sp_rn S - 1)) : Nat) : Int) - (2 : Int) - ((i9a : Nat) : Int)) + ((1 : Int)))) = (nI (S.2.1 5 (sp_ro S (sp_rn S - 1)) - 1 - i9a))) ?_
                refine rc_v (rest := []) X hml hl.1 (k_aheadOf l g zz (sp_rn S) (S.2.1 5 (sp_ro S (sp_rn S - 1)) - 1 - i9a) S (rSc_fr hfz (by decide) (by decide) (by decide) (by decide) (by decide) (by decide) hz) ho (sp_rn S) (sp_ro S) (sp_lk S (sp_ro S) (sp_rn S) (sp_bs S (sp_ro S) (sp_rn S) V9 (36 * sp_rn S)) i9a) ⟨hro.1, fun j hj => ⟨(congrFun (hf1.2.1 18 (by decide)) _).trans (hro.2 j hj).1, (hro.2 j hj).2⟩⟩ hlz rfl (by omega)) ok_aheadOf wm_X8_210 ⟨Nat.le_of_ble_eq_true rfl, Nat.le_of_ble_eq_true rfl⟩ ⟨Nat.le_refl _, Nat.le_refl _⟩ w rfl (Nat.le_of_ble_eq_true rfl) dX8_likely_121 (fun z_121 H locs hr_121 w => ?_)
                have fz3 := rFr_w (is' := []) (ks' := [18, 19, 20]) hr_121.2 (by simp) (by simp)
                have fz4 := rFr_w (is' := []) (ks' := [19, 20]) hr_121.2 (by simp) (by simp)
                refine lv_iinc (v := (iZ (((S.2.1 5 (sp_ro S (sp_rn S - 1)) : Nat) : Int) - (2 : Int) - ((i9a : Nat) : Int) + -1))) (lv' := [(2, .int (iZ (((S.2.1 5 (sp_ro S (sp_rn S - 1)) : Nat) : Int) - (2 : Int) - ((i9a : Nat) : Int) + -1))), (0, .ref g.2.2.2.1), (1, .int (nI (sp_rn S)))]) hx hb dX8_likely_124 hl (k := 2) rfl (iZ_add _ _) (by decide) rfl (fun ls hl => ?_)
                refine lv_goto (tgt := 106) hx hb dX8_likely_127 (by decide) ?_
                rw [show ((S.2.1 5 (sp_ro S (sp_rn S - 1)) : Nat) : Int) - (2 : Int) - ((i9a : Nat) : Int) + -1 = ((S.2.1 5 (sp_ro S (sp_rn S - 1)) : Nat) : Int) - (2 : Int) - ((i9a + 1 : Nat) : Int) by omega] at hl
                exact ih_106 (i9a + 1) (by omega) (by omega) ls z_121 _ _ w (rFr_tr hfz fz3) (rFr_tr hf1 fz4) hr_121.1 (lv_sub hl [1, 2, 0] rfl)
          exact lp_106 _ 0 (Nat.zero_le _) (Nat.lt_succ_self _) ls zz _ _ w hfz hf1 hlz (lv_sub hl [1, 2, 0] rfl)
        · skip
          obtain ⟨kk9, rfl⟩ : ∃ q9, kr9 = q9 + 1 := ⟨kr9 - 1, by omega⟩
          rw [← zn1 kk9] at hl
          refine lv_iconst (v := (nI 5)) hx hb dX8_likely_20 (by decide) ?_
          refine lv_istore_n (lv' := [(3, .int (nI 5)), (0, .ref g.2.2.2.1), (1, .int (nI (sp_rn S))), (2, .int (nI kk9))]) hx hb dX8_likely_21 rfl hl (by decide) rfl (fun ls hl => ?_)
          have lp_22 : ∀ (n_22 : Nat) (or9 : Nat) (hor : or9 ≤ 6) (hm_22 : or9 < n_22) (ls : Array Slot) (zz : RS) (H : Heap) (locs : List Loc) (w : rW g A s zz H locs) (hfz : rFr [] [18, 19, 20] z zz) (hf1 : rFr [] [19, 20] z_1 zz) (hlz : rLt zz (sp_bs S (sp_ro S) (sp_rn S) V9 (36 * sp_rn S - (36 * kk9 + 6 * or9)))), lv_has ls 5 [(0, .ref g.2.2.2.1), (1, .int (nI (sp_rn S))), (2, .int (nI kk9)), (3, .int (iZ (((or9 : Nat) : Int) - (1 : Int))))] → W p l e (ro_m 3 80) s m args below meth c H locs 0 0 (MQ below (va_Qi (fun r z' => r = nI (sp_ch S V9) ∧ (∃ U9, rLt z' U9) ∧ rFr [] [18, 19, 20] z z') (rB g A) A) args s 0 0 A) (F0 m 22 ls []) := by
            intro n_22
            induction n_22 with
            | zero => intro or9 hor hm; exact absurd hm (Nat.not_lt_zero _)
            | succ n_22 ih_22 =>
              intro or9 hor hm_22 ls zz H locs w hfz hf1 hlz hl
              refine lv_iload_n hx hb dX8_likely_22 rfl (lv_at hl 3 rfl) ?_
              refine z_if_lt (tgt := 81) hx hb dX8_likely_23 (by decide) (by omega) (by omega) (fun c_23_4 => ?_) (fun c_23_4 => ?_)
              · skip
                refine lv_iinc (v := (iZ (((kk9 : Nat) : Int) - (1 : Int)))) (lv' := [(2, .int (iZ (((kk9 : Nat) : Int) - (1 : Int)))), (0, .ref g.2.2.2.1), (1, .int (nI (sp_rn S))), (3, .int (iZ (((or9 : Nat) : Int) - (1 : Int))))]) hx hb dX8_likely_81 hl (k := 2) rfl (dec_z _) (by decide) rfl (fun ls hl => ?_)
                refine lv_goto (tgt := 16) hx hb dX8_likely_84 (by decide) ?_
                exact ih_16 kk9 (by omega) (by omega) ls zz _ _ w hfz hf1 (by have e8 : or9 = 0 := (by omega); subst e8; exact hlz) (lv_sub hl [1, 2, 0] rfl)
              · skip
                obtain ⟨oo9, rfl⟩ : ∃ q9, or9 = q9 + 1 := ⟨or9 - 1, by omega⟩
                rw [← zn1 oo9] at hl
                refine lv_iconst (v := (nI 5)) hx hb dX8_likely_26 (by decide) ?_
                refine lv_istore (lv' := [(4, .int (nI 5)), (0, .ref g.2.2.2.1), (1, .int (nI (sp_rn S))), (2, .int (nI kk9)), (3, .int (nI oo9))]) hx hb dX8_likely_27 hl (by decide) rfl (fun ls hl => ?_)
                have lp_29 : ∀ (n_29 : Nat) (hq9 : Nat) (hhq : hq9 ≤ 6) (hm_29 : hq9 < n_29) (ls : Array Slot) (zz : RS) (H : Heap) (locs : List Loc) (w : rW g A s zz H locs) (hfz : rFr [] [18, 19, 20] z zz) (hf1 : rFr [] [19, 20] z_1 zz) (hlz : rLt zz (sp_bs S (sp_ro S) (sp_rn S) V9 (36 * sp_rn S - (36 * kk9 + 6 * oo9 + hq9)))), lv_has ls 5 [(0, .ref g.2.2.2.1), (1, .int (nI (sp_rn S))), (2, .int (nI kk9)), (3, .int (nI oo9)), (4, .int (iZ (((hq9 : Nat) : Int) - (1 : Int))))] → W p l e (ro_m 3 80) s m args below meth c H locs 0 0 (MQ below (va_Qi (fun r z' => r = nI (sp_ch S V9) ∧ (∃ U9, rLt z' U9) ∧ rFr [] [18, 19, 20] z z') (rB g A) A) args s 0 0 A) (F0 m 29 ls []) := by
                  intro n_29
                  induction n_29 with
                  | zero => intro hq9 hhq hm; exact absurd hm (Nat.not_lt_zero _)
                  | succ n_29 ih_29 =>
                    intro hq9 hhq hm_29 ls zz H locs w hfz hf1 hlz hl
                    refine lv_iload hx hb dX8_likely_29 (lv_at hl 4 rfl) ?_
                    refine z_if_lt (tgt := 75) hx hb dX8_likely_31 (by decide) (by omega) (by omega) (fun c_31_5 => ?_) (fun c_31_5 => ?_)
                    · skip
                      refine lv_iinc (v := (iZ (((oo9 : Nat) : Int) - (1 : Int)))) (lv' := [(3, .int (iZ (((oo9 : Nat) : Int) - (1 : Int)))), (0, .ref g.2.2.2.1), (1, .int (nI (sp_rn S))), (2, .int (nI kk9)), (4, .int (iZ (((hq9 : Nat) : Int) - (1 : Int))))]) hx hb dX8_likely_75 hl (k := 3) rfl (dec_z _) (by decide) rfl (fun ls hl => ?_)
                      refine lv_goto (tgt := 22) hx hb dX8_likely_78 (by decide) ?_
                      exact ih_22 oo9 (by omega) (by omega) ls zz _ _ w hfz hf1 (by have e8 : hq9 = 0 := (by omega); subst e8; exact hlz) (lv_sub hl [1, 2, 3, 0] rfl)
                    · skip
                      obtain ⟨hh9, rfl⟩ : ∃ q9, hq9 = q9 + 1 := ⟨hq9 - 1, by omega⟩
                      rw [← zn1 hh9] at hl
                      refine lv_aload_n hx hb dX8_likely_34 rfl (lv_at hl 0 rfl) ?_
                      refine rg_19 X w.1 dX8_likely_35 ?_
                      refine lv_bipush (v := (nI 36)) hx hb dX8_likely_38 (by decide) ?_
                      refine lv_iload_n hx hb dX8_likely_40 rfl (lv_at hl 2 rfl) ?_
                      refine n_imul hx hb dX8_likely_41 ?_
                      refine lv_bipush (v := (nI 6)) hx hb dX8_likely_42 (by decide) ?_
                      refine lv_iload_n hx hb dX8_likely_44 rfl (lv_at hl 3 rfl) ?_
                      refine n_imul hx hb dX8_likely_45 ?_
                      refine n_iadd hx hb dX8_likely_46 ?_
                      refine lv_iload hx hb dX8_likely_47 (lv_at hl 4 rfl) ?_
                      refine n_iadd hx hb dX8_likely_49 ?_
                      refine lv_aload_n hx hb dX8_likely_50 rfl (lv_at hl 0 rfl) ?_
                      refine lv_iload_n hx hb dX8_likely_51 rfl (lv_at hl 2 rfl) ?_
                      refine lv_iload_n hx hb dX8_likely_52 rfl (lv_at hl 1 rfl) ?_
                      refine lv_iload hx hb dX8_likely_53 (lv_at hl 4 rfl) ?_
                      refine lv_iload_n hx hb dX8_likely_55 rfl (lv_at hl 3 rfl) ?_
                      refine lv_iload_n hx hb dX8_likely_56 rfl (lv_at hl 1 rfl) ?_
                      refine lv_iconst (v := (nI 1)) hx hb dX8_likely_57 (by decide) ?_
                      refine n_isub hx hb dX8_likely_58 (by omega) ?_
                      refine lv_iload_n hx hb dX8_likely_59 rfl (lv_at hl 2 rfl) ?_
                      refine n_isub hx hb dX8_likely_60 (by omega) ?_
                      refine lv_aload_n hx hb dX8_likely_61 rfl (lv_at hl 0 rfl) ?_
                      refine rg_19 X w.1 dX8_likely_62 ?_
                      refine rc_p (rest := [.int (nI (((36 * kk9) + (6 * oo9)) + hh9)), .ref (g.2.2.2.2 19)]) X hml hl.1 (k_fought l g zz kk9 (sp_rn S) hh9 oo9 (sp_rn S - 1 - kk9) S (rSc_fr hfz (by decide) (by decide) (by decide) (by decide) (by decide) (by decide) hz) ho (sp_rn S) (sp_ro S) (sp_bs S (sp_ro S) (sp_rn S) V9 (36 * sp_rn S - (36 * kk9 + 6 * oo9 + (hh9 + 1)))) ⟨hro.1, fun j hj => ⟨(congrFun (hf1.2.1 18 (by decide)) _).trans (hro.2 j hj).1, (hro.2 j hj).2⟩⟩ hlz rfl (by omega) (by omega) (by omega) (by omega)) ok_fought wm_X8_206 ⟨Nat.le_of_ble_eq_true rfl, Nat.le_of_ble_eq_true rfl⟩ ⟨Nat.le_refl _, Nat.le_refl _⟩ w.1 rfl (Nat.le_of_ble_eq_true rfl) dX8_likely_65 (fun r_65 hr_65 => ?_)
                      subst hr_65
                      refine ru_19 X w (by omega) dX8_likely_68 (fun z_68 H locs ez_68 w => ?_)
                      refine lv_iinc (v := (iZ (((hh9 : Nat) : Int) - (1 : Int)))) (lv' := [(4, .int (iZ (((hh9 : Nat) : Int) - (1 : Int)))), (0, .ref g.2.2.2.1), (1, .int (nI (sp_rn S))), (2, .int (nI kk9)), (3, .int (nI oo9))]) hx hb dX8_likely_69 hl (k := 4) rfl (dec_z _) (by decide) rfl (fun ls hl => ?_)
                      refine lv_goto (tgt := 29) hx hb dX8_likely_72 (by decide) ?_
                      exact ih_29 hh9 (by omega) (by omega) ls z_68 _ _ w (by rw [ez_68]; exact rFr_tr hfz (rFr_A _ (by decide))) (by rw [ez_68]; exact rFr_tr hf1 (rFr_A _ (by decide))) (by rw [ez_68]; exact bs_s (by omega) (by omega) (by omega) hlz) (lv_sub hl [1, 2, 3, 4, 0] rfl)
                exact lp_29 _ 6 (by omega) (Nat.lt_succ_self _) ls zz _ _ w hfz hf1 (by rw [show 36 * kk9 + 6 * oo9 + 6 = 36 * kk9 + 6 * (oo9 + 1) by omega]; exact hlz) (lv_sub hl [1, 2, 3, 4, 0] rfl)
          exact lp_22 _ 6 (by omega) (Nat.lt_succ_self _) ls zz _ _ w hfz hf1 (by rw [show 36 * kk9 + 6 * 6 = 36 * (kk9 + 1) by omega]; exact hlz) (lv_sub hl [1, 2, 3, 0] rfl)
    exact lp_16 _ (sp_rn S) (Nat.le_refl _) (Nat.lt_succ_self _) ls z_1 _ _ w fz2 (rFr_rf _ _ _) (by rw [Nat.sub_self]; exact lz1) (lv_sub hl [2, 1, 0] rfl)
  · skip
    refine lv_ldc hx hb hown (hts _ wk_X8_202) dX8_likely_9 ?_
    refine tp_i (show (1000000 : Int32) = (nI 1000000) from by decide) ?_
    exact re_i X hr hk w (⟨by unfold sp_ch; rw [if_pos (by omega)], ⟨V9, lz1⟩, fz2⟩) dX8_likely_11
