theorem ok_likelyBy : rOk yX8_likelyBy cX8_likelyBy 2 (some .int) 1 := ⟨wc_X8_likelyBy, wi_X8_likelyBy, ws_X8_likelyBy, rfl, by decide, by decide, by decide +kernel⟩
set_option maxHeartbeats 4000000 in
set_option maxRecDepth 100000 in
theorem k_likelyBy (l : Launch) (g : RG) (z : RS) (t9 : Nat) (S : Sc) (hz : rSc z S) (ho : oSc S) (tg : Nat) (htg : z.1 6 = nI tg) (hg1 : tg ≤ 1) (V9 : Nat → Nat) (hlt : rLt z V9) (h0 : pc_dn S 0 = 0) (ht9 : t9 ≤ 10000) (hmo : S.1 3 ≤ 10000) (hnt : S.1 4 = 0) : rMi g l yX8_likelyBy cX8_likelyBy 2 (some .int) 6 134 [.int (nI t9)] z (fun r z' => r = nI (sp_c (sp_rch S tg t9)) ∧ rSc z' (sp_rch S tg t9) ∧ (∃ U9, rLt z' U9) ∧ rFr [] [5, 18, 19, 20] z z') := by
  refine rMi_in (by decide) rfl (Nat.le_of_ble_eq_true rfl) ?_
  intro p e s m args below meth c A ls X hml hr hk hl w
  have hx := X.1
  have hb := X.2.1
  have hts := X.2.2.1
  have hown := X.2.2.2.1
  have hl : lv_has ls 2 [(0, .ref g.2.2.2.1), (1, .int (nI t9))] := hl
  have er : sp_rch S tg t9 = sp_turn S tg (sp_tm S tg (t9 - S.1 3) (S.1 3)) := if_pos hnt
  have qm := sp_tm_le S tg (t9 - S.1 3) (S.1 3)
  have hoT : oSc (sp_rch S tg t9) := by rw [er]; exact oSc_turn ho tg (by omega)
  refine lv_aload_n hx hb dX8_likelyBy_0 rfl (lv_at hl 0 rfl) ?_
  refine lv_iload_n hx hb dX8_likelyBy_1 rfl (lv_at hl 1 rfl) ?_
  refine rc_v (rest := []) X hml hl.1 (k_reaches l g z t9 S hz ho tg htg hg1 hnt ht9 hmo) ok_reaches wm_X8_214 ⟨Nat.le_of_ble_eq_true rfl, Nat.le_of_ble_eq_true rfl⟩ ⟨Nat.le_refl _, Nat.le_refl _⟩ w rfl (Nat.le_of_ble_eq_true rfl) dX8_likelyBy_2 (fun z_2 H locs hr_2 w => ?_)
  have hz_2 : rSc z_2 (sp_rch S tg t9) := by rw [er]; exact hr_2.1
  have fz_2 := rFr_w (is' := []) (ks' := [5, 18, 19, 20]) hr_2.2 (by simp) (by simp)
  refine lv_aload_n hx hb dX8_likelyBy_5 rfl (lv_at hl 0 rfl) ?_
  refine rc_i (rest := []) X hml hl.1 (k_likely l g z_2 (sp_rch S tg t9) hz_2 hoT V9 ⟨fun j hj => (congrFun (hr_2.2.2.1 19 (by decide)) _).trans (hlt.1 j hj), hlt.2⟩) ok_likely wm_X8_217 ⟨Nat.le_of_ble_eq_true rfl, Nat.le_of_ble_eq_true rfl⟩ ⟨Nat.le_refl _, Nat.le_refl _⟩ w rfl (Nat.le_of_ble_eq_true rfl) dX8_likelyBy_6 (fun r_6 z_6 H locs hr_6 w => ?_)
  have fz_6 := rFr_w (is' := []) (ks' := [5, 18, 19, 20]) hr_6.2.2 (by simp) (by simp)
  have h7 : pc_dn (sp_rch S tg t9) 0 = 0 := by rw [er, ev_dn (ev_turn S tg _)]; exact h0
  exact re_i X hr hk w (⟨by rw [hr_6.1]; exact congrArg nI (ch_any hoT h7 _ _), rSc_fr hr_6.2.2 (by decide) (by decide) (by decide) (by decide) (by decide) (by decide) hz_2, hr_6.2.1, rFr_tr fz_2 fz_6⟩) dX8_likelyBy_9

set_option maxHeartbeats 4000000 in
set_option maxRecDepth 100000 in
theorem k_likelyBy2 (l : Launch) (g : RG) (z : RS) (t9 : Nat) (S : Sc) (hz : rSc z S) (ho : oSc S) (tg : Nat) (htg : z.1 6 = nI tg) (hg1 : tg ≤ 1) (V9 : Nat → Nat) (hlt : rLt z V9) (h0 : pc_dn S 0 = 0) (ht9 : t9 ≤ 10000) (hmo : S.1 3 ≤ 10000) (hnt : ¬ S.1 4 = 0) : rMi g l yX8_likelyBy cX8_likelyBy 2 (some .int) 6 134 [.int (nI t9)] z (fun r z' => r = nI (sp_c (sp_rch S tg t9)) ∧ rSc z' (sp_rch S tg t9) ∧ (∃ U9, rLt z' U9) ∧ rFr [] [5, 18, 19, 20] z z') := by
  refine rMi_in (by decide) rfl (Nat.le_of_ble_eq_true rfl) ?_
  intro p e s m args below meth c A ls X hml hr hk hl w
  have hx := X.1
  have hb := X.2.1
  have hts := X.2.2.1
  have hown := X.2.2.2.1
  have hl : lv_has ls 2 [(0, .ref g.2.2.2.1), (1, .int (nI t9))] := hl
  have er : sp_rch S tg t9 = S := if_neg hnt
  refine lv_aload_n hx hb dX8_likelyBy_0 rfl (lv_at hl 0 rfl) ?_
  refine lv_iload_n hx hb dX8_likelyBy_1 rfl (lv_at hl 1 rfl) ?_
  refine rc_v (rest := []) X hml hl.1 (k_reaches2 l g z (nI t9) S hz ho hnt) ok_reaches wm_X8_214 ⟨Nat.le_of_ble_eq_true rfl, Nat.le_of_ble_eq_true rfl⟩ ⟨Nat.le_refl _, Nat.le_refl _⟩ w rfl (Nat.le_of_ble_eq_true rfl) dX8_likelyBy_2 (fun z_2 H locs hr_2 w => ?_)
  have hz_2 : rSc z_2 S := by rw [hr_2]; exact hz
  have lz_2 : rLt z_2 V9 := by rw [hr_2]; exact hlt
  refine lv_aload_n hx hb dX8_likelyBy_5 rfl (lv_at hl 0 rfl) ?_
  refine rc_i (rest := []) X hml hl.1 (k_likely l g z_2 S hz_2 ho V9 lz_2) ok_likely wm_X8_217 ⟨Nat.le_of_ble_eq_true rfl, Nat.le_of_ble_eq_true rfl⟩ ⟨Nat.le_refl _, Nat.le_refl _⟩ w rfl (Nat.le_of_ble_eq_true rfl) dX8_likelyBy_6 (fun r_6 z_6 H locs hr_6 w => ?_)
  have fz_6 := rFr_w (is' := []) (ks' := [5, 18, 19, 20]) hr_6.2.2 (by simp) (by simp)
  exact re_i X hr hk w (⟨by rw [hr_6.1, er]; exact congrArg nI (ch_any ho h0 _ _), by rw [er]; exact rSc_fr hr_6.2.2 (by decide) (by decide) (by decide) (by decide) (by decide) (by decide) hz_2, hr_6.2.1, by rw [← hr_2]; exact fz_6⟩) dX8_likelyBy_9

theorem k_lkBy (l : Launch) (g : RG) (z : RS) (t9 : Nat) (S : Sc) (hz : rSc z S) (ho : oSc S) (tg : Nat) (htg : z.1 6 = nI tg) (hg1 : tg ≤ 1) (V9 : Nat → Nat) (hlt : rLt z V9) (h0 : pc_dn S 0 = 0) (ht9 : t9 ≤ 10000) (hmo : S.1 3 ≤ 10000) : rMi g l yX8_likelyBy cX8_likelyBy 2 (some .int) 6 134 [.int (nI t9)] z (fun r z' => r = nI (sp_c (sp_rch S tg t9)) ∧ rSc z' (sp_rch S tg t9) ∧ (∃ U9, rLt z' U9) ∧ rFr [] [5, 18, 19, 20] z z') := by
  by_cases hnt : S.1 4 = 0
  · exact k_likelyBy l g z t9 S hz ho tg htg hg1 V9 hlt h0 ht9 hmo hnt
  · exact k_likelyBy2 l g z t9 S hz ho tg htg hg1 V9 hlt h0 ht9 hmo hnt
