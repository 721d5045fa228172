theorem ok_lines : rOk yX8_lines cX8_lines 8 (some .int) 0 := ⟨wc_X8_lines, wi_X8_lines, ws_X8_lines, rfl, by decide, by decide, by decide +kernel⟩
set_option maxHeartbeats 4000000 in
set_option maxRecDepth 100000 in
theorem k_lines (l : Launch) (g : RG) (z : RS)  (S : Sc) (hz : rSc z S) (ho : oSc S) : rMi g l yX8_lines cX8_lines 8 (some .int) 2 42 [] z (fun r z' => r = nI (sp_rn S) ∧ rRo z' (sp_rn S) (sp_ro S) ∧ rFr [] [18] z z') := by
  refine rMi_in (by decide) rfl (Nat.le_of_ble_eq_true rfl) ?_
  intro p e s m args below meth c A ls X hml hr hk hl w
  have hx := X.1
  have hb := X.2.1
  have hts := X.2.2.1
  have hown := X.2.2.2.1
  have hl : lv_has ls 8 [(0, .ref g.2.2.2.1)] := hl
  obtain ⟨hz0, hz1, hz4, hm0, hm1, hm2, hso, hki, hsr, hpa, hhu, hco⟩ := id hz
  obtain ⟨o1, o2, o3, o4, o5, o6, oso, oki, osr, opa, ohu, oco⟩ := id ho
  refine lv_iconst (v := (nI 0)) hx hb dX8_lines_0 (by decide) ?_
  refine lv_istore_n (lv' := [(1, .int (nI 0)), (0, .ref g.2.2.2.1)]) hx hb dX8_lines_1 rfl hl (by decide) rfl (fun ls hl => ?_)
  refine lv_iconst (v := (iZ (-1))) hx hb dX8_lines_2 (by decide) ?_
  refine lv_istore_n (lv' := [(2, .int (iZ (-1))), (1, .int (nI 0)), (0, .ref g.2.2.2.1)]) hx hb dX8_lines_3 rfl hl (by decide) rfl (fun ls hl => ?_)
  refine lv_iconst (v := (iZ (-1))) hx hb dX8_lines_4 (by decide) ?_
  refine lv_istore_n (lv' := [(3, .int (iZ (-1))), (2, .int (iZ (-1))), (1, .int (nI 0)), (0, .ref g.2.2.2.1)]) hx hb dX8_lines_5 rfl hl (by decide) rfl (fun ls hl => ?_)
  refine lv_iconst (v := (nI 1)) hx hb dX8_lines_6 (by decide) ?_
  refine lv_istore (lv' := [(4, .int (nI 1)), (3, .int (iZ (-1))), (2, .int (iZ (-1))), (1, .int (nI 0)), (0, .ref g.2.2.2.1)]) hx hb dX8_lines_7 hl (by decide) rfl (fun ls hl => ?_)
  have lp_9 : ∀ (n_9 : Nat) (k9 mr9 : Nat) (hk4 : k9 ≤ 4) (hmr : mr9 = 1) (hm_9 : 4 - k9 < n_9) (ls : Array Slot) (zz : RS) (H : Heap) (locs : List Loc) (w : rW g A s zz H locs) (hfz : rFr [] [18] z zz) (hrw : ∀ j, j < k9 → zz.2.1 18 j = nI (sp_ro S j) ∧ ¬ sp_ro S j = 0), lv_has ls 8 [(0, .ref g.2.2.2.1), (1, .int (nI k9)), (2, .int (iZ ((((sp_sq S k9).1 : Nat) : Int) - (1 : Int)))), (3, .int (iZ ((((sp_sq S k9).2 : Nat) : Int) - (1 : Int)))), (4, .int (nI mr9))] → W p l e (ro_m 2 42) s m args below meth c H locs 0 0 (MQ below (va_Qi (fun r z' => r = nI (sp_rn S) ∧ rRo z' (sp_rn S) (sp_ro S) ∧ rFr [] [18] z z') (rB g A) A) args s 0 0 A) (F0 m 9 ls []) := by
    intro n_9
    induction n_9 with
    | zero => intro k9 mr9 hk4 hmr hm; exact absurd hm (Nat.not_lt_zero _)
    | succ n_9 ih_9 =>
      intro k9 mr9 hk4 hmr hm_9 ls zz H locs w hfz hrw hl
      have q71 : (sp_sq S k9).1 ≤ 100000 := sq_le1 S oco k9
      have q72 : (sp_sq S k9).2 ≤ 100 := sq_le2 S (by omega) k9
      refine lv_iload hx hb dX8_lines_9 (lv_at hl 4 rfl) ?_
      refine n_if_eq (tgt := 177) hx hb dX8_lines_11 (by decide) (by omega) (fun c_11_1 => ?_) (fun c_11_1 => ?_)
      · skip
        exact absurd c_11_1 (by omega)
      · skip
        refine lv_bipush (v := (iZ (-4))) hx hb dX8_lines_14 (by decide) ?_
        refine lv_istore (lv' := [(5, .int (iZ (-4))), (0, .ref g.2.2.2.1), (1, .int (nI k9)), (2, .int (iZ ((((sp_sq S k9).1 : Nat) : Int) - (1 : Int)))), (3, .int (iZ ((((sp_sq S k9).2 : Nat) : Int) - (1 : Int)))), (4, .int (nI mr9))]) hx hb dX8_lines_16 hl (by decide) rfl (fun ls hl => ?_)
        refine lv_iconst (v := (nI 1)) hx hb dX8_lines_18 (by decide) ?_
        refine lv_istore (lv' := [(6, .int (nI 1)), (5, .int (iZ (-4))), (0, .ref g.2.2.2.1), (1, .int (nI k9)), (2, .int (iZ ((((sp_sq S k9).1 : Nat) : Int) - (1 : Int)))), (3, .int (iZ ((((sp_sq S k9).2 : Nat) : Int) - (1 : Int)))), (4, .int (nI mr9))]) hx hb dX8_lines_19 hl (by decide) rfl (fun ls hl => ?_)
        have lp_21 : ∀ (n_21 : Nat) (i9 : Nat) (hi9 : i9 ≤ S.1 1 - 1) (hm_21 : S.1 1 - i9 < n_21) (ls : Array Slot), lv_has ls 8 [(0, .ref g.2.2.2.1), (1, .int (nI k9)), (2, .int (iZ ((((sp_sq S k9).1 : Nat) : Int) - (1 : Int)))), (3, .int (iZ ((((sp_sq S k9).2 : Nat) : Int) - (1 : Int)))), (4, .int (nI mr9)), (5, .int (pc_fd (sp_sl S (sp_sq S k9).1 (sp_sq S k9).2 i9))), (6, .int (nI (i9 + 1)))] → W p l e (ro_m 2 42) s m args below meth c H locs 0 0 (MQ below (va_Qi (fun r z' => r = nI (sp_rn S) ∧ rRo z' (sp_rn S) (sp_ro S) ∧ rFr [] [18] z z') (rB g A) A) args s 0 0 A) (F0 m 21 ls []) := by
          intro n_21
          induction n_21 with
          | zero => intro i9 hi9 hm; exact absurd hm (Nat.not_lt_zero _)
          | succ n_21 ih_21 =>
            intro i9 hi9 hm_21 ls hl
            have q1 := sp_sl_le S (sp_sq S k9).1 (sp_sq S k9).2 i9
            have q2 := oco (i9 + 1)
            have q3 := oco (sp_sl S (sp_sq S k9).1 (sp_sq S k9).2 i9)
            refine lv_iload hx hb dX8_lines_21 (lv_at hl 6 rfl) ?_
            refine lv_aload_n hx hb dX8_lines_23 rfl (lv_at hl 0 rfl) ?_
            refine rg_1 X w.1 dX8_lines_24 ?_
            refine tp_i (show zz.1 1 = (nI (S.1 1)) from (hfz.1 1 (by decide)).trans hz1) ?_
            refine n_icmp_ge (tgt := 130) hx hb dX8_lines_27 (by decide) (by omega) (by omega) (fun c_27_2 => ?_) (fun c_27_2 => ?_)
            · skip
              have ei : i9 = S.1 1 - 1 := by omega
              subst ei
              rw [show sp_sl S (sp_sq S k9).1 (sp_sq S k9).2 (S.1 1 - 1) = sp_ro S k9 from rfl] at hl
              refine lv_iload hx hb dX8_lines_130 (lv_at hl 5 rfl) ?_
              refine lv_bipush (v := (iZ (-4))) hx hb dX8_lines_132 (by decide) ?_
              refine jn (tgt := 142) (rest := []) (fun v9 => ∃ x9 : Nat, x9 = (if ((pc_fd (sp_ro S k9))) = ((iZ (-4))) then 0 else 1) ∧ v9 = nI x9) (fun v_ hv_ => ?_) (fun k_142 => ?_)
              · obtain ⟨x_142, ex_142, rfl⟩ := hv_
                have q8 : x_142 ≤ 1 := by rw [ex_142]; split <;> omega
                refine lv_istore (lv' := [(4, .int (nI x_142)), (0, .ref g.2.2.2.1), (1, .int (nI k9)), (2, .int (iZ ((((sp_sq S k9).1 : Nat) : Int) - (1 : Int)))), (3, .int (iZ ((((sp_sq S k9).2 : Nat) : Int) - (1 : Int)))), (5, .int (pc_fd (sp_ro S k9))), (6, .int (nI ((S.1 1 - 1) + 1)))]) hx hb dX8_lines_142 hl (by decide) rfl (fun ls hl => ?_)
                refine lv_iload hx hb dX8_lines_144 (lv_at hl 0 rfl) ?_
                refine n_if_eq (tgt := 174) hx hb dX8_lines_146 (by decide) (by omega) (fun c_146_4 => ?_) (fun c_146_4 => ?_)
                · skip
                  refine lv_goto (tgt := 9) hx hb dX8_lines_174 (by decide) ?_
                  refine lv_iload hx hb dX8_lines_9 (lv_at hl 0 rfl) ?_
                  refine n_if_eq (tgt := 177) hx hb dX8_lines_11 (by decide) (by omega) (fun c_11_5 => ?_) (fun c_11_5 => ?_)
                  · skip
                    refine lv_iload_n hx hb dX8_lines_177 rfl (lv_at hl 2 rfl) ?_
                    exact re_i X hr hk w (by have e0 : sp_ro S k9 = 0 := (by have q6 : x_142 = 0 := (by assumption); rw [ex_142] at q6; by_cases q7 : pc_fd (sp_ro S k9) = iZ (-4); exact (pc_fd_4 (by have := ro_le S k9; omega)).mp q7; rw [if_neg q7] at q6; exact absurd q6 (by decide)); have en := rn_eq hk4 (fun j hj => (hrw j hj).2) (Or.inl e0); rw [← en]; exact ⟨rfl, ⟨hk4, fun j hj => ⟨(hrw j hj).1, by have := (hrw j hj).2; omega, by have := ro_le S j; omega⟩⟩, hfz⟩) dX8_lines_178
                  · skip
                    exact absurd (by assumption) c_11_5
                · skip
                  have hne : ¬ pc_fd (sp_ro S k9) = iZ (-4) := fun q => c_146_4 (by rw [ex_142, if_pos q])
                  have hf9 : pc_fd (sp_ro S k9) = nI (sp_ro S k9) := pc_fd_n hne
                  have hr9 : ¬ sp_ro S k9 = 0 := fun q => hne ((pc_fd_4 (by have := ro_le S k9; omega)).mpr q)
                  have hk9 := ro_k (S := S) (k := k9) (fun j hj => by rcases Nat.lt_or_ge j k9 with q | q; exact (hrw j q).2; rw [show j = k9 by omega]; exact hr9)
                  have hl9 := ro_le S k9
                  rw [hf9] at hl
                  refine lv_aload_n hx hb dX8_lines_149 rfl (lv_at hl 1 rfl) ?_
                  refine rg_18 X w.1 dX8_lines_150 ?_
                  refine lv_iload_n hx hb dX8_lines_153 rfl (lv_at hl 2 rfl) ?_
                  refine lv_iload hx hb dX8_lines_154 (lv_at hl 5 rfl) ?_
                  refine ru_18 X w (by omega) dX8_lines_156 (fun z_156 H locs ez_156 w => ?_)
                  have hfz_156 : rFr [] [18] z z_156 := by rw [ez_156]; exact rFr_tr hfz (rFr_A _ (by decide))
                  refine lv_iinc (v := (nI (k9 + 1))) (lv' := [(1, .int (nI (k9 + 1))), (4, .int (nI x_142)), (0, .ref g.2.2.2.1), (2, .int (iZ ((((sp_sq S k9).1 : Nat) : Int) - (1 : Int)))), (3, .int (iZ ((((sp_sq S k9).2 : Nat) : Int) - (1 : Int)))), (5, .int (nI (sp_ro S k9))), (6, .int (nI ((S.1 1 - 1) + 1)))]) hx hb dX8_lines_157 hl (k := 2) rfl (by first | exact nI_1 _ | (rw [show Int32.ofInt 1 = nI 1 from by decide, nI_add])) (by decide) rfl (fun ls hl => ?_)
                  refine lv_aload_n hx hb dX8_lines_160 rfl (lv_at hl 2 rfl) ?_
                  refine rg_5 X w.1 dX8_lines_161 ?_
                  refine lv_bipush (v := (nI 8)) hx hb dX8_lines_164 (by decide) ?_
                  refine lv_iload hx hb dX8_lines_166 (lv_at hl 5 rfl) ?_
                  refine n_iadd hx hb dX8_lines_168 ?_
                  refine rn_5 X w.1 (by omega) dX8_lines_169 ?_
                  refine tp_i (show z_156.2.1 5 (8 + (sp_ro S k9)) = (nI (S.2.1 5 (sp_ro S k9))) from (congrFun (hfz_156.2.1 5 (by decide)) _).trans (hco (sp_ro S k9) (by omega))) ?_
                  refine tp_i (zn1 _ : (nI (S.2.1 5 (sp_ro S k9))) = (iZ (((S.2.1 5 (sp_ro S k9) + 1 : Nat) : Int) - (1 : Int)))) ?_
                  refine lv_istore_n (lv' := [(2, .int (iZ (((S.2.1 5 (sp_ro S k9) + 1 : Nat) : Int) - (1 : Int)))), (1, .int (nI (k9 + 1))), (4, .int (nI x_142)), (0, .ref g.2.2.2.1), (3, .int (iZ ((((sp_sq S k9).2 : Nat) : Int) - (1 : Int)))), (5, .int (nI (sp_ro S k9))), (6, .int (nI ((S.1 1 - 1) + 1)))]) hx hb dX8_lines_170 rfl hl (by decide) rfl (fun ls hl => ?_)
                  refine lv_iload hx hb dX8_lines_171 (lv_at hl 5 rfl) ?_
                  refine tp_i (zn1 _ : (nI (sp_ro S k9)) = (iZ (((sp_ro S k9 + 1 : Nat) : Int) - (1 : Int)))) ?_
                  refine lv_istore_n (lv' := [(3, .int (iZ (((sp_ro S k9 + 1 : Nat) : Int) - (1 : Int)))), (2, .int (iZ (((S.2.1 5 (sp_ro S k9) + 1 : Nat) : Int) - (1 : Int)))), (1, .int (nI (k9 + 1))), (4, .int (nI x_142)), (0, .ref g.2.2.2.1), (5, .int (nI (sp_ro S k9))), (6, .int (nI ((S.1 1 - 1) + 1)))]) hx hb dX8_lines_173 rfl hl (by decide) rfl (fun ls hl => ?_)
                  refine lv_goto (tgt := 9) hx hb dX8_lines_174 (by decide) ?_
                  exact ih_9 (k9 + 1) x_142 (by omega) (by omega) (by omega) ls z_156 _ _ w hfz_156 (by rw [ez_156]; exact ro_put hrw hr9) (lv_sub hl [4, 2, 1, 0, 3] rfl)
              · skip
                refine lv_icmp_eq (tgt := 141) hx hb dX8_lines_134 (by decide) (fun c_134_6 => ?_) (fun c_134_6 => ?_)
                · skip
                  refine lv_iconst (v := (nI 0)) hx hb dX8_lines_141 (by decide) ?_
                  exact k_142 _ ⟨_, by simp only [if_pos c_134_6], rfl⟩
                · skip
                  refine lv_iconst (v := (nI 1)) hx hb dX8_lines_137 (by decide) ?_
                  refine lv_goto (tgt := 142) hx hb dX8_lines_138 (by decide) ?_
                  exact k_142 _ ⟨_, by simp only [if_neg c_134_6], rfl⟩
            · skip
              refine lv_aload_n hx hb dX8_lines_30 rfl (lv_at hl 0 rfl) ?_
              refine lv_iload hx hb dX8_lines_31 (lv_at hl 6 rfl) ?_
              refine rc_p (rest := []) X hml hl.1 (k_downS l g zz (i9 + 1) S (rSc_fr hfz (by decide) (by decide) (by decide) (by decide) (by decide) (by decide) hz) ho (by omega)) ok_isDown wm_X8_103 ⟨Nat.le_of_ble_eq_true rfl, Nat.le_of_ble_eq_true rfl⟩ ⟨Nat.le_refl _, Nat.le_refl _⟩ w.1 rfl (Nat.le_of_ble_eq_true rfl) dX8_lines_33 (fun r_33 hr_33 => ?_)
              subst hr_33
              have dd := pc_dn01 S (i9 + 1)
              refine jn (tgt := 78) (rest := []) (fun v9 => ∃ x9 : Nat, x9 = (if (pc_dn S (i9 + 1)) = 0 then (if ((((sp_sq S k9).1 : Nat) : Int) - (1 : Int)) < (((S.2.1 5 (i9 + 1) : Nat) : Int)) then 1 else (if (((S.2.1 5 (i9 + 1) : Nat) : Int)) = ((((sp_sq S k9).1 : Nat) : Int) - (1 : Int)) then (if (((i9 + 1 : Nat) : Int)) ≤ ((((sp_sq S k9).2 : Nat) : Int) - (1 : Int)) then 0 else 1) else 0)) else 0) ∧ v9 = nI x9) (fun v_ hv_ => ?_) (fun k_78 => ?_)
              · obtain ⟨x_78, ex_78, rfl⟩ := hv_
                have q9 : x_78 ≤ 1 := by rw [ex_78]; split; split; omega; split; split <;> omega; omega; omega
                refine lv_istore (lv' := [(7, .int (nI x_78)), (0, .ref g.2.2.2.1), (1, .int (nI k9)), (2, .int (iZ ((((sp_sq S k9).1 : Nat) : Int) - (1 : Int)))), (3, .int (iZ ((((sp_sq S k9).2 : Nat) : Int) - (1 : Int)))), (4, .int (nI mr9)), (5, .int (pc_fd (sp_sl S (sp_sq S k9).1 (sp_sq S k9).2 i9))), (6, .int (nI (i9 + 1)))]) hx hb dX8_lines_78 hl (by decide) rfl (fun ls hl => ?_)
                refine lv_iload hx hb dX8_lines_80 (lv_at hl 0 rfl) ?_
                refine jn (tgt := 122) (rest := []) (fun v9 => v9 = (if x_78 = 0 then ((pc_fd (sp_sl S (sp_sq S k9).1 (sp_sq S k9).2 i9))) else (if ((pc_fd (sp_sl S (sp_sq S k9).1 (sp_sq S k9).2 i9))) = ((iZ (-4))) then ((nI (i9 + 1))) else (if (S.2.1 5 (sp_sl S (sp_sq S k9).1 (sp_sq S k9).2 i9)) ≤ (S.2.1 5 (i9 + 1)) then ((pc_fd (sp_sl S (sp_sq S k9).1 (sp_sq S k9).2 i9))) else ((nI (i9 + 1))))))) (fun x_122 ex_122 => ?_) (fun k_122 => ?_)
                · skip
                  refine lv_istore (lv' := [(5, .int x_122), (7, .int (nI x_78)), (0, .ref g.2.2.2.1), (1, .int (nI k9)), (2, .int (iZ ((((sp_sq S k9).1 : Nat) : Int) - (1 : Int)))), (3, .int (iZ ((((sp_sq S k9).2 : Nat) : Int) - (1 : Int)))), (4, .int (nI mr9)), (6, .int (nI (i9 + 1)))]) hx hb dX8_lines_122 hl (by decide) rfl (fun ls hl => ?_)
                  refine lv_iinc (v := (nI (i9 + 1 + 1))) (lv' := [(6, .int (nI (i9 + 1 + 1))), (5, .int x_122), (7, .int (nI x_78)), (0, .ref g.2.2.2.1), (1, .int (nI k9)), (2, .int (iZ ((((sp_sq S k9).1 : Nat) : Int) - (1 : Int)))), (3, .int (iZ ((((sp_sq S k9).2 : Nat) : Int) - (1 : Int)))), (4, .int (nI mr9))]) hx hb dX8_lines_124 hl (k := 7) rfl (by first | exact nI_1 _ | (rw [show Int32.ofInt 1 = nI 1 from by decide, nI_add])) (by decide) rfl (fun ls hl => ?_)
                  refine lv_goto (tgt := 21) hx hb dX8_lines_127 (by decide) ?_
                  rw [sl_s (by omega) ex_78 ex_122] at hl
                  exact ih_21 (i9 + 1) (by omega) (by omega) ls (lv_sub hl [3, 4, 5, 6, 7, 1, 0] rfl)
                · skip
                  refine n_if_eq (tgt := 120) hx hb dX8_lines_82 (by decide) (by omega) (fun c_82_9 => ?_) (fun c_82_9 => ?_)
                  · skip
                    refine lv_iload hx hb dX8_lines_120 (lv_at hl 6 rfl) ?_
                    exact k_122 _ (by simp only [if_pos c_82_9])
                  · skip
                    refine lv_iload hx hb dX8_lines_85 (lv_at hl 6 rfl) ?_
                    refine lv_bipush (v := (iZ (-4))) hx hb dX8_lines_87 (by decide) ?_
                    refine lv_icmp_eq (tgt := 115) hx hb dX8_lines_89 (by decide) (fun c_89_10 => ?_) (fun c_89_10 => ?_)
                    · skip
                      refine lv_iload hx hb dX8_lines_115 (lv_at hl 7 rfl) ?_
                      refine lv_goto (tgt := 122) hx hb dX8_lines_117 (by decide) ?_
                      exact k_122 _ (by simp only [if_neg c_82_9, if_pos c_89_10])
                    · skip
                      refine lv_aload_n hx hb dX8_lines_92 rfl (lv_at hl 1 rfl) ?_
                      refine rg_5 X w.1 dX8_lines_93 ?_
                      refine lv_bipush (v := (nI 8)) hx hb dX8_lines_96 (by decide) ?_
                      refine lv_iload hx hb dX8_lines_98 (lv_at hl 7 rfl) ?_
                      refine n_iadd hx hb dX8_lines_100 ?_
                      refine rn_5 X w.1 (by omega) dX8_lines_101 ?_
                      refine tp_i (show zz.2.1 5 (8 + (i9 + 1)) = (nI (S.2.1 5 (i9 + 1))) from (congrFun (hfz.2.1 5 (by decide)) _).trans (hco (i9 + 1) (by omega))) ?_
                      refine lv_aload_n hx hb dX8_lines_102 rfl (lv_at hl 1 rfl) ?_
                      refine rg_5 X w.1 dX8_lines_103 ?_
                      refine lv_bipush (v := (nI 8)) hx hb dX8_lines_106 (by decide) ?_
                      refine lv_iload hx hb dX8_lines_108 (lv_at hl 6 rfl) ?_
                      refine tp_i (pc_fd_n (by assumption) : (pc_fd (sp_sl S (sp_sq S k9).1 (sp_sq S k9).2 i9)) = (nI (sp_sl S (sp_sq S k9).1 (sp_sq S k9).2 i9))) ?_
                      refine n_iadd hx hb dX8_lines_110 ?_
                      refine rn_5 X w.1 (by omega) dX8_lines_111 ?_
                      refine tp_i (show zz.2.1 5 (8 + (sp_sl S (sp_sq S k9).1 (sp_sq S k9).2 i9)) = (nI (S.2.1 5 (sp_sl S (sp_sq S k9).1 (sp_sq S k9).2 i9))) from (congrFun (hfz.2.1 5 (by decide)) _).trans (hco (sp_sl S (sp_sq S k9).1 (sp_sq S k9).2 i9) (by omega))) ?_
                      refine n_icmp_ge (tgt := 120) hx hb dX8_lines_112 (by decide) (by omega) (by omega) (fun c_112_11 => ?_) (fun c_112_11 => ?_)
                      · skip
                        refine lv_iload hx hb dX8_lines_120 (lv_at hl 6 rfl) ?_
                        exact k_122 _ (by simp only [if_neg c_82_9, if_neg c_89_10, if_pos c_112_11])
                      · skip
                        refine lv_iload hx hb dX8_lines_115 (lv_at hl 7 rfl) ?_
                        refine lv_goto (tgt := 122) hx hb dX8_lines_117 (by decide) ?_
                        exact k_122 _ (by simp only [if_neg c_82_9, if_neg c_89_10, if_neg c_112_11])
              · skip
                refine n_if_ne (tgt := 77) hx hb dX8_lines_36 (by decide) (by omega) (fun c_36_12 => ?_) (fun c_36_12 => ?_)
                · skip
                  refine lv_iconst (v := (nI 0)) hx hb dX8_lines_77 (by decide) ?_
                  exact k_78 _ ⟨_, by simp only [if_neg c_36_12], rfl⟩
                · skip
                  refine lv_aload_n hx hb dX8_lines_39 rfl (lv_at hl 0 rfl) ?_
                  refine rg_5 X w.1 dX8_lines_40 ?_
                  refine lv_bipush (v := (nI 8)) hx hb dX8_lines_43 (by decide) ?_
                  refine lv_iload hx hb dX8_lines_45 (lv_at hl 6 rfl) ?_
                  refine n_iadd hx hb dX8_lines_47 ?_
                  refine rn_5 X w.1 (by omega) dX8_lines_48 ?_
                  refine tp_i (show zz.2.1 5 (8 + (i9 + 1)) = (nI (S.2.1 5 (i9 + 1))) from (congrFun (hfz.2.1 5 (by decide)) _).trans (hco (i9 + 1) (by omega))) ?_
                  refine lv_iload_n hx hb dX8_lines_49 rfl (lv_at hl 2 rfl) ?_
                  refine tp_i2 (iZ_n (S.2.1 5 (i9 + 1))).symm ?_
                  refine z_icmp_gt (tgt := 73) hx hb dX8_lines_50 (by decide) (by omega) (by omega) (by omega) (by omega) (fun c_50_13 => ?_) (fun c_50_13 => ?_)
                  · skip
                    refine lv_iconst (v := (nI 1)) hx hb dX8_lines_73 (by decide) ?_
                    refine lv_goto (tgt := 78) hx hb dX8_lines_74 (by decide) ?_
                    exact k_78 _ ⟨_, by simp only [if_pos c_36_12, if_pos c_50_13], rfl⟩
                  · skip
                    refine lv_aload_n hx hb dX8_lines_53 rfl (lv_at hl 0 rfl) ?_
                    refine rg_5 X w.1 dX8_lines_54 ?_
                    refine lv_bipush (v := (nI 8)) hx hb dX8_lines_57 (by decide) ?_
                    refine lv_iload hx hb dX8_lines_59 (lv_at hl 6 rfl) ?_
                    refine n_iadd hx hb dX8_lines_61 ?_
                    refine rn_5 X w.1 (by omega) dX8_lines_62 ?_
                    refine tp_i (show zz.2.1 5 (8 + (i9 + 1)) = (nI (S.2.1 5 (i9 + 1))) from (congrFun (hfz.2.1 5 (by decide)) _).trans (hco (i9 + 1) (by omega))) ?_
                    refine lv_iload_n hx hb dX8_lines_63 rfl (lv_at hl 2 rfl) ?_
                    refine tp_i2 (iZ_n (S.2.1 5 (i9 + 1))).symm ?_
                    refine z_icmp_ne (tgt := 77) hx hb dX8_lines_64 (by decide) (by omega) (by omega) (by omega) (by omega) (fun c_64_14 => ?_) (fun c_64_14 => ?_)
                    · skip
                      refine lv_iconst (v := (nI 0)) hx hb dX8_lines_77 (by decide) ?_
                      exact k_78 _ ⟨_, by simp only [if_pos c_36_12, if_neg c_50_13, if_neg c_64_14], rfl⟩
                    · skip
                      refine lv_iload hx hb dX8_lines_67 (lv_at hl 6 rfl) ?_
                      refine lv_iload_n hx hb dX8_lines_69 rfl (lv_at hl 3 rfl) ?_
                      refine tp_i2 (iZ_n (i9 + 1)).symm ?_
                      refine z_icmp_le (tgt := 77) hx hb dX8_lines_70 (by decide) (by omega) (by omega) (by omega) (by omega) (fun c_70_15 => ?_) (fun c_70_15 => ?_)
                      · skip
                        refine lv_iconst (v := (nI 0)) hx hb dX8_lines_77 (by decide) ?_
                        exact k_78 _ ⟨_, by simp only [if_pos c_36_12, if_neg c_50_13, if_pos c_64_14, if_pos c_70_15], rfl⟩
                      · skip
                        refine lv_iconst (v := (nI 1)) hx hb dX8_lines_73 (by decide) ?_
                        refine lv_goto (tgt := 78) hx hb dX8_lines_74 (by decide) ?_
                        exact k_78 _ ⟨_, by simp only [if_pos c_36_12, if_neg c_50_13, if_pos c_64_14, if_neg c_70_15], rfl⟩
        exact lp_21 _ 0 (Nat.zero_le _) (Nat.lt_succ_self _) ls (lv_sub hl [2, 3, 4, 5, 6, 1, 0] rfl)
  exact lp_9 _ 0 1 (by omega) rfl (Nat.lt_succ_self _) ls z _ _ w (rFr_rf _ _ _) (fun j hj => absurd hj (by omega)) (lv_sub hl [4, 3, 2, 1, 0] rfl)
