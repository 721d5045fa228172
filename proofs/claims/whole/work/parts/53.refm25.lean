theorem tk_cb {T : Nat → Nat} {n j : Nat} (hn : n ≤ 100) (hj : j ≤ 40) : tk_c T n j ≤ 4200 := by
  have h := tk_c_le T n j
  have h3 : j * (n + 1) ≤ 40 * 101 := Nat.mul_le_mul hj (by omega)
  omega
theorem so_put {r : Nat → Int32} {T : Nat → Nat} {n c9 : Nat} (h : ∀ c, c < c9 → r c = nI (fd_so T n c)) (hp : 0 ≤ tk_sg (tk_h T n (tk_c T n c9))) : ∀ c, c < c9 + 1 → upd r c9 (iZ (tk_sg (tk_h T n (tk_c T n c9)))) c = nI (fd_so T n c) := by
  intro c hc
  unfold upd
  by_cases e : c = c9
  · rw [if_pos e, e, ← iZ_n]
    unfold fd_so
    exact congrArg iZ (by omega)
  · rw [if_neg e]
    exact h c (by omega)
theorem so_cp {r r0 : Nat → Int32} {T : Nat → Nat} {n d9 : Nat} (h : ∀ q, r q = if q < d9 then nI (fd_so T n q) else r0 q) : ∀ q, upd r d9 (nI (fd_so T n d9)) q = if q < d9 + 1 then nI (fd_so T n q) else r0 q := by
  intro q
  unfold upd
  by_cases e : q = d9
  · rw [if_pos e, if_pos (by omega), e]
  · rw [if_neg e, h q]
    by_cases e2 : q < d9
    · rw [if_pos e2, if_pos (by omega)]
    · rw [if_neg e2, if_neg (by omega)]
theorem ok_field : rOk yX8_field cX8_field 3 (some .int) 0 := ⟨wc_X8_field, wi_X8_field, ws_X8_field, rfl, by decide, by decide, by decide +kernel⟩
set_option maxHeartbeats 4000000 in
set_option maxRecDepth 100000 in
theorem k_field (l : Launch) (g : RG) (z : RS)  (S : Sc) (hz : rSc z S) (ho : oSc S) (T : Nat → Nat) (n : Nat) (htp : rTp z n T) : rMi g l yX8_field cX8_field 3 (some .int) 3 70 [] z (fun r z' => r = an_fld T n ∧ rSc z' (nx_fld S T n) ∧ z'.1 8 = nI 0 ∧ (ps_W T n = 0 → z'.1 16 = nI 0) ∧ (¬ ps_W T n = 0 → z'.1 16 = z.1 16) ∧ rFr [0, 1, 8, 9, 10, 11, 12, 16] [2, 3, 5, 13, 14] z z') := by
  refine rMi_in (by decide) rfl (Nat.le_of_ble_eq_true rfl) ?_
  intro p e s m args below meth c A ls X hml hr hk hl w
  have hx := X.1
  have hb := X.2.1
  have hts := X.2.2.1
  have hown := X.2.2.2.1
  have hl : lv_has ls 3 [(0, .ref g.2.2.2.1)] := hl
  obtain ⟨hz0, hz1, hz4, hm0, hm1, hm2, hso, hki, hsr, hpa, hhu, hco⟩ := id hz
  obtain ⟨o1, o2, o3, o4, o5, o6, oso, oki, osr, opa, ohu, oco⟩ := id ho
  obtain ⟨t1, t2, t3, t4⟩ := id htp
  refine lv_aload_n hx hb dX8_field_0 rfl (lv_at hl 0 rfl) ?_
  refine lv_iconst (v := (nI 0)) hx hb dX8_field_1 (by decide) ?_
  refine rp_9 X w dX8_field_2 (fun z_2 H locs ez_2 w => ?_)
  have f2 : rFr [9] [] z z_2 := by rw [ez_2]; exact rFr_I _ (by decide)
  have a2 : z_2.1 9 = nI 0 := by first | (rw [ez_2]; done) | (rw [ez_2]; rfl)
  refine lv_aload_n hx hb dX8_field_5 rfl (lv_at hl 0 rfl) ?_
  refine lv_aload_n hx hb dX8_field_6 rfl (lv_at hl 0 rfl) ?_
  refine rc_i (rest := [.ref g.2.2.2.1]) X hml hl.1 (k_here l g z_2 T n (tp_fr (is := [9]) (ks := []) f2 (by decide) (by decide) htp) 0 a2 (by omega)) ok_here wm_X8_149 ⟨Nat.le_of_ble_eq_true rfl, Nat.le_of_ble_eq_true rfl⟩ ⟨Nat.le_refl _, Nat.le_refl _⟩ w rfl (Nat.le_of_ble_eq_true rfl) dX8_field_7 (fun r_7 z_7 H locs hr_7 w => ?_)
  obtain ⟨h9, hs9, fz9⟩ := hr_7
  subst h9
  have hl9 := tk_h_le t4 n 0
  have sl9 := tk_le T n 0
  refine lv_bipush (v := (nI 46)) hx hb dX8_field_10 (by decide) ?_
  refine jn (tgt := 20) (rest := [.ref g.2.2.2.1]) (fun v9 => ∃ x9 : Nat, x9 = (if (tk_h T n 0) = 46 then 0 else 1) ∧ v9 = nI x9) (fun v_ hv_ => ?_) (fun k_20 => ?_)
  · obtain ⟨x_20, ex_20, rfl⟩ := hv_
    refine rp_10 X w (by rcases (show x_20 = 0 ∨ x_20 = 1 by rw [ex_20]; split; exact Or.inl rfl; exact Or.inr rfl) with q | q <;> rw [q]; exact Or.inl rfl; exact Or.inr rfl) dX8_field_20 (fun z_20 H locs ez_20 w => ?_)
    refine lv_aload_n hx hb dX8_field_23 rfl (lv_at hl 0 rfl) ?_
    refine lv_iconst (v := (nI 0)) hx hb dX8_field_24 (by decide) ?_
    refine rp_11 X w dX8_field_25 (fun z_25 H locs ez_25 w => ?_)
    refine lv_aload_n hx hb dX8_field_28 rfl (lv_at hl 0 rfl) ?_
    refine lv_iconst (v := (nI 0)) hx hb dX8_field_29 (by decide) ?_
    refine rp_12 X w dX8_field_30 (fun z_30 H locs ez_30 w => ?_)
    have x01 : x_20 ≤ 1 := by rw [ex_20]; exact it_le (by omega) (by omega)
    have f30 : rFr [9, 10, 11, 12] [13, 14] z z_30 := by rw [ez_30, ez_25, ez_20]; exact rFr_tr (rFr_tr (rFr_tr (rFr_tr (rFr_w f2 (by simp) (by simp)) (rFr_w fz9 (by simp) (by simp))) (rFr_I _ (by decide))) (rFr_I _ (by decide))) (rFr_I _ (by decide))
    have a30 : z_30.1 9 = nI (tk_c T n 0) := by rw [ez_30, ez_25, ez_20]; exact hs9
    have w30 : z_30.1 10 = nI x_20 := by rw [ez_30, ez_25, ez_20]; rfl
    have m30 : z_30.1 11 = nI 0 := by rw [ez_30, ez_25]; rfl
    have k30 : z_30.1 12 = nI 0 := by first | (rw [ez_30]; done) | (rw [ez_30]; rfl)
    have lp_33 : ∀ (n_33 : Nat) (c9 : Nat) (hc9 : c9 ≤ 40) (he9 : x_20 = 0 → tk_nf T n (40 - c9) c9 = tk_m T n) (hx9 : ¬ x_20 = 0 → c9 = 0) (hm_33 : 40 - c9 < n_33) (ls : Array Slot) (zz : RS) (H : Heap) (locs : List Loc) (w : rW g A s zz H locs) (haz : zz.1 9 = nI (tk_c T n c9)) (hwz : zz.1 10 = nI x_20) (hmz : zz.1 11 = nI c9) (hkz : zz.1 12 = nI 0) (hsz : ∀ c, c < c9 → zz.2.1 13 c = nI (fd_so T n c)) (hfz : rFr [9, 10, 11, 12] [13, 14] z zz), lv_has ls 3 [(0, .ref g.2.2.2.1)] → W p l e (ro_m 3 70) s m args below meth c H locs 0 0 (MQ below (va_Qi (fun r z' => r = an_fld T n ∧ rSc z' (nx_fld S T n) ∧ z'.1 8 = nI 0 ∧ (ps_W T n = 0 → z'.1 16 = nI 0) ∧ (¬ ps_W T n = 0 → z'.1 16 = z.1 16) ∧ rFr [0, 1, 8, 9, 10, 11, 12, 16] [2, 3, 5, 13, 14] z z') (rB g A) A) args s 0 0 A) (F0 m 33 ls []) := by
      intro n_33
      induction n_33 with
      | zero => intro c9 hc9 he9 hx9 hm; exact absurd hm (Nat.not_lt_zero _)
      | succ n_33 ih_33 =>
        intro c9 hc9 he9 hx9 hm_33 ls zz H locs w haz hwz hmz hkz hsz hfz hl
        have sg9 := tk_sg_ok (tk_h T n (tk_c T n c9))
        have cb9 : tk_c T n c9 ≤ 4200 := tk_cb t2 hc9
        have cl9 := (tk_le T n (tk_c T n c9)).2.2
        refine lv_aload_n hx hb dX8_field_33 rfl (lv_at hl 0 rfl) ?_
        refine rg_10 X w.1 dX8_field_34 ?_
        refine tp_i (show zz.1 10 = (nI x_20) from hwz) ?_
        refine n_if_ne (tgt := 92) hx hb dX8_field_37 (by decide) (by omega) (fun c_37_2 => ?_) (fun c_37_2 => ?_)
        · skip
          refine lv_aload_n hx hb dX8_field_92 rfl (lv_at hl 0 rfl) ?_
          refine lv_bipush (v := (nI 59)) hx hb dX8_field_93 (by decide) ?_
          refine rc_i (rest := []) X hml hl.1 (k_has l g zz 59 T n (tp_fr hfz (by decide) (by decide) htp) (tk_c T n c9) haz (by omega) x_20 hwz (by omega) (by omega)) ok_has wm_X8_159 ⟨Nat.le_of_ble_eq_true rfl, Nat.le_of_ble_eq_true rfl⟩ ⟨Nat.le_refl _, Nat.le_refl _⟩ w rfl (Nat.le_of_ble_eq_true rfl) dX8_field_95 (fun r_95 z_95 H locs hr_95 w => ?_)
          obtain ⟨h9, a95, f95⟩ := hr_95
          have h8 : r_95 = nI 0 := by rw [h9]; unfold tk_hv; rw [if_neg (by omega)]
          subst h8
          have c0 : c9 = 0 := hx9 (by omega)
          subst c0
          have I9 : fdI z z_95 T n 0 0 1 (tk_s T n 0) := fdI_w t2 (by intro q; rw [ex_20, if_pos q] at *; omega) (by rw [a95]; unfold tk_ha; rw [if_neg (by omega)]; rfl) ((f95.1 10 (by decide)).trans (hwz.trans (congrArg nI (by omega)))) ((f95.1 12 (by decide)).trans hkz) (rFr_tr hfz (rFr_w f95 (by simp) (by simp)))
          refine lv_istore_n (lv' := [(1, .int (nI 0)), (0, .ref g.2.2.2.1)]) hx hb dX8_field_98 rfl hl (by decide) rfl (fun ls hl => ?_)
          have lp_99 : ∀ (n_99 : Nat) (f9 : Nat) (k9 : Nat) (w8 : Nat) (b8 : Nat) (hm_99 : 6 - k9 < n_99) (ls : Array Slot) (zy : RS) (H : Heap) (locs : List Loc) (w : rW g A s zy H locs) (hI : fdI z zy T n f9 k9 w8 b8), lv_has ls 3 [(0, .ref g.2.2.2.1), (1, .int (nI f9))] → W p l e (ro_m 3 70) s m args below meth c H locs 0 0 (MQ below (va_Qi (fun r z' => r = an_fld T n ∧ rSc z' (nx_fld S T n) ∧ z'.1 8 = nI 0 ∧ (ps_W T n = 0 → z'.1 16 = nI 0) ∧ (¬ ps_W T n = 0 → z'.1 16 = z.1 16) ∧ rFr [0, 1, 8, 9, 10, 11, 12, 16] [2, 3, 5, 13, 14] z z') (rB g A) A) args s 0 0 A) (F0 m 99 ls []) := by
            intro n_99
            induction n_99 with
            | zero => intro f9 k9 w8 b8 hm; exact absurd hm (Nat.not_lt_zero _)
            | succ n_99 ih_99 =>
              intro f9 k9 w8 b8 hm_99 ls zy H locs w hI hl
              have i01 := hI.2.2.2.2.2.2.2.2.2.2.1
              have i02 := hI.2.2.2.2.2.2.2.2.2.1
              have i03 := hI.2.2.2.2.2.2.2.2.1
              have i04 := hI.2.2.2.2.2.1
              have i05 := hI.2.2.2.2.2.2.2.2.2.2.2.2
              have tpy := tp_fr i05 (by decide) (by decide) htp
              refine lv_iload_n hx hb dX8_field_99 rfl (lv_at hl 1 rfl) ?_
              refine n_if_eq (tgt := 133) hx hb dX8_field_100 (by decide) (by omega) (fun c_100_3 => ?_) (fun c_100_3 => ?_)
              · skip
                have e0 : f9 = 0 := by assumption
                subst e0
                obtain ⟨y1, y2, y3⟩ := hI.2.2.2.2.2.2.2.1 rfl
                refine lv_aload_n hx hb dX8_field_133 rfl (lv_at hl 0 rfl) ?_
                refine lv_aload_n hx hb dX8_field_134 rfl (lv_at hl 0 rfl) ?_
                refine rg_10 X w.1 dX8_field_135 ?_
                refine tp_i (show zy.1 10 = (nI w8) from hI.2.1) ?_
                refine n_if_ne (tgt := 148) hx hb dX8_field_138 (by decide) (by omega) (fun c_138_4 => ?_) (fun c_138_4 => ?_)
                · skip
                  refine lv_iconst (v := (nI 1)) hx hb dX8_field_148 (by decide) ?_
                  refine lv_goto (tgt := 153) hx hb dX8_field_149 (by decide) ?_
                  refine rp_10 X w (by first | exact Or.inr rfl | (rw [ex_153]; split; exact Or.inl rfl; exact Or.inr rfl)) dX8_field_153 (fun z_153 H locs ez_153 w => ?_)
                  refine lv_aload_n hx hb dX8_field_156 rfl (lv_at hl 0 rfl) ?_
                  refine lv_iconst (v := (nI 0)) hx hb dX8_field_157 (by decide) ?_
                  refine rp_8 X w dX8_field_158 (fun z_158 H locs ez_158 w => ?_)
                  have w158 : z_158.1 10 = nI 1 := by rw [ez_158, ez_153]; rfl
                  obtain ⟨pa9, hpa9, a158⟩ : ∃ q9 : Nat, q9 = b8 ∧ z_158.1 9 = nI q9 := ⟨_, rfl, by rw [ez_158, ez_153]; exact hI.1⟩
                  have f158 : rFr [8, 9, 10, 11, 12] [13, 14] z z_158 := by rw [ez_158, ez_153]; exact rFr_tr (rFr_tr (rFr_w i05 (by simp) (by simp)) (rFr_I _ (by decide))) (rFr_I _ (by decide))
                  obtain ⟨pb9, hpb9, v158⟩ : ∃ q9 : Nat, q9 = 1 ∧ z_158.1 10 = nI q9 := ⟨_, rfl, w158⟩
                  have eW : ¬ ps_W T n = 0 := by rw [y2, if_neg (by omega)]; decide
                  have eA : pa9 = ps_A T n := by rw [y3, if_neg (by omega), hpa9]
                  refine lv_aload_n hx hb dX8_field_161 rfl (lv_at hl 0 rfl) ?_
                  refine rg_10 X w.1 dX8_field_162 ?_
                  refine tp_i (show z_158.1 10 = (nI pb9) from v158) ?_
                  refine n_if_eq (tgt := 176) hx hb dX8_field_165 (by decide) (by omega) (fun c_165_5 => ?_) (fun c_165_5 => ?_)
                  · skip
                    exfalso; omega
                  · skip
                    refine lv_bipush (v := (iZ (-20))) hx hb dX8_field_168 (by decide) ?_
                    refine lv_aload_n hx hb dX8_field_170 rfl (lv_at hl 0 rfl) ?_
                    refine rg_9 X w.1 dX8_field_171 ?_
                    refine tp_i (show z_158.1 9 = (nI pa9) from a158) ?_
                    refine tp_i (iZ_n pa9).symm ?_
                    refine z_isub hx hb dX8_field_174 ?_
                    exact re_i X hr hk w (⟨by unfold an_fld; rw [if_neg (by omega), ← eA], by unfold nx_fld; rw [if_neg (by omega)]; exact rSc_fr f158 (by decide) (by decide) (by decide) (by decide) (by decide) (by decide) hz, by first | (rw [ez_158]; done) | (rw [ez_158]; rfl), fun q => absurd q (by omega), fun _ => f158.1 16 (by decide), rFr_w f158 (by simp) (by simp)⟩) dX8_field_175
                · skip
                  refine lv_aload_n hx hb dX8_field_141 rfl (lv_at hl 0 rfl) ?_
                  refine rc_i (rest := [.ref g.2.2.2.1]) X hml hl.1 (k_here l g zy T n tpy b8 hI.1 (by omega)) ok_here wm_X8_149 ⟨Nat.le_of_ble_eq_true rfl, Nat.le_of_ble_eq_true rfl⟩ ⟨Nat.le_refl _, Nat.le_refl _⟩ w rfl (Nat.le_of_ble_eq_true rfl) dX8_field_142 (fun r_142 z_142 H locs hr_142 w => ?_)
                  obtain ⟨h9, hs8, fz8⟩ := hr_142
                  subst h9
                  have hl8 := tk_h_le t4 n b8
                  refine jn (tgt := 153) (rest := [.ref g.2.2.2.1]) (fun v9 => ∃ x9 : Nat, x9 = (if (tk_h T n b8) = 0 then 0 else 1) ∧ v9 = nI x9) (fun v_ hv_ => ?_) (fun k_153 => ?_)
                  · obtain ⟨x_153, ex_153, rfl⟩ := hv_
                    refine rp_10 X w (by first | exact Or.inr rfl | (rw [ex_153]; split; exact Or.inl rfl; exact Or.inr rfl)) dX8_field_153 (fun z_153 H locs ez_153 w => ?_)
                    refine lv_aload_n hx hb dX8_field_156 rfl (lv_at hl 0 rfl) ?_
                    refine lv_iconst (v := (nI 0)) hx hb dX8_field_157 (by decide) ?_
                    refine rp_8 X w dX8_field_158 (fun z_158 H locs ez_158 w => ?_)
                    obtain ⟨pb9, hpb9, v158⟩ : ∃ q9 : Nat, q9 = x_153 ∧ z_158.1 10 = nI q9 := ⟨_, rfl, by rw [ez_158, ez_153]; rfl⟩
                    obtain ⟨pa9, hpa9, a158⟩ : ∃ q9 : Nat, q9 = tk_s T n b8 ∧ z_158.1 9 = nI q9 := ⟨_, rfl, by rw [ez_158, ez_153]; exact hs8⟩
                    have f158 : rFr [8, 9, 10, 11, 12] [13, 14] z z_158 := by rw [ez_158, ez_153]; exact rFr_tr (rFr_tr (rFr_tr (rFr_w i05 (by simp) (by simp)) (rFr_w fz8 (by simp) (by simp))) (rFr_I _ (by decide))) (rFr_I _ (by decide))
                    have eW : ps_W T n = pb9 := by rw [y2, if_pos (by omega), hpb9, ex_153]
                    have eA : pa9 = ps_A T n := by rw [y3, if_pos (by omega), hpa9]
                    have x01 : x_153 ≤ 1 := by rw [ex_153]; exact it_le (by omega) (by omega)
                    obtain ⟨n1, n2, n3⟩ := hI.2.2.2.2.2.2.2.2.2.2.2.1 (by omega)
                    have m158 : z_158.1 11 = nI (tk_m T n) := by rw [ez_158, ez_153]; exact (fz8.1 11 (by decide)).trans n1
                    have k158 : z_158.1 12 = nI (ps_K T n) := by rw [ez_158, ez_153, ← y1]; exact (fz8.1 12 (by decide)).trans hI.2.2.1
                    have s158 : ∀ c, c < tk_m T n → z_158.2.1 13 c = nI (fd_so T n c) := by rw [ez_158, ez_153]; exact fun c hc => (congrFun (fz8.2.1 13 (by decide)) c).trans (n3 c hc)
                    have g158 : ∀ q, q < ps_K T n → ∀ i, i < 4 → z_158.2.1 14 (4 * q + i) = iZ (fk_v T n (gk_p T n (ps_0 T n) q) i) := by rw [ez_158, ez_153, ← y1]; exact fun q hq i hi => (congrFun (fz8.2.1 14 (by decide)) _).trans (hI.2.2.2.1 q hq i hi)
                    have u158 : ∀ q, q < ps_K T n → fk_w T n (gk_p T n (ps_0 T n) q) = 0 := by rw [← y1]; exact hI.2.2.2.2.1 (by omega)
                    refine lv_aload_n hx hb dX8_field_161 rfl (lv_at hl 0 rfl) ?_
                    refine rg_10 X w.1 dX8_field_162 ?_
                    refine tp_i (show z_158.1 10 = (nI pb9) from v158) ?_
                    refine n_if_eq (tgt := 176) hx hb dX8_field_165 (by decide) (by omega) (fun c_165_7 => ?_) (fun c_165_7 => ?_)
                    · skip
                      refine lv_aload_n hx hb dX8_field_176 rfl (lv_at hl 0 rfl) ?_
                      refine lv_aload_n hx hb dX8_field_177 rfl (lv_at hl 0 rfl) ?_
                      refine rg_11 X w.1 dX8_field_178 ?_
                      refine tp_i (show z_158.1 11 = (nI (tk_m T n)) from m158) ?_
                      refine rp_0 X w dX8_field_181 (fun z_181 H locs ez_181 w => ?_)
                      have s181 : ∀ c, c < tk_m T n → z_181.2.1 13 c = nI (fd_so T n c) := by rw [ez_181]; exact s158
                      have h181 : z_181.1 0 = nI (tk_m T n) := by first | (rw [ez_181]; done) | (rw [ez_181]; rfl)
                      have b181 : z_181.2.1 2 = z.2.1 2 := by rw [ez_181]; exact f158.2.1 2 (by decide)
                      have ml := m_le T n
                      refine lv_iconst (v := (nI 0)) hx hb dX8_field_184 (by decide) ?_
                      refine lv_istore_n (lv' := [(2, .int (nI 0)), (0, .ref g.2.2.2.1), (1, .int (nI 0))]) hx hb dX8_field_185 rfl hl (by decide) rfl (fun ls hl => ?_)
                      have lp_186 : ∀ (n_186 : Nat) (d9 : Nat) (hd9 : d9 ≤ tk_m T n) (hm_186 : tk_m T n - d9 < n_186) (ls : Array Slot) (zx : RS) (H : Heap) (locs : List Loc) (w : rW g A s zx H locs) (hcx : ∀ q, zx.2.1 2 q = if q < d9 then nI (fd_so T n q) else z.2.1 2 q) (h0x : zx.1 0 = nI (tk_m T n)) (hfx : rFr [] [2] z_181 zx), lv_has ls 3 [(0, .ref g.2.2.2.1), (2, .int (nI d9))] → W p l e (ro_m 3 70) s m args below meth c H locs 0 0 (MQ below (va_Qi (fun r z' => r = an_fld T n ∧ rSc z' (nx_fld S T n) ∧ z'.1 8 = nI 0 ∧ (ps_W T n = 0 → z'.1 16 = nI 0) ∧ (¬ ps_W T n = 0 → z'.1 16 = z.1 16) ∧ rFr [0, 1, 8, 9, 10, 11, 12, 16] [2, 3, 5, 13, 14] z z') (rB g A) A) args s 0 0 A) (F0 m 186 ls []) := by
                        intro n_186
                        induction n_186 with
                        | zero => intro d9 hd9 hm; exact absurd hm (Nat.not_lt_zero _)
                        | succ n_186 ih_186 =>
                          intro d9 hd9 hm_186 ls zx H locs w hcx h0x hfx hl
                          refine lv_iload_n hx hb dX8_field_186 rfl (lv_at hl 1 rfl) ?_
                          refine lv_aload_n hx hb dX8_field_187 rfl (lv_at hl 0 rfl) ?_
                          refine rg_0 X w.1 dX8_field_188 ?_
                          refine tp_i (show zx.1 0 = (nI (tk_m T n)) from h0x) ?_
                          refine n_icmp_ge (tgt := 212) hx hb dX8_field_191 (by decide) (by omega) (by omega) (fun c_191_8 => ?_) (fun c_191_8 => ?_)
                          · skip
                            refine lv_aload_n hx hb dX8_field_212 rfl (lv_at hl 0 rfl) ?_
                            refine lv_iconst (v := (nI 0)) hx hb dX8_field_213 (by decide) ?_
                            refine rp_1 X w dX8_field_214 (fun z_214 H locs ez_214 w => ?_)
                            refine lv_aload_n hx hb dX8_field_217 rfl (lv_at hl 0 rfl) ?_
                            refine rg_5 X w.1 dX8_field_218 ?_
                            refine lv_iconst (v := (nI 0)) hx hb dX8_field_221 (by decide) ?_
                            refine lv_iconst (v := (nI 0)) hx hb dX8_field_222 (by decide) ?_
                            refine ru_5 X w (by omega) dX8_field_223 (fun z_223 H locs ez_223 w => ?_)
                            refine lv_aload_n hx hb dX8_field_224 rfl (lv_at hl 0 rfl) ?_
                            refine rg_5 X w.1 dX8_field_225 ?_
                            refine lv_iconst (v := (nI 1)) hx hb dX8_field_228 (by decide) ?_
                            refine lv_bipush (v := (iZ (-4))) hx hb dX8_field_229 (by decide) ?_
                            refine ru_5 X w (by omega) dX8_field_231 (fun z_231 H locs ez_231 w => ?_)
                            refine lv_aload_n hx hb dX8_field_232 rfl (lv_at hl 0 rfl) ?_
                            refine lv_iconst (v := (nI 0)) hx hb dX8_field_233 (by decide) ?_
                            refine rp_16 X w dX8_field_234 (fun z_234 H locs ez_234 w => ?_)
                            have d181 : d9 = tk_m T n := by omega
                            skip
                            have f234 : rFr [0, 1, 8, 9, 10, 11, 12, 16] [2, 3, 5, 13, 14] z z_234 := by rw [ez_234, ez_231, ez_223, ez_214]; exact rFr_tr (rFr_tr (rFr_tr (rFr_tr (rFr_tr (by rw [ez_181]; exact rFr_tr (rFr_w f158 (by simp) (by simp)) (rFr_I _ (by decide))) (rFr_w hfx (by simp) (by simp))) (rFr_I _ (by decide))) (rFr_A _ (by decide))) (rFr_A _ (by decide))) (rFr_I _ (by decide))
                            have k234 : z_234.1 12 = nI (ps_K T n) := by rw [ez_234, ez_231, ez_223, ez_214]; exact (hfx.1 12 (by decide)).trans (by rw [ez_181]; exact k158)
                            have r234 : ∀ q, q < ps_K T n → ∀ i, i < 4 → z_234.2.1 14 (4 * q + i) = iZ (fk_v T n (gk_p T n (ps_0 T n) q) i) := by rw [ez_234, ez_231, ez_223, ez_214]; exact fun q hq i hi => (congrFun (hfx.2.1 14 (by decide)) _).trans (by rw [ez_181]; exact g158 q hq i hi)
                            have S234 : rSc z_234 (fd_b S T n) := fd_rsc hz (by rw [ez_234, ez_231, ez_223, ez_214]; exact h0x) (by rw [ez_234, ez_231, ez_223, ez_214]; rfl) (f234.1 4 (by decide)) (by rw [ez_234, ez_231, ez_223, ez_214, ← d181]; exact hcx) (by rw [ez_234, ez_231, ez_223, ez_214]; exact (hfx.2.1 3 (by decide)).trans (by rw [ez_181]; exact f158.2.1 3 (by decide))) (by rw [ez_234, ez_231, ez_223, ez_214]; show upd (upd (zx.2.1 5) 0 (nI 0)) 1 (iZ (-4)) = _; rw [hfx.2.1 5 (by decide), ez_181]; show upd (upd (z_158.2.1 5) 0 (nI 0)) 1 (iZ (-4)) = _; rw [f158.2.1 5 (by decide)])
                            have u234 : z_234.1 16 = nI 0 := by first | (rw [ez_234]; done) | (rw [ez_234]; rfl)
                            have t234 : z_234.1 8 = nI 0 := by rw [ez_234, ez_231, ez_223, ez_214]; exact (hfx.1 8 (by decide)).trans (by rw [ez_181, ez_158]; rfl)
                            refine lv_iconst (v := (nI 0)) hx hb dX8_field_237 (by decide) ?_
                            refine lv_istore_n (lv' := [(2, .int (nI 0)), (0, .ref g.2.2.2.1)]) hx hb dX8_field_238 rfl hl (by decide) rfl (fun ls hl => ?_)
                            have lp_239 : ∀ (n_239 : Nat) (e9 : Nat) (he9b : e9 ≤ ps_K T n) (hm_239 : ps_K T n - e9 < n_239) (ls : Array Slot) (zv : RS) (H : Heap) (locs : List Loc) (w : rW g A s zv H locs) (hS : rSc zv (fd_S S T n e9)) (hfv : rFr [1] [3, 5] z_234 zv), lv_has ls 3 [(0, .ref g.2.2.2.1), (2, .int (nI e9))] → W p l e (ro_m 3 70) s m args below meth c H locs 0 0 (MQ below (va_Qi (fun r z' => r = an_fld T n ∧ rSc z' (nx_fld S T n) ∧ z'.1 8 = nI 0 ∧ (ps_W T n = 0 → z'.1 16 = nI 0) ∧ (¬ ps_W T n = 0 → z'.1 16 = z.1 16) ∧ rFr [0, 1, 8, 9, 10, 11, 12, 16] [2, 3, 5, 13, 14] z z') (rB g A) A) args s 0 0 A) (F0 m 239 ls []) := by
                              intro n_239
                              induction n_239 with
                              | zero => intro e9 he9b hm; exact absurd hm (Nat.not_lt_zero _)
                              | succ n_239 ih_239 =>
                                intro e9 he9b hm_239 ls zv H locs w hS hfv hl
                                have K5 : ps_K T n ≤ 5 := by omega
                                refine lv_iload_n hx hb dX8_field_239 rfl (lv_at hl 1 rfl) ?_
                                refine lv_aload_n hx hb dX8_field_240 rfl (lv_at hl 0 rfl) ?_
                                refine rg_12 X w.1 dX8_field_241 ?_
                                refine tp_i (show zv.1 12 = (nI (ps_K T n)) from (hfv.1 12 (by decide)).trans k234) ?_
                                refine n_icmp_ge (tgt := 295) hx hb dX8_field_244 (by decide) (by omega) (by omega) (fun c_244_9 => ?_) (fun c_244_9 => ?_)
                                · skip
                                  refine lv_aload_n hx hb dX8_field_295 rfl (lv_at hl 0 rfl) ?_
                                  refine rg_1 X w.1 dX8_field_296 ?_
                                  refine tp_i (show zv.1 1 = (nI e9) from (rs_nf hS).trans (congrArg nI (fd_n S T n e9))) ?_
                                  exact re_i X hr hk w (by have e8 : e9 = ps_K T n := (by omega); exact ⟨by unfold an_fld; rw [if_pos (by omega), e8], by unfold nx_fld; rw [if_pos (by omega), ← e8]; exact hS, (hfv.1 8 (by decide)).trans t234, fun _ => (hfv.1 16 (by decide)).trans u234, fun q => absurd (by omega) q, rFr_tr f234 (rFr_w hfv (by simp) (by simp))⟩) dX8_field_299
                                · skip
                                  refine lv_aload_n hx hb dX8_field_247 rfl (lv_at hl 0 rfl) ?_
                                  refine lv_aload_n hx hb dX8_field_248 rfl (lv_at hl 0 rfl) ?_
                                  refine rg_14 X w.1 dX8_field_249 ?_
                                  refine lv_iconst (v := (nI 4)) hx hb dX8_field_252 (by decide) ?_
                                  refine lv_iload_n hx hb dX8_field_253 rfl (lv_at hl 1 rfl) ?_
                                  refine n_imul hx hb dX8_field_254 ?_
                                  refine rn_14 X w.1 (by omega) dX8_field_255 ?_
                                  refine tp_i (show zv.2.1 14 (4 * e9) = (nI (fd_v T n e9 0)) from (congrFun (hfv.2.1 14 (by decide)) _).trans ((r234 e9 (by omega) 0 (by omega)).trans (fk_nn (u158 e9 (by omega)) (by omega)))) ?_
                                  refine lv_aload_n hx hb dX8_field_256 rfl (lv_at hl 0 rfl) ?_
                                  refine rg_14 X w.1 dX8_field_257 ?_
                                  refine lv_iconst (v := (nI 4)) hx hb dX8_field_260 (by decide) ?_
                                  refine lv_iload_n hx hb dX8_field_261 rfl (lv_at hl 1 rfl) ?_
                                  refine n_imul hx hb dX8_field_262 ?_
                                  refine lv_iconst (v := (nI 1)) hx hb dX8_field_263 (by decide) ?_
                                  refine n_iadd hx hb dX8_field_264 ?_
                                  refine rn_14 X w.1 (by omega) dX8_field_265 ?_
                                  refine tp_i (show zv.2.1 14 ((4 * e9) + 1) = (nI (fd_v T n e9 1)) from (congrFun (hfv.2.1 14 (by decide)) _).trans ((r234 e9 (by omega) 1 (by omega)).trans (fk_nn (u158 e9 (by omega)) (by omega)))) ?_
                                  refine lv_aload_n hx hb dX8_field_266 rfl (lv_at hl 0 rfl) ?_
                                  refine rg_14 X w.1 dX8_field_267 ?_
                                  refine lv_iconst (v := (nI 4)) hx hb dX8_field_270 (by decide) ?_
                                  refine lv_iload_n hx hb dX8_field_271 rfl (lv_at hl 1 rfl) ?_
                                  refine n_imul hx hb dX8_field_272 ?_
                                  refine lv_iconst (v := (nI 2)) hx hb dX8_field_273 (by decide) ?_
                                  refine n_iadd hx hb dX8_field_274 ?_
                                  refine rn_14 X w.1 (by omega) dX8_field_275 ?_
                                  refine tp_i (show zv.2.1 14 ((4 * e9) + 2) = (nI (fd_v T n e9 2)) from (congrFun (hfv.2.1 14 (by decide)) _).trans ((r234 e9 (by omega) 2 (by omega)).trans (fk_nn (u158 e9 (by omega)) (by omega)))) ?_
                                  refine lv_aload_n hx hb dX8_field_276 rfl (lv_at hl 0 rfl) ?_
                                  refine rg_14 X w.1 dX8_field_277 ?_
                                  refine lv_iconst (v := (nI 4)) hx hb dX8_field_280 (by decide) ?_
                                  refine lv_iload_n hx hb dX8_field_281 rfl (lv_at hl 1 rfl) ?_
                                  refine n_imul hx hb dX8_field_282 ?_
                                  refine lv_iconst (v := (nI 3)) hx hb dX8_field_283 (by decide) ?_
                                  refine n_iadd hx hb dX8_field_284 ?_
                                  refine rn_14 X w.1 (by omega) dX8_field_285 ?_
                                  refine tp_i (show zv.2.1 14 ((4 * e9) + 3) = (nI (fd_v T n e9 3)) from (congrFun (hfv.2.1 14 (by decide)) _).trans ((r234 e9 (by omega) 3 (by omega)).trans (fk_nn (u158 e9 (by omega)) (by omega)))) ?_
                                  refine rc_v (rest := []) X hml hl.1 (k_fighterComes l g zv (fd_v T n e9 0) (fd_v T n e9 1) (fd_v T n e9 2) (fd_v T n e9 3) (fd_S S T n e9) hS (by rw [fd_n]; omega)) ok_fighterComes wm_X8_84 ⟨Nat.le_of_ble_eq_true rfl, Nat.le_of_ble_eq_true rfl⟩ ⟨Nat.le_refl _, Nat.le_refl _⟩ w rfl (Nat.le_of_ble_eq_true rfl) dX8_field_286 (fun z_286 H locs hr_286 w => ?_)
                                  skip
                                  refine lv_iinc (v := (nI (e9 + 1))) (lv' := [(2, .int (nI (e9 + 1))), (0, .ref g.2.2.2.1)]) hx hb dX8_field_289 hl (k := 1) rfl (by first | exact nI_1 _ | (rw [show Int32.ofInt 1 = nI 1 from by decide, nI_add])) (by decide) rfl (fun ls hl => ?_)
                                  refine lv_goto (tgt := 239) hx hb dX8_field_292 (by decide) ?_
                                  exact ih_239 (e9 + 1) (by omega) (by omega) ls z_286 _ _ w hr_286.1 (rFr_tr hfv hr_286.2) (lv_sub hl [1, 0] rfl)
                            exact lp_239 _ 0 (Nat.zero_le _) (Nat.lt_succ_self _) ls z_234 _ _ w S234 (rFr_rf _ _ _) (lv_sub hl [1, 0] rfl)
                          · skip
                            refine lv_aload_n hx hb dX8_field_194 rfl (lv_at hl 0 rfl) ?_
                            refine rg_2 X w.1 dX8_field_195 ?_
                            refine lv_iload_n hx hb dX8_field_198 rfl (lv_at hl 1 rfl) ?_
                            refine lv_aload_n hx hb dX8_field_199 rfl (lv_at hl 0 rfl) ?_
                            refine rg_13 X w.1 dX8_field_200 ?_
                            refine lv_iload_n hx hb dX8_field_203 rfl (lv_at hl 1 rfl) ?_
                            refine rn_13 X w.1 (by omega) dX8_field_204 ?_
                            refine tp_i (show zx.2.1 13 d9 = (nI (fd_so T n d9)) from (congrFun (hfx.2.1 13 (by decide)) _).trans (s181 d9 (by omega))) ?_
                            refine ru_2 X w (by omega) dX8_field_205 (fun z_205 H locs ez_205 w => ?_)
                            refine lv_iinc (v := (nI (d9 + 1))) (lv' := [(2, .int (nI (d9 + 1))), (0, .ref g.2.2.2.1)]) hx hb dX8_field_206 hl (k := 1) rfl (by first | exact nI_1 _ | (rw [show Int32.ofInt 1 = nI 1 from by decide, nI_add])) (by decide) rfl (fun ls hl => ?_)
                            refine lv_goto (tgt := 186) hx hb dX8_field_209 (by decide) ?_
                            exact ih_186 (d9 + 1) (by omega) (by omega) ls z_205 _ _ w (by rw [ez_205]; exact so_cp hcx) (by rw [ez_205]; exact h0x) (by rw [ez_205]; exact rFr_tr hfx (rFr_A _ (by decide))) (lv_sub hl [1, 0] rfl)
                      exact lp_186 _ 0 (Nat.zero_le _) (Nat.lt_succ_self _) ls z_181 _ _ w (fun q => by rw [b181, if_neg (by omega)]) h181 (rFr_rf _ _ _) (lv_sub hl [1, 0] rfl)
                    · skip
                      refine lv_bipush (v := (iZ (-20))) hx hb dX8_field_168 (by decide) ?_
                      refine lv_aload_n hx hb dX8_field_170 rfl (lv_at hl 0 rfl) ?_
                      refine rg_9 X w.1 dX8_field_171 ?_
                      refine tp_i (show z_158.1 9 = (nI pa9) from a158) ?_
                      refine tp_i (iZ_n pa9).symm ?_
                      refine z_isub hx hb dX8_field_174 ?_
                      exact re_i X hr hk w (⟨by unfold an_fld; rw [if_neg (by omega), ← eA], by unfold nx_fld; rw [if_neg (by omega)]; exact rSc_fr f158 (by decide) (by decide) (by decide) (by decide) (by decide) (by decide) hz, by first | (rw [ez_158]; done) | (rw [ez_158]; rfl), fun q => absurd q (by omega), fun _ => f158.1 16 (by decide), rFr_w f158 (by simp) (by simp)⟩) dX8_field_175
                  · skip
                    refine n_if_eq (tgt := 152) hx hb dX8_field_145 (by decide) (by omega) (fun c_145_10 => ?_) (fun c_145_10 => ?_)
                    · skip
                      refine lv_iconst (v := (nI 0)) hx hb dX8_field_152 (by decide) ?_
                      exact k_153 _ ⟨_, by simp only [if_pos c_145_10], rfl⟩
                    · skip
                      refine lv_iconst (v := (nI 1)) hx hb dX8_field_148 (by decide) ?_
                      refine lv_goto (tgt := 153) hx hb dX8_field_149 (by decide) ?_
                      exact k_153 _ ⟨_, by simp only [if_neg c_145_10], rfl⟩
              · skip
                have e1 : f9 = 1 := by omega
                subst e1
                obtain ⟨y1, y2, y3, y4, y5, y6⟩ := hI.2.2.2.2.2.2.1 rfl
                have y7 := fk_w_le T n b8
                have y8 := (fk_a_le T n b8).2.2.2.2
                refine lv_aload_n hx hb dX8_field_103 rfl (lv_at hl 0 rfl) ?_
                refine rc_v (rest := []) X hml hl.1 (k_readFighter l g zy T n tpy b8 hI.1 (by omega) (by rw [hI.2.1, y2]) k9 hI.2.2.1 y1 (by omega)) ok_readFighter wm_X8_168 ⟨Nat.le_of_ble_eq_true rfl, Nat.le_of_ble_eq_true rfl⟩ ⟨Nat.le_refl _, Nat.le_refl _⟩ w rfl (Nat.le_of_ble_eq_true rfl) dX8_field_104 (fun z_104 H locs hr_104 w => ?_)
                have z104 := rFr_tr (rFr_w (is' := [9, 10, 11, 12]) (ks' := [13, 14]) i05 (fun _ q => q) (fun _ q => q)) (rFr_w hr_104.2.2.2.2.2 (by simp) (by simp))
                refine lv_aload_n hx hb dX8_field_107 rfl (lv_at hl 0 rfl) ?_
                refine rg_12 X w.1 dX8_field_108 ?_
                refine tp_i (show z_104.1 12 = (nI (k9 + 1)) from hr_104.2.2.1) ?_
                refine lv_iconst (v := (nI 5)) hx hb dX8_field_111 (by decide) ?_
                refine n_icmp_ge (tgt := 128) hx hb dX8_field_112 (by decide) (by omega) (by omega) (fun c_112_11 => ?_) (fun c_112_11 => ?_)
                · skip
                  refine lv_iconst (v := (nI 0)) hx hb dX8_field_128 (by decide) ?_
                  refine lv_istore_n (lv' := [(1, .int (nI 0)), (0, .ref g.2.2.2.1)]) hx hb dX8_field_129 rfl hl (by decide) rfl (fun ls hl => ?_)
                  refine lv_goto (tgt := 99) hx hb dX8_field_130 (by decide) ?_
                  exact ih_99 0 (k9 + 1) (fk_w T n b8) (fk_a T n b8) (by omega) ls z_104 _ _ w (fdI_5 t2 hI hr_104 (by omega)) (lv_sub hl [1, 0] rfl)
                · skip
                  refine lv_aload_n hx hb dX8_field_115 rfl (lv_at hl 0 rfl) ?_
                  refine lv_bipush (v := (nI 44)) hx hb dX8_field_116 (by decide) ?_
                  refine rc_i (rest := []) X hml hl.1 (k_has l g z_104 44 T n (tp_fr z104 (by decide) (by decide) htp) (fk_a T n b8) hr_104.1 (by omega) (fk_w T n b8) hr_104.2.1 y7 (by omega)) ok_has wm_X8_159 ⟨Nat.le_of_ble_eq_true rfl, Nat.le_of_ble_eq_true rfl⟩ ⟨Nat.le_refl _, Nat.le_refl _⟩ w rfl (Nat.le_of_ble_eq_true rfl) dX8_field_118 (fun r_118 z_118 H locs hr_118 w => ?_)
                  have h9 := hr_118.1
                  subst h9
                  have q01 := hv01 T n 44 (fk_a T n b8) (fk_w T n b8)
                  refine jn (tgt := 129) (rest := []) (fun v9 => ∃ x9 : Nat, x9 = (if (tk_hv T n 44 (fk_a T n b8) (fk_w T n b8)) = 0 then 0 else 1) ∧ v9 = nI x9) (fun v_ hv_ => ?_) (fun k_129 => ?_)
                  · obtain ⟨x_129, ex_129, rfl⟩ := hv_
                    refine lv_istore_n (lv' := [(1, .int (nI x_129)), (0, .ref g.2.2.2.1)]) hx hb dX8_field_129 rfl hl (by decide) rfl (fun ls hl => ?_)
                    refine lv_goto (tgt := 99) hx hb dX8_field_130 (by decide) ?_
                    rw [show x_129 = tk_hv T n 44 (fk_a T n b8) (fk_w T n b8) from (by rw [ex_129]; have q9 := hv01 T n 44 (fk_a T n b8) (fk_w T n b8); split <;> omega)] at hl
                    exact ih_99 (tk_hv T n 44 (fk_a T n b8) (fk_w T n b8)) (k9 + 1) (fk_w T n b8) (tk_ha T n 44 (fk_a T n b8) (fk_w T n b8)) (by omega) ls z_118 _ _ w (fdI_s t2 hI hr_104 (by omega) hr_118.2.1 hr_118.2.2) (lv_sub hl [1, 0] rfl)
                  · skip
                    refine n_if_eq (tgt := 128) hx hb dX8_field_121 (by decide) (by omega) (fun c_121_13 => ?_) (fun c_121_13 => ?_)
                    · skip
                      refine lv_iconst (v := (nI 0)) hx hb dX8_field_128 (by decide) ?_
                      exact k_129 _ ⟨_, by simp only [if_pos c_121_13], rfl⟩
                    · skip
                      refine lv_iconst (v := (nI 1)) hx hb dX8_field_124 (by decide) ?_
                      refine lv_goto (tgt := 129) hx hb dX8_field_125 (by decide) ?_
                      exact k_129 _ ⟨_, by simp only [if_neg c_121_13], rfl⟩
          exact lp_99 _ 0 0 1 (tk_s T n 0) (Nat.lt_succ_self _) ls z_95 _ _ w I9 (lv_sub hl [1, 0] rfl)
        · skip
          refine lv_aload_n hx hb dX8_field_40 rfl (lv_at hl 0 rfl) ?_
          refine rg_11 X w.1 dX8_field_41 ?_
          refine tp_i (show zz.1 11 = (nI c9) from hmz) ?_
          refine lv_bipush (v := (nI 40)) hx hb dX8_field_44 (by decide) ?_
          refine n_icmp_ge (tgt := 92) hx hb dX8_field_46 (by decide) (by omega) (by omega) (fun c_46_14 => ?_) (fun c_46_14 => ?_)
          · skip
            refine lv_aload_n hx hb dX8_field_92 rfl (lv_at hl 0 rfl) ?_
            refine lv_bipush (v := (nI 59)) hx hb dX8_field_93 (by decide) ?_
            refine rc_i (rest := []) X hml hl.1 (k_has l g zz 59 T n (tp_fr hfz (by decide) (by decide) htp) (tk_c T n c9) haz (by omega) 0 (hwz.trans (congrArg nI (by omega))) (by omega) (by omega)) ok_has wm_X8_159 ⟨Nat.le_of_ble_eq_true rfl, Nat.le_of_ble_eq_true rfl⟩ ⟨Nat.le_refl _, Nat.le_refl _⟩ w rfl (Nat.le_of_ble_eq_true rfl) dX8_field_95 (fun r_95 z_95 H locs hr_95 w => ?_)
            obtain ⟨h9, a95, f95⟩ := hr_95
            subst h9
            have x0 : x_20 = 0 := by omega
            have m0 : c9 = tk_m T n := (nf_e (by omega) (he9 x0))
            have k46 : tk_h T n 0 = 46 := by by_cases q : tk_h T n 0 = 46; exact q; rw [ex_20, if_neg q] at x0; exact absurd x0 (by decide)
            have I9 : fdI z z_95 T n (tk_hv T n 59 (tk_c T n c9) 0) 0 0 (tk_ha T n 59 (tk_c T n c9) 0) := fdI_0 t2 k46 (by rw [m0]; rfl) a95 ((f95.1 10 (by decide)).trans (hwz.trans (congrArg nI x0))) ((f95.1 12 (by decide)).trans hkz) ((f95.1 11 (by decide)).trans (by rw [← m0]; exact hmz)) (fun c hc => (congrFun (f95.2.1 13 (by decide)) c).trans (hsz c (by rw [m0]; exact hc))) (rFr_tr hfz (rFr_w f95 (by simp) (by simp)))
            refine lv_istore_n (lv' := [(1, .int (nI (tk_hv T n 59 (tk_c T n c9) 0))), (0, .ref g.2.2.2.1)]) hx hb dX8_field_98 rfl hl (by decide) rfl (fun ls hl => ?_)
            have lp_99 : ∀ (n_99 : Nat) (f9 : Nat) (k9 : Nat) (w8 : Nat) (b8 : Nat) (hm_99 : 6 - k9 < n_99) (ls : Array Slot) (zy : RS) (H : Heap) (locs : List Loc) (w : rW g A s zy H locs) (hI : fdI z zy T n f9 k9 w8 b8), lv_has ls 3 [(0, .ref g.2.2.2.1), (1, .int (nI f9))] → W p l e (ro_m 3 70) s m args below meth c H locs 0 0 (MQ below (va_Qi (fun r z' => r = an_fld T n ∧ rSc z' (nx_fld S T n) ∧ z'.1 8 = nI 0 ∧ (ps_W T n = 0 → z'.1 16 = nI 0) ∧ (¬ ps_W T n = 0 → z'.1 16 = z.1 16) ∧ rFr [0, 1, 8, 9, 10, 11, 12, 16] [2, 3, 5, 13, 14] z z') (rB g A) A) args s 0 0 A) (F0 m 99 ls []) := by
              intro n_99
              induction n_99 with
              | zero => intro f9 k9 w8 b8 hm; exact absurd hm (Nat.not_lt_zero _)
              | succ n_99 ih_99 =>
                intro f9 k9 w8 b8 hm_99 ls zy H locs w hI hl
                have i01 := hI.2.2.2.2.2.2.2.2.2.2.1
                have i02 := hI.2.2.2.2.2.2.2.2.2.1
                have i03 := hI.2.2.2.2.2.2.2.2.1
                have i04 := hI.2.2.2.2.2.1
                have i05 := hI.2.2.2.2.2.2.2.2.2.2.2.2
                have tpy := tp_fr i05 (by decide) (by decide) htp
                refine lv_iload_n hx hb dX8_field_99 rfl (lv_at hl 1 rfl) ?_
                refine n_if_eq (tgt := 133) hx hb dX8_field_100 (by decide) (by omega) (fun c_100_15 => ?_) (fun c_100_15 => ?_)
                · skip
                  have e0 : f9 = 0 := by assumption
                  subst e0
                  obtain ⟨y1, y2, y3⟩ := hI.2.2.2.2.2.2.2.1 rfl
                  refine lv_aload_n hx hb dX8_field_133 rfl (lv_at hl 0 rfl) ?_
                  refine lv_aload_n hx hb dX8_field_134 rfl (lv_at hl 0 rfl) ?_
                  refine rg_10 X w.1 dX8_field_135 ?_
                  refine tp_i (show zy.1 10 = (nI w8) from hI.2.1) ?_
                  refine n_if_ne (tgt := 148) hx hb dX8_field_138 (by decide) (by omega) (fun c_138_16 => ?_) (fun c_138_16 => ?_)
                  · skip
                    refine lv_iconst (v := (nI 1)) hx hb dX8_field_148 (by decide) ?_
                    refine lv_goto (tgt := 153) hx hb dX8_field_149 (by decide) ?_
                    refine rp_10 X w (by first | exact Or.inr rfl | (rw [ex_153]; split; exact Or.inl rfl; exact Or.inr rfl)) dX8_field_153 (fun z_153 H locs ez_153 w => ?_)
                    refine lv_aload_n hx hb dX8_field_156 rfl (lv_at hl 0 rfl) ?_
                    refine lv_iconst (v := (nI 0)) hx hb dX8_field_157 (by decide) ?_
                    refine rp_8 X w dX8_field_158 (fun z_158 H locs ez_158 w => ?_)
                    have w158 : z_158.1 10 = nI 1 := by rw [ez_158, ez_153]; rfl
                    obtain ⟨pa9, hpa9, a158⟩ : ∃ q9 : Nat, q9 = b8 ∧ z_158.1 9 = nI q9 := ⟨_, rfl, by rw [ez_158, ez_153]; exact hI.1⟩
                    have f158 : rFr [8, 9, 10, 11, 12] [13, 14] z z_158 := by rw [ez_158, ez_153]; exact rFr_tr (rFr_tr (rFr_w i05 (by simp) (by simp)) (rFr_I _ (by decide))) (rFr_I _ (by decide))
                    obtain ⟨pb9, hpb9, v158⟩ : ∃ q9 : Nat, q9 = 1 ∧ z_158.1 10 = nI q9 := ⟨_, rfl, w158⟩
                    have eW : ¬ ps_W T n = 0 := by rw [y2, if_neg (by omega)]; decide
                    have eA : pa9 = ps_A T n := by rw [y3, if_neg (by omega), hpa9]
                    refine lv_aload_n hx hb dX8_field_161 rfl (lv_at hl 0 rfl) ?_
                    refine rg_10 X w.1 dX8_field_162 ?_
                    refine tp_i (show z_158.1 10 = (nI pb9) from v158) ?_
                    refine n_if_eq (tgt := 176) hx hb dX8_field_165 (by decide) (by omega) (fun c_165_17 => ?_) (fun c_165_17 => ?_)
                    · skip
                      exfalso; omega
                    · skip
                      refine lv_bipush (v := (iZ (-20))) hx hb dX8_field_168 (by decide) ?_
                      refine lv_aload_n hx hb dX8_field_170 rfl (lv_at hl 0 rfl) ?_
                      refine rg_9 X w.1 dX8_field_171 ?_
                      refine tp_i (show z_158.1 9 = (nI pa9) from a158) ?_
                      refine tp_i (iZ_n pa9).symm ?_
                      refine z_isub hx hb dX8_field_174 ?_
                      exact re_i X hr hk w (⟨by unfold an_fld; rw [if_neg (by omega), ← eA], by unfold nx_fld; rw [if_neg (by omega)]; exact rSc_fr f158 (by decide) (by decide) (by decide) (by decide) (by decide) (by decide) hz, by first | (rw [ez_158]; done) | (rw [ez_158]; rfl), fun q => absurd q (by omega), fun _ => f158.1 16 (by decide), rFr_w f158 (by simp) (by simp)⟩) dX8_field_175
                  · skip
                    refine lv_aload_n hx hb dX8_field_141 rfl (lv_at hl 0 rfl) ?_
                    refine rc_i (rest := [.ref g.2.2.2.1]) X hml hl.1 (k_here l g zy T n tpy b8 hI.1 (by omega)) ok_here wm_X8_149 ⟨Nat.le_of_ble_eq_true rfl, Nat.le_of_ble_eq_true rfl⟩ ⟨Nat.le_refl _, Nat.le_refl _⟩ w rfl (Nat.le_of_ble_eq_true rfl) dX8_field_142 (fun r_142 z_142 H locs hr_142 w => ?_)
                    obtain ⟨h9, hs8, fz8⟩ := hr_142
                    subst h9
                    have hl8 := tk_h_le t4 n b8
                    refine jn (tgt := 153) (rest := [.ref g.2.2.2.1]) (fun v9 => ∃ x9 : Nat, x9 = (if (tk_h T n b8) = 0 then 0 else 1) ∧ v9 = nI x9) (fun v_ hv_ => ?_) (fun k_153 => ?_)
                    · obtain ⟨x_153, ex_153, rfl⟩ := hv_
                      refine rp_10 X w (by first | exact Or.inr rfl | (rw [ex_153]; split; exact Or.inl rfl; exact Or.inr rfl)) dX8_field_153 (fun z_153 H locs ez_153 w => ?_)
                      refine lv_aload_n hx hb dX8_field_156 rfl (lv_at hl 0 rfl) ?_
                      refine lv_iconst (v := (nI 0)) hx hb dX8_field_157 (by decide) ?_
                      refine rp_8 X w dX8_field_158 (fun z_158 H locs ez_158 w => ?_)
                      obtain ⟨pb9, hpb9, v158⟩ : ∃ q9 : Nat, q9 = x_153 ∧ z_158.1 10 = nI q9 := ⟨_, rfl, by rw [ez_158, ez_153]; rfl⟩
                      obtain ⟨pa9, hpa9, a158⟩ : ∃ q9 : Nat, q9 = tk_s T n b8 ∧ z_158.1 9 = nI q9 := ⟨_, rfl, by rw [ez_158, ez_153]; exact hs8⟩
                      have f158 : rFr [8, 9, 10, 11, 12] [13, 14] z z_158 := by rw [ez_158, ez_153]; exact rFr_tr (rFr_tr (rFr_tr (rFr_w i05 (by simp) (by simp)) (rFr_w fz8 (by simp) (by simp))) (rFr_I _ (by decide))) (rFr_I _ (by decide))
                      have eW : ps_W T n = pb9 := by rw [y2, if_pos (by omega), hpb9, ex_153]
                      have eA : pa9 = ps_A T n := by rw [y3, if_pos (by omega), hpa9]
                      have x01 : x_153 ≤ 1 := by rw [ex_153]; exact it_le (by omega) (by omega)
                      obtain ⟨n1, n2, n3⟩ := hI.2.2.2.2.2.2.2.2.2.2.2.1 (by omega)
                      have m158 : z_158.1 11 = nI (tk_m T n) := by rw [ez_158, ez_153]; exact (fz8.1 11 (by decide)).trans n1
                      have k158 : z_158.1 12 = nI (ps_K T n) := by rw [ez_158, ez_153, ← y1]; exact (fz8.1 12 (by decide)).trans hI.2.2.1
                      have s158 : ∀ c, c < tk_m T n → z_158.2.1 13 c = nI (fd_so T n c) := by rw [ez_158, ez_153]; exact fun c hc => (congrFun (fz8.2.1 13 (by decide)) c).trans (n3 c hc)
                      have g158 : ∀ q, q < ps_K T n → ∀ i, i < 4 → z_158.2.1 14 (4 * q + i) = iZ (fk_v T n (gk_p T n (ps_0 T n) q) i) := by rw [ez_158, ez_153, ← y1]; exact fun q hq i hi => (congrFun (fz8.2.1 14 (by decide)) _).trans (hI.2.2.2.1 q hq i hi)
                      have u158 : ∀ q, q < ps_K T n → fk_w T n (gk_p T n (ps_0 T n) q) = 0 := by rw [← y1]; exact hI.2.2.2.2.1 (by omega)
                      refine lv_aload_n hx hb dX8_field_161 rfl (lv_at hl 0 rfl) ?_
                      refine rg_10 X w.1 dX8_field_162 ?_
                      refine tp_i (show z_158.1 10 = (nI pb9) from v158) ?_
                      refine n_if_eq (tgt := 176) hx hb dX8_field_165 (by decide) (by omega) (fun c_165_19 => ?_) (fun c_165_19 => ?_)
                      · skip
                        refine lv_aload_n hx hb dX8_field_176 rfl (lv_at hl 0 rfl) ?_
                        refine lv_aload_n hx hb dX8_field_177 rfl (lv_at hl 0 rfl) ?_
                        refine rg_11 X w.1 dX8_field_178 ?_
                        refine tp_i (show z_158.1 11 = (nI (tk_m T n)) from m158) ?_
                        refine rp_0 X w dX8_field_181 (fun z_181 H locs ez_181 w => ?_)
                        have s181 : ∀ c, c < tk_m T n → z_181.2.1 13 c = nI (fd_so T n c) := by rw [ez_181]; exact s158
                        have h181 : z_181.1 0 = nI (tk_m T n) := by first | (rw [ez_181]; done) | (rw [ez_181]; rfl)
                        have b181 : z_181.2.1 2 = z.2.1 2 := by rw [ez_181]; exact f158.2.1 2 (by decide)
                        have ml := m_le T n
                        refine lv_iconst (v := (nI 0)) hx hb dX8_field_184 (by decide) ?_
                        refine lv_istore_n (lv' := [(2, .int (nI 0)), (0, .ref g.2.2.2.1), (1, .int (nI 0))]) hx hb dX8_field_185 rfl hl (by decide) rfl (fun ls hl => ?_)
                        have lp_186 : ∀ (n_186 : Nat) (d9 : Nat) (hd9 : d9 ≤ tk_m T n) (hm_186 : tk_m T n - d9 < n_186) (ls : Array Slot) (zx : RS) (H : Heap) (locs : List Loc) (w : rW g A s zx H locs) (hcx : ∀ q, zx.2.1 2 q = if q < d9 then nI (fd_so T n q) else z.2.1 2 q) (h0x : zx.1 0 = nI (tk_m T n)) (hfx : rFr [] [2] z_181 zx), lv_has ls 3 [(0, .ref g.2.2.2.1), (2, .int (nI d9))] → W p l e (ro_m 3 70) s m args below meth c H locs 0 0 (MQ below (va_Qi (fun r z' => r = an_fld T n ∧ rSc z' (nx_fld S T n) ∧ z'.1 8 = nI 0 ∧ (ps_W T n = 0 → z'.1 16 = nI 0) ∧ (¬ ps_W T n = 0 → z'.1 16 = z.1 16) ∧ rFr [0, 1, 8, 9, 10, 11, 12, 16] [2, 3, 5, 13, 14] z z') (rB g A) A) args s 0 0 A) (F0 m 186 ls []) := by
                          intro n_186
                          induction n_186 with
                          | zero => intro d9 hd9 hm; exact absurd hm (Nat.not_lt_zero _)
                          | succ n_186 ih_186 =>
                            intro d9 hd9 hm_186 ls zx H locs w hcx h0x hfx hl
                            refine lv_iload_n hx hb dX8_field_186 rfl (lv_at hl 1 rfl) ?_
                            refine lv_aload_n hx hb dX8_field_187 rfl (lv_at hl 0 rfl) ?_
                            refine rg_0 X w.1 dX8_field_188 ?_
                            refine tp_i (show zx.1 0 = (nI (tk_m T n)) from h0x) ?_
                            refine n_icmp_ge (tgt := 212) hx hb dX8_field_191 (by decide) (by omega) (by omega) (fun c_191_20 => ?_) (fun c_191_20 => ?_)
                            · skip
                              refine lv_aload_n hx hb dX8_field_212 rfl (lv_at hl 0 rfl) ?_
                              refine lv_iconst (v := (nI 0)) hx hb dX8_field_213 (by decide) ?_
                              refine rp_1 X w dX8_field_214 (fun z_214 H locs ez_214 w => ?_)
                              refine lv_aload_n hx hb dX8_field_217 rfl (lv_at hl 0 rfl) ?_
                              refine rg_5 X w.1 dX8_field_218 ?_
                              refine lv_iconst (v := (nI 0)) hx hb dX8_field_221 (by decide) ?_
                              refine lv_iconst (v := (nI 0)) hx hb dX8_field_222 (by decide) ?_
                              refine ru_5 X w (by omega) dX8_field_223 (fun z_223 H locs ez_223 w => ?_)
                              refine lv_aload_n hx hb dX8_field_224 rfl (lv_at hl 0 rfl) ?_
                              refine rg_5 X w.1 dX8_field_225 ?_
                              refine lv_iconst (v := (nI 1)) hx hb dX8_field_228 (by decide) ?_
                              refine lv_bipush (v := (iZ (-4))) hx hb dX8_field_229 (by decide) ?_
                              refine ru_5 X w (by omega) dX8_field_231 (fun z_231 H locs ez_231 w => ?_)
                              refine lv_aload_n hx hb dX8_field_232 rfl (lv_at hl 0 rfl) ?_
                              refine lv_iconst (v := (nI 0)) hx hb dX8_field_233 (by decide) ?_
                              refine rp_16 X w dX8_field_234 (fun z_234 H locs ez_234 w => ?_)
                              have d181 : d9 = tk_m T n := by omega
                              skip
                              have f234 : rFr [0, 1, 8, 9, 10, 11, 12, 16] [2, 3, 5, 13, 14] z z_234 := by rw [ez_234, ez_231, ez_223, ez_214]; exact rFr_tr (rFr_tr (rFr_tr (rFr_tr (rFr_tr (by rw [ez_181]; exact rFr_tr (rFr_w f158 (by simp) (by simp)) (rFr_I _ (by decide))) (rFr_w hfx (by simp) (by simp))) (rFr_I _ (by decide))) (rFr_A _ (by decide))) (rFr_A _ (by decide))) (rFr_I _ (by decide))
                              have k234 : z_234.1 12 = nI (ps_K T n) := by rw [ez_234, ez_231, ez_223, ez_214]; exact (hfx.1 12 (by decide)).trans (by rw [ez_181]; exact k158)
                              have r234 : ∀ q, q < ps_K T n → ∀ i, i < 4 → z_234.2.1 14 (4 * q + i) = iZ (fk_v T n (gk_p T n (ps_0 T n) q) i) := by rw [ez_234, ez_231, ez_223, ez_214]; exact fun q hq i hi => (congrFun (hfx.2.1 14 (by decide)) _).trans (by rw [ez_181]; exact g158 q hq i hi)
                              have S234 : rSc z_234 (fd_b S T n) := fd_rsc hz (by rw [ez_234, ez_231, ez_223, ez_214]; exact h0x) (by rw [ez_234, ez_231, ez_223, ez_214]; rfl) (f234.1 4 (by decide)) (by rw [ez_234, ez_231, ez_223, ez_214, ← d181]; exact hcx) (by rw [ez_234, ez_231, ez_223, ez_214]; exact (hfx.2.1 3 (by decide)).trans (by rw [ez_181]; exact f158.2.1 3 (by decide))) (by rw [ez_234, ez_231, ez_223, ez_214]; show upd (upd (zx.2.1 5) 0 (nI 0)) 1 (iZ (-4)) = _; rw [hfx.2.1 5 (by decide), ez_181]; show upd (upd (z_158.2.1 5) 0 (nI 0)) 1 (iZ (-4)) = _; rw [f158.2.1 5 (by decide)])
                              have u234 : z_234.1 16 = nI 0 := by first | (rw [ez_234]; done) | (rw [ez_234]; rfl)
                              have t234 : z_234.1 8 = nI 0 := by rw [ez_234, ez_231, ez_223, ez_214]; exact (hfx.1 8 (by decide)).trans (by rw [ez_181, ez_158]; rfl)
                              refine lv_iconst (v := (nI 0)) hx hb dX8_field_237 (by decide) ?_
                              refine lv_istore_n (lv' := [(2, .int (nI 0)), (0, .ref g.2.2.2.1)]) hx hb dX8_field_238 rfl hl (by decide) rfl (fun ls hl => ?_)
                              have lp_239 : ∀ (n_239 : Nat) (e9 : Nat) (he9b : e9 ≤ ps_K T n) (hm_239 : ps_K T n - e9 < n_239) (ls : Array Slot) (zv : RS) (H : Heap) (locs : List Loc) (w : rW g A s zv H locs) (hS : rSc zv (fd_S S T n e9)) (hfv : rFr [1] [3, 5] z_234 zv), lv_has ls 3 [(0, .ref g.2.2.2.1), (2, .int (nI e9))] → W p l e (ro_m 3 70) s m args below meth c H locs 0 0 (MQ below (va_Qi (fun r z' => r = an_fld T n ∧ rSc z' (nx_fld S T n) ∧ z'.1 8 = nI 0 ∧ (ps_W T n = 0 → z'.1 16 = nI 0) ∧ (¬ ps_W T n = 0 → z'.1 16 = z.1 16) ∧ rFr [0, 1, 8, 9, 10, 11, 12, 16] [2, 3, 5, 13, 14] z z') (rB g A) A) args s 0 0 A) (F0 m 239 ls []) := by
                                intro n_239
                                induction n_239 with
                                | zero => intro e9 he9b hm; exact absurd hm (Nat.not_lt_zero _)
                                | succ n_239 ih_239 =>
                                  intro e9 he9b hm_239 ls zv H locs w hS hfv hl
                                  have K5 : ps_K T n ≤ 5 := by omega
                                  refine lv_iload_n hx hb dX8_field_239 rfl (lv_at hl 1 rfl) ?_
                                  refine lv_aload_n hx hb dX8_field_240 rfl (lv_at hl 0 rfl) ?_
                                  refine rg_12 X w.1 dX8_field_241 ?_
                                  refine tp_i (show zv.1 12 = (nI (ps_K T n)) from (hfv.1 12 (by decide)).trans k234) ?_
                                  refine n_icmp_ge (tgt := 295) hx hb dX8_field_244 (by decide) (by omega) (by omega) (fun c_244_21 => ?_) (fun c_244_21 => ?_)
                                  · skip
                                    refine lv_aload_n hx hb dX8_field_295 rfl (lv_at hl 0 rfl) ?_
                                    refine rg_1 X w.1 dX8_field_296 ?_
                                    refine tp_i (show zv.1 1 = (nI e9) from (rs_nf hS).trans (congrArg nI (fd_n S T n e9))) ?_
                                    exact re_i X hr hk w (by have e8 : e9 = ps_K T n := (by omega); exact ⟨by unfold an_fld; rw [if_pos (by omega), e8], by unfold nx_fld; rw [if_pos (by omega), ← e8]; exact hS, (hfv.1 8 (by decide)).trans t234, fun _ => (hfv.1 16 (by decide)).trans u234, fun q => absurd (by omega) q, rFr_tr f234 (rFr_w hfv (by simp) (by simp))⟩) dX8_field_299
                                  · skip
                                    refine lv_aload_n hx hb dX8_field_247 rfl (lv_at hl 0 rfl) ?_
                                    refine lv_aload_n hx hb dX8_field_248 rfl (lv_at hl 0 rfl) ?_
                                    refine rg_14 X w.1 dX8_field_249 ?_
                                    refine lv_iconst (v := (nI 4)) hx hb dX8_field_252 (by decide) ?_
                                    refine lv_iload_n hx hb dX8_field_253 rfl (lv_at hl 1 rfl) ?_
                                    refine n_imul hx hb dX8_field_254 ?_
                                    refine rn_14 X w.1 (by omega) dX8_field_255 ?_
                                    refine tp_i (show zv.2.1 14 (4 * e9) = (nI (fd_v T n e9 0)) from (congrFun (hfv.2.1 14 (by decide)) _).trans ((r234 e9 (by omega) 0 (by omega)).trans (fk_nn (u158 e9 (by omega)) (by omega)))) ?_
                                    refine lv_aload_n hx hb dX8_field_256 rfl (lv_at hl 0 rfl) ?_
                                    refine rg_14 X w.1 dX8_field_257 ?_
                                    refine lv_iconst (v := (nI 4)) hx hb dX8_field_260 (by decide) ?_
                                    refine lv_iload_n hx hb dX8_field_261 rfl (lv_at hl 1 rfl) ?_
                                    refine n_imul hx hb dX8_field_262 ?_
                                    refine lv_iconst (v := (nI 1)) hx hb dX8_field_263 (by decide) ?_
                                    refine n_iadd hx hb dX8_field_264 ?_
                                    refine rn_14 X w.1 (by omega) dX8_field_265 ?_
                                    refine tp_i (show zv.2.1 14 ((4 * e9) + 1) = (nI (fd_v T n e9 1)) from (congrFun (hfv.2.1 14 (by decide)) _).trans ((r234 e9 (by omega) 1 (by omega)).trans (fk_nn (u158 e9 (by omega)) (by omega)))) ?_
                                    refine lv_aload_n hx hb dX8_field_266 rfl (lv_at hl 0 rfl) ?_
                                    refine rg_14 X w.1 dX8_field_267 ?_
                                    refine lv_iconst (v := (nI 4)) hx hb dX8_field_270 (by decide) ?_
                                    refine lv_iload_n hx hb dX8_field_271 rfl (lv_at hl 1 rfl) ?_
                                    refine n_imul hx hb dX8_field_272 ?_
                                    refine lv_iconst (v := (nI 2)) hx hb dX8_field_273 (by decide) ?_
                                    refine n_iadd hx hb dX8_field_274 ?_
                                    refine rn_14 X w.1 (by omega) dX8_field_275 ?_
                                    refine tp_i (show zv.2.1 14 ((4 * e9) + 2) = (nI (fd_v T n e9 2)) from (congrFun (hfv.2.1 14 (by decide)) _).trans ((r234 e9 (by omega) 2 (by omega)).trans (fk_nn (u158 e9 (by omega)) (by omega)))) ?_
                                    refine lv_aload_n hx hb dX8_field_276 rfl (lv_at hl 0 rfl) ?_
                                    refine rg_14 X w.1 dX8_field_277 ?_
                                    refine lv_iconst (v := (nI 4)) hx hb dX8_field_280 (by decide) ?_
                                    refine lv_iload_n hx hb dX8_field_281 rfl (lv_at hl 1 rfl) ?_
                                    refine n_imul hx hb dX8_field_282 ?_
                                    refine lv_iconst (v := (nI 3)) hx hb dX8_field_283 (by decide) ?_
                                    refine n_iadd hx hb dX8_field_284 ?_
                                    refine rn_14 X w.1 (by omega) dX8_field_285 ?_
                                    refine tp_i (show zv.2.1 14 ((4 * e9) + 3) = (nI (fd_v T n e9 3)) from (congrFun (hfv.2.1 14 (by decide)) _).trans ((r234 e9 (by omega) 3 (by omega)).trans (fk_nn (u158 e9 (by omega)) (by omega)))) ?_
                                    refine rc_v (rest := []) X hml hl.1 (k_fighterComes l g zv (fd_v T n e9 0) (fd_v T n e9 1) (fd_v T n e9 2) (fd_v T n e9 3) (fd_S S T n e9) hS (by rw [fd_n]; omega)) ok_fighterComes wm_X8_84 ⟨Nat.le_of_ble_eq_true rfl, Nat.le_of_ble_eq_true rfl⟩ ⟨Nat.le_refl _, Nat.le_refl _⟩ w rfl (Nat.le_of_ble_eq_true rfl) dX8_field_286 (fun z_286 H locs hr_286 w => ?_)
                                    skip
                                    refine lv_iinc (v := (nI (e9 + 1))) (lv' := [(2, .int (nI (e9 + 1))), (0, .ref g.2.2.2.1)]) hx hb dX8_field_289 hl (k := 1) rfl (by first | exact nI_1 _ | (rw [show Int32.ofInt 1 = nI 1 from by decide, nI_add])) (by decide) rfl (fun ls hl => ?_)
                                    refine lv_goto (tgt := 239) hx hb dX8_field_292 (by decide) ?_
                                    exact ih_239 (e9 + 1) (by omega) (by omega) ls z_286 _ _ w hr_286.1 (rFr_tr hfv hr_286.2) (lv_sub hl [1, 0] rfl)
                              exact lp_239 _ 0 (Nat.zero_le _) (Nat.lt_succ_self _) ls z_234 _ _ w S234 (rFr_rf _ _ _) (lv_sub hl [1, 0] rfl)
                            · skip
                              refine lv_aload_n hx hb dX8_field_194 rfl (lv_at hl 0 rfl) ?_
                              refine rg_2 X w.1 dX8_field_195 ?_
                              refine lv_iload_n hx hb dX8_field_198 rfl (lv_at hl 1 rfl) ?_
                              refine lv_aload_n hx hb dX8_field_199 rfl (lv_at hl 0 rfl) ?_
                              refine rg_13 X w.1 dX8_field_200 ?_
                              refine lv_iload_n hx hb dX8_field_203 rfl (lv_at hl 1 rfl) ?_
                              refine rn_13 X w.1 (by omega) dX8_field_204 ?_
                              refine tp_i (show zx.2.1 13 d9 = (nI (fd_so T n d9)) from (congrFun (hfx.2.1 13 (by decide)) _).trans (s181 d9 (by omega))) ?_
                              refine ru_2 X w (by omega) dX8_field_205 (fun z_205 H locs ez_205 w => ?_)
                              refine lv_iinc (v := (nI (d9 + 1))) (lv' := [(2, .int (nI (d9 + 1))), (0, .ref g.2.2.2.1)]) hx hb dX8_field_206 hl (k := 1) rfl (by first | exact nI_1 _ | (rw [show Int32.ofInt 1 = nI 1 from by decide, nI_add])) (by decide) rfl (fun ls hl => ?_)
                              refine lv_goto (tgt := 186) hx hb dX8_field_209 (by decide) ?_
                              exact ih_186 (d9 + 1) (by omega) (by omega) ls z_205 _ _ w (by rw [ez_205]; exact so_cp hcx) (by rw [ez_205]; exact h0x) (by rw [ez_205]; exact rFr_tr hfx (rFr_A _ (by decide))) (lv_sub hl [1, 0] rfl)
                        exact lp_186 _ 0 (Nat.zero_le _) (Nat.lt_succ_self _) ls z_181 _ _ w (fun q => by rw [b181, if_neg (by omega)]) h181 (rFr_rf _ _ _) (lv_sub hl [1, 0] rfl)
                      · skip
                        refine lv_bipush (v := (iZ (-20))) hx hb dX8_field_168 (by decide) ?_
                        refine lv_aload_n hx hb dX8_field_170 rfl (lv_at hl 0 rfl) ?_
                        refine rg_9 X w.1 dX8_field_171 ?_
                        refine tp_i (show z_158.1 9 = (nI pa9) from a158) ?_
                        refine tp_i (iZ_n pa9).symm ?_
                        refine z_isub hx hb dX8_field_174 ?_
                        exact re_i X hr hk w (⟨by unfold an_fld; rw [if_neg (by omega), ← eA], by unfold nx_fld; rw [if_neg (by omega)]; exact rSc_fr f158 (by decide) (by decide) (by decide) (by decide) (by decide) (by decide) hz, by first | (rw [ez_158]; done) | (rw [ez_158]; rfl), fun q => absurd q (by omega), fun _ => f158.1 16 (by decide), rFr_w f158 (by simp) (by simp)⟩) dX8_field_175
                    · skip
                      refine n_if_eq (tgt := 152) hx hb dX8_field_145 (by decide) (by omega) (fun c_145_22 => ?_) (fun c_145_22 => ?_)
                      · skip
                        refine lv_iconst (v := (nI 0)) hx hb dX8_field_152 (by decide) ?_
                        exact k_153 _ ⟨_, by simp only [if_pos c_145_22], rfl⟩
                      · skip
                        refine lv_iconst (v := (nI 1)) hx hb dX8_field_148 (by decide) ?_
                        refine lv_goto (tgt := 153) hx hb dX8_field_149 (by decide) ?_
                        exact k_153 _ ⟨_, by simp only [if_neg c_145_22], rfl⟩
                · skip
                  have e1 : f9 = 1 := by omega
                  subst e1
                  obtain ⟨y1, y2, y3, y4, y5, y6⟩ := hI.2.2.2.2.2.2.1 rfl
                  have y7 := fk_w_le T n b8
                  have y8 := (fk_a_le T n b8).2.2.2.2
                  refine lv_aload_n hx hb dX8_field_103 rfl (lv_at hl 0 rfl) ?_
                  refine rc_v (rest := []) X hml hl.1 (k_readFighter l g zy T n tpy b8 hI.1 (by omega) (by rw [hI.2.1, y2]) k9 hI.2.2.1 y1 (by omega)) ok_readFighter wm_X8_168 ⟨Nat.le_of_ble_eq_true rfl, Nat.le_of_ble_eq_true rfl⟩ ⟨Nat.le_refl _, Nat.le_refl _⟩ w rfl (Nat.le_of_ble_eq_true rfl) dX8_field_104 (fun z_104 H locs hr_104 w => ?_)
                  have z104 := rFr_tr (rFr_w (is' := [9, 10, 11, 12]) (ks' := [13, 14]) i05 (fun _ q => q) (fun _ q => q)) (rFr_w hr_104.2.2.2.2.2 (by simp) (by simp))
                  refine lv_aload_n hx hb dX8_field_107 rfl (lv_at hl 0 rfl) ?_
                  refine rg_12 X w.1 dX8_field_108 ?_
                  refine tp_i (show z_104.1 12 = (nI (k9 + 1)) from hr_104.2.2.1) ?_
                  refine lv_iconst (v := (nI 5)) hx hb dX8_field_111 (by decide) ?_
                  refine n_icmp_ge (tgt := 128) hx hb dX8_field_112 (by decide) (by omega) (by omega) (fun c_112_23 => ?_) (fun c_112_23 => ?_)
                  · skip
                    refine lv_iconst (v := (nI 0)) hx hb dX8_field_128 (by decide) ?_
                    refine lv_istore_n (lv' := [(1, .int (nI 0)), (0, .ref g.2.2.2.1)]) hx hb dX8_field_129 rfl hl (by decide) rfl (fun ls hl => ?_)
                    refine lv_goto (tgt := 99) hx hb dX8_field_130 (by decide) ?_
                    exact ih_99 0 (k9 + 1) (fk_w T n b8) (fk_a T n b8) (by omega) ls z_104 _ _ w (fdI_5 t2 hI hr_104 (by omega)) (lv_sub hl [1, 0] rfl)
                  · skip
                    refine lv_aload_n hx hb dX8_field_115 rfl (lv_at hl 0 rfl) ?_
                    refine lv_bipush (v := (nI 44)) hx hb dX8_field_116 (by decide) ?_
                    refine rc_i (rest := []) X hml hl.1 (k_has l g z_104 44 T n (tp_fr z104 (by decide) (by decide) htp) (fk_a T n b8) hr_104.1 (by omega) (fk_w T n b8) hr_104.2.1 y7 (by omega)) ok_has wm_X8_159 ⟨Nat.le_of_ble_eq_true rfl, Nat.le_of_ble_eq_true rfl⟩ ⟨Nat.le_refl _, Nat.le_refl _⟩ w rfl (Nat.le_of_ble_eq_true rfl) dX8_field_118 (fun r_118 z_118 H locs hr_118 w => ?_)
                    have h9 := hr_118.1
                    subst h9
                    have q01 := hv01 T n 44 (fk_a T n b8) (fk_w T n b8)
                    refine jn (tgt := 129) (rest := []) (fun v9 => ∃ x9 : Nat, x9 = (if (tk_hv T n 44 (fk_a T n b8) (fk_w T n b8)) = 0 then 0 else 1) ∧ v9 = nI x9) (fun v_ hv_ => ?_) (fun k_129 => ?_)
                    · obtain ⟨x_129, ex_129, rfl⟩ := hv_
                      refine lv_istore_n (lv' := [(1, .int (nI x_129)), (0, .ref g.2.2.2.1)]) hx hb dX8_field_129 rfl hl (by decide) rfl (fun ls hl => ?_)
                      refine lv_goto (tgt := 99) hx hb dX8_field_130 (by decide) ?_
                      rw [show x_129 = tk_hv T n 44 (fk_a T n b8) (fk_w T n b8) from (by rw [ex_129]; have q9 := hv01 T n 44 (fk_a T n b8) (fk_w T n b8); split <;> omega)] at hl
                      exact ih_99 (tk_hv T n 44 (fk_a T n b8) (fk_w T n b8)) (k9 + 1) (fk_w T n b8) (tk_ha T n 44 (fk_a T n b8) (fk_w T n b8)) (by omega) ls z_118 _ _ w (fdI_s t2 hI hr_104 (by omega) hr_118.2.1 hr_118.2.2) (lv_sub hl [1, 0] rfl)
                    · skip
                      refine n_if_eq (tgt := 128) hx hb dX8_field_121 (by decide) (by omega) (fun c_121_25 => ?_) (fun c_121_25 => ?_)
                      · skip
                        refine lv_iconst (v := (nI 0)) hx hb dX8_field_128 (by decide) ?_
                        exact k_129 _ ⟨_, by simp only [if_pos c_121_25], rfl⟩
                      · skip
                        refine lv_iconst (v := (nI 1)) hx hb dX8_field_124 (by decide) ?_
                        refine lv_goto (tgt := 129) hx hb dX8_field_125 (by decide) ?_
                        exact k_129 _ ⟨_, by simp only [if_neg c_121_25], rfl⟩
            exact lp_99 _ (tk_hv T n 59 (tk_c T n c9) 0) 0 0 (tk_ha T n 59 (tk_c T n c9) 0) (Nat.lt_succ_self _) ls z_95 _ _ w I9 (lv_sub hl [1, 0] rfl)
          · skip
            refine lv_aload_n hx hb dX8_field_49 rfl (lv_at hl 0 rfl) ?_
            refine rc_i (rest := []) X hml hl.1 (k_sign l g zz T n (tp_fr hfz (by decide) (by decide) htp) (tk_c T n c9) haz (by omega)) ok_sign wm_X8_165 ⟨Nat.le_of_ble_eq_true rfl, Nat.le_of_ble_eq_true rfl⟩ ⟨Nat.le_refl _, Nat.le_refl _⟩ w rfl (Nat.le_of_ble_eq_true rfl) dX8_field_50 (fun r_50 z_50 H locs hr_50 w => ?_)
            obtain ⟨h9, hr_50⟩ := hr_50
            subst h9
            refine z_if_lt (tgt := 92) hx hb dX8_field_53 (by decide) (by omega) (by omega) (fun c_53_26 => ?_) (fun c_53_26 => ?_)
            · skip
              refine lv_aload_n hx hb dX8_field_92 rfl (lv_at hl 0 rfl) ?_
              refine lv_bipush (v := (nI 59)) hx hb dX8_field_93 (by decide) ?_
              refine rc_i (rest := []) X hml hl.1 (k_has l g z_50 59 T n (tp_fr (rFr_tr hfz (rFr_w hr_50.2 (by simp) (by simp))) (by decide) (by decide) htp) (tk_s T n (tk_c T n c9)) hr_50.1 (by omega) 0 (((hr_50.2.1 10 (by decide)).trans hwz).trans (congrArg nI (by omega))) (by omega) (by omega)) ok_has wm_X8_159 ⟨Nat.le_of_ble_eq_true rfl, Nat.le_of_ble_eq_true rfl⟩ ⟨Nat.le_refl _, Nat.le_refl _⟩ w rfl (Nat.le_of_ble_eq_true rfl) dX8_field_95 (fun r_95 z_95 H locs hr_95 w => ?_)
              obtain ⟨h9, a95, f95⟩ := hr_95
              subst h9
              have x0 : x_20 = 0 := by omega
              have m0 : c9 = tk_m T n := (nf_n (by omega) (by assumption) (he9 x0))
              have k46 : tk_h T n 0 = 46 := by by_cases q : tk_h T n 0 = 46; exact q; rw [ex_20, if_neg q] at x0; exact absurd x0 (by decide)
              have I9 : fdI z z_95 T n (tk_hv T n 59 (tk_s T n (tk_c T n c9)) 0) 0 0 (tk_ha T n 59 (tk_s T n (tk_c T n c9)) 0) := fdI_0 t2 k46 (by rw [m0]; exact tk_id _ _ _) a95 ((f95.1 10 (by decide)).trans (((hr_50.2.1 10 (by decide)).trans hwz).trans (congrArg nI x0))) ((f95.1 12 (by decide)).trans ((hr_50.2.1 12 (by decide)).trans hkz)) ((f95.1 11 (by decide)).trans (by rw [← m0]; exact (hr_50.2.1 11 (by decide)).trans hmz)) (fun c hc => (congrFun (f95.2.1 13 (by decide)) c).trans ((congrFun (hr_50.2.2.1 13 (by decide)) c).trans (hsz c (by rw [m0]; exact hc)))) (rFr_tr (rFr_tr hfz (rFr_w hr_50.2 (by simp) (by simp))) (rFr_w f95 (by simp) (by simp)))
              refine lv_istore_n (lv' := [(1, .int (nI (tk_hv T n 59 (tk_s T n (tk_c T n c9)) 0))), (0, .ref g.2.2.2.1)]) hx hb dX8_field_98 rfl hl (by decide) rfl (fun ls hl => ?_)
              have lp_99 : ∀ (n_99 : Nat) (f9 : Nat) (k9 : Nat) (w8 : Nat) (b8 : Nat) (hm_99 : 6 - k9 < n_99) (ls : Array Slot) (zy : RS) (H : Heap) (locs : List Loc) (w : rW g A s zy H locs) (hI : fdI z zy T n f9 k9 w8 b8), lv_has ls 3 [(0, .ref g.2.2.2.1), (1, .int (nI f9))] → W p l e (ro_m 3 70) s m args below meth c H locs 0 0 (MQ below (va_Qi (fun r z' => r = an_fld T n ∧ rSc z' (nx_fld S T n) ∧ z'.1 8 = nI 0 ∧ (ps_W T n = 0 → z'.1 16 = nI 0) ∧ (¬ ps_W T n = 0 → z'.1 16 = z.1 16) ∧ rFr [0, 1, 8, 9, 10, 11, 12, 16] [2, 3, 5, 13, 14] z z') (rB g A) A) args s 0 0 A) (F0 m 99 ls []) := by
                intro n_99
                induction n_99 with
                | zero => intro f9 k9 w8 b8 hm; exact absurd hm (Nat.not_lt_zero _)
                | succ n_99 ih_99 =>
                  intro f9 k9 w8 b8 hm_99 ls zy H locs w hI hl
                  have i01 := hI.2.2.2.2.2.2.2.2.2.2.1
                  have i02 := hI.2.2.2.2.2.2.2.2.2.1
                  have i03 := hI.2.2.2.2.2.2.2.2.1
                  have i04 := hI.2.2.2.2.2.1
                  have i05 := hI.2.2.2.2.2.2.2.2.2.2.2.2
                  have tpy := tp_fr i05 (by decide) (by decide) htp
                  refine lv_iload_n hx hb dX8_field_99 rfl (lv_at hl 1 rfl) ?_
                  refine n_if_eq (tgt := 133) hx hb dX8_field_100 (by decide) (by omega) (fun c_100_27 => ?_) (fun c_100_27 => ?_)
                  · skip
                    have e0 : f9 = 0 := by assumption
                    subst e0
                    obtain ⟨y1, y2, y3⟩ := hI.2.2.2.2.2.2.2.1 rfl
                    refine lv_aload_n hx hb dX8_field_133 rfl (lv_at hl 0 rfl) ?_
                    refine lv_aload_n hx hb dX8_field_134 rfl (lv_at hl 0 rfl) ?_
                    refine rg_10 X w.1 dX8_field_135 ?_
                    refine tp_i (show zy.1 10 = (nI w8) from hI.2.1) ?_
                    refine n_if_ne (tgt := 148) hx hb dX8_field_138 (by decide) (by omega) (fun c_138_28 => ?_) (fun c_138_28 => ?_)
                    · skip
                      refine lv_iconst (v := (nI 1)) hx hb dX8_field_148 (by decide) ?_
                      refine lv_goto (tgt := 153) hx hb dX8_field_149 (by decide) ?_
                      refine rp_10 X w (by first | exact Or.inr rfl | (rw [ex_153]; split; exact Or.inl rfl; exact Or.inr rfl)) dX8_field_153 (fun z_153 H locs ez_153 w => ?_)
                      refine lv_aload_n hx hb dX8_field_156 rfl (lv_at hl 0 rfl) ?_
                      refine lv_iconst (v := (nI 0)) hx hb dX8_field_157 (by decide) ?_
                      refine rp_8 X w dX8_field_158 (fun z_158 H locs ez_158 w => ?_)
                      have w158 : z_158.1 10 = nI 1 := by rw [ez_158, ez_153]; rfl
                      obtain ⟨pa9, hpa9, a158⟩ : ∃ q9 : Nat, q9 = b8 ∧ z_158.1 9 = nI q9 := ⟨_, rfl, by rw [ez_158, ez_153]; exact hI.1⟩
                      have f158 : rFr [8, 9, 10, 11, 12] [13, 14] z z_158 := by rw [ez_158, ez_153]; exact rFr_tr (rFr_tr (rFr_w i05 (by simp) (by simp)) (rFr_I _ (by decide))) (rFr_I _ (by decide))
                      obtain ⟨pb9, hpb9, v158⟩ : ∃ q9 : Nat, q9 = 1 ∧ z_158.1 10 = nI q9 := ⟨_, rfl, w158⟩
                      have eW : ¬ ps_W T n = 0 := by rw [y2, if_neg (by omega)]; decide
                      have eA : pa9 = ps_A T n := by rw [y3, if_neg (by omega), hpa9]
                      refine lv_aload_n hx hb dX8_field_161 rfl (lv_at hl 0 rfl) ?_
                      refine rg_10 X w.1 dX8_field_162 ?_
                      refine tp_i (show z_158.1 10 = (nI pb9) from v158) ?_
                      refine n_if_eq (tgt := 176) hx hb dX8_field_165 (by decide) (by omega) (fun c_165_29 => ?_) (fun c_165_29 => ?_)
                      · skip
                        exfalso; omega
                      · skip
                        refine lv_bipush (v := (iZ (-20))) hx hb dX8_field_168 (by decide) ?_
                        refine lv_aload_n hx hb dX8_field_170 rfl (lv_at hl 0 rfl) ?_
                        refine rg_9 X w.1 dX8_field_171 ?_
                        refine tp_i (show z_158.1 9 = (nI pa9) from a158) ?_
                        refine tp_i (iZ_n pa9).symm ?_
                        refine z_isub hx hb dX8_field_174 ?_
                        exact re_i X hr hk w (⟨by unfold an_fld; rw [if_neg (by omega), ← eA], by unfold nx_fld; rw [if_neg (by omega)]; exact rSc_fr f158 (by decide) (by decide) (by decide) (by decide) (by decide) (by decide) hz, by first | (rw [ez_158]; done) | (rw [ez_158]; rfl), fun q => absurd q (by omega), fun _ => f158.1 16 (by decide), rFr_w f158 (by simp) (by simp)⟩) dX8_field_175
                    · skip
                      refine lv_aload_n hx hb dX8_field_141 rfl (lv_at hl 0 rfl) ?_
                      refine rc_i (rest := [.ref g.2.2.2.1]) X hml hl.1 (k_here l g zy T n tpy b8 hI.1 (by omega)) ok_here wm_X8_149 ⟨Nat.le_of_ble_eq_true rfl, Nat.le_of_ble_eq_true rfl⟩ ⟨Nat.le_refl _, Nat.le_refl _⟩ w rfl (Nat.le_of_ble_eq_true rfl) dX8_field_142 (fun r_142 z_142 H locs hr_142 w => ?_)
                      obtain ⟨h9, hs8, fz8⟩ := hr_142
                      subst h9
                      have hl8 := tk_h_le t4 n b8
                      refine jn (tgt := 153) (rest := [.ref g.2.2.2.1]) (fun v9 => ∃ x9 : Nat, x9 = (if (tk_h T n b8) = 0 then 0 else 1) ∧ v9 = nI x9) (fun v_ hv_ => ?_) (fun k_153 => ?_)
                      · obtain ⟨x_153, ex_153, rfl⟩ := hv_
                        refine rp_10 X w (by first | exact Or.inr rfl | (rw [ex_153]; split; exact Or.inl rfl; exact Or.inr rfl)) dX8_field_153 (fun z_153 H locs ez_153 w => ?_)
                        refine lv_aload_n hx hb dX8_field_156 rfl (lv_at hl 0 rfl) ?_
                        refine lv_iconst (v := (nI 0)) hx hb dX8_field_157 (by decide) ?_
                        refine rp_8 X w dX8_field_158 (fun z_158 H locs ez_158 w => ?_)
                        obtain ⟨pb9, hpb9, v158⟩ : ∃ q9 : Nat, q9 = x_153 ∧ z_158.1 10 = nI q9 := ⟨_, rfl, by rw [ez_158, ez_153]; rfl⟩
                        obtain ⟨pa9, hpa9, a158⟩ : ∃ q9 : Nat, q9 = tk_s T n b8 ∧ z_158.1 9 = nI q9 := ⟨_, rfl, by rw [ez_158, ez_153]; exact hs8⟩
                        have f158 : rFr [8, 9, 10, 11, 12] [13, 14] z z_158 := by rw [ez_158, ez_153]; exact rFr_tr (rFr_tr (rFr_tr (rFr_w i05 (by simp) (by simp)) (rFr_w fz8 (by simp) (by simp))) (rFr_I _ (by decide))) (rFr_I _ (by decide))
                        have eW : ps_W T n = pb9 := by rw [y2, if_pos (by omega), hpb9, ex_153]
                        have eA : pa9 = ps_A T n := by rw [y3, if_pos (by omega), hpa9]
                        have x01 : x_153 ≤ 1 := by rw [ex_153]; exact it_le (by omega) (by omega)
                        obtain ⟨n1, n2, n3⟩ := hI.2.2.2.2.2.2.2.2.2.2.2.1 (by omega)
                        have m158 : z_158.1 11 = nI (tk_m T n) := by rw [ez_158, ez_153]; exact (fz8.1 11 (by decide)).trans n1
                        have k158 : z_158.1 12 = nI (ps_K T n) := by rw [ez_158, ez_153, ← y1]; exact (fz8.1 12 (by decide)).trans hI.2.2.1
                        have s158 : ∀ c, c < tk_m T n → z_158.2.1 13 c = nI (fd_so T n c) := by rw [ez_158, ez_153]; exact fun c hc => (congrFun (fz8.2.1 13 (by decide)) c).trans (n3 c hc)
                        have g158 : ∀ q, q < ps_K T n → ∀ i, i < 4 → z_158.2.1 14 (4 * q + i) = iZ (fk_v T n (gk_p T n (ps_0 T n) q) i) := by rw [ez_158, ez_153, ← y1]; exact fun q hq i hi => (congrFun (fz8.2.1 14 (by decide)) _).trans (hI.2.2.2.1 q hq i hi)
                        have u158 : ∀ q, q < ps_K T n → fk_w T n (gk_p T n (ps_0 T n) q) = 0 := by rw [← y1]; exact hI.2.2.2.2.1 (by omega)
                        refine lv_aload_n hx hb dX8_field_161 rfl (lv_at hl 0 rfl) ?_
                        refine rg_10 X w.1 dX8_field_162 ?_
                        refine tp_i (show z_158.1 10 = (nI pb9) from v158) ?_
                        refine n_if_eq (tgt := 176) hx hb dX8_field_165 (by decide) (by omega) (fun c_165_31 => ?_) (fun c_165_31 => ?_)
                        · skip
                          refine lv_aload_n hx hb dX8_field_176 rfl (lv_at hl 0 rfl) ?_
                          refine lv_aload_n hx hb dX8_field_177 rfl (lv_at hl 0 rfl) ?_
                          refine rg_11 X w.1 dX8_field_178 ?_
                          refine tp_i (show z_158.1 11 = (nI (tk_m T n)) from m158) ?_
                          refine rp_0 X w dX8_field_181 (fun z_181 H locs ez_181 w => ?_)
                          have s181 : ∀ c, c < tk_m T n → z_181.2.1 13 c = nI (fd_so T n c) := by rw [ez_181]; exact s158
                          have h181 : z_181.1 0 = nI (tk_m T n) := by first | (rw [ez_181]; done) | (rw [ez_181]; rfl)
                          have b181 : z_181.2.1 2 = z.2.1 2 := by rw [ez_181]; exact f158.2.1 2 (by decide)
                          have ml := m_le T n
                          refine lv_iconst (v := (nI 0)) hx hb dX8_field_184 (by decide) ?_
                          refine lv_istore_n (lv' := [(2, .int (nI 0)), (0, .ref g.2.2.2.1), (1, .int (nI 0))]) hx hb dX8_field_185 rfl hl (by decide) rfl (fun ls hl => ?_)
                          have lp_186 : ∀ (n_186 : Nat) (d9 : Nat) (hd9 : d9 ≤ tk_m T n) (hm_186 : tk_m T n - d9 < n_186) (ls : Array Slot) (zx : RS) (H : Heap) (locs : List Loc) (w : rW g A s zx H locs) (hcx : ∀ q, zx.2.1 2 q = if q < d9 then nI (fd_so T n q) else z.2.1 2 q) (h0x : zx.1 0 = nI (tk_m T n)) (hfx : rFr [] [2] z_181 zx), lv_has ls 3 [(0, .ref g.2.2.2.1), (2, .int (nI d9))] → W p l e (ro_m 3 70) s m args below meth c H locs 0 0 (MQ below (va_Qi (fun r z' => r = an_fld T n ∧ rSc z' (nx_fld S T n) ∧ z'.1 8 = nI 0 ∧ (ps_W T n = 0 → z'.1 16 = nI 0) ∧ (¬ ps_W T n = 0 → z'.1 16 = z.1 16) ∧ rFr [0, 1, 8, 9, 10, 11, 12, 16] [2, 3, 5, 13, 14] z z') (rB g A) A) args s 0 0 A) (F0 m 186 ls []) := by
                            intro n_186
                            induction n_186 with
                            | zero => intro d9 hd9 hm; exact absurd hm (Nat.not_lt_zero _)
                            | succ n_186 ih_186 =>
                              intro d9 hd9 hm_186 ls zx H locs w hcx h0x hfx hl
                              refine lv_iload_n hx hb dX8_field_186 rfl (lv_at hl 1 rfl) ?_
                              refine lv_aload_n hx hb dX8_field_187 rfl (lv_at hl 0 rfl) ?_
                              refine rg_0 X w.1 dX8_field_188 ?_
                              refine tp_i (show zx.1 0 = (nI (tk_m T n)) from h0x) ?_
                              refine n_icmp_ge (tgt := 212) hx hb dX8_field_191 (by decide) (by omega) (by omega) (fun c_191_32 => ?_) (fun c_191_32 => ?_)
                              · skip
                                refine lv_aload_n hx hb dX8_field_212 rfl (lv_at hl 0 rfl) ?_
                                refine lv_iconst (v := (nI 0)) hx hb dX8_field_213 (by decide) ?_
                                refine rp_1 X w dX8_field_214 (fun z_214 H locs ez_214 w => ?_)
                                refine lv_aload_n hx hb dX8_field_217 rfl (lv_at hl 0 rfl) ?_
                                refine rg_5 X w.1 dX8_field_218 ?_
                                refine lv_iconst (v := (nI 0)) hx hb dX8_field_221 (by decide) ?_
                                refine lv_iconst (v := (nI 0)) hx hb dX8_field_222 (by decide) ?_
                                refine ru_5 X w (by omega) dX8_field_223 (fun z_223 H locs ez_223 w => ?_)
                                refine lv_aload_n hx hb dX8_field_224 rfl (lv_at hl 0 rfl) ?_
                                refine rg_5 X w.1 dX8_field_225 ?_
                                refine lv_iconst (v := (nI 1)) hx hb dX8_field_228 (by decide) ?_
                                refine lv_bipush (v := (iZ (-4))) hx hb dX8_field_229 (by decide) ?_
                                refine ru_5 X w (by omega) dX8_field_231 (fun z_231 H locs ez_231 w => ?_)
                                refine lv_aload_n hx hb dX8_field_232 rfl (lv_at hl 0 rfl) ?_
                                refine lv_iconst (v := (nI 0)) hx hb dX8_field_233 (by decide) ?_
                                refine rp_16 X w dX8_field_234 (fun z_234 H locs ez_234 w => ?_)
                                have d181 : d9 = tk_m T n := by omega
                                skip
                                have f234 : rFr [0, 1, 8, 9, 10, 11, 12, 16] [2, 3, 5, 13, 14] z z_234 := by rw [ez_234, ez_231, ez_223, ez_214]; exact rFr_tr (rFr_tr (rFr_tr (rFr_tr (rFr_tr (by rw [ez_181]; exact rFr_tr (rFr_w f158 (by simp) (by simp)) (rFr_I _ (by decide))) (rFr_w hfx (by simp) (by simp))) (rFr_I _ (by decide))) (rFr_A _ (by decide))) (rFr_A _ (by decide))) (rFr_I _ (by decide))
                                have k234 : z_234.1 12 = nI (ps_K T n) := by rw [ez_234, ez_231, ez_223, ez_214]; exact (hfx.1 12 (by decide)).trans (by rw [ez_181]; exact k158)
                                have r234 : ∀ q, q < ps_K T n → ∀ i, i < 4 → z_234.2.1 14 (4 * q + i) = iZ (fk_v T n (gk_p T n (ps_0 T n) q) i) := by rw [ez_234, ez_231, ez_223, ez_214]; exact fun q hq i hi => (congrFun (hfx.2.1 14 (by decide)) _).trans (by rw [ez_181]; exact g158 q hq i hi)
                                have S234 : rSc z_234 (fd_b S T n) := fd_rsc hz (by rw [ez_234, ez_231, ez_223, ez_214]; exact h0x) (by rw [ez_234, ez_231, ez_223, ez_214]; rfl) (f234.1 4 (by decide)) (by rw [ez_234, ez_231, ez_223, ez_214, ← d181]; exact hcx) (by rw [ez_234, ez_231, ez_223, ez_214]; exact (hfx.2.1 3 (by decide)).trans (by rw [ez_181]; exact f158.2.1 3 (by decide))) (by rw [ez_234, ez_231, ez_223, ez_214]; show upd (upd (zx.2.1 5) 0 (nI 0)) 1 (iZ (-4)) = _; rw [hfx.2.1 5 (by decide), ez_181]; show upd (upd (z_158.2.1 5) 0 (nI 0)) 1 (iZ (-4)) = _; rw [f158.2.1 5 (by decide)])
                                have u234 : z_234.1 16 = nI 0 := by first | (rw [ez_234]; done) | (rw [ez_234]; rfl)
                                have t234 : z_234.1 8 = nI 0 := by rw [ez_234, ez_231, ez_223, ez_214]; exact (hfx.1 8 (by decide)).trans (by rw [ez_181, ez_158]; rfl)
                                refine lv_iconst (v := (nI 0)) hx hb dX8_field_237 (by decide) ?_
                                refine lv_istore_n (lv' := [(2, .int (nI 0)), (0, .ref g.2.2.2.1)]) hx hb dX8_field_238 rfl hl (by decide) rfl (fun ls hl => ?_)
                                have lp_239 : ∀ (n_239 : Nat) (e9 : Nat) (he9b : e9 ≤ ps_K T n) (hm_239 : ps_K T n - e9 < n_239) (ls : Array Slot) (zv : RS) (H : Heap) (locs : List Loc) (w : rW g A s zv H locs) (hS : rSc zv (fd_S S T n e9)) (hfv : rFr [1] [3, 5] z_234 zv), lv_has ls 3 [(0, .ref g.2.2.2.1), (2, .int (nI e9))] → W p l e (ro_m 3 70) s m args below meth c H locs 0 0 (MQ below (va_Qi (fun r z' => r = an_fld T n ∧ rSc z' (nx_fld S T n) ∧ z'.1 8 = nI 0 ∧ (ps_W T n = 0 → z'.1 16 = nI 0) ∧ (¬ ps_W T n = 0 → z'.1 16 = z.1 16) ∧ rFr [0, 1, 8, 9, 10, 11, 12, 16] [2, 3, 5, 13, 14] z z') (rB g A) A) args s 0 0 A) (F0 m 239 ls []) := by
                                  intro n_239
                                  induction n_239 with
                                  | zero => intro e9 he9b hm; exact absurd hm (Nat.not_lt_zero _)
                                  | succ n_239 ih_239 =>
                                    intro e9 he9b hm_239 ls zv H locs w hS hfv hl
                                    have K5 : ps_K T n ≤ 5 := by omega
                                    refine lv_iload_n hx hb dX8_field_239 rfl (lv_at hl 1 rfl) ?_
                                    refine lv_aload_n hx hb dX8_field_240 rfl (lv_at hl 0 rfl) ?_
                                    refine rg_12 X w.1 dX8_field_241 ?_
                                    refine tp_i (show zv.1 12 = (nI (ps_K T n)) from (hfv.1 12 (by decide)).trans k234) ?_
                                    refine n_icmp_ge (tgt := 295) hx hb dX8_field_244 (by decide) (by omega) (by omega) (fun c_244_33 => ?_) (fun c_244_33 => ?_)
                                    · skip
                                      refine lv_aload_n hx hb dX8_field_295 rfl (lv_at hl 0 rfl) ?_
                                      refine rg_1 X w.1 dX8_field_296 ?_
                                      refine tp_i (show zv.1 1 = (nI e9) from (rs_nf hS).trans (congrArg nI (fd_n S T n e9))) ?_
                                      exact re_i X hr hk w (by have e8 : e9 = ps_K T n := (by omega); exact ⟨by unfold an_fld; rw [if_pos (by omega), e8], by unfold nx_fld; rw [if_pos (by omega), ← e8]; exact hS, (hfv.1 8 (by decide)).trans t234, fun _ => (hfv.1 16 (by decide)).trans u234, fun q => absurd (by omega) q, rFr_tr f234 (rFr_w hfv (by simp) (by simp))⟩) dX8_field_299
                                    · skip
                                      refine lv_aload_n hx hb dX8_field_247 rfl (lv_at hl 0 rfl) ?_
                                      refine lv_aload_n hx hb dX8_field_248 rfl (lv_at hl 0 rfl) ?_
                                      refine rg_14 X w.1 dX8_field_249 ?_
                                      refine lv_iconst (v := (nI 4)) hx hb dX8_field_252 (by decide) ?_
                                      refine lv_iload_n hx hb dX8_field_253 rfl (lv_at hl 1 rfl) ?_
                                      refine n_imul hx hb dX8_field_254 ?_
                                      refine rn_14 X w.1 (by omega) dX8_field_255 ?_
                                      refine tp_i (show zv.2.1 14 (4 * e9) = (nI (fd_v T n e9 0)) from (congrFun (hfv.2.1 14 (by decide)) _).trans ((r234 e9 (by omega) 0 (by omega)).trans (fk_nn (u158 e9 (by omega)) (by omega)))) ?_
                                      refine lv_aload_n hx hb dX8_field_256 rfl (lv_at hl 0 rfl) ?_
                                      refine rg_14 X w.1 dX8_field_257 ?_
                                      refine lv_iconst (v := (nI 4)) hx hb dX8_field_260 (by decide) ?_
                                      refine lv_iload_n hx hb dX8_field_261 rfl (lv_at hl 1 rfl) ?_
                                      refine n_imul hx hb dX8_field_262 ?_
                                      refine lv_iconst (v := (nI 1)) hx hb dX8_field_263 (by decide) ?_
                                      refine n_iadd hx hb dX8_field_264 ?_
                                      refine rn_14 X w.1 (by omega) dX8_field_265 ?_
                                      refine tp_i (show zv.2.1 14 ((4 * e9) + 1) = (nI (fd_v T n e9 1)) from (congrFun (hfv.2.1 14 (by decide)) _).trans ((r234 e9 (by omega) 1 (by omega)).trans (fk_nn (u158 e9 (by omega)) (by omega)))) ?_
                                      refine lv_aload_n hx hb dX8_field_266 rfl (lv_at hl 0 rfl) ?_
                                      refine rg_14 X w.1 dX8_field_267 ?_
                                      refine lv_iconst (v := (nI 4)) hx hb dX8_field_270 (by decide) ?_
                                      refine lv_iload_n hx hb dX8_field_271 rfl (lv_at hl 1 rfl) ?_
                                      refine n_imul hx hb dX8_field_272 ?_
                                      refine lv_iconst (v := (nI 2)) hx hb dX8_field_273 (by decide) ?_
                                      refine n_iadd hx hb dX8_field_274 ?_
                                      refine rn_14 X w.1 (by omega) dX8_field_275 ?_
                                      refine tp_i (show zv.2.1 14 ((4 * e9) + 2) = (nI (fd_v T n e9 2)) from (congrFun (hfv.2.1 14 (by decide)) _).trans ((r234 e9 (by omega) 2 (by omega)).trans (fk_nn (u158 e9 (by omega)) (by omega)))) ?_
                                      refine lv_aload_n hx hb dX8_field_276 rfl (lv_at hl 0 rfl) ?_
                                      refine rg_14 X w.1 dX8_field_277 ?_
                                      refine lv_iconst (v := (nI 4)) hx hb dX8_field_280 (by decide) ?_
                                      refine lv_iload_n hx hb dX8_field_281 rfl (lv_at hl 1 rfl) ?_
                                      refine n_imul hx hb dX8_field_282 ?_
                                      refine lv_iconst (v := (nI 3)) hx hb dX8_field_283 (by decide) ?_
                                      refine n_iadd hx hb dX8_field_284 ?_
                                      refine rn_14 X w.1 (by omega) dX8_field_285 ?_
                                      refine tp_i (show zv.2.1 14 ((4 * e9) + 3) = (nI (fd_v T n e9 3)) from (congrFun (hfv.2.1 14 (by decide)) _).trans ((r234 e9 (by omega) 3 (by omega)).trans (fk_nn (u158 e9 (by omega)) (by omega)))) ?_
                                      refine rc_v (rest := []) X hml hl.1 (k_fighterComes l g zv (fd_v T n e9 0) (fd_v T n e9 1) (fd_v T n e9 2) (fd_v T n e9 3) (fd_S S T n e9) hS (by rw [fd_n]; omega)) ok_fighterComes wm_X8_84 ⟨Nat.le_of_ble_eq_true rfl, Nat.le_of_ble_eq_true rfl⟩ ⟨Nat.le_refl _, Nat.le_refl _⟩ w rfl (Nat.le_of_ble_eq_true rfl) dX8_field_286 (fun z_286 H locs hr_286 w => ?_)
                                      skip
                                      refine lv_iinc (v := (nI (e9 + 1))) (lv' := [(2, .int (nI (e9 + 1))), (0, .ref g.2.2.2.1)]) hx hb dX8_field_289 hl (k := 1) rfl (by first | exact nI_1 _ | (rw [show Int32.ofInt 1 = nI 1 from by decide, nI_add])) (by decide) rfl (fun ls hl => ?_)
                                      refine lv_goto (tgt := 239) hx hb dX8_field_292 (by decide) ?_
                                      exact ih_239 (e9 + 1) (by omega) (by omega) ls z_286 _ _ w hr_286.1 (rFr_tr hfv hr_286.2) (lv_sub hl [1, 0] rfl)
                                exact lp_239 _ 0 (Nat.zero_le _) (Nat.lt_succ_self _) ls z_234 _ _ w S234 (rFr_rf _ _ _) (lv_sub hl [1, 0] rfl)
                              · skip
                                refine lv_aload_n hx hb dX8_field_194 rfl (lv_at hl 0 rfl) ?_
                                refine rg_2 X w.1 dX8_field_195 ?_
                                refine lv_iload_n hx hb dX8_field_198 rfl (lv_at hl 1 rfl) ?_
                                refine lv_aload_n hx hb dX8_field_199 rfl (lv_at hl 0 rfl) ?_
                                refine rg_13 X w.1 dX8_field_200 ?_
                                refine lv_iload_n hx hb dX8_field_203 rfl (lv_at hl 1 rfl) ?_
                                refine rn_13 X w.1 (by omega) dX8_field_204 ?_
                                refine tp_i (show zx.2.1 13 d9 = (nI (fd_so T n d9)) from (congrFun (hfx.2.1 13 (by decide)) _).trans (s181 d9 (by omega))) ?_
                                refine ru_2 X w (by omega) dX8_field_205 (fun z_205 H locs ez_205 w => ?_)
                                refine lv_iinc (v := (nI (d9 + 1))) (lv' := [(2, .int (nI (d9 + 1))), (0, .ref g.2.2.2.1)]) hx hb dX8_field_206 hl (k := 1) rfl (by first | exact nI_1 _ | (rw [show Int32.ofInt 1 = nI 1 from by decide, nI_add])) (by decide) rfl (fun ls hl => ?_)
                                refine lv_goto (tgt := 186) hx hb dX8_field_209 (by decide) ?_
                                exact ih_186 (d9 + 1) (by omega) (by omega) ls z_205 _ _ w (by rw [ez_205]; exact so_cp hcx) (by rw [ez_205]; exact h0x) (by rw [ez_205]; exact rFr_tr hfx (rFr_A _ (by decide))) (lv_sub hl [1, 0] rfl)
                          exact lp_186 _ 0 (Nat.zero_le _) (Nat.lt_succ_self _) ls z_181 _ _ w (fun q => by rw [b181, if_neg (by omega)]) h181 (rFr_rf _ _ _) (lv_sub hl [1, 0] rfl)
                        · skip
                          refine lv_bipush (v := (iZ (-20))) hx hb dX8_field_168 (by decide) ?_
                          refine lv_aload_n hx hb dX8_field_170 rfl (lv_at hl 0 rfl) ?_
                          refine rg_9 X w.1 dX8_field_171 ?_
                          refine tp_i (show z_158.1 9 = (nI pa9) from a158) ?_
                          refine tp_i (iZ_n pa9).symm ?_
                          refine z_isub hx hb dX8_field_174 ?_
                          exact re_i X hr hk w (⟨by unfold an_fld; rw [if_neg (by omega), ← eA], by unfold nx_fld; rw [if_neg (by omega)]; exact rSc_fr f158 (by decide) (by decide) (by decide) (by decide) (by decide) (by decide) hz, by first | (rw [ez_158]; done) | (rw [ez_158]; rfl), fun q => absurd q (by omega), fun _ => f158.1 16 (by decide), rFr_w f158 (by simp) (by simp)⟩) dX8_field_175
                      · skip
                        refine n_if_eq (tgt := 152) hx hb dX8_field_145 (by decide) (by omega) (fun c_145_34 => ?_) (fun c_145_34 => ?_)
                        · skip
                          refine lv_iconst (v := (nI 0)) hx hb dX8_field_152 (by decide) ?_
                          exact k_153 _ ⟨_, by simp only [if_pos c_145_34], rfl⟩
                        · skip
                          refine lv_iconst (v := (nI 1)) hx hb dX8_field_148 (by decide) ?_
                          refine lv_goto (tgt := 153) hx hb dX8_field_149 (by decide) ?_
                          exact k_153 _ ⟨_, by simp only [if_neg c_145_34], rfl⟩
                  · skip
                    have e1 : f9 = 1 := by omega
                    subst e1
                    obtain ⟨y1, y2, y3, y4, y5, y6⟩ := hI.2.2.2.2.2.2.1 rfl
                    have y7 := fk_w_le T n b8
                    have y8 := (fk_a_le T n b8).2.2.2.2
                    refine lv_aload_n hx hb dX8_field_103 rfl (lv_at hl 0 rfl) ?_
                    refine rc_v (rest := []) X hml hl.1 (k_readFighter l g zy T n tpy b8 hI.1 (by omega) (by rw [hI.2.1, y2]) k9 hI.2.2.1 y1 (by omega)) ok_readFighter wm_X8_168 ⟨Nat.le_of_ble_eq_true rfl, Nat.le_of_ble_eq_true rfl⟩ ⟨Nat.le_refl _, Nat.le_refl _⟩ w rfl (Nat.le_of_ble_eq_true rfl) dX8_field_104 (fun z_104 H locs hr_104 w => ?_)
                    have z104 := rFr_tr (rFr_w (is' := [9, 10, 11, 12]) (ks' := [13, 14]) i05 (fun _ q => q) (fun _ q => q)) (rFr_w hr_104.2.2.2.2.2 (by simp) (by simp))
                    refine lv_aload_n hx hb dX8_field_107 rfl (lv_at hl 0 rfl) ?_
                    refine rg_12 X w.1 dX8_field_108 ?_
                    refine tp_i (show z_104.1 12 = (nI (k9 + 1)) from hr_104.2.2.1) ?_
                    refine lv_iconst (v := (nI 5)) hx hb dX8_field_111 (by decide) ?_
                    refine n_icmp_ge (tgt := 128) hx hb dX8_field_112 (by decide) (by omega) (by omega) (fun c_112_35 => ?_) (fun c_112_35 => ?_)
                    · skip
                      refine lv_iconst (v := (nI 0)) hx hb dX8_field_128 (by decide) ?_
                      refine lv_istore_n (lv' := [(1, .int (nI 0)), (0, .ref g.2.2.2.1)]) hx hb dX8_field_129 rfl hl (by decide) rfl (fun ls hl => ?_)
                      refine lv_goto (tgt := 99) hx hb dX8_field_130 (by decide) ?_
                      exact ih_99 0 (k9 + 1) (fk_w T n b8) (fk_a T n b8) (by omega) ls z_104 _ _ w (fdI_5 t2 hI hr_104 (by omega)) (lv_sub hl [1, 0] rfl)
                    · skip
                      refine lv_aload_n hx hb dX8_field_115 rfl (lv_at hl 0 rfl) ?_
                      refine lv_bipush (v := (nI 44)) hx hb dX8_field_116 (by decide) ?_
                      refine rc_i (rest := []) X hml hl.1 (k_has l g z_104 44 T n (tp_fr z104 (by decide) (by decide) htp) (fk_a T n b8) hr_104.1 (by omega) (fk_w T n b8) hr_104.2.1 y7 (by omega)) ok_has wm_X8_159 ⟨Nat.le_of_ble_eq_true rfl, Nat.le_of_ble_eq_true rfl⟩ ⟨Nat.le_refl _, Nat.le_refl _⟩ w rfl (Nat.le_of_ble_eq_true rfl) dX8_field_118 (fun r_118 z_118 H locs hr_118 w => ?_)
                      have h9 := hr_118.1
                      subst h9
                      have q01 := hv01 T n 44 (fk_a T n b8) (fk_w T n b8)
                      refine jn (tgt := 129) (rest := []) (fun v9 => ∃ x9 : Nat, x9 = (if (tk_hv T n 44 (fk_a T n b8) (fk_w T n b8)) = 0 then 0 else 1) ∧ v9 = nI x9) (fun v_ hv_ => ?_) (fun k_129 => ?_)
                      · obtain ⟨x_129, ex_129, rfl⟩ := hv_
                        refine lv_istore_n (lv' := [(1, .int (nI x_129)), (0, .ref g.2.2.2.1)]) hx hb dX8_field_129 rfl hl (by decide) rfl (fun ls hl => ?_)
                        refine lv_goto (tgt := 99) hx hb dX8_field_130 (by decide) ?_
                        rw [show x_129 = tk_hv T n 44 (fk_a T n b8) (fk_w T n b8) from (by rw [ex_129]; have q9 := hv01 T n 44 (fk_a T n b8) (fk_w T n b8); split <;> omega)] at hl
                        exact ih_99 (tk_hv T n 44 (fk_a T n b8) (fk_w T n b8)) (k9 + 1) (fk_w T n b8) (tk_ha T n 44 (fk_a T n b8) (fk_w T n b8)) (by omega) ls z_118 _ _ w (fdI_s t2 hI hr_104 (by omega) hr_118.2.1 hr_118.2.2) (lv_sub hl [1, 0] rfl)
                      · skip
                        refine n_if_eq (tgt := 128) hx hb dX8_field_121 (by decide) (by omega) (fun c_121_37 => ?_) (fun c_121_37 => ?_)
                        · skip
                          refine lv_iconst (v := (nI 0)) hx hb dX8_field_128 (by decide) ?_
                          exact k_129 _ ⟨_, by simp only [if_pos c_121_37], rfl⟩
                        · skip
                          refine lv_iconst (v := (nI 1)) hx hb dX8_field_124 (by decide) ?_
                          refine lv_goto (tgt := 129) hx hb dX8_field_125 (by decide) ?_
                          exact k_129 _ ⟨_, by simp only [if_neg c_121_37], rfl⟩
              exact lp_99 _ (tk_hv T n 59 (tk_s T n (tk_c T n c9)) 0) 0 0 (tk_ha T n 59 (tk_s T n (tk_c T n c9)) 0) (Nat.lt_succ_self _) ls z_95 _ _ w I9 (lv_sub hl [1, 0] rfl)
            · skip
              refine lv_aload_n hx hb dX8_field_56 rfl (lv_at hl 0 rfl) ?_
              refine rg_13 X w.1 dX8_field_57 ?_
              refine lv_aload_n hx hb dX8_field_60 rfl (lv_at hl 0 rfl) ?_
              refine rg_11 X w.1 dX8_field_61 ?_
              refine tp_i (show z_50.1 11 = (nI c9) from (hr_50.2.1 11 (by decide)).trans hmz) ?_
              refine lv_aload_n hx hb dX8_field_64 rfl (lv_at hl 0 rfl) ?_
              refine rc_i (rest := [.int (nI c9), .ref (g.2.2.2.2 13)]) X hml hl.1 (k_sign l g z_50 T n (tp_fr (rFr_tr hfz (rFr_w hr_50.2 (by simp) (by simp))) (by decide) (by decide) htp) (tk_s T n (tk_c T n c9)) hr_50.1 (by omega)) ok_sign wm_X8_165 ⟨Nat.le_of_ble_eq_true rfl, Nat.le_of_ble_eq_true rfl⟩ ⟨Nat.le_refl _, Nat.le_refl _⟩ w rfl (Nat.le_of_ble_eq_true rfl) dX8_field_65 (fun r_65 z_65 H locs hr_65 w => ?_)
              obtain ⟨h9, hr_65⟩ := hr_65
              rw [tk_hid] at h9
              subst h9
              rw [tk_id] at hr_65
              refine ru_13 X w (by omega) dX8_field_68 (fun z_68 H locs ez_68 w => ?_)
              have m68 : z_68.1 11 = nI c9 := by rw [ez_68]; exact (hr_65.2.1 11 (by decide)).trans ((hr_50.2.1 11 (by decide)).trans hmz)
              refine lv_aload_n hx hb dX8_field_69 rfl (lv_at hl 0 rfl) ?_
              refine lv_dup hx hb dX8_field_70 rfl ?_
              refine rg_11 X w.1 dX8_field_71 ?_
              refine tp_i (show z_68.1 11 = (nI c9) from m68) ?_
              refine lv_iconst (v := (nI 1)) hx hb dX8_field_74 (by decide) ?_
              refine n_iadd hx hb dX8_field_75 ?_
              refine rp_11 X w dX8_field_76 (fun z_76 H locs ez_76 w => ?_)
              have a76 : z_76.1 9 = nI (tk_s T n (tk_c T n c9)) := by rw [ez_76, ez_68]; exact hr_65.1
              refine lv_aload_n hx hb dX8_field_79 rfl (lv_at hl 0 rfl) ?_
              refine lv_dup hx hb dX8_field_80 rfl ?_
              refine rg_9 X w.1 dX8_field_81 ?_
              refine tp_i (show z_76.1 9 = (nI (tk_s T n (tk_c T n c9))) from a76) ?_
              refine lv_iconst (v := (nI 1)) hx hb dX8_field_84 (by decide) ?_
              refine n_iadd hx hb dX8_field_85 ?_
              refine rp_9 X w dX8_field_86 (fun z_86 H locs ez_86 w => ?_)
              refine lv_goto (tgt := 33) hx hb dX8_field_89 (by decide) ?_
              exact ih_33 (c9 + 1) (by omega) (fun q => nf_y (by omega) (by omega) (he9 q)) (fun q => absurd (by omega) q) (by omega) ls z_86 _ _ w (by rw [ez_86]; rfl) (by rw [ez_86, ez_76, ez_68]; exact (hr_65.2.1 10 (by decide)).trans ((hr_50.2.1 10 (by decide)).trans hwz)) (by rw [ez_86, ez_76]; rfl) (by rw [ez_86, ez_76, ez_68]; exact (hr_65.2.1 12 (by decide)).trans ((hr_50.2.1 12 (by decide)).trans hkz)) (by rw [ez_86, ez_76, ez_68]; exact so_put (fun c hc => (congrFun (hr_65.2.2.1 13 (by decide)) c).trans ((congrFun (hr_50.2.2.1 13 (by decide)) c).trans (hsz c hc))) (by omega)) (by rw [ez_86, ez_76, ez_68]; exact rFr_tr (rFr_tr (rFr_tr (rFr_tr (rFr_tr hfz (rFr_w hr_50.2 (by simp) (by simp))) (rFr_w hr_65.2 (by simp) (by simp))) (rFr_A _ (by decide))) (rFr_I _ (by decide))) (rFr_I _ (by decide))) (lv_sub hl [0] rfl)
    exact lp_33 _ 0 (Nat.zero_le _) (fun _ => rfl) (fun _ => rfl) (Nat.lt_succ_self _) ls z_30 _ _ w a30 w30 m30 k30 (fun c hc => absurd hc (Nat.not_lt_zero _)) f30 (lv_sub hl [0] rfl)
  · skip
    refine n_icmp_eq (tgt := 19) hx hb dX8_field_12 (by decide) (by omega) (by omega) (fun c_12_38 => ?_) (fun c_12_38 => ?_)
    · skip
      refine lv_iconst (v := (nI 0)) hx hb dX8_field_19 (by decide) ?_
      exact k_20 _ ⟨_, by simp only [if_pos c_12_38], rfl⟩
    · skip
      refine lv_iconst (v := (nI 1)) hx hb dX8_field_15 (by decide) ?_
      refine lv_goto (tgt := 20) hx hb dX8_field_16 (by decide) ?_
      exact k_20 _ ⟨_, by simp only [if_neg c_12_38], rfl⟩
