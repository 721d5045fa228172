theorem ou_y {S : Sc} {k : Nat} (h : pc_dn S (k + 1) = 0) : sp_ou S (k + 1) = sp_ou S k + 1 := by
  show sp_ou S k + (if pc_dn S (k + 1) = 0 then 1 else 0) = _
  rw [if_pos h]
theorem ou_n {S : Sc} {k : Nat} (h : ¬ pc_dn S (k + 1) = 0) : sp_ou S (k + 1) = sp_ou S k := by
  show sp_ou S k + (if pc_dn S (k + 1) = 0 then 1 else 0) = _
  rw [if_neg h]
  rfl
theorem ou_add (S : Sc) (a : Nat) : ∀ d, sp_ou S a ≤ sp_ou S (a + d)
  | 0 => Nat.le_refl _
  | d + 1 => Nat.le_trans (ou_add S a d) (Nat.le_add_right _ _)
theorem ou_mono (S : Sc) {a b : Nat} (h : a ≤ b) : sp_ou S a ≤ sp_ou S b := by
  have e := ou_add S a (b - a)
  rw [show a + (b - a) = b by omega] at e
  exact e
theorem fr_y {S : Sc} {R9 : Nat → Int64} {ce k x : Nat} (h : pc_dn S (k + 1) = 0) (ex : x = if sp_fr S R9 ce k = 0 then 0 else (if lg_cmp (nI (sp_com S 0 (k + 1) ce)).toInt64 (R9 (sp_ou S k)) = 0 then 1 else 0)) : x = sp_fr S R9 ce (k + 1) := by
  have e : sp_fr S R9 ce (k + 1) = if sp_fr S R9 ce k = 0 then 0 else (if (nI (sp_com S 0 (k + 1) ce)).toInt64 = R9 (sp_ou S k) then 1 else 0) := if_pos h
  rw [e, ex]
  by_cases q : sp_fr S R9 ce k = 0
  · rw [if_pos q, if_pos q]
  · rw [if_neg q, if_neg q]
    by_cases q2 : (nI (sp_com S 0 (k + 1) ce)).toInt64 = R9 (sp_ou S k)
    · rw [if_pos q2, if_pos ((lg_cmp_eq _ _).mpr q2)]
    · rw [if_neg q2, if_neg (fun w => q2 ((lg_cmp_eq _ _).mp w))]
theorem fa_s {S : Sc} {R9 : Nat → Int64} {t : Nat} (h : (sp_fa S R9 t).2.2 = 0) {x : Int32} {y v : Nat} (ex : x = if sp_fr S R9 (sp_run S t) (S.1 1 - 1) = 0 then pc_ff (sp_fa S R9 t).2.1 else (if (sp_fa S R9 t).1 = 0 then nI t else pc_ff (sp_fa S R9 t).2.1)) (ey : y = if sp_fr S R9 (sp_run S t) (S.1 1 - 1) = 0 then 0 else 1) (ev : v = if t ≤ 0 then 0 else (if sp_ct S 0 t = 0 then 0 else 1)) : x = pc_ff (sp_fa S R9 (t + 1)).2.1 ∧ (sp_fa S R9 t).1 + y = (sp_fa S R9 (t + 1)).1 ∧ v = (sp_fa S R9 (t + 1)).2.2 := by
  have e : sp_fa S R9 (t + 1) = ((sp_fa S R9 t).1 + (if sp_fr S R9 (sp_run S t) (S.1 1 - 1) = 0 then 0 else 1), (if sp_fr S R9 (sp_run S t) (S.1 1 - 1) = 0 then (sp_fa S R9 t).2.1 else (if (sp_fa S R9 t).1 = 0 then t + 1 else (sp_fa S R9 t).2.1)), (if t = 0 then 0 else sp_ct S 0 t)) := if_pos h
  have h2 := sp_ct01 S 0 t
  rw [e]
  refine ⟨?_, ?_, ?_⟩
  · rw [ex]
    show _ = pc_ff (if _ then _ else _)
    split
    · rfl
    · split
      · rfl
      · rfl
  · rw [ey]
  · rw [ev]
    show _ = if _ then _ else _
    by_cases q : t = 0
    · rw [if_pos (by omega), if_pos q]
    · rw [if_neg (by omega), if_neg q]
      split <;> omega
theorem fa_e {S : Sc} {R9 : Nat → Int64} {t : Nat} (h : t ≤ 61) (q : t = 61 ∨ ¬ (sp_fa S R9 t).2.2 = 0) : sp_fa S R9 61 = sp_fa S R9 t := by
  rcases q with q | q
  · rw [q]
  · have e := fa_st S R9 t q (61 - t)
    rw [show t + (61 - t) = 61 by omega] at e
    exact e
theorem ok_far : rOk yX8_far cX8_far 15 (some .int) 4 := ⟨wc_X8_far, wi_X8_far, ws_X8_far, rfl, by decide, by decide, by decide +kernel⟩
set_option maxHeartbeats 4000000 in
set_option maxRecDepth 100000 in
theorem k_far (l : Launch) (g : RG) (z : RS) (xa9 : Int32) (xb9 : Int32) (xc9 : Int32) (xd9 : Int32) (S : Sc) (hz : rSc z S) (ho : oSc S) (htg : z.1 6 = nI 0) (L N9 : Nat → Nat) (I9 : Nat → Nat → Int64) (hsh : rSh z L N9 I9) : rMp g l yX8_far cX8_far 15 (some .int) 4 92 [.int xa9, .int xb9, .int xc9, .int xd9] z (fun r => r = an_far S L N9 I9 xa9 xb9 xc9 xd9) := by
  refine rMp_in (by decide) rfl (Nat.le_of_ble_eq_true rfl) ?_
  intro p e s m args below meth c ls X hml hr hk hl w
  have hx := X.1
  have hb := X.2.1
  have hts := X.2.2.1
  have hown := X.2.2.2.1
  have hl : lv_has ls 15 [(0, .ref g.2.2.2.1), (1, .int xa9), (2, .int xb9), (3, .int xc9), (4, .int xd9)] := hl
  obtain ⟨hz0, hz1, hz4, hm0, hm1, hm2, hso, hki, hsr, hpa, hhu, hco⟩ := id hz
  obtain ⟨o1, o2, o3, o4, o5, o6, oso, oki, osr, opa, ohu, oco⟩ := id ho
  refine lv_iload_n hx hb dX8_far_0 rfl (lv_at hl 1 rfl) ?_
  refine rc_s (rest := []) ⟨X.1, X.2.1, X.2.2.1, X.2.2.2.1⟩ hml hl.1 (k_isSheet l xa9) ok_isSheet wm_X8_264 ⟨Nat.le_of_ble_eq_true rfl, Nat.le_of_ble_eq_true rfl⟩ ⟨Nat.le_refl _, Nat.le_refl _⟩ rfl (Nat.le_of_ble_eq_true rfl) dX8_far_1 (fun r_1 hr_1 => ?_)
  subst hr_1
  have i_1 := pc_inI_ok xa9.toInt 0 3
  refine n_if_eq (tgt := 25) hx hb dX8_far_4 (by decide) (by omega) (fun c_4_1 => ?_) (fun c_4_1 => ?_)
  · skip
    refine lv_iconst (v := (iZ (-1))) hx hb dX8_far_25 (by decide) ?_
    exact re_p hx hb hr hk (by unfold an_far; rw [if_neg (by omega)]) dX8_far_26
  · skip
    refine lv_iload_n hx hb dX8_far_7 rfl (lv_at hl 2 rfl) ?_
    refine rc_s (rest := []) ⟨X.1, X.2.1, X.2.2.1, X.2.2.2.1⟩ hml hl.1 (k_isLane l xb9) ok_isLane wm_X8_267 ⟨Nat.le_of_ble_eq_true rfl, Nat.le_of_ble_eq_true rfl⟩ ⟨Nat.le_refl _, Nat.le_refl _⟩ rfl (Nat.le_of_ble_eq_true rfl) dX8_far_8 (fun r_8 hr_8 => ?_)
    subst hr_8
    have i_8 := pc_inI_ok xb9.toInt 0 3
    refine n_if_eq (tgt := 25) hx hb dX8_far_11 (by decide) (by omega) (fun c_11_2 => ?_) (fun c_11_2 => ?_)
    · skip
      refine lv_iconst (v := (iZ (-1))) hx hb dX8_far_25 (by decide) ?_
      exact re_p hx hb hr hk (by unfold an_far; rw [if_neg (by omega)]) dX8_far_26
    · skip
      refine lv_iload hx hb dX8_far_14 (lv_at hl 4 rfl) ?_
      refine lv_i2l (v := xd9.toInt64) hx hb dX8_far_16 rfl ?_
      refine lv_lconst (v := 0) hx hb dX8_far_17 (by decide) ?_
      refine lv_lconst (v := 1) hx hb dX8_far_18 (by decide) ?_
      refine rc_s (rest := []) ⟨X.1, X.2.1, X.2.2.1, X.2.2.2.1⟩ hml hl.1 (k_in l xd9.toInt64 0 1) ok_in wm_X8_69 ⟨Nat.le_of_ble_eq_true rfl, Nat.le_of_ble_eq_true rfl⟩ ⟨Nat.le_refl _, Nat.le_refl _⟩ rfl (Nat.le_of_ble_eq_true rfl) dX8_far_19 (fun r_19 hr_19 => ?_)
      have h9 : r_19 = nI (pc_inI xd9.toInt (0) (1)) := by rw [hr_19]; exact congrArg nI (pc_in_I (in_toI _) (by decide) (by decide))
      subst h9
      have i_19 := pc_inI_ok xd9.toInt (0) (1)
      refine n_if_ne (tgt := 27) hx hb dX8_far_22 (by decide) (by omega) (fun c_22_3 => ?_) (fun c_22_3 => ?_)
      · skip
        obtain ⟨ka9, hq_ka9, rfl⟩ := iv_n (x := xa9) (by omega)
        obtain ⟨kb9, hq_kb9, rfl⟩ := iv_n (x := xb9) (by omega)
        obtain ⟨kd9, hq_kd9, rfl⟩ := iv_n (x := xd9) (by omega)
        obtain ⟨_, _, q3, q4, q5⟩ := hsh ka9 (by omega)
        refine lv_iconst (v := (nI 0)) hx hb dX8_far_27 (by decide) ?_
        refine lv_istore (lv' := [(5, .int (nI 0)), (0, .ref g.2.2.2.1), (1, .int (nI ka9)), (2, .int (nI kb9)), (3, .int xc9), (4, .int (nI kd9))]) hx hb dX8_far_28 hl (by decide) rfl (fun ls hl => ?_)
        refine lv_iconst (v := (nI 1)) hx hb dX8_far_30 (by decide) ?_
        refine lv_istore (lv' := [(6, .int (nI 1)), (5, .int (nI 0)), (0, .ref g.2.2.2.1), (1, .int (nI ka9)), (2, .int (nI kb9)), (3, .int xc9), (4, .int (nI kd9))]) hx hb dX8_far_31 hl (by decide) rfl (fun ls hl => ?_)
        have lp_33 : ∀ (n_33 : Nat) (i9a : Nat) (hi9a : i9a ≤ S.1 1 - 1) (hm_33 : S.1 1 - i9a < n_33) (ls : Array Slot), lv_has ls 15 [(0, .ref g.2.2.2.1), (1, .int (nI ka9)), (2, .int (nI kb9)), (3, .int xc9), (4, .int (nI kd9)), (5, .int (nI (sp_ou S i9a))), (6, .int (nI (i9a + 1)))] → W p l e (ro_m 4 92) s m args below meth c s.heap [] 0 0 (MQ below (vp_Si (fun r => r = an_far S L N9 I9 (nI ka9) (nI kb9) xc9 (nI kd9))) args s 0 0 (fun _ => False)) (F0 m 33 ls []) := by
          intro n_33
          induction n_33 with
          | zero => intro i9a hi9a hm; exact absurd hm (Nat.not_lt_zero _)
          | succ n_33 ih_33 =>
            intro i9a hi9a hm_33 ls hl
            have ou9 := ou_le S i9a
            have dn9 := pc_dn01 S (i9a + 1)
            refine lv_iload hx hb dX8_far_33 (lv_at hl 6 rfl) ?_
            refine lv_aload_n hx hb dX8_far_35 rfl (lv_at hl 0 rfl) ?_
            refine rg_1 X w dX8_far_36 ?_
            refine tp_i (show z.1 1 = (nI (S.1 1)) from hz1) ?_
            refine n_icmp_ge (tgt := 67) hx hb dX8_far_39 (by decide) (by omega) (by omega) (fun c_39_4 => ?_) (fun c_39_4 => ?_)
            · skip
              have e6 : i9a = S.1 1 - 1 := (by omega)
              subst e6
              refine lv_aload_n hx hb dX8_far_67 rfl (lv_at hl 0 rfl) ?_
              refine lv_iload_n hx hb dX8_far_68 rfl (lv_at hl 1 rfl) ?_
              refine lv_iload_n hx hb dX8_far_69 rfl (lv_at hl 2 rfl) ?_
              refine lv_iload_n hx hb dX8_far_70 rfl (lv_at hl 3 rfl) ?_
              refine lv_iload hx hb dX8_far_71 (lv_at hl 5 rfl) ?_
              refine rc_p (rest := []) X hml hl.1 (k_why l g z ka9 kb9 xc9 (sp_ou S (S.1 1 - 1)) L N9 I9 hsh (by omega) (by omega) (by omega)) ok_why wm_X8_272 ⟨Nat.le_of_ble_eq_true rfl, Nat.le_of_ble_eq_true rfl⟩ ⟨Nat.le_refl _, Nat.le_refl _⟩ w rfl (Nat.le_of_ble_eq_true rfl) dX8_far_73 (fun r_73 hr_73 => ?_)
              subst hr_73
              have y_73 := pw_why_ok L N9 ka9 kb9 xc9.toInt (sp_ou S (S.1 1 - 1))
              refine lv_istore (lv' := [(6, .int (iZ (pw_why L N9 ka9 kb9 xc9.toInt (sp_ou S (S.1 1 - 1))))), (0, .ref g.2.2.2.1), (1, .int (nI ka9)), (2, .int (nI kb9)), (3, .int xc9), (4, .int (nI kd9)), (5, .int (nI (sp_ou S (S.1 1 - 1))))]) hx hb dX8_far_76 hl (by decide) rfl (fun ls hl => ?_)
              refine lv_iload hx hb dX8_far_78 (lv_at hl 0 rfl) ?_
              refine z_if_ge (tgt := 86) hx hb dX8_far_80 (by decide) (by omega) (by omega) (fun c_80_5 => ?_) (fun c_80_5 => ?_)
              · skip
                obtain ⟨kc9, hq_kc9, rfl⟩ := iv_n (x := xc9) (by omega)
                refine lv_iconst (v := (nI 0)) hx hb dX8_far_86 (by decide) ?_
                refine lv_istore (lv' := [(7, .int (nI 0)), (6, .int (iZ (pw_why L N9 ka9 kb9 (nI kc9).toInt (sp_ou S (S.1 1 - 1))))), (0, .ref g.2.2.2.1), (1, .int (nI ka9)), (2, .int (nI kb9)), (3, .int (nI kc9)), (4, .int (nI kd9)), (5, .int (nI (sp_ou S (S.1 1 - 1))))]) hx hb dX8_far_87 hl (by decide) rfl (fun ls hl => ?_)
                refine lv_bipush (v := (iZ (-4))) hx hb dX8_far_89 (by decide) ?_
                refine lv_istore (lv' := [(8, .int (iZ (-4))), (7, .int (nI 0)), (6, .int (iZ (pw_why L N9 ka9 kb9 (nI kc9).toInt (sp_ou S (S.1 1 - 1))))), (0, .ref g.2.2.2.1), (1, .int (nI ka9)), (2, .int (nI kb9)), (3, .int (nI kc9)), (4, .int (nI kd9)), (5, .int (nI (sp_ou S (S.1 1 - 1))))]) hx hb dX8_far_91 hl (by decide) rfl (fun ls hl => ?_)
                refine lv_aload_n hx hb dX8_far_93 rfl (lv_at hl 3 rfl) ?_
                refine rg_1 X w dX8_far_94 ?_
                refine tp_i (show z.1 1 = (nI (S.1 1)) from hz1) ?_
                refine jn (tgt := 105) (rest := []) (fun v9 => ∃ x9 : Nat, x9 = (if (S.1 1) = 0 then 1 else 0) ∧ v9 = nI x9) (fun v_ hv_ => ?_) (fun k_105 => ?_)
                · obtain ⟨x_105, ex_105, rfl⟩ := hv_
                  refine lv_istore (lv' := [(9, .int (nI x_105)), (8, .int (iZ (-4))), (7, .int (nI 0)), (6, .int (iZ (pw_why L N9 ka9 kb9 (nI kc9).toInt (sp_ou S (S.1 1 - 1))))), (0, .ref g.2.2.2.1), (1, .int (nI ka9)), (2, .int (nI kb9)), (3, .int (nI kc9)), (4, .int (nI kd9)), (5, .int (nI (sp_ou S (S.1 1 - 1))))]) hx hb dX8_far_105 hl (by decide) rfl (fun ls hl => ?_)
                  refine lv_iconst (v := (nI 0)) hx hb dX8_far_107 (by decide) ?_
                  refine lv_istore (lv' := [(10, .int (nI 0)), (9, .int (nI x_105)), (8, .int (iZ (-4))), (7, .int (nI 0)), (6, .int (iZ (pw_why L N9 ka9 kb9 (nI kc9).toInt (sp_ou S (S.1 1 - 1))))), (0, .ref g.2.2.2.1), (1, .int (nI ka9)), (2, .int (nI kb9)), (3, .int (nI kc9)), (4, .int (nI kd9)), (5, .int (nI (sp_ou S (S.1 1 - 1))))]) hx hb dX8_far_108 hl (by decide) rfl (fun ls hl => ?_)
                  have lp_110 : ∀ (n_110 : Nat) (t9a : Nat) (ht9a : t9a ≤ 61) (hm_110 : 61 - t9a < n_110) (ls : Array Slot), lv_has ls 15 [(0, .ref g.2.2.2.1), (1, .int (nI ka9)), (2, .int (nI kb9)), (3, .int (nI kc9)), (4, .int (nI kd9)), (7, .int (nI ((sp_fa S (fun q => I9 ka9 (kc9 + q)) t9a).1))), (8, .int (pc_ff (sp_fa S (fun q => I9 ka9 (kc9 + q)) t9a).2.1)), (9, .int (nI ((sp_fa S (fun q => I9 ka9 (kc9 + q)) t9a).2.2))), (10, .int (nI t9a))] → W p l e (ro_m 4 92) s m args below meth c s.heap [] 0 0 (MQ below (vp_Si (fun r => r = an_far S L N9 I9 (nI ka9) (nI kb9) (nI kc9) (nI kd9))) args s 0 0 (fun _ => False)) (F0 m 110 ls []) := by
                    intro n_110
                    induction n_110 with
                    | zero => intro t9a ht9a hm; exact absurd hm (Nat.not_lt_zero _)
                    | succ n_110 ih_110 =>
                      intro t9a ht9a hm_110 ls hl
                      have fa9 := fa_le S (fun q => I9 ka9 (kc9 + q)) t9a
                      have ct9 := sp_ct01 S 0 t9a
                      refine lv_iload hx hb dX8_far_110 (lv_at hl 8 rfl) ?_
                      refine lv_bipush (v := (nI 61)) hx hb dX8_far_112 (by decide) ?_
                      refine n_icmp_ge (tgt := 264) hx hb dX8_far_114 (by decide) (by omega) (by omega) (fun c_114_7 => ?_) (fun c_114_7 => ?_)
                      · skip
                        refine lv_iload hx hb dX8_far_264 (lv_at hl 4 rfl) ?_
                        refine jn (tgt := 276) (rest := []) (fun v9 => v9 = (if kd9 = 0 then ((nI ((sp_fa S (fun q => I9 ka9 (kc9 + q)) t9a).1))) else ((pc_ff (sp_fa S (fun q => I9 ka9 (kc9 + q)) t9a).2.1)))) (fun x_276 ex_276 => ?_) (fun k_276 => ?_)
                        · skip
                          exact re_p hx hb hr hk (by unfold an_far; rw [if_pos (by omega), show (nI ka9).toInt.toNat = ka9 by omega, show (nI kb9).toInt.toNat = kb9 by omega, show (nI kc9).toInt.toNat = kc9 by omega, if_neg (by omega), show sp_fa S (fun q => I9 ka9 (kc9 + q)) 61 = sp_fa S (fun q => I9 ka9 (kc9 + q)) t9a from fa_e (by omega) (by omega), ex_276]; by_cases q9 : kd9 = 0; rw [if_pos q9, if_pos (by omega)]; rw [if_neg q9, if_neg (by omega)]) dX8_far_276
                        · skip
                          refine n_if_ne (tgt := 274) hx hb dX8_far_266 (by decide) (by omega) (fun c_266_9 => ?_) (fun c_266_9 => ?_)
                          · skip
                            refine lv_iload hx hb dX8_far_274 (lv_at hl 6 rfl) ?_
                            exact k_276 _ (by simp only [if_neg c_266_9])
                          · skip
                            refine lv_iload hx hb dX8_far_269 (lv_at hl 5 rfl) ?_
                            refine lv_goto (tgt := 276) hx hb dX8_far_271 (by decide) ?_
                            exact k_276 _ (by simp only [if_pos c_266_9])
                      · skip
                        refine lv_iload hx hb dX8_far_117 (lv_at hl 7 rfl) ?_
                        refine n_if_ne (tgt := 264) hx hb dX8_far_119 (by decide) (by omega) (fun c_119_10 => ?_) (fun c_119_10 => ?_)
                        · skip
                          refine lv_iload hx hb dX8_far_264 (lv_at hl 4 rfl) ?_
                          refine jn (tgt := 276) (rest := []) (fun v9 => v9 = (if kd9 = 0 then ((nI ((sp_fa S (fun q => I9 ka9 (kc9 + q)) t9a).1))) else ((pc_ff (sp_fa S (fun q => I9 ka9 (kc9 + q)) t9a).2.1)))) (fun x_276 ex_276 => ?_) (fun k_276 => ?_)
                          · skip
                            exact re_p hx hb hr hk (by unfold an_far; rw [if_pos (by omega), show (nI ka9).toInt.toNat = ka9 by omega, show (nI kb9).toInt.toNat = kb9 by omega, show (nI kc9).toInt.toNat = kc9 by omega, if_neg (by omega), show sp_fa S (fun q => I9 ka9 (kc9 + q)) 61 = sp_fa S (fun q => I9 ka9 (kc9 + q)) t9a from fa_e (by omega) (by omega), ex_276]; by_cases q9 : kd9 = 0; rw [if_pos q9, if_pos (by omega)]; rw [if_neg q9, if_neg (by omega)]) dX8_far_276
                          · skip
                            refine n_if_ne (tgt := 274) hx hb dX8_far_266 (by decide) (by omega) (fun c_266_12 => ?_) (fun c_266_12 => ?_)
                            · skip
                              refine lv_iload hx hb dX8_far_274 (lv_at hl 6 rfl) ?_
                              exact k_276 _ (by simp only [if_neg c_266_12])
                            · skip
                              refine lv_iload hx hb dX8_far_269 (lv_at hl 5 rfl) ?_
                              refine lv_goto (tgt := 276) hx hb dX8_far_271 (by decide) ?_
                              exact k_276 _ (by simp only [if_pos c_266_12])
                        · skip
                          refine lv_aload_n hx hb dX8_far_122 rfl (lv_at hl 0 rfl) ?_
                          refine lv_iload hx hb dX8_far_123 (lv_at hl 8 rfl) ?_
                          refine rc_p (rest := []) X hml hl.1 (k_runs l g z t9a S hz ho (by omega)) ok_runs wm_X8_120 ⟨Nat.le_of_ble_eq_true rfl, Nat.le_of_ble_eq_true rfl⟩ ⟨Nat.le_refl _, Nat.le_refl _⟩ w rfl (Nat.le_of_ble_eq_true rfl) dX8_far_125 (fun r_125 hr_125 => ?_)
                          subst hr_125
                          have rn9 := sp_run_lt S ho t9a
                          refine lv_istore (lv' := [(11, .int (nI (sp_run S t9a))), (0, .ref g.2.2.2.1), (1, .int (nI ka9)), (2, .int (nI kb9)), (3, .int (nI kc9)), (4, .int (nI kd9)), (7, .int (nI ((sp_fa S (fun q => I9 ka9 (kc9 + q)) t9a).1))), (8, .int (pc_ff (sp_fa S (fun q => I9 ka9 (kc9 + q)) t9a).2.1)), (9, .int (nI ((sp_fa S (fun q => I9 ka9 (kc9 + q)) t9a).2.2))), (10, .int (nI t9a))]) hx hb dX8_far_128 hl (by decide) rfl (fun ls hl => ?_)
                          refine lv_iconst (v := (nI 1)) hx hb dX8_far_130 (by decide) ?_
                          refine lv_istore (lv' := [(12, .int (nI 1)), (11, .int (nI (sp_run S t9a))), (0, .ref g.2.2.2.1), (1, .int (nI ka9)), (2, .int (nI kb9)), (3, .int (nI kc9)), (4, .int (nI kd9)), (7, .int (nI ((sp_fa S (fun q => I9 ka9 (kc9 + q)) t9a).1))), (8, .int (pc_ff (sp_fa S (fun q => I9 ka9 (kc9 + q)) t9a).2.1)), (9, .int (nI ((sp_fa S (fun q => I9 ka9 (kc9 + q)) t9a).2.2))), (10, .int (nI t9a))]) hx hb dX8_far_131 hl (by decide) rfl (fun ls hl => ?_)
                          refine lv_bipush (v := (nI 24)) hx hb dX8_far_133 (by decide) ?_
                          refine lv_iload_n hx hb dX8_far_135 rfl (lv_at hl 3 rfl) ?_
                          refine n_imul hx hb dX8_far_136 ?_
                          refine lv_iload_n hx hb dX8_far_137 rfl (lv_at hl 5 rfl) ?_
                          refine n_iadd hx hb dX8_far_138 ?_
                          refine lv_istore (lv' := [(13, .int (nI ((24 * ka9) + kc9))), (12, .int (nI 1)), (11, .int (nI (sp_run S t9a))), (0, .ref g.2.2.2.1), (1, .int (nI ka9)), (2, .int (nI kb9)), (3, .int (nI kc9)), (4, .int (nI kd9)), (7, .int (nI ((sp_fa S (fun q => I9 ka9 (kc9 + q)) t9a).1))), (8, .int (pc_ff (sp_fa S (fun q => I9 ka9 (kc9 + q)) t9a).2.1)), (9, .int (nI ((sp_fa S (fun q => I9 ka9 (kc9 + q)) t9a).2.2))), (10, .int (nI t9a))]) hx hb dX8_far_139 hl (by decide) rfl (fun ls hl => ?_)
                          refine lv_iconst (v := (nI 1)) hx hb dX8_far_141 (by decide) ?_
                          refine lv_istore (lv' := [(14, .int (nI 1)), (13, .int (nI ((24 * ka9) + kc9))), (12, .int (nI 1)), (11, .int (nI (sp_run S t9a))), (0, .ref g.2.2.2.1), (1, .int (nI ka9)), (2, .int (nI kb9)), (3, .int (nI kc9)), (4, .int (nI kd9)), (7, .int (nI ((sp_fa S (fun q => I9 ka9 (kc9 + q)) t9a).1))), (8, .int (pc_ff (sp_fa S (fun q => I9 ka9 (kc9 + q)) t9a).2.1)), (9, .int (nI ((sp_fa S (fun q => I9 ka9 (kc9 + q)) t9a).2.2))), (10, .int (nI t9a))]) hx hb dX8_far_142 hl (by decide) rfl (fun ls hl => ?_)
                          have lp_144 : ∀ (n_144 : Nat) (i9b : Nat) (hi9b : i9b ≤ S.1 1 - 1) (hm_144 : S.1 1 - i9b < n_144) (ls : Array Slot), lv_has ls 15 [(0, .ref g.2.2.2.1), (1, .int (nI ka9)), (2, .int (nI kb9)), (3, .int (nI kc9)), (4, .int (nI kd9)), (7, .int (nI ((sp_fa S (fun q => I9 ka9 (kc9 + q)) t9a).1))), (8, .int (pc_ff (sp_fa S (fun q => I9 ka9 (kc9 + q)) t9a).2.1)), (9, .int (nI ((sp_fa S (fun q => I9 ka9 (kc9 + q)) t9a).2.2))), (10, .int (nI t9a)), (11, .int (nI (sp_run S t9a))), (12, .int (nI (sp_fr S (fun q => I9 ka9 (kc9 + q)) (sp_run S t9a) i9b))), (13, .int (nI (24 * ka9 + kc9 + sp_ou S i9b))), (14, .int (nI (i9b + 1)))] → W p l e (ro_m 4 92) s m args below meth c s.heap [] 0 0 (MQ below (vp_Si (fun r => r = an_far S L N9 I9 (nI ka9) (nI kb9) (nI kc9) (nI kd9))) args s 0 0 (fun _ => False)) (F0 m 144 ls []) := by
                            intro n_144
                            induction n_144 with
                            | zero => intro i9b hi9b hm; exact absurd hm (Nat.not_lt_zero _)
                            | succ n_144 ih_144 =>
                              intro i9b hi9b hm_144 ls hl
                              have ob9 := ou_le S i9b
                              have dm9 := pc_dn01 S (i9b + 1)
                              have fb9 := fr_le S (fun q => I9 ka9 (kc9 + q)) (sp_run S t9a) i9b
                              refine lv_iload hx hb dX8_far_144 (lv_at hl 12 rfl) ?_
                              refine lv_aload_n hx hb dX8_far_146 rfl (lv_at hl 0 rfl) ?_
                              refine rg_1 X w dX8_far_147 ?_
                              refine tp_i (show z.1 1 = (nI (S.1 1)) from hz1) ?_
                              refine n_icmp_ge (tgt := 203) hx hb dX8_far_150 (by decide) (by omega) (by omega) (fun c_150_13 => ?_) (fun c_150_13 => ?_)
                              · skip
                                refine lv_iload hx hb dX8_far_203 (lv_at hl 10 rfl) ?_
                                refine jn (tgt := 220) (rest := []) (fun v9 => v9 = (if (sp_fr S (fun q => I9 ka9 (kc9 + q)) (sp_run S t9a) i9b) = 0 then ((pc_ff (sp_fa S (fun q => I9 ka9 (kc9 + q)) t9a).2.1)) else (if ((sp_fa S (fun q => I9 ka9 (kc9 + q)) t9a).1) = 0 then ((nI t9a)) else ((pc_ff (sp_fa S (fun q => I9 ka9 (kc9 + q)) t9a).2.1))))) (fun x_220 ex_220 => ?_) (fun k_220 => ?_)
                                · skip
                                  refine lv_istore (lv' := [(8, .int x_220), (0, .ref g.2.2.2.1), (1, .int (nI ka9)), (2, .int (nI kb9)), (3, .int (nI kc9)), (4, .int (nI kd9)), (7, .int (nI ((sp_fa S (fun q => I9 ka9 (kc9 + q)) t9a).1))), (9, .int (nI ((sp_fa S (fun q => I9 ka9 (kc9 + q)) t9a).2.2))), (10, .int (nI t9a)), (11, .int (nI (sp_run S t9a))), (12, .int (nI (sp_fr S (fun q => I9 ka9 (kc9 + q)) (sp_run S t9a) i9b))), (13, .int (nI (24 * ka9 + kc9 + sp_ou S i9b))), (14, .int (nI (i9b + 1)))]) hx hb dX8_far_220 hl (by decide) rfl (fun ls hl => ?_)
                                  refine lv_iload hx hb dX8_far_222 (lv_at hl 6 rfl) ?_
                                  refine lv_iload hx hb dX8_far_224 (lv_at hl 10 rfl) ?_
                                  refine jn (tgt := 234) (rest := [.int (nI ((sp_fa S (fun q => I9 ka9 (kc9 + q)) t9a).1))]) (fun v9 => ∃ x9 : Nat, x9 = (if (sp_fr S (fun q => I9 ka9 (kc9 + q)) (sp_run S t9a) i9b) = 0 then 0 else 1) ∧ v9 = nI x9) (fun v_ hv_ => ?_) (fun k_234 => ?_)
                                  · obtain ⟨x_234, ex_234, rfl⟩ := hv_
                                    refine n_iadd hx hb dX8_far_234 ?_
                                    refine lv_istore (lv' := [(7, .int (nI (((sp_fa S (fun q => I9 ka9 (kc9 + q)) t9a).1) + x_234))), (8, .int x_220), (0, .ref g.2.2.2.1), (1, .int (nI ka9)), (2, .int (nI kb9)), (3, .int (nI kc9)), (4, .int (nI kd9)), (9, .int (nI ((sp_fa S (fun q => I9 ka9 (kc9 + q)) t9a).2.2))), (10, .int (nI t9a)), (11, .int (nI (sp_run S t9a))), (12, .int (nI (sp_fr S (fun q => I9 ka9 (kc9 + q)) (sp_run S t9a) i9b))), (13, .int (nI (24 * ka9 + kc9 + sp_ou S i9b))), (14, .int (nI (i9b + 1)))]) hx hb dX8_far_235 hl (by decide) rfl (fun ls hl => ?_)
                                    refine lv_iload hx hb dX8_far_237 (lv_at hl 8 rfl) ?_
                                    refine jn (tgt := 256) (rest := []) (fun v9 => ∃ x9 : Nat, x9 = (if t9a ≤ 0 then 0 else (if (sp_ct S 0 t9a) = 0 then 0 else 1)) ∧ v9 = nI x9) (fun v_ hv_ => ?_) (fun k_256 => ?_)
                                    · obtain ⟨x_256, ex_256, rfl⟩ := hv_
                                      refine lv_istore (lv' := [(9, .int (nI x_256)), (7, .int (nI (((sp_fa S (fun q => I9 ka9 (kc9 + q)) t9a).1) + x_234))), (8, .int x_220), (0, .ref g.2.2.2.1), (1, .int (nI ka9)), (2, .int (nI kb9)), (3, .int (nI kc9)), (4, .int (nI kd9)), (10, .int (nI t9a)), (11, .int (nI (sp_run S t9a))), (12, .int (nI (sp_fr S (fun q => I9 ka9 (kc9 + q)) (sp_run S t9a) i9b))), (13, .int (nI (24 * ka9 + kc9 + sp_ou S i9b))), (14, .int (nI (i9b + 1)))]) hx hb dX8_far_256 hl (by decide) rfl (fun ls hl => ?_)
                                      refine lv_iinc (v := (nI (t9a + 1))) (lv' := [(10, .int (nI (t9a + 1))), (9, .int (nI x_256)), (7, .int (nI (((sp_fa S (fun q => I9 ka9 (kc9 + q)) t9a).1) + x_234))), (8, .int x_220), (0, .ref g.2.2.2.1), (1, .int (nI ka9)), (2, .int (nI kb9)), (3, .int (nI kc9)), (4, .int (nI kd9)), (11, .int (nI (sp_run S t9a))), (12, .int (nI (sp_fr S (fun q => I9 ka9 (kc9 + q)) (sp_run S t9a) i9b))), (13, .int (nI (24 * ka9 + kc9 + sp_ou S i9b))), (14, .int (nI (i9b + 1)))]) hx hb dX8_far_258 hl (k := 8) rfl (by first | exact nI_1 _ | (rw [show Int32.ofInt 1 = nI 1 from by decide, nI_add])) (by decide) rfl (fun ls hl => ?_)
                                      refine lv_goto (tgt := 110) hx hb dX8_far_261 (by decide) ?_
                                      have e7 : i9b = S.1 1 - 1 := (by omega)
                                      rw [e7] at ex_220 ex_234
                                      obtain ⟨u1, u2, u3⟩ := fa_s (S := S) (R9 := (fun q => I9 ka9 (kc9 + q))) (t := t9a) (by assumption) ex_220 ex_234 ex_256
                                      rw [u1, u2, u3] at hl
                                      exact ih_110 (t9a + 1) (by omega) (by omega) ls (lv_sub hl [4, 5, 6, 7, 8, 2, 3, 1, 0] rfl)
                                    · skip
                                      refine n_if_le (tgt := 255) hx hb dX8_far_239 (by decide) (by omega) (fun c_239_17 => ?_) (fun c_239_17 => ?_)
                                      · skip
                                        refine lv_iconst (v := (nI 0)) hx hb dX8_far_255 (by decide) ?_
                                        exact k_256 _ ⟨_, by simp only [if_pos c_239_17], rfl⟩
                                      · skip
                                        refine lv_aload_n hx hb dX8_far_242 rfl (lv_at hl 2 rfl) ?_
                                        refine lv_iload hx hb dX8_far_243 (lv_at hl 8 rfl) ?_
                                        refine rc_p (rest := []) X hml hl.1 (k_isCaught l g z t9a S hz ho 0 htg (by omega) (by omega)) ok_isCaught wm_X8_195 ⟨Nat.le_of_ble_eq_true rfl, Nat.le_of_ble_eq_true rfl⟩ ⟨Nat.le_refl _, Nat.le_refl _⟩ w rfl (Nat.le_of_ble_eq_true rfl) dX8_far_245 (fun r_245 hr_245 => ?_)
                                        subst hr_245
                                        refine n_if_eq (tgt := 255) hx hb dX8_far_248 (by decide) (by omega) (fun c_248_18 => ?_) (fun c_248_18 => ?_)
                                        · skip
                                          refine lv_iconst (v := (nI 0)) hx hb dX8_far_255 (by decide) ?_
                                          exact k_256 _ ⟨_, by simp only [if_neg c_239_17, if_pos c_248_18], rfl⟩
                                        · skip
                                          refine lv_iconst (v := (nI 1)) hx hb dX8_far_251 (by decide) ?_
                                          refine lv_goto (tgt := 256) hx hb dX8_far_252 (by decide) ?_
                                          exact k_256 _ ⟨_, by simp only [if_neg c_239_17, if_neg c_248_18], rfl⟩
                                  · skip
                                    refine n_if_eq (tgt := 233) hx hb dX8_far_226 (by decide) (by omega) (fun c_226_19 => ?_) (fun c_226_19 => ?_)
                                    · skip
                                      refine lv_iconst (v := (nI 0)) hx hb dX8_far_233 (by decide) ?_
                                      exact k_234 _ ⟨_, by simp only [if_pos c_226_19], rfl⟩
                                    · skip
                                      refine lv_iconst (v := (nI 1)) hx hb dX8_far_229 (by decide) ?_
                                      refine lv_goto (tgt := 234) hx hb dX8_far_230 (by decide) ?_
                                      exact k_234 _ ⟨_, by simp only [if_neg c_226_19], rfl⟩
                                · skip
                                  refine n_if_eq (tgt := 218) hx hb dX8_far_205 (by decide) (by omega) (fun c_205_20 => ?_) (fun c_205_20 => ?_)
                                  · skip
                                    refine lv_iload hx hb dX8_far_218 (lv_at hl 6 rfl) ?_
                                    exact k_220 _ (by simp only [if_pos c_205_20])
                                  · skip
                                    refine lv_iload hx hb dX8_far_208 (lv_at hl 5 rfl) ?_
                                    refine n_if_ne (tgt := 218) hx hb dX8_far_210 (by decide) (by omega) (fun c_210_21 => ?_) (fun c_210_21 => ?_)
                                    · skip
                                      refine lv_iload hx hb dX8_far_218 (lv_at hl 6 rfl) ?_
                                      exact k_220 _ (by simp only [if_neg c_205_20, if_neg c_210_21])
                                    · skip
                                      refine lv_iload hx hb dX8_far_213 (lv_at hl 8 rfl) ?_
                                      refine lv_goto (tgt := 220) hx hb dX8_far_215 (by decide) ?_
                                      exact k_220 _ (by simp only [if_neg c_205_20, if_pos c_210_21])
                              · skip
                                refine lv_aload_n hx hb dX8_far_153 rfl (lv_at hl 0 rfl) ?_
                                refine lv_iload hx hb dX8_far_154 (lv_at hl 12 rfl) ?_
                                refine rc_p (rest := []) X hml hl.1 (k_downS l g z (i9b + 1) S hz ho (by omega)) ok_isDown wm_X8_103 ⟨Nat.le_of_ble_eq_true rfl, Nat.le_of_ble_eq_true rfl⟩ ⟨Nat.le_refl _, Nat.le_refl _⟩ w rfl (Nat.le_of_ble_eq_true rfl) dX8_far_156 (fun r_156 hr_156 => ?_)
                                subst hr_156
                                refine n_if_ne (tgt := 197) hx hb dX8_far_159 (by decide) (by omega) (fun c_159_22 => ?_) (fun c_159_22 => ?_)
                                · skip
                                  refine lv_iinc (v := (nI (i9b + 1 + 1))) (lv' := [(14, .int (nI (i9b + 1 + 1))), (0, .ref g.2.2.2.1), (1, .int (nI ka9)), (2, .int (nI kb9)), (3, .int (nI kc9)), (4, .int (nI kd9)), (7, .int (nI ((sp_fa S (fun q => I9 ka9 (kc9 + q)) t9a).1))), (8, .int (pc_ff (sp_fa S (fun q => I9 ka9 (kc9 + q)) t9a).2.1)), (9, .int (nI ((sp_fa S (fun q => I9 ka9 (kc9 + q)) t9a).2.2))), (10, .int (nI t9a)), (11, .int (nI (sp_run S t9a))), (12, .int (nI (sp_fr S (fun q => I9 ka9 (kc9 + q)) (sp_run S t9a) i9b))), (13, .int (nI (24 * ka9 + kc9 + sp_ou S i9b)))]) hx hb dX8_far_197 hl (k := 12) rfl (by first | exact nI_1 _ | (rw [show Int32.ofInt 1 = nI 1 from by decide, nI_add])) (by decide) rfl (fun ls hl => ?_)
                                  refine lv_goto (tgt := 144) hx hb dX8_far_200 (by decide) ?_
                                  rw [show sp_fr S (fun q => I9 ka9 (kc9 + q)) (sp_run S t9a) i9b = sp_fr S (fun q => I9 ka9 (kc9 + q)) (sp_run S t9a) (i9b + 1) from (if_neg (by assumption)).symm, show sp_ou S i9b = sp_ou S (i9b + 1) from (ou_n (by assumption)).symm] at hl
                                  exact ih_144 (i9b + 1) (by omega) (by omega) ls (lv_sub hl [1, 2, 3, 4, 5, 6, 7, 8, 9, 10, 11, 12, 0] rfl)
                                · skip
                                  have oe9 : sp_ou S (i9b + 1) = sp_ou S i9b + 1 := ou_y (by assumption)
                                  have om9 := ou_mono S (show i9b + 1 ≤ S.1 1 - 1 by omega)
                                  refine lv_iload hx hb dX8_far_162 (lv_at hl 10 rfl) ?_
                                  refine jn (tgt := 192) (rest := []) (fun v9 => ∃ x9 : Nat, x9 = (if (sp_fr S (fun q => I9 ka9 (kc9 + q)) (sp_run S t9a) i9b) = 0 then 0 else (if ((lg_cmp ((nI (sp_com S 0 (i9b + 1) (sp_run S t9a))).toInt64) (I9 ka9 (kc9 + sp_ou S i9b)))) = 0 then 1 else 0)) ∧ v9 = nI x9) (fun v_ hv_ => ?_) (fun k_192 => ?_)
                                  · obtain ⟨x_192, ex_192, rfl⟩ := hv_
                                    refine lv_istore (lv' := [(12, .int (nI x_192)), (0, .ref g.2.2.2.1), (1, .int (nI ka9)), (2, .int (nI kb9)), (3, .int (nI kc9)), (4, .int (nI kd9)), (7, .int (nI ((sp_fa S (fun q => I9 ka9 (kc9 + q)) t9a).1))), (8, .int (pc_ff (sp_fa S (fun q => I9 ka9 (kc9 + q)) t9a).2.1)), (9, .int (nI ((sp_fa S (fun q => I9 ka9 (kc9 + q)) t9a).2.2))), (10, .int (nI t9a)), (11, .int (nI (sp_run S t9a))), (13, .int (nI (24 * ka9 + kc9 + sp_ou S i9b))), (14, .int (nI (i9b + 1)))]) hx hb dX8_far_192 hl (by decide) rfl (fun ls hl => ?_)
                                    refine lv_iinc (v := (nI (24 * ka9 + kc9 + sp_ou S i9b + 1))) (lv' := [(13, .int (nI (24 * ka9 + kc9 + sp_ou S i9b + 1))), (12, .int (nI x_192)), (0, .ref g.2.2.2.1), (1, .int (nI ka9)), (2, .int (nI kb9)), (3, .int (nI kc9)), (4, .int (nI kd9)), (7, .int (nI ((sp_fa S (fun q => I9 ka9 (kc9 + q)) t9a).1))), (8, .int (pc_ff (sp_fa S (fun q => I9 ka9 (kc9 + q)) t9a).2.1)), (9, .int (nI ((sp_fa S (fun q => I9 ka9 (kc9 + q)) t9a).2.2))), (10, .int (nI t9a)), (11, .int (nI (sp_run S t9a))), (14, .int (nI (i9b + 1)))]) hx hb dX8_far_194 hl (k := 11) rfl (by first | exact nI_1 _ | (rw [show Int32.ofInt 1 = nI 1 from by decide, nI_add])) (by decide) rfl (fun ls hl => ?_)
                                    refine lv_iinc (v := (nI (i9b + 1 + 1))) (lv' := [(14, .int (nI (i9b + 1 + 1))), (13, .int (nI (24 * ka9 + kc9 + sp_ou S i9b + 1))), (12, .int (nI x_192)), (0, .ref g.2.2.2.1), (1, .int (nI ka9)), (2, .int (nI kb9)), (3, .int (nI kc9)), (4, .int (nI kd9)), (7, .int (nI ((sp_fa S (fun q => I9 ka9 (kc9 + q)) t9a).1))), (8, .int (pc_ff (sp_fa S (fun q => I9 ka9 (kc9 + q)) t9a).2.1)), (9, .int (nI ((sp_fa S (fun q => I9 ka9 (kc9 + q)) t9a).2.2))), (10, .int (nI t9a)), (11, .int (nI (sp_run S t9a)))]) hx hb dX8_far_197 hl (k := 12) rfl (by first | exact nI_1 _ | (rw [show Int32.ofInt 1 = nI 1 from by decide, nI_add])) (by decide) rfl (fun ls hl => ?_)
                                    refine lv_goto (tgt := 144) hx hb dX8_far_200 (by decide) ?_
                                    rw [show x_192 = sp_fr S (fun q => I9 ka9 (kc9 + q)) (sp_run S t9a) (i9b + 1) from fr_y (by assumption) ex_192, show 24 * ka9 + kc9 + sp_ou S i9b + 1 = 24 * ka9 + kc9 + sp_ou S (i9b + 1) by omega] at hl
                                    exact ih_144 (i9b + 1) (by omega) (by omega) ls (lv_sub hl [3, 4, 5, 6, 7, 8, 9, 10, 11, 12, 2, 1, 0] rfl)
                                  · skip
                                    refine n_if_eq (tgt := 191) hx hb dX8_far_164 (by decide) (by omega) (fun c_164_24 => ?_) (fun c_164_24 => ?_)
                                    · skip
                                      refine lv_iconst (v := (nI 0)) hx hb dX8_far_191 (by decide) ?_
                                      exact k_192 _ ⟨_, by simp only [if_pos c_164_24], rfl⟩
                                    · skip
                                      refine lv_aload_n hx hb dX8_far_167 rfl (lv_at hl 0 rfl) ?_
                                      refine lv_iload hx hb dX8_far_168 (lv_at hl 12 rfl) ?_
                                      refine lv_iload hx hb dX8_far_170 (lv_at hl 9 rfl) ?_
                                      refine rc_p (rest := []) X hml hl.1 (k_comesTo l g z (i9b + 1) (sp_run S t9a) S hz ho 0 htg (by omega) (by omega) (by omega)) ok_comesTo wm_X8_177 ⟨Nat.le_of_ble_eq_true rfl, Nat.le_of_ble_eq_true rfl⟩ ⟨Nat.le_refl _, Nat.le_refl _⟩ w rfl (Nat.le_of_ble_eq_true rfl) dX8_far_172 (fun r_172 hr_172 => ?_)
                                      subst hr_172
                                      refine lv_i2l (v := (nI (sp_com S 0 (i9b + 1) (sp_run S t9a))).toInt64) hx hb dX8_far_175 rfl ?_
                                      refine lv_aload_n hx hb dX8_far_176 rfl (lv_at hl 0 rfl) ?_
                                      refine rg_28 X w dX8_far_177 ?_
                                      refine lv_iload hx hb dX8_far_180 (lv_at hl 11 rfl) ?_
                                      refine rn_28 X w (by omega) dX8_far_182 ?_
                                      refine tp_l (show z.2.2 28 (24 * ka9 + kc9 + sp_ou S i9b) = I9 ka9 (kc9 + sp_ou S i9b) from (by rw [show 24 * ka9 + kc9 + sp_ou S i9b = 24 * ka9 + (kc9 + sp_ou S i9b) by omega]; exact q5 (kc9 + sp_ou S i9b) (by omega))) ?_
                                      refine W.lcmp hx hb dX8_far_183 ?_
                                      refine lv_if_ne (tgt := 191) hx hb dX8_far_184 (by decide) (fun c_184_25 => ?_) (fun c_184_25 => ?_)
                                      · skip
                                        refine lv_iconst (v := (nI 0)) hx hb dX8_far_191 (by decide) ?_
                                        exact k_192 _ ⟨_, by simp only [if_neg c_164_24, if_neg c_184_25], rfl⟩
                                      · skip
                                        refine lv_iconst (v := (nI 1)) hx hb dX8_far_187 (by decide) ?_
                                        refine lv_goto (tgt := 192) hx hb dX8_far_188 (by decide) ?_
                                        exact k_192 _ ⟨_, by simp only [if_neg c_164_24, if_pos c_184_25], rfl⟩
                          exact lp_144 _ 0 (Nat.zero_le _) (Nat.lt_succ_self _) ls (lv_sub hl [4, 5, 6, 7, 8, 9, 10, 11, 12, 3, 2, 1, 0] rfl)
                  rw [show x_105 = (sp_fa S (fun q => I9 ka9 (kc9 + q)) 0).2.2 from ex_105] at hl
                  exact lp_110 _ 0 (Nat.zero_le _) (Nat.lt_succ_self _) ls (lv_sub hl [5, 6, 7, 8, 9, 3, 2, 1, 0] rfl)
                · skip
                  refine n_if_ne (tgt := 104) hx hb dX8_far_97 (by decide) (by omega) (fun c_97_26 => ?_) (fun c_97_26 => ?_)
                  · skip
                    refine lv_iconst (v := (nI 0)) hx hb dX8_far_104 (by decide) ?_
                    exact k_105 _ ⟨_, by simp only [if_neg c_97_26], rfl⟩
                  · skip
                    refine lv_iconst (v := (nI 1)) hx hb dX8_far_100 (by decide) ?_
                    refine lv_goto (tgt := 105) hx hb dX8_far_101 (by decide) ?_
                    exact k_105 _ ⟨_, by simp only [if_pos c_97_26], rfl⟩
              · skip
                refine lv_iload hx hb dX8_far_83 (lv_at hl 0 rfl) ?_
                exact re_p hx hb hr hk (by unfold an_far; rw [if_pos (by omega), show (nI ka9).toInt.toNat = ka9 by omega, show (nI kb9).toInt.toNat = kb9 by omega, if_pos (by omega)]) dX8_far_85
            · skip
              refine lv_iload hx hb dX8_far_42 (lv_at hl 5 rfl) ?_
              refine lv_aload_n hx hb dX8_far_44 rfl (lv_at hl 0 rfl) ?_
              refine lv_iload hx hb dX8_far_45 (lv_at hl 6 rfl) ?_
              refine rc_p (rest := [.int (nI (sp_ou S i9a))]) X hml hl.1 (k_downS l g z (i9a + 1) S hz ho (by omega)) ok_isDown wm_X8_103 ⟨Nat.le_of_ble_eq_true rfl, Nat.le_of_ble_eq_true rfl⟩ ⟨Nat.le_refl _, Nat.le_refl _⟩ w rfl (Nat.le_of_ble_eq_true rfl) dX8_far_47 (fun r_47 hr_47 => ?_)
              subst hr_47
              refine jn (tgt := 58) (rest := [.int (nI (sp_ou S i9a))]) (fun v9 => ∃ x9 : Nat, x9 = (if (pc_dn S (i9a + 1)) = 0 then 1 else 0) ∧ v9 = nI x9) (fun v_ hv_ => ?_) (fun k_58 => ?_)
              · obtain ⟨x_58, ex_58, rfl⟩ := hv_
                refine n_iadd hx hb dX8_far_58 ?_
                refine lv_istore (lv' := [(5, .int (nI ((sp_ou S i9a) + x_58))), (0, .ref g.2.2.2.1), (1, .int (nI ka9)), (2, .int (nI kb9)), (3, .int xc9), (4, .int (nI kd9)), (6, .int (nI (i9a + 1)))]) hx hb dX8_far_59 hl (by decide) rfl (fun ls hl => ?_)
                refine lv_iinc (v := (nI (i9a + 1 + 1))) (lv' := [(6, .int (nI (i9a + 1 + 1))), (5, .int (nI ((sp_ou S i9a) + x_58))), (0, .ref g.2.2.2.1), (1, .int (nI ka9)), (2, .int (nI kb9)), (3, .int xc9), (4, .int (nI kd9))]) hx hb dX8_far_61 hl (k := 6) rfl (by first | exact nI_1 _ | (rw [show Int32.ofInt 1 = nI 1 from by decide, nI_add])) (by decide) rfl (fun ls hl => ?_)
                refine lv_goto (tgt := 33) hx hb dX8_far_64 (by decide) ?_
                rw [show sp_ou S i9a + x_58 = sp_ou S (i9a + 1) from (by rw [ex_58]; rfl)] at hl
                exact ih_33 (i9a + 1) (by omega) (by omega) ls (lv_sub hl [2, 3, 4, 5, 6, 1, 0] rfl)
              · skip
                refine n_if_eq (tgt := 57) hx hb dX8_far_50 (by decide) (by omega) (fun c_50_28 => ?_) (fun c_50_28 => ?_)
                · skip
                  refine lv_iconst (v := (nI 1)) hx hb dX8_far_57 (by decide) ?_
                  exact k_58 _ ⟨_, by simp only [if_pos c_50_28], rfl⟩
                · skip
                  refine lv_iconst (v := (nI 0)) hx hb dX8_far_53 (by decide) ?_
                  refine lv_goto (tgt := 58) hx hb dX8_far_54 (by decide) ?_
                  exact k_58 _ ⟨_, by simp only [if_neg c_50_28], rfl⟩
        exact lp_33 _ 0 (Nat.zero_le _) (Nat.lt_succ_self _) ls (lv_sub hl [2, 3, 4, 5, 6, 1, 0] rfl)
      · skip
        refine lv_iconst (v := (iZ (-1))) hx hb dX8_far_25 (by decide) ?_
        exact re_p hx hb hr hk (by unfold an_far; rw [if_neg (by omega)]) dX8_far_26
