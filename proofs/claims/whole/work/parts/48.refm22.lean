section TpL
variable {p : Program} {l : Launch} {e : Env} {R : Room} {s : State} {m : MethodId} {args : Array Value} {below : List Frame} {meth : Method} {c : Code} {H : Heap} {locs : List Loc} {cells slots : Nat} {Q : State → Prop} {pc : Nat} {ls : Array Slot} {rest : List Value}
theorem tp_l {a b : Int64} (h : a = b) (k : W p l e R s m args below meth c H locs cells slots Q (F0 m pc ls (.long b :: rest))) : W p l e R s m args below meth c H locs cells slots Q (F0 m pc ls (.long a :: rest)) := by
  subst h
  exact k
end TpL
theorem bad_str {S : Sc} {R9 : Nat → Int64} {i n : Nat} (h : ¬ sp_al S R9 i = 0) (hi : i < n) (q : ¬ ((0 ≤ (R9 (2 * i)).toInt ∧ (R9 (2 * i)).toInt ≤ 400) ∧ 0 ≤ (R9 (2 * i + 1)).toInt ∧ (R9 (2 * i + 1)).toInt < S.1 0)) : sp_al S R9 n = 0 := by
  have e : sp_al S R9 (i + 1) = 0 := by
    rw [show sp_al S R9 (i + 1) = pw_okb S (R9 (2 * i)) (R9 (2 * i + 1)) from if_neg h]
    rcases okb_ok S (R9 (2 * i)) (R9 (2 * i + 1)) with w | w
    · exact absurd w.2 q
    · exact w.1
  have e2 := al_0 S R9 e (n - (i + 1))
  rw [show i + 1 + (n - (i + 1)) = n by omega] at e2
  exact e2
theorem sd_s {S : Sc} {R9 : Nat → Int64} {f h k x : Nat} (h0 : 0 ≤ (R9 (2 * k + 1)).toInt) (hf : pc_far (S.2.1 0) (sp_pts S f h (R9 (2 * k)).toInt.toNat) (S.1 0 - 1) < 1000) (ex : x = if sp_sd S R9 f h k = 0 then 0 else (if lg_cmp (nI (pc_far (S.2.1 0) (sp_pts S f h (R9 (2 * k)).toInt.toNat) (S.1 0 - 1))).toInt64 (R9 (2 * k + 1)) = 0 then 1 else 0)) : x = sp_sd S R9 f h (k + 1) := by
  have e : sp_sd S R9 f h (k + 1) = if sp_sd S R9 f h k = 0 then 0 else (if pc_far (S.2.1 0) (sp_pts S f h (R9 (2 * k)).toInt.toNat) (S.1 0 - 1) = (R9 (2 * k + 1)).toInt.toNat then 1 else 0) := rfl
  rw [e, ex]
  by_cases q : sp_sd S R9 f h k = 0
  · rw [if_pos q, if_pos q]
  · rw [if_neg q, if_neg q]
    have h2 := l_eq (v := R9 (2 * k + 1)) (n := pc_far (S.2.1 0) (sp_pts S f h (R9 (2 * k)).toInt.toNat) (S.1 0 - 1)) h0 hf
    by_cases q2 : pc_far (S.2.1 0) (sp_pts S f h (R9 (2 * k)).toInt.toNat) (S.1 0 - 1) = (R9 (2 * k + 1)).toInt.toNat
    · rw [if_pos q2, if_pos ((lg_cmp_eq _ _).mpr (h2.mpr q2))]
    · rw [if_neg q2, if_neg (fun w => q2 (h2.mp ((lg_cmp_eq _ _).mp w)))]
theorem ok_strides : rOk yX8_strides cX8_strides 12 (some .int) 5 := ⟨wc_X8_strides, wi_X8_strides, ws_X8_strides, rfl, by decide, by decide, by decide +kernel⟩
set_option maxHeartbeats 4000000 in
set_option maxRecDepth 100000 in
theorem k_strides (l : Launch) (g : RG) (z : RS) (xa9 : Int32) (xb9 : Int32) (xc9 : Int32) (xd9 : Int32) (xe9 : Int32) (S : Sc) (hz : rSc z S) (ho : oSc S) (L N9 : Nat → Nat) (I9 : Nat → Nat → Int64) (hsh : rSh z L N9 I9) : rMp g l yX8_strides cX8_strides 12 (some .int) 2 46 [.int xa9, .int xb9, .int xc9, .int xd9, .int xe9] z (fun r => r = an_str S L N9 I9 xa9 xb9 xc9 xd9 xe9) := by
  refine rMp_in (by decide) rfl (Nat.le_of_ble_eq_true rfl) ?_
  intro p e s m args below meth c ls X hml hr hk hl w
  have hx := X.1
  have hb := X.2.1
  have hts := X.2.2.1
  have hown := X.2.2.2.1
  have hl : lv_has ls 12 [(0, .ref g.2.2.2.1), (1, .int xa9), (2, .int xb9), (3, .int xc9), (4, .int xd9), (5, .int xe9)] := hl
  obtain ⟨hz0, hz1, hz4, hm0, hm1, hm2, hso, hki, hsr, hpa, hhu, hco⟩ := id hz
  obtain ⟨o1, o2, o3, o4, o5, o6, oso, oki, osr, opa, ohu, oco⟩ := id ho
  refine lv_aload_n hx hb dX8_strides_0 rfl (lv_at hl 0 rfl) ?_
  refine lv_iload_n hx hb dX8_strides_1 rfl (lv_at hl 1 rfl) ?_
  refine rc_p (rest := []) X hml hl.1 (k_isF l g z xa9 S hz ho) ok_isFighter wm_X8_123 ⟨Nat.le_of_ble_eq_true rfl, Nat.le_of_ble_eq_true rfl⟩ ⟨Nat.le_refl _, Nat.le_refl _⟩ w rfl (Nat.le_of_ble_eq_true rfl) dX8_strides_2 (fun r_2 hr_2 => ?_)
  subst hr_2
  have i_2 := pc_inI_ok xa9.toInt 0 (((S.1 1 : Nat) : Int) - (1 : Int))
  refine n_if_eq (tgt := 35) hx hb dX8_strides_5 (by decide) (by omega) (fun c_5_1 => ?_) (fun c_5_1 => ?_)
  · skip
    refine lv_iconst (v := (iZ (-1))) hx hb dX8_strides_35 (by decide) ?_
    exact re_p hx hb hr hk (by unfold an_str; rw [if_neg (by omega)]) dX8_strides_36
  · skip
    refine lv_iload_n hx hb dX8_strides_8 rfl (lv_at hl 2 rfl) ?_
    refine rc_s (rest := []) ⟨X.1, X.2.1, X.2.2.1, X.2.2.2.1⟩ hml hl.1 (k_isSheet l xb9) ok_isSheet wm_X8_264 ⟨Nat.le_of_ble_eq_true rfl, Nat.le_of_ble_eq_true rfl⟩ ⟨Nat.le_refl _, Nat.le_refl _⟩ rfl (Nat.le_of_ble_eq_true rfl) dX8_strides_9 (fun r_9 hr_9 => ?_)
    subst hr_9
    have i_9 := pc_inI_ok xb9.toInt 0 3
    refine n_if_eq (tgt := 35) hx hb dX8_strides_12 (by decide) (by omega) (fun c_12_2 => ?_) (fun c_12_2 => ?_)
    · skip
      refine lv_iconst (v := (iZ (-1))) hx hb dX8_strides_35 (by decide) ?_
      exact re_p hx hb hr hk (by unfold an_str; rw [if_neg (by omega)]) dX8_strides_36
    · skip
      refine lv_iload_n hx hb dX8_strides_15 rfl (lv_at hl 3 rfl) ?_
      refine rc_s (rest := []) ⟨X.1, X.2.1, X.2.2.1, X.2.2.2.1⟩ hml hl.1 (k_isLane l xc9) ok_isLane wm_X8_267 ⟨Nat.le_of_ble_eq_true rfl, Nat.le_of_ble_eq_true rfl⟩ ⟨Nat.le_refl _, Nat.le_refl _⟩ rfl (Nat.le_of_ble_eq_true rfl) dX8_strides_16 (fun r_16 hr_16 => ?_)
      subst hr_16
      have i_16 := pc_inI_ok xc9.toInt 0 3
      refine n_if_eq (tgt := 35) hx hb dX8_strides_19 (by decide) (by omega) (fun c_19_3 => ?_) (fun c_19_3 => ?_)
      · skip
        refine lv_iconst (v := (iZ (-1))) hx hb dX8_strides_35 (by decide) ?_
        exact re_p hx hb hr hk (by unfold an_str; rw [if_neg (by omega)]) dX8_strides_36
      · skip
        refine lv_iload hx hb dX8_strides_22 (lv_at hl 5 rfl) ?_
        refine lv_i2l (v := xe9.toInt64) hx hb dX8_strides_24 rfl ?_
        refine lv_lconst (v := 1) hx hb dX8_strides_25 (by decide) ?_
        refine lv_ldc2 hx hb hown (hts _ wk_X8_270) dX8_strides_26 ?_
        refine rc_s (rest := []) ⟨X.1, X.2.1, X.2.2.1, X.2.2.2.1⟩ hml hl.1 (k_in l xe9.toInt64 1 8) ok_in wm_X8_69 ⟨Nat.le_of_ble_eq_true rfl, Nat.le_of_ble_eq_true rfl⟩ ⟨Nat.le_refl _, Nat.le_refl _⟩ rfl (Nat.le_of_ble_eq_true rfl) dX8_strides_29 (fun r_29 hr_29 => ?_)
        have h9 : r_29 = nI (pc_inI xe9.toInt (1) (8)) := by rw [hr_29]; exact congrArg nI (pc_in_I (in_toI _) (by decide) (by decide))
        subst h9
        have i_29 := pc_inI_ok xe9.toInt (1) (8)
        refine n_if_ne (tgt := 37) hx hb dX8_strides_32 (by decide) (by omega) (fun c_32_4 => ?_) (fun c_32_4 => ?_)
        · skip
          obtain ⟨ka9, hq_ka9, rfl⟩ := iv_n (x := xa9) (by omega)
          obtain ⟨kb9, hq_kb9, rfl⟩ := iv_n (x := xb9) (by omega)
          obtain ⟨kc9, hq_kc9, rfl⟩ := iv_n (x := xc9) (by omega)
          obtain ⟨ke9, hq_ke9, rfl⟩ := iv_n (x := xe9) (by omega)
          obtain ⟨_, _, q3, q4, q5⟩ := hsh kb9 (by omega)
          refine lv_aload_n hx hb dX8_strides_37 rfl (lv_at hl 0 rfl) ?_
          refine lv_iload_n hx hb dX8_strides_38 rfl (lv_at hl 2 rfl) ?_
          refine lv_iload_n hx hb dX8_strides_39 rfl (lv_at hl 3 rfl) ?_
          refine lv_iload hx hb dX8_strides_40 (lv_at hl 4 rfl) ?_
          refine lv_iconst (v := (nI 2)) hx hb dX8_strides_42 (by decide) ?_
          refine lv_iload hx hb dX8_strides_43 (lv_at hl 5 rfl) ?_
          refine n_imul hx hb dX8_strides_45 ?_
          refine rc_p (rest := []) X hml hl.1 (k_why l g z kb9 kc9 xd9 (2 * ke9) L N9 I9 hsh (by omega) (by omega) (by omega)) ok_why wm_X8_272 ⟨Nat.le_of_ble_eq_true rfl, Nat.le_of_ble_eq_true rfl⟩ ⟨Nat.le_refl _, Nat.le_refl _⟩ w rfl (Nat.le_of_ble_eq_true rfl) dX8_strides_46 (fun r_46 hr_46 => ?_)
          subst hr_46
          have y_46 := pw_why_ok L N9 kb9 kc9 xd9.toInt (2 * ke9)
          refine lv_istore (lv' := [(6, .int (iZ (pw_why L N9 kb9 kc9 xd9.toInt (2 * ke9)))), (0, .ref g.2.2.2.1), (1, .int (nI ka9)), (2, .int (nI kb9)), (3, .int (nI kc9)), (4, .int xd9), (5, .int (nI ke9))]) hx hb dX8_strides_49 hl (by decide) rfl (fun ls hl => ?_)
          refine lv_iload hx hb dX8_strides_51 (lv_at hl 0 rfl) ?_
          refine z_if_ge (tgt := 59) hx hb dX8_strides_53 (by decide) (by omega) (by omega) (fun c_53_5 => ?_) (fun c_53_5 => ?_)
          · skip
            obtain ⟨kd9, hq_kd9, rfl⟩ := iv_n (x := xd9) (by omega)
            refine lv_bipush (v := (nI 24)) hx hb dX8_strides_59 (by decide) ?_
            refine lv_iload_n hx hb dX8_strides_61 rfl (lv_at hl 3 rfl) ?_
            refine n_imul hx hb dX8_strides_62 ?_
            refine lv_iload hx hb dX8_strides_63 (lv_at hl 5 rfl) ?_
            refine n_iadd hx hb dX8_strides_65 ?_
            refine lv_istore (lv' := [(7, .int (nI ((24 * kb9) + kd9))), (6, .int (iZ (pw_why L N9 kb9 kc9 (nI kd9).toInt (2 * ke9)))), (0, .ref g.2.2.2.1), (1, .int (nI ka9)), (2, .int (nI kb9)), (3, .int (nI kc9)), (4, .int (nI kd9)), (5, .int (nI ke9))]) hx hb dX8_strides_66 hl (by decide) rfl (fun ls hl => ?_)
            refine lv_iconst (v := (nI 0)) hx hb dX8_strides_68 (by decide) ?_
            refine lv_istore (lv' := [(8, .int (nI 0)), (7, .int (nI ((24 * kb9) + kd9))), (6, .int (iZ (pw_why L N9 kb9 kc9 (nI kd9).toInt (2 * ke9)))), (0, .ref g.2.2.2.1), (1, .int (nI ka9)), (2, .int (nI kb9)), (3, .int (nI kc9)), (4, .int (nI kd9)), (5, .int (nI ke9))]) hx hb dX8_strides_69 hl (by decide) rfl (fun ls hl => ?_)
            have lp_71 : ∀ (n_71 : Nat) (i9a : Nat) (hi9a : i9a ≤ ke9) (hal : ¬ sp_al S (fun q => I9 kb9 (kd9 + q)) i9a = 0) (hm_71 : ke9 - i9a < n_71) (ls : Array Slot), lv_has ls 12 [(0, .ref g.2.2.2.1), (1, .int (nI ka9)), (2, .int (nI kb9)), (3, .int (nI kc9)), (4, .int (nI kd9)), (5, .int (nI ke9)), (7, .int (nI ((24 * kb9) + kd9))), (8, .int (nI i9a))] → W p l e (ro_m 2 46) s m args below meth c s.heap [] 0 0 (MQ below (vp_Si (fun r => r = an_str S L N9 I9 (nI ka9) (nI kb9) (nI kc9) (nI kd9) (nI ke9))) args s 0 0 (fun _ => False)) (F0 m 71 ls []) := by
              intro n_71
              induction n_71 with
              | zero => intro i9a hi9a hal hm; exact absurd hm (Nat.not_lt_zero _)
              | succ n_71 ih_71 =>
                intro i9a hi9a hal hm_71 ls hl
                refine lv_iload hx hb dX8_strides_71 (lv_at hl 7 rfl) ?_
                refine lv_iload hx hb dX8_strides_73 (lv_at hl 5 rfl) ?_
                refine n_icmp_ge (tgt := 137) hx hb dX8_strides_75 (by decide) (by omega) (by omega) (fun c_75_6 => ?_) (fun c_75_6 => ?_)
                · skip
                  have hal2 : ¬ sp_al S (fun q => I9 kb9 (kd9 + q)) ke9 = 0 := by rw [← show i9a = ke9 by omega]; exact hal
                  refine lv_iconst (v := (nI 0)) hx hb dX8_strides_137 (by decide) ?_
                  refine lv_istore (lv' := [(8, .int (nI 0)), (0, .ref g.2.2.2.1), (1, .int (nI ka9)), (2, .int (nI kb9)), (3, .int (nI kc9)), (4, .int (nI kd9)), (5, .int (nI ke9)), (7, .int (nI ((24 * kb9) + kd9)))]) hx hb dX8_strides_138 hl (by decide) rfl (fun ls hl => ?_)
                  refine lv_iconst (v := (nI 0)) hx hb dX8_strides_140 (by decide) ?_
                  refine lv_istore (lv' := [(9, .int (nI 0)), (8, .int (nI 0)), (0, .ref g.2.2.2.1), (1, .int (nI ka9)), (2, .int (nI kb9)), (3, .int (nI kc9)), (4, .int (nI kd9)), (5, .int (nI ke9)), (7, .int (nI ((24 * kb9) + kd9)))]) hx hb dX8_strides_141 hl (by decide) rfl (fun ls hl => ?_)
                  have lp_143 : ∀ (n_143 : Nat) (h9a : Nat) (hh9a : h9a ≤ 6) (hm_143 : 6 - h9a < n_143) (ls : Array Slot), lv_has ls 12 [(0, .ref g.2.2.2.1), (1, .int (nI ka9)), (2, .int (nI kb9)), (3, .int (nI kc9)), (4, .int (nI kd9)), (5, .int (nI ke9)), (7, .int (nI ((24 * kb9) + kd9))), (8, .int (nI (sp_st S (fun q => I9 kb9 (kd9 + q)) ka9 ke9 h9a))), (9, .int (nI h9a))] → W p l e (ro_m 2 46) s m args below meth c s.heap [] 0 0 (MQ below (vp_Si (fun r => r = an_str S L N9 I9 (nI ka9) (nI kb9) (nI kc9) (nI kd9) (nI ke9))) args s 0 0 (fun _ => False)) (F0 m 143 ls []) := by
                    intro n_143
                    induction n_143 with
                    | zero => intro h9a hh9a hm; exact absurd hm (Nat.not_lt_zero _)
                    | succ n_143 ih_143 =>
                      intro h9a hh9a hm_143 ls hl
                      refine lv_iload hx hb dX8_strides_143 (lv_at hl 8 rfl) ?_
                      refine lv_bipush (v := (nI 6)) hx hb dX8_strides_145 (by decide) ?_
                      refine n_icmp_ge (tgt := 248) hx hb dX8_strides_147 (by decide) (by omega) (by omega) (fun c_147_7 => ?_) (fun c_147_7 => ?_)
                      · skip
                        refine lv_iload hx hb dX8_strides_248 (lv_at hl 7 rfl) ?_
                        exact re_p hx hb hr hk (by have e8 : h9a = 6 := (by omega); subst e8; unfold an_str; rw [if_pos (by omega), show (nI kb9).toInt.toNat = kb9 by omega, show (nI kc9).toInt.toNat = kc9 by omega, show (nI ke9).toInt.toNat = ke9 by omega, show (nI kd9).toInt.toNat = kd9 by omega, show (nI ka9).toInt.toNat = ka9 by omega, if_neg (by omega), if_neg hal2]) dX8_strides_250
                      · skip
                        refine lv_iconst (v := (nI 1)) hx hb dX8_strides_150 (by decide) ?_
                        refine lv_istore (lv' := [(10, .int (nI 1)), (0, .ref g.2.2.2.1), (1, .int (nI ka9)), (2, .int (nI kb9)), (3, .int (nI kc9)), (4, .int (nI kd9)), (5, .int (nI ke9)), (7, .int (nI ((24 * kb9) + kd9))), (8, .int (nI (sp_st S (fun q => I9 kb9 (kd9 + q)) ka9 ke9 h9a))), (9, .int (nI h9a))]) hx hb dX8_strides_151 hl (by decide) rfl (fun ls hl => ?_)
                        refine lv_iconst (v := (nI 0)) hx hb dX8_strides_153 (by decide) ?_
                        refine lv_istore (lv' := [(11, .int (nI 0)), (10, .int (nI 1)), (0, .ref g.2.2.2.1), (1, .int (nI ka9)), (2, .int (nI kb9)), (3, .int (nI kc9)), (4, .int (nI kd9)), (5, .int (nI ke9)), (7, .int (nI ((24 * kb9) + kd9))), (8, .int (nI (sp_st S (fun q => I9 kb9 (kd9 + q)) ka9 ke9 h9a))), (9, .int (nI h9a))]) hx hb dX8_strides_154 hl (by decide) rfl (fun ls hl => ?_)
                        have lp_156 : ∀ (n_156 : Nat) (i9b : Nat) (hi9b : i9b ≤ ke9) (hm_156 : ke9 - i9b < n_156) (ls : Array Slot), lv_has ls 12 [(0, .ref g.2.2.2.1), (1, .int (nI ka9)), (2, .int (nI kb9)), (3, .int (nI kc9)), (4, .int (nI kd9)), (5, .int (nI ke9)), (7, .int (nI ((24 * kb9) + kd9))), (8, .int (nI (sp_st S (fun q => I9 kb9 (kd9 + q)) ka9 ke9 h9a))), (9, .int (nI h9a)), (10, .int (nI (sp_sd S (fun q => I9 kb9 (kd9 + q)) ka9 h9a i9b))), (11, .int (nI i9b))] → W p l e (ro_m 2 46) s m args below meth c s.heap [] 0 0 (MQ below (vp_Si (fun r => r = an_str S L N9 I9 (nI ka9) (nI kb9) (nI kc9) (nI kd9) (nI ke9))) args s 0 0 (fun _ => False)) (F0 m 156 ls []) := by
                          intro n_156
                          induction n_156 with
                          | zero => intro i9b hi9b hm; exact absurd hm (Nat.not_lt_zero _)
                          | succ n_156 ih_156 =>
                            intro i9b hi9b hm_156 ls hl
                            have sd9 := sd_le S (fun q => I9 kb9 (kd9 + q)) ka9 h9a i9b
                            refine lv_iload hx hb dX8_strides_156 (lv_at hl 10 rfl) ?_
                            refine lv_iload hx hb dX8_strides_158 (lv_at hl 5 rfl) ?_
                            refine n_icmp_ge (tgt := 224) hx hb dX8_strides_160 (by decide) (by omega) (by omega) (fun c_160_8 => ?_) (fun c_160_8 => ?_)
                            · skip
                              refine lv_iload hx hb dX8_strides_224 (lv_at hl 7 rfl) ?_
                              refine lv_iload hx hb dX8_strides_226 (lv_at hl 9 rfl) ?_
                              refine jn (tgt := 239) (rest := [.int (nI (sp_st S (fun q => I9 kb9 (kd9 + q)) ka9 ke9 h9a))]) (fun v9 => ∃ x9 : Nat, x9 = (if (sp_sd S (fun q => I9 kb9 (kd9 + q)) ka9 h9a i9b) = 0 then 0 else (2 ^ h9a)) ∧ v9 = nI x9) (fun v_ hv_ => ?_) (fun k_239 => ?_)
                              · obtain ⟨x_239, ex_239, rfl⟩ := hv_
                                refine lv_ior hx hb dX8_strides_239 ?_
                                refine tp_i (fa_or _ _) ?_
                                refine lv_istore (lv' := [(8, .int (nI ((sp_st S (fun q => I9 kb9 (kd9 + q)) ka9 ke9 h9a) ||| x_239))), (0, .ref g.2.2.2.1), (1, .int (nI ka9)), (2, .int (nI kb9)), (3, .int (nI kc9)), (4, .int (nI kd9)), (5, .int (nI ke9)), (7, .int (nI ((24 * kb9) + kd9))), (9, .int (nI h9a)), (10, .int (nI (sp_sd S (fun q => I9 kb9 (kd9 + q)) ka9 h9a i9b))), (11, .int (nI i9b))]) hx hb dX8_strides_240 hl (by decide) rfl (fun ls hl => ?_)
                                refine lv_iinc (v := (nI (h9a + 1))) (lv' := [(9, .int (nI (h9a + 1))), (8, .int (nI ((sp_st S (fun q => I9 kb9 (kd9 + q)) ka9 ke9 h9a) ||| x_239))), (0, .ref g.2.2.2.1), (1, .int (nI ka9)), (2, .int (nI kb9)), (3, .int (nI kc9)), (4, .int (nI kd9)), (5, .int (nI ke9)), (7, .int (nI ((24 * kb9) + kd9))), (10, .int (nI (sp_sd S (fun q => I9 kb9 (kd9 + q)) ka9 h9a i9b))), (11, .int (nI i9b))]) hx hb dX8_strides_242 hl (k := 8) rfl (by first | exact nI_1 _ | (rw [show Int32.ofInt 1 = nI 1 from by decide, nI_add])) (by decide) rfl (fun ls hl => ?_)
                                refine lv_goto (tgt := 143) hx hb dX8_strides_245 (by decide) ?_
                                rw [show (sp_st S (fun q => I9 kb9 (kd9 + q)) ka9 ke9 h9a ||| x_239) = sp_st S (fun q => I9 kb9 (kd9 + q)) ka9 ke9 (h9a + 1) from (by rw [ex_239, show i9b = ke9 by omega]; rfl)] at hl
                                exact ih_143 (h9a + 1) (by omega) (by omega) ls (lv_sub hl [2, 3, 4, 5, 6, 7, 8, 1, 0] rfl)
                              · skip
                                refine n_if_eq (tgt := 238) hx hb dX8_strides_228 (by decide) (by omega) (fun c_228_10 => ?_) (fun c_228_10 => ?_)
                                · skip
                                  refine lv_iconst (v := (nI 0)) hx hb dX8_strides_238 (by decide) ?_
                                  exact k_239 _ ⟨_, by simp only [if_pos c_228_10], rfl⟩
                                · skip
                                  refine lv_iconst (v := (nI 1)) hx hb dX8_strides_231 (by decide) ?_
                                  refine lv_iload hx hb dX8_strides_232 (lv_at hl 8 rfl) ?_
                                  refine lv_ishl hx hb dX8_strides_234 ?_
                                  refine tp_i (sh_1 (by omega)) ?_
                                  refine lv_goto (tgt := 239) hx hb dX8_strides_235 (by decide) ?_
                                  exact k_239 _ ⟨_, by simp only [if_neg c_228_10], rfl⟩
                            · skip
                              refine lv_iload hx hb dX8_strides_163 (lv_at hl 9 rfl) ?_
                              refine jn (tgt := 216) (rest := []) (fun v9 => ∃ x9 : Nat, x9 = (if (sp_sd S (fun q => I9 kb9 (kd9 + q)) ka9 h9a i9b) = 0 then 0 else (if ((lg_cmp ((nI (pc_far (S.2.1 0) (sp_pts S ka9 h9a (I9 kb9 (kd9 + 2 * i9b)).toInt.toNat) (S.1 0 - 1))).toInt64) (I9 kb9 (kd9 + (2 * i9b + 1))))) = 0 then 1 else 0)) ∧ v9 = nI x9) (fun v_ hv_ => ?_) (fun k_216 => ?_)
                              · obtain ⟨x_216, ex_216, rfl⟩ := hv_
                                refine lv_istore (lv' := [(10, .int (nI x_216)), (0, .ref g.2.2.2.1), (1, .int (nI ka9)), (2, .int (nI kb9)), (3, .int (nI kc9)), (4, .int (nI kd9)), (5, .int (nI ke9)), (7, .int (nI ((24 * kb9) + kd9))), (8, .int (nI (sp_st S (fun q => I9 kb9 (kd9 + q)) ka9 ke9 h9a))), (9, .int (nI h9a)), (11, .int (nI i9b))]) hx hb dX8_strides_216 hl (by decide) rfl (fun ls hl => ?_)
                                refine lv_iinc (v := (nI (i9b + 1))) (lv' := [(11, .int (nI (i9b + 1))), (10, .int (nI x_216)), (0, .ref g.2.2.2.1), (1, .int (nI ka9)), (2, .int (nI kb9)), (3, .int (nI kc9)), (4, .int (nI kd9)), (5, .int (nI ke9)), (7, .int (nI ((24 * kb9) + kd9))), (8, .int (nI (sp_st S (fun q => I9 kb9 (kd9 + q)) ka9 ke9 h9a))), (9, .int (nI h9a))]) hx hb dX8_strides_218 hl (k := 10) rfl (by first | exact nI_1 _ | (rw [show Int32.ofInt 1 = nI 1 from by decide, nI_add])) (by decide) rfl (fun ls hl => ?_)
                                refine lv_goto (tgt := 156) hx hb dX8_strides_221 (by decide) ?_
                                have al8 := al_1 S (fun q => I9 kb9 (kd9 + q)) ke9 hal2 i9b (by omega)
                                have fr8 := pc_far_le (S.2.1 0) (sp_pts S ka9 h9a (I9 kb9 (kd9 + 2 * i9b)).toInt.toNat) (S.1 0 - 1)
                                rw [show x_216 = sp_sd S (fun q => I9 kb9 (kd9 + q)) ka9 h9a (i9b + 1) from sd_s al8.2.1 (show pc_far (S.2.1 0) (sp_pts S ka9 h9a (I9 kb9 (kd9 + 2 * i9b)).toInt.toNat) (S.1 0 - 1) < 1000 by omega) ex_216] at hl
                                exact ih_156 (i9b + 1) (by omega) (by omega) ls (lv_sub hl [2, 3, 4, 5, 6, 7, 8, 9, 10, 1, 0] rfl)
                              · skip
                                refine n_if_eq (tgt := 215) hx hb dX8_strides_165 (by decide) (by omega) (fun c_165_12 => ?_) (fun c_165_12 => ?_)
                                · skip
                                  refine lv_iconst (v := (nI 0)) hx hb dX8_strides_215 (by decide) ?_
                                  exact k_216 _ ⟨_, by simp only [if_pos c_165_12], rfl⟩
                                · skip
                                  refine lv_aload_n hx hb dX8_strides_168 rfl (lv_at hl 0 rfl) ?_
                                  refine lv_aload_n hx hb dX8_strides_169 rfl (lv_at hl 0 rfl) ?_
                                  refine lv_iload_n hx hb dX8_strides_170 rfl (lv_at hl 1 rfl) ?_
                                  refine lv_iload hx hb dX8_strides_171 (lv_at hl 8 rfl) ?_
                                  refine lv_aload_n hx hb dX8_strides_173 rfl (lv_at hl 0 rfl) ?_
                                  refine rg_28 X w dX8_strides_174 ?_
                                  refine lv_iload hx hb dX8_strides_177 (lv_at hl 6 rfl) ?_
                                  refine lv_iconst (v := (nI 2)) hx hb dX8_strides_179 (by decide) ?_
                                  refine lv_iload hx hb dX8_strides_180 (lv_at hl 10 rfl) ?_
                                  refine n_imul hx hb dX8_strides_182 ?_
                                  refine n_iadd hx hb dX8_strides_183 ?_
                                  refine rn_28 X w (by omega) dX8_strides_184 ?_
                                  refine tp_l (show z.2.2 28 (((24 * kb9) + kd9) + (2 * i9b)) = I9 kb9 (kd9 + (2 * i9b)) from (by rw [show (((24 * kb9) + kd9) + (2 * i9b)) = 24 * kb9 + (kd9 + (2 * i9b)) by omega]; exact q5 (kd9 + (2 * i9b)) (by omega))) ?_
                                  refine lv_l2i (v := (I9 kb9 (kd9 + (2 * i9b))).toInt32) hx hb dX8_strides_185 rfl ?_
                                  have al9 := al_1 S (fun q => I9 kb9 (kd9 + q)) ke9 hal2 i9b (by omega)
                                  refine tp_i (l_n (v := I9 kb9 (kd9 + 2 * i9b)) al9.1.1 (by have := al9.1.2; omega)) ?_
                                  refine rc_p (rest := [.ref g.2.2.2.1]) X hml hl.1 (k_pointsOf l g z ka9 h9a ((I9 kb9 (kd9 + 2 * i9b)).toInt.toNat) S hz ho (by omega) (by omega) (by omega)) ok_pointsOf wm_X8_95 ⟨Nat.le_of_ble_eq_true rfl, Nat.le_of_ble_eq_true rfl⟩ ⟨Nat.le_refl _, Nat.le_refl _⟩ w rfl (Nat.le_of_ble_eq_true rfl) dX8_strides_186 (fun r_186 hr_186 => ?_)
                                  subst hr_186
                                  have pt9 := sp_pts_le S ho ka9 h9a ((I9 kb9 (kd9 + 2 * i9b)).toInt.toNat)
                                  refine rc_p (rest := []) X hml hl.1 (k_farthest l g z (sp_pts S ka9 h9a ((I9 kb9 (kd9 + 2 * i9b)).toInt.toNat)) (S.2.1 0) (S.1 0) hso oso hz0 ⟨o1, o2⟩ (by omega)) ok_farthest wm_X8_107 ⟨Nat.le_of_ble_eq_true rfl, Nat.le_of_ble_eq_true rfl⟩ ⟨Nat.le_refl _, Nat.le_refl _⟩ w rfl (Nat.le_of_ble_eq_true rfl) dX8_strides_189 (fun r_189 hr_189 => ?_)
                                  subst hr_189
                                  have fr9 := pc_far_le (S.2.1 0) (sp_pts S ka9 h9a ((I9 kb9 (kd9 + 2 * i9b)).toInt.toNat)) (S.1 0 - 1)
                                  refine lv_i2l (v := (nI (pc_far (S.2.1 0) (sp_pts S ka9 h9a (I9 kb9 (kd9 + 2 * i9b)).toInt.toNat) (S.1 0 - 1))).toInt64) hx hb dX8_strides_192 rfl ?_
                                  refine lv_aload_n hx hb dX8_strides_193 rfl (lv_at hl 0 rfl) ?_
                                  refine rg_28 X w dX8_strides_194 ?_
                                  refine lv_iload hx hb dX8_strides_197 (lv_at hl 6 rfl) ?_
                                  refine lv_iconst (v := (nI 2)) hx hb dX8_strides_199 (by decide) ?_
                                  refine lv_iload hx hb dX8_strides_200 (lv_at hl 10 rfl) ?_
                                  refine n_imul hx hb dX8_strides_202 ?_
                                  refine n_iadd hx hb dX8_strides_203 ?_
                                  refine lv_iconst (v := (nI 1)) hx hb dX8_strides_204 (by decide) ?_
                                  refine n_iadd hx hb dX8_strides_205 ?_
                                  refine rn_28 X w (by omega) dX8_strides_206 ?_
                                  refine tp_l (show z.2.2 28 ((((24 * kb9) + kd9) + (2 * i9b)) + 1) = I9 kb9 (kd9 + (2 * i9b + 1)) from (by rw [show ((((24 * kb9) + kd9) + (2 * i9b)) + 1) = 24 * kb9 + (kd9 + (2 * i9b + 1)) by omega]; exact q5 (kd9 + (2 * i9b + 1)) (by omega))) ?_
                                  refine W.lcmp hx hb dX8_strides_207 ?_
                                  refine lv_if_ne (tgt := 215) hx hb dX8_strides_208 (by decide) (fun c_208_13 => ?_) (fun c_208_13 => ?_)
                                  · skip
                                    refine lv_iconst (v := (nI 0)) hx hb dX8_strides_215 (by decide) ?_
                                    exact k_216 _ ⟨_, by simp only [if_neg c_165_12, if_neg c_208_13], rfl⟩
                                  · skip
                                    refine lv_iconst (v := (nI 1)) hx hb dX8_strides_211 (by decide) ?_
                                    refine lv_goto (tgt := 216) hx hb dX8_strides_212 (by decide) ?_
                                    exact k_216 _ ⟨_, by simp only [if_neg c_165_12, if_pos c_208_13], rfl⟩
                        exact lp_156 _ 0 (Nat.zero_le _) (Nat.lt_succ_self _) ls (lv_sub hl [2, 3, 4, 5, 6, 7, 8, 9, 10, 1, 0] rfl)
                  exact lp_143 _ 0 (Nat.zero_le _) (Nat.lt_succ_self _) ls (lv_sub hl [2, 3, 4, 5, 6, 7, 8, 1, 0] rfl)
                · skip
                  refine lv_aload_n hx hb dX8_strides_78 rfl (lv_at hl 0 rfl) ?_
                  refine rg_28 X w dX8_strides_79 ?_
                  refine lv_iload hx hb dX8_strides_82 (lv_at hl 6 rfl) ?_
                  refine lv_iconst (v := (nI 2)) hx hb dX8_strides_84 (by decide) ?_
                  refine lv_iload hx hb dX8_strides_85 (lv_at hl 7 rfl) ?_
                  refine n_imul hx hb dX8_strides_87 ?_
                  refine n_iadd hx hb dX8_strides_88 ?_
                  refine rn_28 X w (by omega) dX8_strides_89 ?_
                  refine tp_l (show z.2.2 28 (((24 * kb9) + kd9) + (2 * i9a)) = I9 kb9 (kd9 + (2 * i9a)) from (by rw [show (((24 * kb9) + kd9) + (2 * i9a)) = 24 * kb9 + (kd9 + (2 * i9a)) by omega]; exact q5 (kd9 + (2 * i9a)) (by omega))) ?_
                  refine lv_lconst (v := 0) hx hb dX8_strides_90 (by decide) ?_
                  refine lv_ldc2 hx hb hown (hts _ wk_X8_134) dX8_strides_91 ?_
                  refine rc_s (rest := []) ⟨X.1, X.2.1, X.2.2.1, X.2.2.2.1⟩ hml hl.1 (k_in l (I9 kb9 (kd9 + (2 * i9a))) 0 400) ok_in wm_X8_69 ⟨Nat.le_of_ble_eq_true rfl, Nat.le_of_ble_eq_true rfl⟩ ⟨Nat.le_refl _, Nat.le_refl _⟩ rfl (Nat.le_of_ble_eq_true rfl) dX8_strides_94 (fun r_94 hr_94 => ?_)
                  have h9 : r_94 = nI (pc_inI (I9 kb9 (kd9 + (2 * i9a))).toInt (0) (400)) := by rw [hr_94]; exact congrArg nI (pc_in_I rfl (by decide) (by decide))
                  subst h9
                  have i_94 := pc_inI_ok (I9 kb9 (kd9 + (2 * i9a))).toInt (0) (400)
                  refine n_if_eq (tgt := 128) hx hb dX8_strides_97 (by decide) (by omega) (fun c_97_14 => ?_) (fun c_97_14 => ?_)
                  · skip
                    refine lv_bipush (v := (iZ (-2))) hx hb dX8_strides_128 (by decide) ?_
                    exact re_p hx hb hr hk (by unfold an_str; rw [if_pos (by omega), show (nI kb9).toInt.toNat = kb9 by omega, show (nI kc9).toInt.toNat = kc9 by omega, show (nI ke9).toInt.toNat = ke9 by omega, show (nI kd9).toInt.toNat = kd9 by omega, show (nI ka9).toInt.toNat = ka9 by omega, if_neg (by omega), if_pos (bad_str (S := S) (R9 := (fun q => I9 kb9 (kd9 + q))) hal (by omega) (by omega))]) dX8_strides_130
                  · skip
                    refine lv_aload_n hx hb dX8_strides_100 rfl (lv_at hl 0 rfl) ?_
                    refine rg_28 X w dX8_strides_101 ?_
                    refine lv_iload hx hb dX8_strides_104 (lv_at hl 6 rfl) ?_
                    refine lv_iconst (v := (nI 2)) hx hb dX8_strides_106 (by decide) ?_
                    refine lv_iload hx hb dX8_strides_107 (lv_at hl 7 rfl) ?_
                    refine n_imul hx hb dX8_strides_109 ?_
                    refine n_iadd hx hb dX8_strides_110 ?_
                    refine lv_iconst (v := (nI 1)) hx hb dX8_strides_111 (by decide) ?_
                    refine n_iadd hx hb dX8_strides_112 ?_
                    refine rn_28 X w (by omega) dX8_strides_113 ?_
                    refine tp_l (show z.2.2 28 ((((24 * kb9) + kd9) + (2 * i9a)) + 1) = I9 kb9 (kd9 + (2 * i9a + 1)) from (by rw [show ((((24 * kb9) + kd9) + (2 * i9a)) + 1) = 24 * kb9 + (kd9 + (2 * i9a + 1)) by omega]; exact q5 (kd9 + (2 * i9a + 1)) (by omega))) ?_
                    refine lv_lconst (v := 0) hx hb dX8_strides_114 (by decide) ?_
                    refine lv_aload_n hx hb dX8_strides_115 rfl (lv_at hl 0 rfl) ?_
                    refine rg_0 X w dX8_strides_116 ?_
                    refine tp_i (show z.1 0 = (nI (S.1 0)) from hz0) ?_
                    refine lv_iconst (v := (nI 1)) hx hb dX8_strides_119 (by decide) ?_
                    refine tp_i (show nI 1 = iZ (1 : Int) from by decide) ?_
                    refine tp_i2 (iZ_n (S.1 0)).symm ?_
                    refine z_isub hx hb dX8_strides_120 ?_
                    refine lv_i2l (v := (iZ ((((S.1 0 : Nat) : Int)) - ((1 : Int)))).toInt64) hx hb dX8_strides_121 rfl ?_
                    refine rc_s (rest := []) ⟨X.1, X.2.1, X.2.2.1, X.2.2.2.1⟩ hml hl.1 (k_in l (I9 kb9 (kd9 + (2 * i9a + 1))) 0 ((iZ ((((S.1 0 : Nat) : Int)) - ((1 : Int)))).toInt64)) ok_in wm_X8_69 ⟨Nat.le_of_ble_eq_true rfl, Nat.le_of_ble_eq_true rfl⟩ ⟨Nat.le_refl _, Nat.le_refl _⟩ rfl (Nat.le_of_ble_eq_true rfl) dX8_strides_122 (fun r_122 hr_122 => ?_)
                    have h9 : r_122 = nI (pc_inI (I9 kb9 (kd9 + (2 * i9a + 1))).toInt (0) ((((S.1 0 : Nat) : Int)) - ((1 : Int)))) := by rw [hr_122]; exact congrArg nI (pc_in_I rfl (by decide) (in_toZ (by omega) (by omega)))
                    subst h9
                    have i_122 := pc_inI_ok (I9 kb9 (kd9 + (2 * i9a + 1))).toInt (0) ((((S.1 0 : Nat) : Int)) - ((1 : Int)))
                    refine n_if_ne (tgt := 131) hx hb dX8_strides_125 (by decide) (by omega) (fun c_125_15 => ?_) (fun c_125_15 => ?_)
                    · skip
                      refine lv_iinc (v := (nI (i9a + 1))) (lv' := [(8, .int (nI (i9a + 1))), (0, .ref g.2.2.2.1), (1, .int (nI ka9)), (2, .int (nI kb9)), (3, .int (nI kc9)), (4, .int (nI kd9)), (5, .int (nI ke9)), (7, .int (nI ((24 * kb9) + kd9)))]) hx hb dX8_strides_131 hl (k := 7) rfl (by first | exact nI_1 _ | (rw [show Int32.ofInt 1 = nI 1 from by decide, nI_add])) (by decide) rfl (fun ls hl => ?_)
                      refine lv_goto (tgt := 71) hx hb dX8_strides_134 (by decide) ?_
                      exact ih_71 (i9a + 1) (by omega) (by rw [show sp_al S (fun q => I9 kb9 (kd9 + q)) (i9a + 1) = pw_okb S (I9 kb9 (kd9 + 2 * i9a)) (I9 kb9 (kd9 + (2 * i9a + 1))) from if_neg hal]; rcases okb_ok S (I9 kb9 (kd9 + 2 * i9a)) (I9 kb9 (kd9 + (2 * i9a + 1))) with q | q; omega; exact absurd (by omega) q.2) (by omega) ls (lv_sub hl [1, 2, 3, 4, 5, 6, 7, 0] rfl)
                    · skip
                      refine lv_bipush (v := (iZ (-2))) hx hb dX8_strides_128 (by decide) ?_
                      exact re_p hx hb hr hk (by unfold an_str; rw [if_pos (by omega), show (nI kb9).toInt.toNat = kb9 by omega, show (nI kc9).toInt.toNat = kc9 by omega, show (nI ke9).toInt.toNat = ke9 by omega, show (nI kd9).toInt.toNat = kd9 by omega, show (nI ka9).toInt.toNat = ka9 by omega, if_neg (by omega), if_pos (bad_str (S := S) (R9 := (fun q => I9 kb9 (kd9 + q))) hal (by omega) (by omega))]) dX8_strides_130
            exact lp_71 _ 0 (Nat.zero_le _) (by intro q; exact absurd q Nat.one_ne_zero) (Nat.lt_succ_self _) ls (lv_sub hl [3, 4, 5, 6, 7, 8, 1, 0] rfl)
          · skip
            refine lv_iload hx hb dX8_strides_56 (lv_at hl 0 rfl) ?_
            exact re_p hx hb hr hk (by unfold an_str; rw [if_pos (by omega), show (nI kb9).toInt.toNat = kb9 by omega, show (nI kc9).toInt.toNat = kc9 by omega, show (nI ke9).toInt.toNat = ke9 by omega, if_pos (by omega)]) dX8_strides_58
        · skip
          refine lv_iconst (v := (iZ (-1))) hx hb dX8_strides_35 (by decide) ?_
          exact re_p hx hb hr hk (by unfold an_str; rw [if_neg (by omega)]) dX8_strides_36
