theorem ok_turns : rOk yX8_turns cX8_turns 3 none 1 := ⟨wc_X8_turns, wi_X8_turns, ws_X8_turns, rfl, by decide, by decide, by decide +kernel⟩
set_option maxHeartbeats 4000000 in
set_option maxRecDepth 100000 in
theorem k_turns (l : Launch) (g : RG) (z : RS) (mo : Nat) (S : Sc) (hz : rSc z S) (ho : oSc S) (tg : Nat) (htg : z.1 6 = nI tg) (hg1 : tg ≤ 1) (hmo : mo ≤ 100000) : rMv g l yX8_turns cX8_turns 3 none 4 91 [.int (nI mo)] z (fun z' => rSc z' (sp_turn S tg mo) ∧ rFr [] [5] z z') := by
  refine rMv_in (by decide) rfl (Nat.le_of_ble_eq_true rfl) ?_
  intro p e s m args below meth c A ls X hml hr hk hl w
  have hx := X.1
  have hb := X.2.1
  have hts := X.2.2.1
  have hown := X.2.2.2.1
  have hl : lv_has ls 3 [(0, .ref g.2.2.2.1), (1, .int (nI mo))] := hl
  obtain ⟨hz0, hz1, hz4, hm0, hm1, hm2, hso, hki, hsr, hpa, hhu, hco⟩ := id hz
  obtain ⟨o1, o2, o3, o4, o5, o6, oso, oki, osr, opa, ohu, oco⟩ := id ho
  refine lv_aload_n hx hb dX8_turns_0 rfl (lv_at hl 0 rfl) ?_
  refine rg_5 X w.1 dX8_turns_1 ?_
  refine lv_iconst (v := (nI 0)) hx hb dX8_turns_4 (by decide) ?_
  refine lv_iload_n hx hb dX8_turns_5 rfl (lv_at hl 1 rfl) ?_
  refine ru_5 X w (by omega) dX8_turns_6 (fun z_6 H locs ez_6 w => ?_)
  have hz_6 : rSc z_6 (sN S 3 mo) := by rw [ez_6]; exact rw_mo hz mo
  refine lv_aload_n hx hb dX8_turns_7 rfl (lv_at hl 0 rfl) ?_
  refine rg_5 X w.1 dX8_turns_8 ?_
  refine lv_iconst (v := (nI 1)) hx hb dX8_turns_11 (by decide) ?_
  refine lv_aload_n hx hb dX8_turns_12 rfl (lv_at hl 0 rfl) ?_
  refine lv_iload_n hx hb dX8_turns_13 rfl (lv_at hl 1 rfl) ?_
  refine rc_p (rest := [.int (nI 1), .ref (g.2.2.2.2 5)]) X hml hl.1 (k_runs l g z_6 mo (sN S 3 mo) hz_6 (oSc_mo ho hmo) (by omega)) ok_runs wm_X8_120 ⟨Nat.le_of_ble_eq_true rfl, Nat.le_of_ble_eq_true rfl⟩ ⟨Nat.le_refl _, Nat.le_refl _⟩ w.1 rfl (Nat.le_of_ble_eq_true rfl) dX8_turns_14 (fun r_14 hr_14 => ?_)
  have h9 : r_14 = nI (sp_run S mo) := hr_14
  subst h9
  have d_14 := sp_run_lt S ho mo
  refine ru_5 X w (by omega) dX8_turns_17 (fun z_17 H locs ez_17 w => ?_)
  have hz_17 : rSc z_17 (sN (sN S 3 mo) 4 (sp_run S mo + 1)) := by rw [ez_17]; exact rw_sd hz_6 _
  have fz_17 : rFr [] [5] z z_17 := by rw [ez_17, ez_6]; exact rFr_tr (rFr_A _ (by decide)) (rFr_A _ (by decide))
  refine lv_iconst (v := (nI 0)) hx hb dX8_turns_18 (by decide) ?_
  refine lv_istore_n (lv' := [(2, .int (nI 0)), (0, .ref g.2.2.2.1), (1, .int (nI mo))]) hx hb dX8_turns_19 rfl hl (by decide) rfl (fun ls hl => ?_)
  have lp_20 : ∀ (n_20 : Nat) (i : Nat) (hi : i ≤ 5) (hm_20 : 5 - i < n_20) (ls : Array Slot) (zz : RS) (H : Heap) (locs : List Loc) (w : rW g A s zz H locs) (hzz : rSc zz (sp_tl S tg mo i)) (hfz : rFr [] [5] z zz), lv_has ls 3 [(0, .ref g.2.2.2.1), (1, .int (nI mo)), (2, .int (nI i))] → W p l e (ro_m 4 91) s m args below meth c H locs 0 0 (MQ below (va_Qv (fun z' => rSc z' (sp_turn S tg mo) ∧ rFr [] [5] z z') (rB g A) A) args s 0 0 A) (F0 m 20 ls []) := by
    intro n_20
    induction n_20 with
    | zero => intro i hi hm; exact absurd hm (Nat.not_lt_zero _)
    | succ n_20 ih_20 =>
      intro i hi hm_20 ls zz H locs w hzz hfz hl
      refine lv_iload_n hx hb dX8_turns_20 rfl (lv_at hl 2 rfl) ?_
      refine lv_iconst (v := (nI 5)) hx hb dX8_turns_21 (by decide) ?_
      refine n_icmp_ge (tgt := 76) hx hb dX8_turns_22 (by decide) (by omega) (by omega) (fun c_22_1 => ?_) (fun c_22_1 => ?_)
      · skip
        exact re_v X hr hk w (⟨tl_e hzz (by omega), hfz⟩) dX8_turns_76
      · skip
        refine lv_aload_n hx hb dX8_turns_25 rfl (lv_at hl 0 rfl) ?_
        refine rg_5 X w.1 dX8_turns_26 ?_
        refine lv_bipush (v := (nI 8)) hx hb dX8_turns_29 (by decide) ?_
        refine lv_iload_n hx hb dX8_turns_31 rfl (lv_at hl 2 rfl) ?_
        refine n_iadd hx hb dX8_turns_32 ?_
        refine lv_iload_n hx hb dX8_turns_33 rfl (lv_at hl 2 rfl) ?_
        refine jn (tgt := 69) (rest := [.int (nI (8 + i)), .ref (g.2.2.2.2 5)]) (fun v9 => ∃ x9 : Nat, x9 = (if i = 0 then 99999 else (if (S.1 1) ≤ i then 99999 else (if (pc_dn S i) = 0 then (sp_com S tg i (sp_run S mo)) else 99999))) ∧ v9 = nI x9) (fun v_ hv_ => ?_) (fun k_69 => ?_)
        · obtain ⟨x_69, ex_69, rfl⟩ := hv_
          refine ru_5 X w (by omega) dX8_turns_69 (fun z_69 H locs ez_69 w => ?_)
          refine lv_iinc (v := (nI (i + 1))) (lv' := [(2, .int (nI (i + 1))), (0, .ref g.2.2.2.1), (1, .int (nI mo))]) hx hb dX8_turns_70 hl (k := 2) rfl (by first | exact nI_1 _ | (rw [show Int32.ofInt 1 = nI 1 from by decide, nI_add])) (by decide) rfl (fun ls hl => ?_)
          refine lv_goto (tgt := 20) hx hb dX8_turns_73 (by decide) ?_
          exact ih_20 (i + 1) (by omega) (by omega) ls z_69 _ _ w (by rw [ez_69, ex_69]; exact tl_s hzz (by omega)) (by rw [ez_69]; exact rFr_tr hfz (rFr_A _ (by decide))) (lv_sub hl [1, 2, 0] rfl)
        · skip
          refine n_if_eq (tgt := 53) hx hb dX8_turns_34 (by decide) (by omega) (fun c_34_3 => ?_) (fun c_34_3 => ?_)
          · skip
            refine lv_ldc hx hb hown (hts _ wk_X8_73) dX8_turns_53 ?_
            refine tp_i (show (99999 : Int32) = (nI 99999) from by decide) ?_
            refine lv_goto (tgt := 69) hx hb dX8_turns_55 (by decide) ?_
            exact k_69 _ ⟨_, by simp only [if_pos c_34_3], rfl⟩
          · skip
            refine lv_iload_n hx hb dX8_turns_37 rfl (lv_at hl 2 rfl) ?_
            refine lv_aload_n hx hb dX8_turns_38 rfl (lv_at hl 0 rfl) ?_
            refine rg_1 X w.1 dX8_turns_39 ?_
            refine tp_i (show zz.1 1 = (nI (S.1 1)) from (rs_nf hzz :)) ?_
            refine n_icmp_ge (tgt := 53) hx hb dX8_turns_42 (by decide) (by omega) (by omega) (fun c_42_4 => ?_) (fun c_42_4 => ?_)
            · skip
              refine lv_ldc hx hb hown (hts _ wk_X8_73) dX8_turns_53 ?_
              refine tp_i (show (99999 : Int32) = (nI 99999) from by decide) ?_
              refine lv_goto (tgt := 69) hx hb dX8_turns_55 (by decide) ?_
              exact k_69 _ ⟨_, by simp only [if_neg c_34_3, if_pos c_42_4], rfl⟩
            · skip
              refine lv_aload_n hx hb dX8_turns_45 rfl (lv_at hl 0 rfl) ?_
              refine lv_iload_n hx hb dX8_turns_46 rfl (lv_at hl 2 rfl) ?_
              refine rc_p (rest := [.int (nI (8 + i)), .ref (g.2.2.2.2 5)]) X hml hl.1 (k_downS l g zz i (sp_tl S tg mo i) hzz (oSc_tl ho tg i hmo) (by omega)) ok_isDown wm_X8_103 ⟨Nat.le_of_ble_eq_true rfl, Nat.le_of_ble_eq_true rfl⟩ ⟨Nat.le_refl _, Nat.le_refl _⟩ w.1 rfl (Nat.le_of_ble_eq_true rfl) dX8_turns_47 (fun r_47 hr_47 => ?_)
              have h9 : r_47 = nI (pc_dn S i) := hr_47
              subst h9
              have d_47 := pc_dn01 S i
              refine n_if_eq (tgt := 58) hx hb dX8_turns_50 (by decide) (by omega) (fun c_50_5 => ?_) (fun c_50_5 => ?_)
              · skip
                refine lv_aload_n hx hb dX8_turns_58 rfl (lv_at hl 0 rfl) ?_
                refine lv_iload_n hx hb dX8_turns_59 rfl (lv_at hl 2 rfl) ?_
                refine lv_aload_n hx hb dX8_turns_60 rfl (lv_at hl 0 rfl) ?_
                refine rg_5 X w.1 dX8_turns_61 ?_
                refine lv_iconst (v := (nI 1)) hx hb dX8_turns_64 (by decide) ?_
                refine rn_5 X w.1 (by omega) dX8_turns_65 ?_
                refine tp_i (show zz.2.1 5 1 = (nI (sp_run S mo)) from tl_sd hzz) ?_
                refine rc_p (rest := [.int (nI (8 + i)), .ref (g.2.2.2.2 5)]) X hml hl.1 (k_comesTo l g zz i (sp_run S mo) (sp_tl S tg mo i) hzz (oSc_tl ho tg i hmo) tg ((hfz.1 6 (by decide)).trans htg) hg1 (by omega) (by omega)) ok_comesTo wm_X8_177 ⟨Nat.le_of_ble_eq_true rfl, Nat.le_of_ble_eq_true rfl⟩ ⟨Nat.le_refl _, Nat.le_refl _⟩ w.1 rfl (Nat.le_of_ble_eq_true rfl) dX8_turns_66 (fun r_66 hr_66 => ?_)
                have h9 : r_66 = nI (sp_com S tg i (sp_run S mo)) := by rw [hr_66, ev_com (ev_tl S tg mo i)]
                subst h9
                exact k_69 _ ⟨_, by simp only [if_neg c_34_3, if_neg c_42_4, if_pos c_50_5], rfl⟩
              · skip
                refine lv_ldc hx hb hown (hts _ wk_X8_73) dX8_turns_53 ?_
                refine tp_i (show (99999 : Int32) = (nI 99999) from by decide) ?_
                refine lv_goto (tgt := 69) hx hb dX8_turns_55 (by decide) ?_
                exact k_69 _ ⟨_, by simp only [if_neg c_34_3, if_neg c_42_4, if_neg c_50_5], rfl⟩
  exact lp_20 _ 0 (by omega) (Nat.lt_succ_self _) ls z_17 _ _ w (tl_0 tg hz_17) fz_17 (lv_sub hl [1, 2, 0] rfl)

theorem ok_meets : rOk yX8_meets cX8_meets 5 (some .int) 1 := ⟨wc_X8_meets, wi_X8_meets, ws_X8_meets, rfl, by decide, by decide, by decide +kernel⟩
set_option maxHeartbeats 4000000 in
set_option maxRecDepth 100000 in
theorem k_meets (l : Launch) (g : RG) (z : RS) (en : Nat) (S : Sc) (hz : rSc z S) (ho : oSc S) (hen : en ≤ 1000000) : rMp g l yX8_meets cX8_meets 5 (some .int) 2 42 [.int (nI en)] z (fun r => r = pc_fd (sp_mt S en)) := by
  refine rMp_in (by decide) rfl (Nat.le_of_ble_eq_true rfl) ?_
  intro p e s m args below meth c ls X hml hr hk hl w
  have hx := X.1
  have hb := X.2.1
  have hts := X.2.2.1
  have hown := X.2.2.2.1
  have hl : lv_has ls 5 [(0, .ref g.2.2.2.1), (1, .int (nI en))] := hl
  obtain ⟨hz0, hz1, hz4, hm0, hm1, hm2, hso, hki, hsr, hpa, hhu, hco⟩ := id hz
  obtain ⟨o1, o2, o3, o4, o5, o6, oso, oki, osr, opa, ohu, oco⟩ := id ho
  refine lv_bipush (v := (iZ (-4))) hx hb dX8_meets_0 (by decide) ?_
  refine lv_istore_n (lv' := [(2, .int (iZ (-4))), (0, .ref g.2.2.2.1), (1, .int (nI en))]) hx hb dX8_meets_2 rfl hl (by decide) rfl (fun ls hl => ?_)
  refine lv_iconst (v := (nI 1)) hx hb dX8_meets_3 (by decide) ?_
  refine lv_istore_n (lv' := [(3, .int (nI 1)), (2, .int (iZ (-4))), (0, .ref g.2.2.2.1), (1, .int (nI en))]) hx hb dX8_meets_4 rfl hl (by decide) rfl (fun ls hl => ?_)
  have lp_5 : ∀ (n_5 : Nat) (i : Nat) (hi : i ≤ S.1 1 - 1) (hm_5 : S.1 1 - i < n_5) (ls : Array Slot), lv_has ls 5 [(0, .ref g.2.2.2.1), (1, .int (nI en)), (2, .int (pc_fd (sp_mtL S en i))), (3, .int (nI (i + 1)))] → W p l e (ro_m 2 42) s m args below meth c s.heap [] 0 0 (MQ below (vp_Si (fun r => r = pc_fd (sp_mt S en))) args s 0 0 (fun _ => False)) (F0 m 5 ls []) := by
    intro n_5
    induction n_5 with
    | zero => intro i hi hm; exact absurd hm (Nat.not_lt_zero _)
    | succ n_5 ih_5 =>
      intro i hi hm_5 ls hl
      have q1 := sp_mtL_le S en i
      have q2 := oco (i + 1)
      have q3 := oco (sp_mtL S en i)
      refine lv_iload_n hx hb dX8_meets_5 rfl (lv_at hl 3 rfl) ?_
      refine lv_aload_n hx hb dX8_meets_6 rfl (lv_at hl 0 rfl) ?_
      refine rg_1 X w dX8_meets_7 ?_
      refine tp_i (show z.1 1 = (nI (S.1 1)) from hz1) ?_
      refine n_icmp_ge (tgt := 85) hx hb dX8_meets_10 (by decide) (by omega) (by omega) (fun c_10_1 => ?_) (fun c_10_1 => ?_)
      · skip
        refine lv_iload_n hx hb dX8_meets_85 rfl (lv_at hl 2 rfl) ?_
        exact re_p hx hb hr hk (by rw [show i = S.1 1 - 1 by omega]; rfl) dX8_meets_86
      · skip
        refine lv_aload_n hx hb dX8_meets_13 rfl (lv_at hl 0 rfl) ?_
        refine lv_iload_n hx hb dX8_meets_14 rfl (lv_at hl 3 rfl) ?_
        refine rc_p (rest := []) X hml hl.1 (k_downS l g z (i + 1) S hz ho (by omega)) ok_isDown wm_X8_103 ⟨Nat.le_of_ble_eq_true rfl, Nat.le_of_ble_eq_true rfl⟩ ⟨Nat.le_refl _, Nat.le_refl _⟩ w rfl (Nat.le_of_ble_eq_true rfl) dX8_meets_15 (fun r_15 hr_15 => ?_)
        subst hr_15
        have d_15 := pc_dn01 S (i + 1)
        refine jn (tgt := 66) (rest := []) (fun v9 => ∃ x9 : Nat, x9 = (if (pc_dn S (i + 1)) = 0 then (if en < (S.2.1 5 (i + 1)) then 0 else (if ((pc_fd (sp_mtL S en i))) = ((iZ (-4))) then 1 else (if (S.2.1 5 (sp_mtL S en i)) ≤ (S.2.1 5 (i + 1)) then 0 else 1))) else 0) ∧ v9 = nI x9) (fun v_ hv_ => ?_) (fun k_66 => ?_)
        · obtain ⟨x_66, ex_66, rfl⟩ := hv_
          have q9 : x_66 ≤ 1 := by rw [ex_66]; split; split; omega; split; omega; split <;> omega; omega
          refine lv_istore (lv' := [(4, .int (nI x_66)), (0, .ref g.2.2.2.1), (1, .int (nI en)), (2, .int (pc_fd (sp_mtL S en i))), (3, .int (nI (i + 1)))]) hx hb dX8_meets_66 hl (by decide) rfl (fun ls hl => ?_)
          refine lv_iload hx hb dX8_meets_68 (lv_at hl 0 rfl) ?_
          refine jn (tgt := 78) (rest := []) (fun v9 => v9 = (if x_66 = 0 then ((pc_fd (sp_mtL S en i))) else ((nI (i + 1))))) (fun x_78 ex_78 => ?_) (fun k_78 => ?_)
          · skip
            refine lv_istore_n (lv' := [(2, .int x_78), (4, .int (nI x_66)), (0, .ref g.2.2.2.1), (1, .int (nI en)), (3, .int (nI (i + 1)))]) hx hb dX8_meets_78 rfl hl (by decide) rfl (fun ls hl => ?_)
            refine lv_iinc (v := (nI (i + 1 + 1))) (lv' := [(3, .int (nI (i + 1 + 1))), (2, .int x_78), (4, .int (nI x_66)), (0, .ref g.2.2.2.1), (1, .int (nI en))]) hx hb dX8_meets_79 hl (k := 4) rfl (by first | exact nI_1 _ | (rw [show Int32.ofInt 1 = nI 1 from by decide, nI_add])) (by decide) rfl (fun ls hl => ?_)
            refine lv_goto (tgt := 5) hx hb dX8_meets_82 (by decide) ?_
            rw [mt_s (by omega) ex_66 ex_78] at hl
            exact ih_5 (i + 1) (by omega) (by omega) ls (lv_sub hl [3, 4, 1, 0] rfl)
          · skip
            refine n_if_eq (tgt := 77) hx hb dX8_meets_70 (by decide) (by omega) (fun c_70_4 => ?_) (fun c_70_4 => ?_)
            · skip
              refine lv_iload_n hx hb dX8_meets_77 rfl (lv_at hl 3 rfl) ?_
              exact k_78 _ (by simp only [if_pos c_70_4])
            · skip
              refine lv_iload_n hx hb dX8_meets_73 rfl (lv_at hl 4 rfl) ?_
              refine lv_goto (tgt := 78) hx hb dX8_meets_74 (by decide) ?_
              exact k_78 _ (by simp only [if_neg c_70_4])
        · skip
          refine n_if_ne (tgt := 65) hx hb dX8_meets_18 (by decide) (by omega) (fun c_18_5 => ?_) (fun c_18_5 => ?_)
          · skip
            refine lv_iconst (v := (nI 0)) hx hb dX8_meets_65 (by decide) ?_
            exact k_66 _ ⟨_, by simp only [if_neg c_18_5], rfl⟩
          · skip
            refine lv_aload_n hx hb dX8_meets_21 rfl (lv_at hl 0 rfl) ?_
            refine rg_5 X w dX8_meets_22 ?_
            refine lv_bipush (v := (nI 8)) hx hb dX8_meets_25 (by decide) ?_
            refine lv_iload_n hx hb dX8_meets_27 rfl (lv_at hl 3 rfl) ?_
            refine n_iadd hx hb dX8_meets_28 ?_
            refine rn_5 X w (by omega) dX8_meets_29 ?_
            refine tp_i (show z.2.1 5 (8 + (i + 1)) = (nI (S.2.1 5 (i + 1))) from hco (i + 1) (by omega)) ?_
            refine lv_iload_n hx hb dX8_meets_30 rfl (lv_at hl 1 rfl) ?_
            refine n_icmp_gt (tgt := 65) hx hb dX8_meets_31 (by decide) (by omega) (by omega) (fun c_31_6 => ?_) (fun c_31_6 => ?_)
            · skip
              refine lv_iconst (v := (nI 0)) hx hb dX8_meets_65 (by decide) ?_
              exact k_66 _ ⟨_, by simp only [if_pos c_18_5, if_pos c_31_6], rfl⟩
            · skip
              refine lv_iload_n hx hb dX8_meets_34 rfl (lv_at hl 2 rfl) ?_
              refine lv_bipush (v := (iZ (-4))) hx hb dX8_meets_35 (by decide) ?_
              refine lv_icmp_eq (tgt := 61) hx hb dX8_meets_37 (by decide) (fun c_37_7 => ?_) (fun c_37_7 => ?_)
              · skip
                refine lv_iconst (v := (nI 1)) hx hb dX8_meets_61 (by decide) ?_
                refine lv_goto (tgt := 66) hx hb dX8_meets_62 (by decide) ?_
                exact k_66 _ ⟨_, by simp only [if_pos c_18_5, if_neg c_31_6, if_pos c_37_7], rfl⟩
              · skip
                refine lv_aload_n hx hb dX8_meets_40 rfl (lv_at hl 0 rfl) ?_
                refine rg_5 X w dX8_meets_41 ?_
                refine lv_bipush (v := (nI 8)) hx hb dX8_meets_44 (by decide) ?_
                refine lv_iload_n hx hb dX8_meets_46 rfl (lv_at hl 3 rfl) ?_
                refine n_iadd hx hb dX8_meets_47 ?_
                refine rn_5 X w (by omega) dX8_meets_48 ?_
                refine tp_i (show z.2.1 5 (8 + (i + 1)) = (nI (S.2.1 5 (i + 1))) from hco (i + 1) (by omega)) ?_
                refine lv_aload_n hx hb dX8_meets_49 rfl (lv_at hl 0 rfl) ?_
                refine rg_5 X w dX8_meets_50 ?_
                refine lv_bipush (v := (nI 8)) hx hb dX8_meets_53 (by decide) ?_
                refine lv_iload_n hx hb dX8_meets_55 rfl (lv_at hl 2 rfl) ?_
                refine tp_i (pc_fd_n (by assumption) : (pc_fd (sp_mtL S en i)) = (nI (sp_mtL S en i))) ?_
                refine n_iadd hx hb dX8_meets_56 ?_
                refine rn_5 X w (by omega) dX8_meets_57 ?_
                refine tp_i (show z.2.1 5 (8 + (sp_mtL S en i)) = (nI (S.2.1 5 (sp_mtL S en i))) from hco (sp_mtL S en i) (by omega)) ?_
                refine n_icmp_ge (tgt := 65) hx hb dX8_meets_58 (by decide) (by omega) (by omega) (fun c_58_8 => ?_) (fun c_58_8 => ?_)
                · skip
                  refine lv_iconst (v := (nI 0)) hx hb dX8_meets_65 (by decide) ?_
                  exact k_66 _ ⟨_, by simp only [if_pos c_18_5, if_neg c_31_6, if_neg c_37_7, if_pos c_58_8], rfl⟩
                · skip
                  refine lv_iconst (v := (nI 1)) hx hb dX8_meets_61 (by decide) ?_
                  refine lv_goto (tgt := 66) hx hb dX8_meets_62 (by decide) ?_
                  exact k_66 _ ⟨_, by simp only [if_pos c_18_5, if_neg c_31_6, if_neg c_37_7, if_neg c_58_8], rfl⟩
  exact lp_5 _ 0 (Nat.zero_le _) (Nat.lt_succ_self _) ls (lv_sub hl [2, 3, 1, 0] rfl)

theorem ok_fights : rOk yX8_fights cX8_fights 5 (some .int) 0 := ⟨wc_X8_fights, wi_X8_fights, ws_X8_fights, rfl, by decide, by decide, by decide +kernel⟩
set_option maxHeartbeats 4000000 in
set_option maxRecDepth 100000 in
theorem k_fights (l : Launch) (g : RG) (z : RS)  (S : Sc) (hz : rSc z S) (ho : oSc S) (hmo : S.1 3 < 100000) : rMi g l yX8_fights cX8_fights 5 (some .int) 3 66 [] z (fun r z' => r = sp_fgA S ∧ rSc z' (sp_fgS S) ∧ rFr [] [5] z z') := by
  refine rMi_in (by decide) rfl (Nat.le_of_ble_eq_true rfl) ?_
  intro p e s m args below meth c A ls X hml hr hk hl w
  have hx := X.1
  have hb := X.2.1
  have hts := X.2.2.1
  have hown := X.2.2.2.1
  have hl : lv_has ls 5 [(0, .ref g.2.2.2.1)] := hl
  obtain ⟨hz0, hz1, hz4, hm0, hm1, hm2, hso, hki, hsr, hpa, hhu, hco⟩ := id hz
  obtain ⟨o1, o2, o3, o4, o5, o6, oso, oki, osr, opa, ohu, oco⟩ := id ho
  have q1 := ohu 0
  have u0 := sp_frc_le S ho 0
  refine lv_aload_n hx hb dX8_fights_0 rfl (lv_at hl 0 rfl) ?_
  refine rg_5 X w.1 dX8_fights_1 ?_
  refine lv_iconst (v := (nI 0)) hx hb dX8_fights_4 (by decide) ?_
  refine lv_dup2_11 hx hb dX8_fights_5 rfl rfl ?_
  refine rn_5 X w.1 (by omega) dX8_fights_6 ?_
  refine tp_i (show z.2.1 5 0 = (nI (S.1 3)) from hm0) ?_
  refine lv_iconst (v := (nI 1)) hx hb dX8_fights_7 (by decide) ?_
  refine n_iadd hx hb dX8_fights_8 ?_
  refine ru_5 X w (by omega) dX8_fights_9 (fun z_9 H locs ez_9 w => ?_)
  have hz_9 : rSc z_9 (sN S 3 (S.1 3 + 1)) := by rw [ez_9]; exact rw_mo hz _
  have ho_9 : oSc (sN S 3 (S.1 3 + 1)) := oSc_mo ho (by omega)
  refine lv_aload_n hx hb dX8_fights_10 rfl (lv_at hl 0 rfl) ?_
  refine lv_aload_n hx hb dX8_fights_11 rfl (lv_at hl 0 rfl) ?_
  refine rg_5 X w.1 dX8_fights_12 ?_
  refine lv_iconst (v := (nI 0)) hx hb dX8_fights_15 (by decide) ?_
  refine rn_5 X w.1 (by omega) dX8_fights_16 ?_
  refine tp_i (show z_9.2.1 5 0 = (nI (S.1 3 + 1)) from (rs_mo hz_9 :)) ?_
  refine rc_p (rest := []) X hml hl.1 (k_meets l g z_9 (S.1 3 + 1) (sN S 3 (S.1 3 + 1)) hz_9 ho_9 (by omega)) ok_meets wm_X8_180 ⟨Nat.le_of_ble_eq_true rfl, Nat.le_of_ble_eq_true rfl⟩ ⟨Nat.le_refl _, Nat.le_refl _⟩ w.1 rfl (Nat.le_of_ble_eq_true rfl) dX8_fights_17 (fun r_17 hr_17 => ?_)
  have h9 : r_17 = pc_fd (sp_mt S (S.1 3 + 1)) := by rw [hr_17]; exact congrArg pc_fd (eb_mtL (S' := sN S 3 (S.1 3 + 1)) (S := S) rfl _ _)
  subst h9
  refine lv_istore_n (lv' := [(1, .int (pc_fd (sp_mt S (S.1 3 + 1)))), (0, .ref g.2.2.2.1)]) hx hb dX8_fights_20 rfl hl (by decide) rfl (fun ls hl => ?_)
  refine lv_iload_n hx hb dX8_fights_21 rfl (lv_at hl 0 rfl) ?_
  refine lv_bipush (v := (iZ (-4))) hx hb dX8_fights_22 (by decide) ?_
  refine lv_icmp_ne (tgt := 30) hx hb dX8_fights_24 (by decide) (fun c_24_1 => ?_) (fun c_24_1 => ?_)
  · skip
    have hf9 := pc_fd_n (n := sp_mt S (S.1 3 + 1)) (by assumption)
    rw [hf9] at hl
    have qF : sp_mt S (S.1 3 + 1) ≤ S.1 1 - 1 := sp_mtL_le S (S.1 3 + 1) (S.1 1 - 1)
    have qF0 : ¬ sp_mt S (S.1 3 + 1) = 0 := fun q => (by assumption : ¬ pc_fd (sp_mt S (S.1 3 + 1)) = iZ (-4)) ((pc_fd_4 (by omega)).mpr q)
    obtain ⟨F, hF⟩ : ∃ F, F = sp_mt S (S.1 3 + 1) := ⟨_, rfl⟩
    rw [← hF] at hl qF qF0
    refine lv_iconst (v := (nI 0)) hx hb dX8_fights_30 (by decide) ?_
    refine lv_istore_n (lv' := [(2, .int (nI 0)), (1, .int (nI F)), (0, .ref g.2.2.2.1)]) hx hb dX8_fights_31 rfl hl (by decide) rfl (fun ls hl => ?_)
    refine lv_iconst (v := (nI 1)) hx hb dX8_fights_32 (by decide) ?_
    refine lv_istore_n (lv' := [(3, .int (nI 1)), (2, .int (nI 0)), (1, .int (nI F)), (0, .ref g.2.2.2.1)]) hx hb dX8_fights_33 rfl hl (by decide) rfl (fun ls hl => ?_)
    have lp_34 : ∀ (n_34 : Nat) (i : Nat) (hi : i ≤ S.1 1 - 1) (hm_34 : S.1 1 - i < n_34) (ls : Array Slot), lv_has ls 5 [(0, .ref g.2.2.2.1), (1, .int (nI F)), (2, .int (nI (sp_otL S (S.1 3 + 1) F i))), (3, .int (nI (i + 1)))] → W p l e (ro_m 3 66) s m args below meth c H locs 0 0 (MQ below (va_Qi (fun r z' => r = sp_fgA S ∧ rSc z' (sp_fgS S) ∧ rFr [] [5] z z') (rB g A) A) args s 0 0 A) (F0 m 34 ls []) := by
      intro n_34
      induction n_34 with
      | zero => intro i hi hm; exact absurd hm (Nat.not_lt_zero _)
      | succ n_34 ih_34 =>
        intro i hi hm_34 ls hl
        have q2 := oco (i + 1)
        have q3 := sp_otL_le S (S.1 3 + 1) F i
        refine lv_iload_n hx hb dX8_fights_34 rfl (lv_at hl 3 rfl) ?_
        refine lv_aload_n hx hb dX8_fights_35 rfl (lv_at hl 0 rfl) ?_
        refine rg_1 X w.1 dX8_fights_36 ?_
        refine tp_i (show z_9.1 1 = (nI (S.1 1)) from (rs_nf hz_9 :)) ?_
        refine n_icmp_ge (tgt := 87) hx hb dX8_fights_39 (by decide) (by omega) (by omega) (fun c_39_2 => ?_) (fun c_39_2 => ?_)
        · skip
          refine lv_bipush (v := (nI 8)) hx hb dX8_fights_87 (by decide) ?_
          refine lv_aload_n hx hb dX8_fights_89 rfl (lv_at hl 0 rfl) ?_
          refine lv_iconst (v := (nI 0)) hx hb dX8_fights_90 (by decide) ?_
          refine lv_aload_n hx hb dX8_fights_91 rfl (lv_at hl 0 rfl) ?_
          refine lv_iconst (v := (nI 0)) hx hb dX8_fights_92 (by decide) ?_
          refine rc_p (rest := [.int (nI 0), .ref g.2.2.2.1, .int (nI 8)]) X hml hl.1 (k_hurtS l g z_9 0 (sN S 3 (S.1 3 + 1)) hz_9 ho_9 (by omega)) ok_hurtOf wm_X8_91 ⟨Nat.le_of_ble_eq_true rfl, Nat.le_of_ble_eq_true rfl⟩ ⟨Nat.le_refl _, Nat.le_refl _⟩ w.1 rfl (Nat.le_of_ble_eq_true rfl) dX8_fights_93 (fun r_93 hr_93 => ?_)
          have h9 : r_93 = nI (S.2.1 4 0) := hr_93
          subst h9
          refine rc_p (rest := [.int (nI 8)]) X hml hl.1 (k_force l g z_9 0 (S.2.1 4 0) (sN S 3 (S.1 3 + 1)) hz_9 ho_9 (by omega) (ohu 0)) ok_force wm_X8_126 ⟨Nat.le_of_ble_eq_true rfl, Nat.le_of_ble_eq_true rfl⟩ ⟨Nat.le_refl _, Nat.le_refl _⟩ w.1 rfl (Nat.le_of_ble_eq_true rfl) dX8_fights_96 (fun r_96 hr_96 => ?_)
          have h9 : r_96 = nI (sp_frc S 0) := hr_96
          subst h9
          refine n_iadd hx hb dX8_fights_99 ?_
          refine lv_aload_n hx hb dX8_fights_100 rfl (lv_at hl 0 rfl) ?_
          refine lv_iload_n hx hb dX8_fights_101 rfl (lv_at hl 1 rfl) ?_
          refine lv_aload_n hx hb dX8_fights_102 rfl (lv_at hl 0 rfl) ?_
          refine lv_iload_n hx hb dX8_fights_103 rfl (lv_at hl 1 rfl) ?_
          refine rc_p (rest := [.int (nI F), .ref g.2.2.2.1, .int (nI (8 + (sp_frc S 0)))]) X hml hl.1 (k_hurtS l g z_9 F (sN S 3 (S.1 3 + 1)) hz_9 ho_9 (by omega)) ok_hurtOf wm_X8_91 ⟨Nat.le_of_ble_eq_true rfl, Nat.le_of_ble_eq_true rfl⟩ ⟨Nat.le_refl _, Nat.le_refl _⟩ w.1 rfl (Nat.le_of_ble_eq_true rfl) dX8_fights_104 (fun r_104 hr_104 => ?_)
          have h9 : r_104 = nI (S.2.1 4 F) := hr_104
          subst h9
          refine rc_p (rest := [.int (nI (8 + (sp_frc S 0)))]) X hml hl.1 (k_force l g z_9 F (S.2.1 4 F) (sN S 3 (S.1 3 + 1)) hz_9 ho_9 (by omega) (ohu F)) ok_force wm_X8_126 ⟨Nat.le_of_ble_eq_true rfl, Nat.le_of_ble_eq_true rfl⟩ ⟨Nat.le_refl _, Nat.le_refl _⟩ w.1 rfl (Nat.le_of_ble_eq_true rfl) dX8_fights_107 (fun r_107 hr_107 => ?_)
          have h9 : r_107 = nI (sp_frc S F) := hr_107
          subst h9
          have uF := sp_frc_le S ho F
          refine tp_i (iZ_n (sp_frc S F)).symm ?_
          refine tp_i2 (iZ_n (8 + (sp_frc S 0))).symm ?_
          refine z_isub hx hb dX8_fights_110 ?_
          refine lv_iconst (v := (nI 2)) hx hb dX8_fights_111 (by decide) ?_
          refine lv_iload_n hx hb dX8_fights_112 rfl (lv_at hl 2 rfl) ?_
          refine n_imul hx hb dX8_fights_113 ?_
          refine tp_i (iZ_n (2 * (sp_otL S (S.1 3 + 1) F i))).symm ?_
          refine z_isub hx hb dX8_fights_114 ?_
          refine rc_s (rest := []) ⟨X.1, X.2.1, X.2.2.1, X.2.2.2.1⟩ hml hl.1 (k_between l (((((8 + (sp_frc S 0) : Nat) : Int)) - (((sp_frc S F : Nat) : Int))) - (((2 * (sp_otL S (S.1 3 + 1) F i) : Nat) : Int))) (by omega) (by omega)) ok_between wm_X8_183 ⟨Nat.le_of_ble_eq_true rfl, Nat.le_of_ble_eq_true rfl⟩ ⟨Nat.le_refl _, Nat.le_refl _⟩ rfl (Nat.le_of_ble_eq_true rfl) dX8_fights_115 (fun r_115 hr_115 => ?_)
          have h9 : r_115 = nI (sp_odds S F) := by rw [hr_115]; unfold sp_odds; rw [show i = S.1 1 - 1 by omega]; rfl
          subst h9
          refine lv_istore_n (lv' := [(3, .int (nI (sp_odds S F))), (0, .ref g.2.2.2.1), (1, .int (nI F)), (2, .int (nI (sp_otL S (S.1 3 + 1) F i)))]) hx hb dX8_fights_118 rfl hl (by decide) rfl (fun ls hl => ?_)
          refine lv_aload_n hx hb dX8_fights_119 rfl (lv_at hl 1 rfl) ?_
          refine rg_5 X w.1 dX8_fights_120 ?_
          refine lv_iconst (v := (nI 2)) hx hb dX8_fights_123 (by decide) ?_
          refine lv_aload_n hx hb dX8_fights_124 rfl (lv_at hl 1 rfl) ?_
          refine rg_5 X w.1 dX8_fights_125 ?_
          refine lv_iconst (v := (nI 2)) hx hb dX8_fights_128 (by decide) ?_
          refine rn_5 X w.1 (by omega) dX8_fights_129 ?_
          refine tp_i (show z_9.2.1 5 2 = S.2.2 from (rs_dr hz_9 :)) ?_
          refine lv_ldc hx hb hown (hts _ wk_X8_186) dX8_fights_130 ?_
          refine tp_i (show (1103515245 : Int32) = (nI 1103515245) from by decide) ?_
          refine lv_imul hx hb dX8_fights_132 ?_
          refine lv_sipush (v := (nI 12345)) hx hb dX8_fights_133 (by decide) ?_
          refine lv_iadd hx hb dX8_fights_136 ?_
          refine lv_ldc hx hb hown (hts _ wk_X8_187) dX8_fights_137 ?_
          refine tp_i (show (2147483647 : Int32) = (nI 2147483647) from by decide) ?_
          refine lv_iand hx hb dX8_fights_139 ?_
          refine tp_i (rfl : (S.2.2 * (nI 1103515245)) + (nI 12345) &&& (nI 2147483647) = (pc_nx S.2.2)) ?_
          refine ru_5 X w (by omega) dX8_fights_140 (fun z_140 H locs ez_140 w => ?_)
          have hz_140 : rSc z_140 (sD (sN S 3 (S.1 3 + 1)) (pc_nx S.2.2)) := by rw [ez_140]; exact rw_dr hz_9 _
          refine lv_iload_n hx hb dX8_fights_141 rfl (lv_at hl 0 rfl) ?_
          refine lv_aload_n hx hb dX8_fights_142 rfl (lv_at hl 1 rfl) ?_
          refine rg_5 X w.1 dX8_fights_143 ?_
          refine lv_iconst (v := (nI 2)) hx hb dX8_fights_146 (by decide) ?_
          refine rn_5 X w.1 (by omega) dX8_fights_147 ?_
          refine tp_i (show z_140.2.1 5 2 = (pc_nx S.2.2) from (rs_dr hz_140 :)) ?_
          refine lv_ldc hx hb hown (hts _ wk_X8_188) dX8_fights_148 ?_
          refine tp_i (show (65536 : Int32) = (nI 65536) from by decide) ?_
          refine lv_idiv hx hb dX8_fights_150 (by decide) ?_
          refine lv_bipush (v := (nI 16)) hx hb dX8_fights_151 (by decide) ?_
          refine lv_irem hx hb dX8_fights_153 (by decide) ?_
          refine tp_i (rfl : (pc_nx S.2.2) / (nI 65536) - (pc_nx S.2.2) / (nI 65536) / (nI 16) * (nI 16) = (pc_d16 (pc_nx S.2.2))) ?_
          refine jn (tgt := 162) (rest := []) (fun v9 => ∃ x9 : Nat, x9 = (if ((nI (sp_odds S F))) ≤ ((pc_d16 (pc_nx S.2.2))) then 0 else F) ∧ v9 = nI x9) (fun v_ hv_ => ?_) (fun k_162 => ?_)
          · obtain ⟨x_162, ex_162, rfl⟩ := hv_
            have q9 : x_162 < 5 := by rw [ex_162]; split <;> omega
            have q8 : x_162 = sp_who S F := ex_162
            refine lv_istore (lv' := [(4, .int (nI x_162)), (3, .int (nI (sp_odds S F))), (0, .ref g.2.2.2.1), (1, .int (nI F)), (2, .int (nI (sp_otL S (S.1 3 + 1) F i)))]) hx hb dX8_fights_162 hl (by decide) rfl (fun ls hl => ?_)
            refine lv_aload_n hx hb dX8_fights_164 rfl (lv_at hl 2 rfl) ?_
            refine rg_5 X w.1 dX8_fights_165 ?_
            refine lv_iconst (v := (nI 3)) hx hb dX8_fights_168 (by decide) ?_
            refine lv_iload hx hb dX8_fights_169 (lv_at hl 0 rfl) ?_
            refine n_iadd hx hb dX8_fights_171 ?_
            refine lv_dup2_11 hx hb dX8_fights_172 rfl rfl ?_
            refine rn_5 X w.1 (by omega) dX8_fights_173 ?_
            refine tp_i (show z_140.2.1 5 (3 + x_162) = (nI (S.2.1 4 x_162)) from (rs_hu hz_140 x_162 (by omega) :)) ?_
            refine lv_iconst (v := (nI 1)) hx hb dX8_fights_174 (by decide) ?_
            refine n_iadd hx hb dX8_fights_175 ?_
            refine ru_5 X w (by omega) dX8_fights_176 (fun z_176 H locs ez_176 w => ?_)
            refine lv_iload hx hb dX8_fights_177 (lv_at hl 0 rfl) ?_
            exact re_i X hr hk w (⟨by unfold sp_fgA; rw [← hF, if_neg qF0, q8], by unfold sp_fgS; rw [← hF, if_neg qF0, ez_176, ← q8]; exact rw_hu hz_140 _ q9 _, by rw [ez_176, ez_140, ez_9]; exact rFr_tr (rFr_tr (rFr_A _ (by decide)) (rFr_A _ (by decide))) (rFr_A _ (by decide))⟩) dX8_fights_179
          · skip
            refine tp_i (rfl : (pc_d16 (pc_nx S.2.2)) = (pc_d16 (pc_nx S.2.2))) ?_
            refine lv_icmp_le (tgt := 161) hx hb dX8_fights_154 (by decide) (fun c_154_4 => ?_) (fun c_154_4 => ?_)
            · skip
              refine lv_iconst (v := (nI 0)) hx hb dX8_fights_161 (by decide) ?_
              exact k_162 _ ⟨_, by simp only [if_pos c_154_4], rfl⟩
            · skip
              refine lv_iload_n hx hb dX8_fights_157 rfl (lv_at hl 2 rfl) ?_
              refine lv_goto (tgt := 162) hx hb dX8_fights_158 (by decide) ?_
              exact k_162 _ ⟨_, by simp only [if_neg c_154_4], rfl⟩
        · skip
          refine lv_iload_n hx hb dX8_fights_42 rfl (lv_at hl 2 rfl) ?_
          refine lv_iload_n hx hb dX8_fights_43 rfl (lv_at hl 3 rfl) ?_
          refine lv_iload_n hx hb dX8_fights_44 rfl (lv_at hl 1 rfl) ?_
          refine jn (tgt := 79) (rest := [.int (nI (sp_otL S (S.1 3 + 1) F i))]) (fun v9 => ∃ x9 : Nat, x9 = (if (i + 1) = F then 0 else (if (pc_dn S (i + 1)) = 0 then (if (S.1 3 + 1) < (S.2.1 5 (i + 1)) then 0 else 1) else 0)) ∧ v9 = nI x9) (fun v_ hv_ => ?_) (fun k_79 => ?_)
          · obtain ⟨x_79, ex_79, rfl⟩ := hv_
            refine n_iadd hx hb dX8_fights_79 ?_
            refine lv_istore_n (lv' := [(2, .int (nI ((sp_otL S (S.1 3 + 1) F i) + x_79))), (0, .ref g.2.2.2.1), (1, .int (nI F)), (3, .int (nI (i + 1)))]) hx hb dX8_fights_80 rfl hl (by decide) rfl (fun ls hl => ?_)
            refine lv_iinc (v := (nI (i + 1 + 1))) (lv' := [(3, .int (nI (i + 1 + 1))), (2, .int (nI ((sp_otL S (S.1 3 + 1) F i) + x_79))), (0, .ref g.2.2.2.1), (1, .int (nI F))]) hx hb dX8_fights_81 hl (k := 3) rfl (by first | exact nI_1 _ | (rw [show Int32.ofInt 1 = nI 1 from by decide, nI_add])) (by decide) rfl (fun ls hl => ?_)
            refine lv_goto (tgt := 34) hx hb dX8_fights_84 (by decide) ?_
            subst ex_79
            exact ih_34 (i + 1) (by omega) (by omega) ls (lv_sub hl [2, 3, 1, 0] rfl)
          · skip
            refine n_icmp_eq (tgt := 78) hx hb dX8_fights_45 (by decide) (by omega) (by omega) (fun c_45_6 => ?_) (fun c_45_6 => ?_)
            · skip
              refine lv_iconst (v := (nI 0)) hx hb dX8_fights_78 (by decide) ?_
              exact k_79 _ ⟨_, by simp only [if_pos c_45_6], rfl⟩
            · skip
              refine lv_aload_n hx hb dX8_fights_48 rfl (lv_at hl 0 rfl) ?_
              refine lv_iload_n hx hb dX8_fights_49 rfl (lv_at hl 3 rfl) ?_
              refine rc_p (rest := [.int (nI (sp_otL S (S.1 3 + 1) F i))]) X hml hl.1 (k_downS l g z_9 (i + 1) (sN S 3 (S.1 3 + 1)) hz_9 ho_9 (by omega)) ok_isDown wm_X8_103 ⟨Nat.le_of_ble_eq_true rfl, Nat.le_of_ble_eq_true rfl⟩ ⟨Nat.le_refl _, Nat.le_refl _⟩ w.1 rfl (Nat.le_of_ble_eq_true rfl) dX8_fights_50 (fun r_50 hr_50 => ?_)
              have h9 : r_50 = nI (pc_dn S (i + 1)) := hr_50
              subst h9
              have d_50 := pc_dn01 S (i + 1)
              refine n_if_ne (tgt := 78) hx hb dX8_fights_53 (by decide) (by omega) (fun c_53_7 => ?_) (fun c_53_7 => ?_)
              · skip
                refine lv_iconst (v := (nI 0)) hx hb dX8_fights_78 (by decide) ?_
                exact k_79 _ ⟨_, by simp only [if_neg c_45_6, if_neg c_53_7], rfl⟩
              · skip
                refine lv_aload_n hx hb dX8_fights_56 rfl (lv_at hl 0 rfl) ?_
                refine rg_5 X w.1 dX8_fights_57 ?_
                refine lv_bipush (v := (nI 8)) hx hb dX8_fights_60 (by decide) ?_
                refine lv_iload_n hx hb dX8_fights_62 rfl (lv_at hl 3 rfl) ?_
                refine n_iadd hx hb dX8_fights_63 ?_
                refine rn_5 X w.1 (by omega) dX8_fights_64 ?_
                refine tp_i (show z_9.2.1 5 (8 + (i + 1)) = (nI (S.2.1 5 (i + 1))) from (rs_co hz_9 (i + 1) (by omega) :)) ?_
                refine lv_aload_n hx hb dX8_fights_65 rfl (lv_at hl 0 rfl) ?_
                refine rg_5 X w.1 dX8_fights_66 ?_
                refine lv_iconst (v := (nI 0)) hx hb dX8_fights_69 (by decide) ?_
                refine rn_5 X w.1 (by omega) dX8_fights_70 ?_
                refine tp_i (show z_9.2.1 5 0 = (nI (S.1 3 + 1)) from (rs_mo hz_9 :)) ?_
                refine n_icmp_gt (tgt := 78) hx hb dX8_fights_71 (by decide) (by omega) (by omega) (fun c_71_8 => ?_) (fun c_71_8 => ?_)
                · skip
                  refine lv_iconst (v := (nI 0)) hx hb dX8_fights_78 (by decide) ?_
                  exact k_79 _ ⟨_, by simp only [if_neg c_45_6, if_pos c_53_7, if_pos c_71_8], rfl⟩
                · skip
                  refine lv_iconst (v := (nI 1)) hx hb dX8_fights_74 (by decide) ?_
                  refine lv_goto (tgt := 79) hx hb dX8_fights_75 (by decide) ?_
                  exact k_79 _ ⟨_, by simp only [if_neg c_45_6, if_pos c_53_7, if_neg c_71_8], rfl⟩
    exact lp_34 _ 0 (Nat.zero_le _) (Nat.lt_succ_self _) ls (lv_sub hl [3, 2, 1, 0] rfl)
  · skip
    refine lv_bipush (v := (iZ (-4))) hx hb dX8_fights_27 (by decide) ?_
    exact re_i X hr hk w (⟨by unfold sp_fgA; rw [if_pos ((pc_fd_4 (by have := sp_mtL_le S (S.1 3 + 1) (S.1 1 - 1); unfold sp_mt; omega)).mp (by assumption))], by unfold sp_fgS; rw [if_pos ((pc_fd_4 (by have := sp_mtL_le S (S.1 3 + 1) (S.1 1 - 1); unfold sp_mt; omega)).mp (by assumption))]; exact hz_9, by rw [ez_9]; exact rFr_A _ (by decide)⟩) dX8_fights_29
