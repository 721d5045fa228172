theorem ok_fought : rOk yX8_fought cX8_fought 11 (some .int) 6 := ⟨wc_X8_fought, wi_X8_fought, ws_X8_fought, rfl, by decide, by decide, by decide +kernel⟩
set_option maxHeartbeats 4000000 in
set_option maxRecDepth 100000 in
theorem k_fought (l : Launch) (g : RG) (z : RS) (ka9 : Nat) (na9 : Nat) (hi9 : Nat) (ow9 : Nat) (ot9 : Nat) (S : Sc) (hz : rSc z S) (ho : oSc S) (nr : Nat) (ro V9 : Nat → Nat) (hro : rRo z nr ro) (hlt : rLt z V9) (hna : na9 = nr) (hka : ka9 < na9) (hhi : hi9 < 6) (how : ow9 < 6) (hot : ot9 ≤ 4) : rMp g l yX8_fought cX8_fought 11 (some .int) 1 23 [.int (nI ka9), .int (nI na9), .int (nI hi9), .int (nI ow9), .int (nI ot9), .ref (g.2.2.2.2 19)] z (fun r => r = nI (sp_ft S ro V9 ka9 na9 hi9 ow9 ot9)) := by
  refine rMp_in (by decide) rfl (Nat.le_of_ble_eq_true rfl) ?_
  intro p e s m args below meth c ls X hml hr hk hl w
  have hx := X.1
  have hb := X.2.1
  have hts := X.2.2.1
  have hown := X.2.2.2.1
  have hl : lv_has ls 11 [(0, .ref g.2.2.2.1), (1, .int (nI ka9)), (2, .int (nI na9)), (3, .int (nI hi9)), (4, .int (nI ow9)), (5, .int (nI ot9)), (6, .ref (g.2.2.2.2 19))] := hl
  obtain ⟨hz0, hz1, hz4, hm0, hm1, hm2, hso, hki, hsr, hpa, hhu, hco⟩ := id hz
  obtain ⟨o1, o2, o3, o4, o5, o6, oso, oki, osr, opa, ohu, oco⟩ := id ho
  subst hna
  have hn4 := hro.1
  have hr0 := (hro.2 ka9 hka).2
  have hV := hlt.2
  refine lv_aload_n hx hb dX8_fought_0 rfl (lv_at hl 0 rfl) ?_
  refine rg_18 X w dX8_fought_1 ?_
  refine lv_iload_n hx hb dX8_fought_4 rfl (lv_at hl 1 rfl) ?_
  refine rn_18 X w (by omega) dX8_fought_5 ?_
  refine tp_i (show z.2.1 18 ka9 = (nI (ro ka9)) from (hro.2 ka9 (by omega)).1) ?_
  refine lv_istore (lv' := [(7, .int (nI (ro ka9))), (0, .ref g.2.2.2.1), (1, .int (nI ka9)), (2, .int (nI na9)), (3, .int (nI hi9)), (4, .int (nI ow9)), (5, .int (nI ot9)), (6, .ref (g.2.2.2.2 19))]) hx hb dX8_fought_6 hl (by decide) rfl (fun ls hl => ?_)
  refine lv_bipush (v := (nI 8)) hx hb dX8_fought_8 (by decide) ?_
  refine lv_aload_n hx hb dX8_fought_10 rfl (lv_at hl 1 rfl) ?_
  refine lv_iconst (v := (nI 0)) hx hb dX8_fought_11 (by decide) ?_
  refine lv_iload_n hx hb dX8_fought_12 rfl (lv_at hl 4 rfl) ?_
  refine rc_p (rest := [.int (nI 8)]) X hml hl.1 (k_force l g z 0 hi9 S hz ho (by omega) (by omega)) ok_force wm_X8_126 ⟨Nat.le_of_ble_eq_true rfl, Nat.le_of_ble_eq_true rfl⟩ ⟨Nat.le_refl _, Nat.le_refl _⟩ w rfl (Nat.le_of_ble_eq_true rfl) dX8_fought_13 (fun r_13 hr_13 => ?_)
  subst hr_13
  have d_13 := pc_force_le (S.2.1 1 0) (S.2.1 2 0) hi9 (osr _)
  refine n_iadd hx hb dX8_fought_16 ?_
  refine lv_aload_n hx hb dX8_fought_17 rfl (lv_at hl 1 rfl) ?_
  refine lv_iload hx hb dX8_fought_18 (lv_at hl 0 rfl) ?_
  refine lv_iload hx hb dX8_fought_20 (lv_at hl 5 rfl) ?_
  refine rc_p (rest := [.int (nI (8 + (pc_force (S.2.1 1 0) (S.2.1 2 0) hi9)))]) X hml hl.1 (k_force l g z (ro ka9) ow9 S hz ho (by omega) (by omega)) ok_force wm_X8_126 ⟨Nat.le_of_ble_eq_true rfl, Nat.le_of_ble_eq_true rfl⟩ ⟨Nat.le_refl _, Nat.le_refl _⟩ w rfl (Nat.le_of_ble_eq_true rfl) dX8_fought_22 (fun r_22 hr_22 => ?_)
  subst hr_22
  have d_22 := pc_force_le (S.2.1 1 (ro ka9)) (S.2.1 2 (ro ka9)) ow9 (osr _)
  refine tp_i (iZ_n (pc_force (S.2.1 1 (ro ka9)) (S.2.1 2 (ro ka9)) ow9)).symm ?_
  refine tp_i2 (iZ_n (8 + (pc_force (S.2.1 1 0) (S.2.1 2 0) hi9))).symm ?_
  refine z_isub hx hb dX8_fought_25 ?_
  refine lv_iconst (v := (nI 2)) hx hb dX8_fought_26 (by decide) ?_
  refine lv_iload hx hb dX8_fought_27 (lv_at hl 6 rfl) ?_
  refine n_imul hx hb dX8_fought_29 ?_
  refine tp_i (iZ_n (2 * ot9)).symm ?_
  refine z_isub hx hb dX8_fought_30 ?_
  refine rc_s (rest := []) ⟨X.1, X.2.1, X.2.2.1, X.2.2.2.1⟩ hml hl.1 (k_between l (((((8 + (pc_force (S.2.1 1 0) (S.2.1 2 0) hi9) : Nat) : Int)) - (((pc_force (S.2.1 1 (ro ka9)) (S.2.1 2 (ro ka9)) ow9 : Nat) : Int))) - (((2 * ot9 : Nat) : Int))) (by omega) (by omega)) ok_between wm_X8_183 ⟨Nat.le_of_ble_eq_true rfl, Nat.le_of_ble_eq_true rfl⟩ ⟨Nat.le_refl _, Nat.le_refl _⟩ rfl (Nat.le_of_ble_eq_true rfl) dX8_fought_31 (fun r_31 hr_31 => ?_)
  have h9 : r_31 = nI (sp_od S (ro ka9) hi9 ow9 ot9) := hr_31
  have q7 : sp_od S (ro ka9) hi9 ow9 ot9 ≤ 15 := (pc_btw_le _).2
  obtain ⟨od9, hod⟩ : ∃ od9, od9 = sp_od S (ro ka9) hi9 ow9 ot9 := ⟨_, rfl⟩
  rw [← hod] at h9 q7
  subst h9
  refine lv_istore (lv' := [(8, .int (nI od9)), (7, .int (nI (ro ka9))), (0, .ref g.2.2.2.1), (1, .int (nI ka9)), (2, .int (nI na9)), (3, .int (nI hi9)), (4, .int (nI ow9)), (5, .int (nI ot9)), (6, .ref (g.2.2.2.2 19))]) hx hb dX8_fought_34 hl (by decide) rfl (fun ls hl => ?_)
  refine lv_iload hx hb dX8_fought_36 (lv_at hl 6 rfl) ?_
  refine lv_iconst (v := (nI 5)) hx hb dX8_fought_38 (by decide) ?_
  refine jn (tgt := 101) (rest := []) (fun v9 => ∃ x9 : Nat, x9 = (if 5 ≤ ow9 then (if (ka9 + 1) = na9 then 1000000 else (V9 (((36 * (ka9 + 1)) + (6 * (S.2.1 4 (ro (ka9 + 1))))) + hi9))) else (V9 (((36 * ka9) + (6 * (ow9 + 1))) + hi9))) ∧ v9 = nI x9) (fun v_ hv_ => ?_) (fun k_101 => ?_)
  · obtain ⟨x_101, ex_101, rfl⟩ := hv_
    have q5 : x_101 ≤ 1000000 := by rw [ex_101]; split; split; omega; exact hV _; exact hV _
    have q51 : x_101 = sp_wl S ro V9 ka9 na9 hi9 ow9 := ex_101
    refine lv_istore (lv' := [(9, .int (nI x_101)), (8, .int (nI od9)), (7, .int (nI (ro ka9))), (0, .ref g.2.2.2.1), (1, .int (nI ka9)), (2, .int (nI na9)), (3, .int (nI hi9)), (4, .int (nI ow9)), (5, .int (nI ot9)), (6, .ref (g.2.2.2.2 19))]) hx hb dX8_fought_101 hl (by decide) rfl (fun ls hl => ?_)
    refine lv_iload_n hx hb dX8_fought_103 rfl (lv_at hl 6 rfl) ?_
    refine lv_iconst (v := (nI 5)) hx hb dX8_fought_104 (by decide) ?_
    refine jn (tgt := 129) (rest := []) (fun v9 => ∃ x9 : Nat, x9 = (if 5 ≤ hi9 then 0 else (V9 ((((36 * ka9) + (6 * ow9)) + hi9) + 1))) ∧ v9 = nI x9) (fun v_ hv_ => ?_) (fun k_129 => ?_)
    · obtain ⟨x_129, ex_129, rfl⟩ := hv_
      have q4 : x_129 ≤ 1000000 := by rw [ex_129]; split; omega; exact hV _
      have q41 : x_129 = sp_il V9 ka9 hi9 ow9 := ex_129
      have q3 := ft_le q7 q5 q4
      refine lv_istore (lv' := [(10, .int (nI x_129)), (9, .int (nI x_101)), (8, .int (nI od9)), (7, .int (nI (ro ka9))), (0, .ref g.2.2.2.1), (1, .int (nI ka9)), (2, .int (nI na9)), (3, .int (nI hi9)), (4, .int (nI ow9)), (5, .int (nI ot9)), (6, .ref (g.2.2.2.2 19))]) hx hb dX8_fought_129 hl (by decide) rfl (fun ls hl => ?_)
      refine lv_iload hx hb dX8_fought_131 (lv_at hl 2 rfl) ?_
      refine lv_iload hx hb dX8_fought_133 (lv_at hl 1 rfl) ?_
      refine n_imul hx hb dX8_fought_135 ?_
      refine lv_bipush (v := (nI 16)) hx hb dX8_fought_136 (by decide) ?_
      refine lv_iload hx hb dX8_fought_138 (lv_at hl 2 rfl) ?_
      refine n_isub hx hb dX8_fought_140 (by omega) ?_
      refine lv_iload hx hb dX8_fought_141 (lv_at hl 0 rfl) ?_
      refine n_imul hx hb dX8_fought_143 ?_
      refine n_iadd hx hb dX8_fought_144 ?_
      refine lv_bipush (v := (nI 16)) hx hb dX8_fought_145 (by decide) ?_
      refine n_idiv hx hb dX8_fought_147 (by omega) (by omega) (by omega) ?_
      exact re_p hx hb hr hk (by unfold sp_ft; rw [← hod, ← q51, ← q41]) dX8_fought_148
    · skip
      refine n_icmp_ge (tgt := 128) hx hb dX8_fought_105 (by decide) (by omega) (by omega) (fun c_105_3 => ?_) (fun c_105_3 => ?_)
      · skip
        refine lv_iconst (v := (nI 0)) hx hb dX8_fought_128 (by decide) ?_
        exact k_129 _ ⟨_, by simp only [if_pos c_105_3], rfl⟩
      · skip
        refine lv_aload hx hb dX8_fought_108 (lv_at hl 9 rfl) ?_
        refine lv_bipush (v := (nI 36)) hx hb dX8_fought_110 (by decide) ?_
        refine lv_iload_n hx hb dX8_fought_112 rfl (lv_at hl 4 rfl) ?_
        refine n_imul hx hb dX8_fought_113 ?_
        refine lv_bipush (v := (nI 6)) hx hb dX8_fought_114 (by decide) ?_
        refine lv_iload hx hb dX8_fought_116 (lv_at hl 7 rfl) ?_
        refine n_imul hx hb dX8_fought_118 ?_
        refine n_iadd hx hb dX8_fought_119 ?_
        refine lv_iload_n hx hb dX8_fought_120 rfl (lv_at hl 6 rfl) ?_
        refine n_iadd hx hb dX8_fought_121 ?_
        refine lv_iconst (v := (nI 1)) hx hb dX8_fought_122 (by decide) ?_
        refine n_iadd hx hb dX8_fought_123 ?_
        refine rn_19 X w (by omega) dX8_fought_124 ?_
        refine tp_i (show z.2.1 19 ((((36 * ka9) + (6 * ow9)) + hi9) + 1) = (nI (V9 ((((36 * ka9) + (6 * ow9)) + hi9) + 1))) from hlt.1 ((((36 * ka9) + (6 * ow9)) + hi9) + 1) (by omega)) ?_
        refine lv_goto (tgt := 129) hx hb dX8_fought_125 (by decide) ?_
        exact k_129 _ ⟨_, by simp only [if_neg c_105_3], rfl⟩
  · skip
    refine n_icmp_ge (tgt := 62) hx hb dX8_fought_39 (by decide) (by omega) (by omega) (fun c_39_4 => ?_) (fun c_39_4 => ?_)
    · skip
      refine lv_iload_n hx hb dX8_fought_62 rfl (lv_at hl 3 rfl) ?_
      refine lv_iconst (v := (nI 1)) hx hb dX8_fought_63 (by decide) ?_
      refine n_iadd hx hb dX8_fought_64 ?_
      refine lv_iload_n hx hb dX8_fought_65 rfl (lv_at hl 4 rfl) ?_
      refine n_icmp_ne (tgt := 74) hx hb dX8_fought_66 (by decide) (by omega) (by omega) (fun c_66_5 => ?_) (fun c_66_5 => ?_)
      · skip
        refine lv_aload hx hb dX8_fought_74 (lv_at hl 8 rfl) ?_
        refine lv_bipush (v := (nI 36)) hx hb dX8_fought_76 (by decide) ?_
        refine lv_iload_n hx hb dX8_fought_78 rfl (lv_at hl 3 rfl) ?_
        refine lv_iconst (v := (nI 1)) hx hb dX8_fought_79 (by decide) ?_
        refine n_iadd hx hb dX8_fought_80 ?_
        refine n_imul hx hb dX8_fought_81 ?_
        refine lv_bipush (v := (nI 6)) hx hb dX8_fought_82 (by decide) ?_
        refine lv_aload_n hx hb dX8_fought_84 rfl (lv_at hl 2 rfl) ?_
        refine lv_aload_n hx hb dX8_fought_85 rfl (lv_at hl 2 rfl) ?_
        refine rg_18 X w dX8_fought_86 ?_
        refine lv_iload_n hx hb dX8_fought_89 rfl (lv_at hl 3 rfl) ?_
        refine lv_iconst (v := (nI 1)) hx hb dX8_fought_90 (by decide) ?_
        refine n_iadd hx hb dX8_fought_91 ?_
        refine rn_18 X w (by omega) dX8_fought_92 ?_
        refine tp_i (show z.2.1 18 (ka9 + 1) = (nI (ro (ka9 + 1))) from (hro.2 (ka9 + 1) (by omega)).1) ?_
        refine rc_p (rest := [.int (nI 6), .int (nI (36 * (ka9 + 1))), .ref (g.2.2.2.2 19)]) X hml hl.1 (k_hurtS l g z (ro (ka9 + 1)) S hz ho (hro.2 (ka9 + 1) (by omega)).2.2) ok_hurtOf wm_X8_91 ⟨Nat.le_of_ble_eq_true rfl, Nat.le_of_ble_eq_true rfl⟩ ⟨Nat.le_refl _, Nat.le_refl _⟩ w rfl (Nat.le_of_ble_eq_true rfl) dX8_fought_93 (fun r_93 hr_93 => ?_)
        subst hr_93
        have q6 := ohu (ro (ka9 + 1))
        refine n_imul hx hb dX8_fought_96 ?_
        refine n_iadd hx hb dX8_fought_97 ?_
        refine lv_iload_n hx hb dX8_fought_98 rfl (lv_at hl 5 rfl) ?_
        refine n_iadd hx hb dX8_fought_99 ?_
        refine rn_19 X w (by omega) dX8_fought_100 ?_
        refine tp_i (show z.2.1 19 (((36 * (ka9 + 1)) + (6 * (S.2.1 4 (ro (ka9 + 1))))) + hi9) = (nI (V9 (((36 * (ka9 + 1)) + (6 * (S.2.1 4 (ro (ka9 + 1))))) + hi9))) from hlt.1 (((36 * (ka9 + 1)) + (6 * (S.2.1 4 (ro (ka9 + 1))))) + hi9) (by omega)) ?_
        exact k_101 _ ⟨_, by simp only [if_pos c_39_4, if_neg c_66_5], rfl⟩
      · skip
        refine lv_ldc hx hb hown (hts _ wk_X8_202) dX8_fought_69 ?_
        refine tp_i (show (1000000 : Int32) = (nI 1000000) from by decide) ?_
        refine lv_goto (tgt := 101) hx hb dX8_fought_71 (by decide) ?_
        exact k_101 _ ⟨_, by simp only [if_pos c_39_4, if_pos c_66_5], rfl⟩
    · skip
      refine lv_aload hx hb dX8_fought_42 (lv_at hl 8 rfl) ?_
      refine lv_bipush (v := (nI 36)) hx hb dX8_fought_44 (by decide) ?_
      refine lv_iload_n hx hb dX8_fought_46 rfl (lv_at hl 3 rfl) ?_
      refine n_imul hx hb dX8_fought_47 ?_
      refine lv_bipush (v := (nI 6)) hx hb dX8_fought_48 (by decide) ?_
      refine lv_iload hx hb dX8_fought_50 (lv_at hl 6 rfl) ?_
      refine lv_iconst (v := (nI 1)) hx hb dX8_fought_52 (by decide) ?_
      refine n_iadd hx hb dX8_fought_53 ?_
      refine n_imul hx hb dX8_fought_54 ?_
      refine n_iadd hx hb dX8_fought_55 ?_
      refine lv_iload_n hx hb dX8_fought_56 rfl (lv_at hl 5 rfl) ?_
      refine n_iadd hx hb dX8_fought_57 ?_
      refine rn_19 X w (by omega) dX8_fought_58 ?_
      refine tp_i (show z.2.1 19 (((36 * ka9) + (6 * (ow9 + 1))) + hi9) = (nI (V9 (((36 * ka9) + (6 * (ow9 + 1))) + hi9))) from hlt.1 (((36 * ka9) + (6 * (ow9 + 1))) + hi9) (by omega)) ?_
      refine lv_goto (tgt := 101) hx hb dX8_fought_59 (by decide) ?_
      exact k_101 _ ⟨_, by simp only [if_neg c_39_4], rfl⟩

theorem ok_aheadOf : rOk yX8_aheadOf cX8_aheadOf 8 none 2 := ⟨wc_X8_aheadOf, wi_X8_aheadOf, ws_X8_aheadOf, rfl, by decide, by decide, by decide +kernel⟩
set_option maxHeartbeats 4000000 in
set_option maxRecDepth 100000 in
theorem k_aheadOf (l : Launch) (g : RG) (z : RS) (na9 : Nat) (en9 : Nat) (S : Sc) (hz : rSc z S) (ho : oSc S) (nr : Nat) (ro V9 : Nat → Nat) (hro : rRo z nr ro) (hlt : rLt z V9) (hna : na9 = nr) (hen : en9 ≤ 1000000) : rMv g l yX8_aheadOf cX8_aheadOf 8 none 2 53 [.int (nI na9), .int (nI en9)] z (fun z' => rLt z' (sp_ah S ro na9 en9 V9) ∧ rFr [] [19, 20] z z') := by
  refine rMv_in (by decide) rfl (Nat.le_of_ble_eq_true rfl) ?_
  intro p e s m args below meth c A ls X hml hr hk hl w
  have hx := X.1
  have hb := X.2.1
  have hts := X.2.2.1
  have hown := X.2.2.2.1
  have hl : lv_has ls 8 [(0, .ref g.2.2.2.1), (1, .int (nI na9)), (2, .int (nI en9))] := hl
  obtain ⟨hz0, hz1, hz4, hm0, hm1, hm2, hso, hki, hsr, hpa, hhu, hco⟩ := id hz
  obtain ⟨o1, o2, o3, o4, o5, o6, oso, oki, osr, opa, ohu, oco⟩ := id ho
  subst hna
  have hn4 := hro.1
  have hV := hlt.2
  refine lv_iconst (v := (nI 0)) hx hb dX8_aheadOf_0 (by decide) ?_
  refine lv_istore_n (lv' := [(3, .int (nI 0)), (0, .ref g.2.2.2.1), (1, .int (nI na9)), (2, .int (nI en9))]) hx hb dX8_aheadOf_1 rfl hl (by decide) rfl (fun ls hl => ?_)
  have lp_2 : ∀ (n_2 : Nat) (ka9 : Nat) (hka : ka9 ≤ na9) (hm_2 : na9 - ka9 < n_2) (ls : Array Slot) (zz : RS) (H : Heap) (locs : List Loc) (w : rW g A s zz H locs) (hfz : rFr [] [20] z zz) (hA : ∀ q, q < 36 * ka9 → zz.2.1 20 q = nI (sp_ah S ro na9 en9 V9 q)), lv_has ls 8 [(0, .ref g.2.2.2.1), (1, .int (nI na9)), (2, .int (nI en9)), (3, .int (nI ka9))] → W p l e (ro_m 2 53) s m args below meth c H locs 0 0 (MQ below (va_Qv (fun z' => rLt z' (sp_ah S ro na9 en9 V9) ∧ rFr [] [19, 20] z z') (rB g A) A) args s 0 0 A) (F0 m 2 ls []) := by
    intro n_2
    induction n_2 with
    | zero => intro ka9 hka hm; exact absurd hm (Nat.not_lt_zero _)
    | succ n_2 ih_2 =>
      intro ka9 hka hm_2 ls zz H locs w hfz hA hl
      refine lv_iload_n hx hb dX8_aheadOf_2 rfl (lv_at hl 3 rfl) ?_
      refine lv_iload_n hx hb dX8_aheadOf_3 rfl (lv_at hl 1 rfl) ?_
      refine n_icmp_ge (tgt := 160) hx hb dX8_aheadOf_4 (by decide) (by omega) (by omega) (fun c_4_1 => ?_) (fun c_4_1 => ?_)
      · skip
        refine lv_iconst (v := (nI 0)) hx hb dX8_aheadOf_160 (by decide) ?_
        refine lv_istore_n (lv' := [(3, .int (nI 0)), (0, .ref g.2.2.2.1), (1, .int (nI na9)), (2, .int (nI en9))]) hx hb dX8_aheadOf_161 rfl hl (by decide) rfl (fun ls hl => ?_)
        have lp_162 : ∀ (n_162 : Nat) (j9 : Nat) (hj9 : j9 ≤ 36 * na9) (hm_162 : 36 * na9 - j9 < n_162) (ls : Array Slot) (zy : RS) (H : Heap) (locs : List Loc) (w : rW g A s zy H locs) (hfy : rFr [] [19, 20] z zy) (hB : ∀ q, q < 36 * na9 → zy.2.1 20 q = nI (sp_ah S ro na9 en9 V9 q)) (hC : ∀ q, q < 180 → zy.2.1 19 q = nI (if q < j9 then sp_ah S ro na9 en9 V9 q else V9 q)), lv_has ls 8 [(0, .ref g.2.2.2.1), (1, .int (nI na9)), (2, .int (nI en9)), (3, .int (nI j9))] → W p l e (ro_m 2 53) s m args below meth c H locs 0 0 (MQ below (va_Qv (fun z' => rLt z' (sp_ah S ro na9 en9 V9) ∧ rFr [] [19, 20] z z') (rB g A) A) args s 0 0 A) (F0 m 162 ls []) := by
          intro n_162
          induction n_162 with
          | zero => intro j9 hj9 hm; exact absurd hm (Nat.not_lt_zero _)
          | succ n_162 ih_162 =>
            intro j9 hj9 hm_162 ls zy H locs w hfy hB hC hl
            refine lv_iload_n hx hb dX8_aheadOf_162 rfl (lv_at hl 3 rfl) ?_
            refine lv_bipush (v := (nI 36)) hx hb dX8_aheadOf_163 (by decide) ?_
            refine lv_iload_n hx hb dX8_aheadOf_165 rfl (lv_at hl 1 rfl) ?_
            refine n_imul hx hb dX8_aheadOf_166 ?_
            refine n_icmp_ge (tgt := 188) hx hb dX8_aheadOf_167 (by decide) (by omega) (by omega) (fun c_167_2 => ?_) (fun c_167_2 => ?_)
            · skip
              exact re_v X hr hk w (⟨⟨fun q hq => by rw [hC q hq]; split; rfl; unfold sp_ah; rw [if_neg (by omega)], sp_ah_le S ro V9 na9 en9 hV⟩, hfy⟩) dX8_aheadOf_188
            · skip
              refine lv_aload_n hx hb dX8_aheadOf_170 rfl (lv_at hl 0 rfl) ?_
              refine rg_19 X w.1 dX8_aheadOf_171 ?_
              refine lv_iload_n hx hb dX8_aheadOf_174 rfl (lv_at hl 3 rfl) ?_
              refine lv_aload_n hx hb dX8_aheadOf_175 rfl (lv_at hl 0 rfl) ?_
              refine rg_20 X w.1 dX8_aheadOf_176 ?_
              refine lv_iload_n hx hb dX8_aheadOf_179 rfl (lv_at hl 3 rfl) ?_
              refine rn_20 X w.1 (by omega) dX8_aheadOf_180 ?_
              refine ru_19 X w (by omega) dX8_aheadOf_181 (fun z_181 H locs ez_181 w => ?_)
              refine lv_iinc (v := (nI (j9 + 1))) (lv' := [(3, .int (nI (j9 + 1))), (0, .ref g.2.2.2.1), (1, .int (nI na9)), (2, .int (nI en9))]) hx hb dX8_aheadOf_182 hl (k := 3) rfl (by first | exact nI_1 _ | (rw [show Int32.ofInt 1 = nI 1 from by decide, nI_add])) (by decide) rfl (fun ls hl => ?_)
              refine lv_goto (tgt := 162) hx hb dX8_aheadOf_185 (by decide) ?_
              exact ih_162 (j9 + 1) (by omega) (by omega) ls z_181 _ _ w (by rw [ez_181]; exact rFr_tr hfy (rFr_A _ (by decide))) (by rw [ez_181]; exact hB) (by rw [ez_181]; exact ah_c hC (hB j9 (by omega))) (lv_sub hl [1, 2, 3, 0] rfl)
        exact lp_162 _ 0 (Nat.zero_le _) (Nat.lt_succ_self _) ls zz _ _ w (rFr_w hfz (by simp) (by simp)) (fun q hq => hA q (by omega)) (fun q hq => by rw [if_neg (by omega)]; exact (congrFun (hfz.2.1 19 (by decide)) _).trans (hlt.1 q hq)) (lv_sub hl [1, 2, 3, 0] rfl)
      · skip
        have rk := (hro.2 ka9 (by omega)).2
        have ck := oco (ro ka9)
        refine lv_iconst (v := (nI 0)) hx hb dX8_aheadOf_7 (by decide) ?_
        refine lv_istore (lv' := [(4, .int (nI 0)), (0, .ref g.2.2.2.1), (1, .int (nI na9)), (2, .int (nI en9)), (3, .int (nI ka9))]) hx hb dX8_aheadOf_8 hl (by decide) rfl (fun ls hl => ?_)
        refine lv_iload_n hx hb dX8_aheadOf_10 rfl (lv_at hl 4 rfl) ?_
        refine lv_iconst (v := (nI 1)) hx hb dX8_aheadOf_11 (by decide) ?_
        refine n_iadd hx hb dX8_aheadOf_12 ?_
        refine lv_istore (lv' := [(5, .int (nI (ka9 + 1))), (4, .int (nI 0)), (0, .ref g.2.2.2.1), (1, .int (nI na9)), (2, .int (nI en9)), (3, .int (nI ka9))]) hx hb dX8_aheadOf_13 hl (by decide) rfl (fun ls hl => ?_)
        have lp_15 : ∀ (n_15 : Nat) (j9 : Nat) (hj9 : j9 ≤ na9 - 1 - ka9) (hm_15 : na9 - j9 < n_15) (ls : Array Slot), lv_has ls 8 [(0, .ref g.2.2.2.1), (1, .int (nI na9)), (2, .int (nI en9)), (3, .int (nI ka9)), (4, .int (nI (sp_beh S ro ka9 en9 j9))), (5, .int (nI (ka9 + 1 + j9)))] → W p l e (ro_m 2 53) s m args below meth c H locs 0 0 (MQ below (va_Qv (fun z' => rLt z' (sp_ah S ro na9 en9 V9) ∧ rFr [] [19, 20] z z') (rB g A) A) args s 0 0 A) (F0 m 15 ls []) := by
          intro n_15
          induction n_15 with
          | zero => intro j9 hj9 hm; exact absurd hm (Nat.not_lt_zero _)
          | succ n_15 ih_15 =>
            intro j9 hj9 hm_15 ls hl
            have q2 := sp_beh_le S ro ka9 en9 j9
            have q21 := oco (ro (ka9 + 1 + j9))
            refine lv_iload hx hb dX8_aheadOf_15 (lv_at hl 5 rfl) ?_
            refine lv_iload_n hx hb dX8_aheadOf_17 rfl (lv_at hl 1 rfl) ?_
            refine n_icmp_ge (tgt := 56) hx hb dX8_aheadOf_18 (by decide) (by omega) (by omega) (fun c_18_3 => ?_) (fun c_18_3 => ?_)
            · skip
              have ej : j9 = na9 - 1 - ka9 := by omega
              subst ej
              have bh := sp_beh_le S ro ka9 en9 (na9 - 1 - ka9)
              refine lv_iconst (v := (nI 0)) hx hb dX8_aheadOf_56 (by decide) ?_
              refine lv_istore (lv' := [(5, .int (nI 0)), (0, .ref g.2.2.2.1), (1, .int (nI na9)), (2, .int (nI en9)), (3, .int (nI ka9)), (4, .int (nI (sp_beh S ro ka9 en9 (na9 - 1 - ka9))))]) hx hb dX8_aheadOf_57 hl (by decide) rfl (fun ls hl => ?_)
              have lp_59 : ∀ (n_59 : Nat) (ow9 : Nat) (how : ow9 ≤ 6) (hm_59 : 6 - ow9 < n_59) (ls : Array Slot) (zz : RS) (H : Heap) (locs : List Loc) (w : rW g A s zz H locs) (hfz : rFr [] [20] z zz) (hA : ∀ q, q < 36 * ka9 + 6 * ow9 → zz.2.1 20 q = nI (sp_ah S ro na9 en9 V9 q)), lv_has ls 8 [(0, .ref g.2.2.2.1), (1, .int (nI na9)), (2, .int (nI en9)), (3, .int (nI ka9)), (4, .int (nI (sp_beh S ro ka9 en9 (na9 - 1 - ka9)))), (5, .int (nI ow9))] → W p l e (ro_m 2 53) s m args below meth c H locs 0 0 (MQ below (va_Qv (fun z' => rLt z' (sp_ah S ro na9 en9 V9) ∧ rFr [] [19, 20] z z') (rB g A) A) args s 0 0 A) (F0 m 59 ls []) := by
                intro n_59
                induction n_59 with
                | zero => intro ow9 how hm; exact absurd hm (Nat.not_lt_zero _)
                | succ n_59 ih_59 =>
                  intro ow9 how hm_59 ls zz H locs w hfz hA hl
                  refine lv_iload hx hb dX8_aheadOf_59 (lv_at hl 5 rfl) ?_
                  refine lv_bipush (v := (nI 6)) hx hb dX8_aheadOf_61 (by decide) ?_
                  refine n_icmp_ge (tgt := 154) hx hb dX8_aheadOf_63 (by decide) (by omega) (by omega) (fun c_63_4 => ?_) (fun c_63_4 => ?_)
                  · skip
                    refine lv_iinc (v := (nI (ka9 + 1))) (lv' := [(3, .int (nI (ka9 + 1))), (0, .ref g.2.2.2.1), (1, .int (nI na9)), (2, .int (nI en9)), (4, .int (nI (sp_beh S ro ka9 en9 (na9 - 1 - ka9)))), (5, .int (nI ow9))]) hx hb dX8_aheadOf_154 hl (k := 3) rfl (by first | exact nI_1 _ | (rw [show Int32.ofInt 1 = nI 1 from by decide, nI_add])) (by decide) rfl (fun ls hl => ?_)
                    refine lv_goto (tgt := 2) hx hb dX8_aheadOf_157 (by decide) ?_
                    exact ih_2 (ka9 + 1) (by omega) (by omega) ls zz _ _ w hfz (fun q hq => hA q (by omega)) (lv_sub hl [1, 2, 3, 0] rfl)
                  · skip
                    refine lv_iconst (v := (nI 0)) hx hb dX8_aheadOf_66 (by decide) ?_
                    refine lv_istore (lv' := [(6, .int (nI 0)), (0, .ref g.2.2.2.1), (1, .int (nI na9)), (2, .int (nI en9)), (3, .int (nI ka9)), (4, .int (nI (sp_beh S ro ka9 en9 (na9 - 1 - ka9)))), (5, .int (nI ow9))]) hx hb dX8_aheadOf_67 hl (by decide) rfl (fun ls hl => ?_)
                    have lp_69 : ∀ (n_69 : Nat) (hi9 : Nat) (hhi : hi9 ≤ 6) (hm_69 : 6 - hi9 < n_69) (ls : Array Slot) (zz : RS) (H : Heap) (locs : List Loc) (w : rW g A s zz H locs) (hfz : rFr [] [20] z zz) (hA : ∀ q, q < 36 * ka9 + 6 * ow9 + hi9 → zz.2.1 20 q = nI (sp_ah S ro na9 en9 V9 q)), lv_has ls 8 [(0, .ref g.2.2.2.1), (1, .int (nI na9)), (2, .int (nI en9)), (3, .int (nI ka9)), (4, .int (nI (sp_beh S ro ka9 en9 (na9 - 1 - ka9)))), (5, .int (nI ow9)), (6, .int (nI hi9))] → W p l e (ro_m 2 53) s m args below meth c H locs 0 0 (MQ below (va_Qv (fun z' => rLt z' (sp_ah S ro na9 en9 V9) ∧ rFr [] [19, 20] z z') (rB g A) A) args s 0 0 A) (F0 m 69 ls []) := by
                      intro n_69
                      induction n_69 with
                      | zero => intro hi9 hhi hm; exact absurd hm (Nat.not_lt_zero _)
                      | succ n_69 ih_69 =>
                        intro hi9 hhi hm_69 ls zz H locs w hfz hA hl
                        refine lv_iload hx hb dX8_aheadOf_69 (lv_at hl 6 rfl) ?_
                        refine lv_bipush (v := (nI 6)) hx hb dX8_aheadOf_71 (by decide) ?_
                        refine n_icmp_ge (tgt := 148) hx hb dX8_aheadOf_73 (by decide) (by omega) (by omega) (fun c_73_5 => ?_) (fun c_73_5 => ?_)
                        · skip
                          refine lv_iinc (v := (nI (ow9 + 1))) (lv' := [(5, .int (nI (ow9 + 1))), (0, .ref g.2.2.2.1), (1, .int (nI na9)), (2, .int (nI en9)), (3, .int (nI ka9)), (4, .int (nI (sp_beh S ro ka9 en9 (na9 - 1 - ka9)))), (6, .int (nI hi9))]) hx hb dX8_aheadOf_148 hl (k := 5) rfl (by first | exact nI_1 _ | (rw [show Int32.ofInt 1 = nI 1 from by decide, nI_add])) (by decide) rfl (fun ls hl => ?_)
                          refine lv_goto (tgt := 59) hx hb dX8_aheadOf_151 (by decide) ?_
                          exact ih_59 (ow9 + 1) (by omega) (by omega) ls zz _ _ w hfz (fun q hq => hA q (by omega)) (lv_sub hl [1, 2, 3, 4, 5, 0] rfl)
                        · skip
                          refine lv_bipush (v := (nI 36)) hx hb dX8_aheadOf_76 (by decide) ?_
                          refine lv_iload_n hx hb dX8_aheadOf_78 rfl (lv_at hl 3 rfl) ?_
                          refine n_imul hx hb dX8_aheadOf_79 ?_
                          refine lv_bipush (v := (nI 6)) hx hb dX8_aheadOf_80 (by decide) ?_
                          refine lv_iload hx hb dX8_aheadOf_82 (lv_at hl 5 rfl) ?_
                          refine n_imul hx hb dX8_aheadOf_84 ?_
                          refine n_iadd hx hb dX8_aheadOf_85 ?_
                          refine lv_iload hx hb dX8_aheadOf_86 (lv_at hl 6 rfl) ?_
                          refine n_iadd hx hb dX8_aheadOf_88 ?_
                          refine lv_istore (lv' := [(7, .int (nI (((36 * ka9) + (6 * ow9)) + hi9))), (0, .ref g.2.2.2.1), (1, .int (nI na9)), (2, .int (nI en9)), (3, .int (nI ka9)), (4, .int (nI (sp_beh S ro ka9 en9 (na9 - 1 - ka9)))), (5, .int (nI ow9)), (6, .int (nI hi9))]) hx hb dX8_aheadOf_89 hl (by decide) rfl (fun ls hl => ?_)
                          refine lv_aload_n hx hb dX8_aheadOf_91 rfl (lv_at hl 1 rfl) ?_
                          refine rg_20 X w.1 dX8_aheadOf_92 ?_
                          refine lv_iload hx hb dX8_aheadOf_95 (lv_at hl 0 rfl) ?_
                          refine lv_aload_n hx hb dX8_aheadOf_97 rfl (lv_at hl 1 rfl) ?_
                          refine rg_5 X w.1 dX8_aheadOf_98 ?_
                          refine lv_bipush (v := (nI 8)) hx hb dX8_aheadOf_101 (by decide) ?_
                          refine lv_aload_n hx hb dX8_aheadOf_103 rfl (lv_at hl 1 rfl) ?_
                          refine rg_18 X w.1 dX8_aheadOf_104 ?_
                          refine lv_iload_n hx hb dX8_aheadOf_107 rfl (lv_at hl 4 rfl) ?_
                          refine rn_18 X w.1 (by omega) dX8_aheadOf_108 ?_
                          refine tp_i (show zz.2.1 18 ka9 = (nI (ro ka9)) from (congrFun (hfz.2.1 18 (by decide)) _).trans (hro.2 ka9 (by omega)).1) ?_
                          refine n_iadd hx hb dX8_aheadOf_109 ?_
                          refine rn_5 X w.1 (by omega) dX8_aheadOf_110 ?_
                          refine tp_i (show zz.2.1 5 (8 + (ro ka9)) = (nI (S.2.1 5 (ro ka9))) from (congrFun (hfz.2.1 5 (by decide)) _).trans (hco (ro ka9) (by omega))) ?_
                          refine lv_iload_n hx hb dX8_aheadOf_111 rfl (lv_at hl 3 rfl) ?_
                          refine jn (tgt := 141) (rest := [.int (nI (((36 * ka9) + (6 * ow9)) + hi9)), .ref (g.2.2.2.2 20)]) (fun v9 => ∃ x9 : Nat, x9 = (if (S.2.1 5 (ro ka9)) ≤ en9 then (sp_ft S ro V9 ka9 na9 hi9 ow9 (sp_beh S ro ka9 en9 (na9 - 1 - ka9))) else (V9 (((36 * ka9) + (6 * ow9)) + hi9))) ∧ v9 = nI x9) (fun v_ hv_ => ?_) (fun k_141 => ?_)
                          · obtain ⟨x_141, ex_141, rfl⟩ := hv_
                            refine ru_20 X w (by omega) dX8_aheadOf_141 (fun z_141 H locs ez_141 w => ?_)
                            refine lv_iinc (v := (nI (hi9 + 1))) (lv' := [(6, .int (nI (hi9 + 1))), (7, .int (nI (((36 * ka9) + (6 * ow9)) + hi9))), (0, .ref g.2.2.2.1), (1, .int (nI na9)), (2, .int (nI en9)), (3, .int (nI ka9)), (4, .int (nI (sp_beh S ro ka9 en9 (na9 - 1 - ka9)))), (5, .int (nI ow9))]) hx hb dX8_aheadOf_142 hl (k := 7) rfl (by first | exact nI_1 _ | (rw [show Int32.ofInt 1 = nI 1 from by decide, nI_add])) (by decide) rfl (fun ls hl => ?_)
                            refine lv_goto (tgt := 69) hx hb dX8_aheadOf_145 (by decide) ?_
                            exact ih_69 (hi9 + 1) (by omega) (by omega) ls z_141 _ _ w (by rw [ez_141]; exact rFr_tr hfz (rFr_A _ (by decide))) (by rw [ez_141, ex_141]; exact ah_s hA (by omega) (by omega) (by omega)) (lv_sub hl [2, 3, 4, 5, 6, 7, 0] rfl)
                          · skip
                            refine n_icmp_le (tgt := 125) hx hb dX8_aheadOf_112 (by decide) (by omega) (by omega) (fun c_112_7 => ?_) (fun c_112_7 => ?_)
                            · skip
                              refine lv_aload_n hx hb dX8_aheadOf_125 rfl (lv_at hl 1 rfl) ?_
                              refine lv_iload_n hx hb dX8_aheadOf_126 rfl (lv_at hl 4 rfl) ?_
                              refine lv_iload_n hx hb dX8_aheadOf_127 rfl (lv_at hl 2 rfl) ?_
                              refine lv_iload hx hb dX8_aheadOf_128 (lv_at hl 7 rfl) ?_
                              refine lv_iload hx hb dX8_aheadOf_130 (lv_at hl 6 rfl) ?_
                              refine lv_iload hx hb dX8_aheadOf_132 (lv_at hl 5 rfl) ?_
                              refine lv_aload_n hx hb dX8_aheadOf_134 rfl (lv_at hl 1 rfl) ?_
                              refine rg_19 X w.1 dX8_aheadOf_135 ?_
                              refine rc_p (rest := [.int (nI (((36 * ka9) + (6 * ow9)) + hi9)), .ref (g.2.2.2.2 20)]) X hml hl.1 (k_fought l g zz ka9 na9 hi9 ow9 (sp_beh S ro ka9 en9 (na9 - 1 - ka9)) S (rSc_fr hfz (by decide) (by decide) (by decide) (by decide) (by decide) (by decide) hz) ho na9 ro V9 ⟨hro.1, fun j hj => ⟨(congrFun (hfz.2.1 18 (by decide)) _).trans (hro.2 j hj).1, (hro.2 j hj).2⟩⟩ ⟨fun j hj => (congrFun (hfz.2.1 19 (by decide)) _).trans (hlt.1 j hj), hlt.2⟩ rfl (by omega) (by omega) (by omega) (by omega)) ok_fought wm_X8_206 ⟨Nat.le_of_ble_eq_true rfl, Nat.le_of_ble_eq_true rfl⟩ ⟨Nat.le_refl _, Nat.le_refl _⟩ w.1 rfl (Nat.le_of_ble_eq_true rfl) dX8_aheadOf_138 (fun r_138 hr_138 => ?_)
                              subst hr_138
                              exact k_141 _ ⟨_, by simp only [if_pos c_112_7], rfl⟩
                            · skip
                              refine lv_aload_n hx hb dX8_aheadOf_115 rfl (lv_at hl 1 rfl) ?_
                              refine rg_19 X w.1 dX8_aheadOf_116 ?_
                              refine lv_iload hx hb dX8_aheadOf_119 (lv_at hl 0 rfl) ?_
                              refine rn_19 X w.1 (by omega) dX8_aheadOf_121 ?_
                              refine tp_i (show zz.2.1 19 (((36 * ka9) + (6 * ow9)) + hi9) = (nI (V9 (((36 * ka9) + (6 * ow9)) + hi9))) from (congrFun (hfz.2.1 19 (by decide)) _).trans (hlt.1 (((36 * ka9) + (6 * ow9)) + hi9) (by omega))) ?_
                              refine lv_goto (tgt := 141) hx hb dX8_aheadOf_122 (by decide) ?_
                              exact k_141 _ ⟨_, by simp only [if_neg c_112_7], rfl⟩
                    exact lp_69 _ 0 (Nat.zero_le _) (Nat.lt_succ_self _) ls zz _ _ w hfz (fun q hq => hA q (by omega)) (lv_sub hl [1, 2, 3, 4, 5, 6, 0] rfl)
              exact lp_59 _ 0 (Nat.zero_le _) (Nat.lt_succ_self _) ls zz _ _ w hfz (fun q hq => hA q (by omega)) (lv_sub hl [1, 2, 3, 4, 5, 0] rfl)
            · skip
              have rj := (hro.2 (ka9 + 1 + j9) (by omega)).2
              refine lv_iload hx hb dX8_aheadOf_21 (lv_at hl 4 rfl) ?_
              refine lv_aload_n hx hb dX8_aheadOf_23 rfl (lv_at hl 0 rfl) ?_
              refine rg_5 X w.1 dX8_aheadOf_24 ?_
              refine lv_bipush (v := (nI 8)) hx hb dX8_aheadOf_27 (by decide) ?_
              refine lv_aload_n hx hb dX8_aheadOf_29 rfl (lv_at hl 0 rfl) ?_
              refine rg_18 X w.1 dX8_aheadOf_30 ?_
              refine lv_iload hx hb dX8_aheadOf_33 (lv_at hl 5 rfl) ?_
              refine rn_18 X w.1 (by omega) dX8_aheadOf_35 ?_
              refine tp_i (show zz.2.1 18 (ka9 + 1 + j9) = (nI (ro (ka9 + 1 + j9))) from (congrFun (hfz.2.1 18 (by decide)) _).trans (hro.2 (ka9 + 1 + j9) (by omega)).1) ?_
              refine n_iadd hx hb dX8_aheadOf_36 ?_
              refine rn_5 X w.1 (by omega) dX8_aheadOf_37 ?_
              refine tp_i (show zz.2.1 5 (8 + (ro (ka9 + 1 + j9))) = (nI (S.2.1 5 (ro (ka9 + 1 + j9)))) from (congrFun (hfz.2.1 5 (by decide)) _).trans (hco (ro (ka9 + 1 + j9)) (by omega))) ?_
              refine lv_iload_n hx hb dX8_aheadOf_38 rfl (lv_at hl 2 rfl) ?_
              refine jn (tgt := 47) (rest := [.int (nI (sp_beh S ro ka9 en9 j9))]) (fun v9 => ∃ x9 : Nat, x9 = (if en9 < (S.2.1 5 (ro (ka9 + 1 + j9))) then 0 else 1) ∧ v9 = nI x9) (fun v_ hv_ => ?_) (fun k_47 => ?_)
              · obtain ⟨x_47, ex_47, rfl⟩ := hv_
                refine n_iadd hx hb dX8_aheadOf_47 ?_
                refine lv_istore (lv' := [(4, .int (nI ((sp_beh S ro ka9 en9 j9) + x_47))), (0, .ref g.2.2.2.1), (1, .int (nI na9)), (2, .int (nI en9)), (3, .int (nI ka9)), (5, .int (nI (ka9 + 1 + j9)))]) hx hb dX8_aheadOf_48 hl (by decide) rfl (fun ls hl => ?_)
                refine lv_iinc (v := (nI (ka9 + 1 + j9 + 1))) (lv' := [(5, .int (nI (ka9 + 1 + j9 + 1))), (4, .int (nI ((sp_beh S ro ka9 en9 j9) + x_47))), (0, .ref g.2.2.2.1), (1, .int (nI na9)), (2, .int (nI en9)), (3, .int (nI ka9))]) hx hb dX8_aheadOf_50 hl (k := 5) rfl (by first | exact nI_1 _ | (rw [show Int32.ofInt 1 = nI 1 from by decide, nI_add])) (by decide) rfl (fun ls hl => ?_)
                refine lv_goto (tgt := 15) hx hb dX8_aheadOf_53 (by decide) ?_
                subst ex_47
                exact ih_15 (j9 + 1) (by omega) (by omega) ls (lv_sub hl [2, 3, 4, 5, 1, 0] rfl)
              · skip
                refine n_icmp_gt (tgt := 46) hx hb dX8_aheadOf_39 (by decide) (by omega) (by omega) (fun c_39_9 => ?_) (fun c_39_9 => ?_)
                · skip
                  refine lv_iconst (v := (nI 0)) hx hb dX8_aheadOf_46 (by decide) ?_
                  exact k_47 _ ⟨_, by simp only [if_pos c_39_9], rfl⟩
                · skip
                  refine lv_iconst (v := (nI 1)) hx hb dX8_aheadOf_42 (by decide) ?_
                  refine lv_goto (tgt := 47) hx hb dX8_aheadOf_43 (by decide) ?_
                  exact k_47 _ ⟨_, by simp only [if_neg c_39_9], rfl⟩
        exact lp_15 _ 0 (Nat.zero_le _) (Nat.lt_succ_self _) ls (lv_sub hl [2, 3, 4, 5, 1, 0] rfl)
  exact lp_2 _ 0 (Nat.zero_le _) (Nat.lt_succ_self _) ls z _ _ w (rFr_rf _ _ _) (fun q hq => absurd hq (by omega)) (lv_sub hl [1, 2, 3, 0] rfl)
