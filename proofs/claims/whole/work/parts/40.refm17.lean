theorem ok_looks : rOk yX8_looks cX8_looks 5 none 0 := ⟨wc_X8_looks, wi_X8_looks, ws_X8_looks, rfl, by decide, by decide, by decide +kernel⟩
set_option maxHeartbeats 4000000 in
set_option maxRecDepth 100000 in
theorem k_looks (l : Launch) (g : RG) (z : RS)  (S : Sc) (hz : rSc z S) (ho : oSc S) (tg : Nat) (htg : z.1 6 = nI tg) (hg1 : tg ≤ 1) (hlt : ∃ U9, rLt z U9) (h0 : pc_dn S 0 = 0) (hmo : S.1 3 ≤ 5000) (hnt : S.1 4 = 0) : rMv g l yX8_looks cX8_looks 5 none 7 155 [] z (fun z' => lkI S tg z 61 z') := by
  refine rMv_in (by decide) rfl (Nat.le_of_ble_eq_true rfl) ?_
  intro p e s m args below meth c A ls X hml hr hk hl w
  have hx := X.1
  have hb := X.2.1
  have hts := X.2.2.1
  have hown := X.2.2.2.1
  have hl : lv_has ls 5 [(0, .ref g.2.2.2.1)] := hl
  obtain ⟨hz0, hz1, hz4, hm0, hm1, hm2, hso, hki, hsr, hpa, hhu, hco⟩ := id hz
  obtain ⟨o1, o2, o3, o4, o5, o6, oso, oki, osr, opa, ohu, oco⟩ := id ho
  refine lv_aload_n hx hb dX8_looks_0 rfl (lv_at hl 0 rfl) ?_
  refine rc_v (rest := []) X hml hl.1 (k_asides l g z) ok_asides wm_X8_223 ⟨Nat.le_of_ble_eq_true rfl, Nat.le_of_ble_eq_true rfl⟩ ⟨Nat.le_refl _, Nat.le_refl _⟩ w rfl (Nat.le_of_ble_eq_true rfl) dX8_looks_1 (fun z_1 H locs hr_1 w => ?_)
  have I0 := lkI_0 (tg := tg) hz hlt hr_1
  refine lv_aload_n hx hb dX8_looks_4 rfl (lv_at hl 0 rfl) ?_
  refine lv_iconst (v := (iZ (-1))) hx hb dX8_looks_5 (by decide) ?_
  refine rp_22 X w dX8_looks_6 (fun z_6 H locs ez_6 w => ?_)
  refine lv_iconst (v := (nI 0)) hx hb dX8_looks_9 (by decide) ?_
  refine lv_istore_n (lv' := [(1, .int (nI 0)), (0, .ref g.2.2.2.1)]) hx hb dX8_looks_10 rfl hl (by decide) rfl (fun ls hl => ?_)
  refine lv_iconst (v := (nI 0)) hx hb dX8_looks_11 (by decide) ?_
  refine lv_istore_n (lv' := [(2, .int (nI 0)), (1, .int (nI 0)), (0, .ref g.2.2.2.1)]) hx hb dX8_looks_12 rfl hl (by decide) rfl (fun ls hl => ?_)
  have lp_13 : ∀ (n_13 : Nat) (i9a : Nat) (hi9a : i9a ≤ 61) (hm_13 : 61 - i9a < n_13) (ls : Array Slot) (zz : RS) (H : Heap) (locs : List Loc) (w : rW g A s zz H locs) (hI : lkI S tg z i9a zz), lv_has ls 5 [(0, .ref g.2.2.2.1), (1, .int (nI (sp_lkc S tg i9a))), (2, .int (nI i9a))] → W p l e (ro_m 7 155) s m args below meth c H locs 0 0 (MQ below (va_Qv (fun z' => lkI S tg z 61 z') (rB g A) A) args s 0 0 A) (F0 m 13 ls []) := by
    intro n_13
    induction n_13 with
    | zero => intro i9a hi9a hm; exact absurd hm (Nat.not_lt_zero _)
    | succ n_13 ih_13 =>
      intro i9a hi9a hm_13 ls zz H locs w hI hl
      have lk1 := lkc_le S tg i9a
      obtain ⟨U9, hU9⟩ := hI.2.1
      have lkb := byv_le S tg (i9a - 1)
      refine lv_iload_n hx hb dX8_looks_13 rfl (lv_at hl 2 rfl) ?_
      refine lv_bipush (v := (nI 61)) hx hb dX8_looks_14 (by decide) ?_
      refine n_icmp_ge (tgt := 151) hx hb dX8_looks_16 (by decide) (by omega) (by omega) (fun c_16_1 => ?_) (fun c_16_1 => ?_)
      · skip
        exact re_v X hr hk w (by have e8 : i9a = 61 := (by omega); subst e8; exact hI) dX8_looks_151
      · skip
        refine lv_iload_n hx hb dX8_looks_19 rfl (lv_at hl 2 rfl) ?_
        refine jn (tgt := 35) (rest := []) (fun v9 => ∃ x9 : Nat, x9 = (if i9a ≤ 0 then 0 else (sp_byv S tg (i9a - 1))) ∧ v9 = nI x9) (fun v_ hv_ => ?_) (fun k_35 => ?_)
        · obtain ⟨x_35, ex_35, rfl⟩ := hv_
          refine lv_istore_n (lv' := [(3, .int (nI x_35)), (0, .ref g.2.2.2.1), (1, .int (nI (sp_lkc S tg i9a))), (2, .int (nI i9a))]) hx hb dX8_looks_35 rfl hl (by decide) rfl (fun ls hl => ?_)
          refine lv_iload_n hx hb dX8_looks_36 rfl (lv_at hl 2 rfl) ?_
          refine n_if_ne (tgt := 91) hx hb dX8_looks_37 (by decide) (by omega) (fun c_37_3 => ?_) (fun c_37_3 => ?_)
          · skip
            have J9 : lkI S tg z i9a zz := hI
            have Jm : (sp_mq S tg i9a : Int) ≤ 1000001 := by have := mq_le S tg i9a; omega
            have Jb := byv_le S tg i9a
            have e91 : x_35 = sp_byv S tg i9a := by rw [ex_35, if_neg (by have := (byv_c (S := S) (tg := tg) (k := i9a) (by assumption)).1; omega)]; exact (byv_c (by assumption)).2.symm
            subst e91
            refine lv_aload_n hx hb dX8_looks_91 rfl (lv_at hl 1 rfl) ?_
            refine rg_21 X w.1 dX8_looks_92 ?_
            refine lv_iload_n hx hb dX8_looks_95 rfl (lv_at hl 3 rfl) ?_
            refine lv_iload_n hx hb dX8_looks_96 rfl (lv_at hl 0 rfl) ?_
            refine ru_21 X w (by omega) dX8_looks_97 (fun z_97 H locs ez_97 w => ?_)
            have m97 : z_97.1 22 = iZ (((sp_mq S tg i9a : Nat) : Int) - (1 : Int)) := by rw [ez_97]; exact J9.2.2.2.1
            have a97 : z_97.2.1 17 0 = nI (S.1 3) := by rw [ez_97]; exact (J9.2.2.1 0 (by omega)).trans hm0
            refine lv_aload_n hx hb dX8_looks_98 rfl (lv_at hl 1 rfl) ?_
            refine lv_iload_n hx hb dX8_looks_99 rfl (lv_at hl 0 rfl) ?_
            refine lv_aload_n hx hb dX8_looks_100 rfl (lv_at hl 1 rfl) ?_
            refine rg_22 X w.1 dX8_looks_101 ?_
            refine tp_i (show z_97.1 22 = (iZ (((sp_mq S tg i9a : Nat) : Int) - (1 : Int))) from m97) ?_
            refine jn (tgt := 122) (rest := [.ref g.2.2.2.1]) (fun v9 => v9 = (if (((sp_byv S tg i9a : Nat) : Int)) ≤ (((sp_mq S tg i9a : Nat) : Int) - (1 : Int)) then ((z_97.1 23)) else ((nI ((S.1 3) + i9a))))) (fun x_122 ex_122 => ?_) (fun k_122 => ?_)
            · skip
              refine rp_23 X w dX8_looks_122 (fun z_122 H locs ez_122 w => ?_)
              have m122 : z_122.1 22 = iZ (((sp_mq S tg i9a : Nat) : Int) - (1 : Int)) := by rw [ez_122]; exact m97
              refine lv_aload_n hx hb dX8_looks_125 rfl (lv_at hl 1 rfl) ?_
              refine lv_iload_n hx hb dX8_looks_126 rfl (lv_at hl 0 rfl) ?_
              refine lv_aload_n hx hb dX8_looks_127 rfl (lv_at hl 1 rfl) ?_
              refine rg_22 X w.1 dX8_looks_128 ?_
              refine tp_i (show z_122.1 22 = (iZ (((sp_mq S tg i9a : Nat) : Int) - (1 : Int))) from m122) ?_
              refine jn (tgt := 142) (rest := [.ref g.2.2.2.1]) (fun v9 => ∃ x9 : Int, x9 = (if (((sp_byv S tg i9a : Nat) : Int)) ≤ (((sp_mq S tg i9a : Nat) : Int) - (1 : Int)) then (((sp_mq S tg i9a : Nat) : Int) - (1 : Int)) else (((sp_byv S tg i9a : Nat) : Int))) ∧ v9 = iZ x9) (fun v_ hv_ => ?_) (fun k_142 => ?_)
              · obtain ⟨x_142, ex_142, rfl⟩ := hv_
                refine rp_22 X w dX8_looks_142 (fun z_142 H locs ez_142 w => ?_)
                refine lv_iinc (v := (nI (i9a + 1))) (lv' := [(2, .int (nI (i9a + 1))), (3, .int (nI (sp_byv S tg i9a))), (0, .ref g.2.2.2.1), (1, .int (nI (sp_lkc S tg i9a)))]) hx hb dX8_looks_145 hl (k := 3) rfl (by first | exact nI_1 _ | (rw [show Int32.ofInt 1 = nI 1 from by decide, nI_add])) (by decide) rfl (fun ls hl => ?_)
                refine lv_goto (tgt := 13) hx hb dX8_looks_148 (by decide) ?_
                rw [show sp_lkc S tg i9a = sp_lkc S tg (i9a + 1) from (lkc_1 (by assumption)).symm] at hl
                exact ih_13 (i9a + 1) (by omega) (by omega) ls z_142 _ _ w (by rw [ez_142, ez_122, ez_97]; exact lkI_s J9 (by rw [ex_122, ez_97]) (congrArg iZ ex_142)) (lv_sub hl [2, 3, 0] rfl)
              · skip
                refine tp_i2 (iZ_n (sp_byv S tg i9a)).symm ?_
                refine z_icmp_le (tgt := 138) hx hb dX8_looks_131 (by decide) (by omega) (by omega) (by omega) (by omega) (fun c_131_6 => ?_) (fun c_131_6 => ?_)
                · skip
                  refine lv_aload_n hx hb dX8_looks_138 rfl (lv_at hl 1 rfl) ?_
                  refine rg_22 X w.1 dX8_looks_139 ?_
                  refine tp_i (show z_122.1 22 = (iZ (((sp_mq S tg i9a : Nat) : Int) - (1 : Int))) from m122) ?_
                  exact k_142 _ ⟨_, by simp only [if_pos c_131_6], rfl⟩
                · skip
                  refine lv_iload_n hx hb dX8_looks_134 rfl (lv_at hl 0 rfl) ?_
                  refine lv_goto (tgt := 142) hx hb dX8_looks_135 (by decide) ?_
                  exact k_142 _ ⟨((sp_byv S tg i9a : Nat) : Int), by simp only [if_neg c_131_6], (iZ_n (sp_byv S tg i9a)).symm⟩
            · skip
              refine tp_i2 (iZ_n (sp_byv S tg i9a)).symm ?_
              refine z_icmp_le (tgt := 118) hx hb dX8_looks_104 (by decide) (by omega) (by omega) (by omega) (by omega) (fun c_104_7 => ?_) (fun c_104_7 => ?_)
              · skip
                refine lv_aload_n hx hb dX8_looks_118 rfl (lv_at hl 1 rfl) ?_
                refine rg_23 X w.1 dX8_looks_119 ?_
                exact k_122 _ (by simp only [if_pos c_104_7])
              · skip
                refine lv_aload_n hx hb dX8_looks_107 rfl (lv_at hl 1 rfl) ?_
                refine rg_17 X w.1 dX8_looks_108 ?_
                refine lv_iconst (v := (nI 0)) hx hb dX8_looks_111 (by decide) ?_
                refine rn_17 X w.1 (by omega) dX8_looks_112 ?_
                refine tp_i (show z_97.2.1 17 0 = (nI (S.1 3)) from a97) ?_
                refine lv_iload_n hx hb dX8_looks_113 rfl (lv_at hl 3 rfl) ?_
                refine n_iadd hx hb dX8_looks_114 ?_
                refine lv_goto (tgt := 122) hx hb dX8_looks_115 (by decide) ?_
                exact k_122 _ (by simp only [if_neg c_104_7])
          · skip
            refine lv_aload_n hx hb dX8_looks_40 rfl (lv_at hl 1 rfl) ?_
            refine rg_17 X w.1 dX8_looks_41 ?_
            refine lv_iconst (v := (nI 0)) hx hb dX8_looks_44 (by decide) ?_
            refine rn_17 X w.1 (by omega) dX8_looks_45 ?_
            refine tp_i (show zz.2.1 17 0 = (nI (S.1 3)) from (hI.2.2.1 0 (by omega)).trans hm0) ?_
            refine lv_iload_n hx hb dX8_looks_46 rfl (lv_at hl 3 rfl) ?_
            refine n_iadd hx hb dX8_looks_47 ?_
            refine lv_istore (lv' := [(4, .int (nI ((S.1 3) + i9a))), (3, .int (nI x_35)), (0, .ref g.2.2.2.1), (1, .int (nI (sp_lkc S tg i9a))), (2, .int (nI i9a))]) hx hb dX8_looks_48 hl (by decide) rfl (fun ls hl => ?_)
            refine lv_aload_n hx hb dX8_looks_50 rfl (lv_at hl 2 rfl) ?_
            refine lv_iload hx hb dX8_looks_51 (lv_at hl 0 rfl) ?_
            refine rc_i (rest := []) X hml hl.1 (k_lkBy l g zz (S.1 3 + i9a) S hI.1 ho tg ((hI.2.2.2.2.2.2.1 6 (by decide)).trans htg) hg1 U9 hU9 h0 (by omega) (by omega)) ok_likelyBy wm_X8_226 ⟨Nat.le_of_ble_eq_true rfl, Nat.le_of_ble_eq_true rfl⟩ ⟨Nat.le_refl _, Nat.le_refl _⟩ w rfl (Nat.le_of_ble_eq_true rfl) dX8_looks_53 (fun r_53 z_53 H locs hr_53 w => ?_)
            obtain ⟨h9, hr_53⟩ := hr_53
            subst h9
            have fz_53 := hr_53.2.2
            have er := rch_mo (tg := tg) hnt i9a
            have tml := sp_tm_le S tg i9a (S.1 3)
            have hr_53 := And.intro True.intro hr_53
            refine lv_istore_n (lv' := [(3, .int (nI (sp_c (sp_rch S tg (S.1 3 + i9a))))), (4, .int (nI ((S.1 3) + i9a))), (0, .ref g.2.2.2.1), (1, .int (nI (sp_lkc S tg i9a))), (2, .int (nI i9a))]) hx hb dX8_looks_56 rfl hl (by decide) rfl (fun ls hl => ?_)
            refine lv_iload_n hx hb dX8_looks_57 rfl (lv_at hl 4 rfl) ?_
            refine n_if_le (tgt := 85) hx hb dX8_looks_58 (by decide) (by omega) (fun c_58_8 => ?_) (fun c_58_8 => ?_)
            · skip
              refine lv_iconst (v := (nI 0)) hx hb dX8_looks_85 (by decide) ?_
              refine lv_istore_n (lv' := [(1, .int (nI 0)), (3, .int (nI (sp_c (sp_rch S tg (S.1 3 + i9a))))), (4, .int (nI ((S.1 3) + i9a))), (0, .ref g.2.2.2.1), (2, .int (nI i9a))]) hx hb dX8_looks_86 rfl hl (by decide) rfl (fun ls hl => ?_)
              refine lv_aload_n hx hb dX8_looks_87 rfl (lv_at hl 3 rfl) ?_
              refine rc_v (rest := []) X hml hl.1 (k_backs l g z_53) ok_backs wm_X8_229 ⟨Nat.le_of_ble_eq_true rfl, Nat.le_of_ble_eq_true rfl⟩ ⟨Nat.le_refl _, Nat.le_refl _⟩ w rfl (Nat.le_of_ble_eq_true rfl) dX8_looks_88 (fun z_88 H locs hr_88 w => ?_)
              skip
              have J9 : lkI S tg z i9a z_88 := lkI_bk hI hz fz_53 hr_88 hr_53.2.2.1
              have Jm : (sp_mq S tg i9a : Int) ≤ 1000001 := by have := mq_le S tg i9a; omega
              have Jb := byv_le S tg i9a
              have e91 : sp_c (sp_rch S tg (S.1 3 + i9a)) = sp_byv S tg i9a := (byv_n (by omega)).symm
              rw [e91] at hl
              refine lv_aload_n hx hb dX8_looks_91 rfl (lv_at hl 3 rfl) ?_
              refine rg_21 X w.1 dX8_looks_92 ?_
              refine lv_iload_n hx hb dX8_looks_95 rfl (lv_at hl 4 rfl) ?_
              refine lv_iload_n hx hb dX8_looks_96 rfl (lv_at hl 1 rfl) ?_
              refine ru_21 X w (by omega) dX8_looks_97 (fun z_97 H locs ez_97 w => ?_)
              have m97 : z_97.1 22 = iZ (((sp_mq S tg i9a : Nat) : Int) - (1 : Int)) := by rw [ez_97]; exact J9.2.2.2.1
              have a97 : z_97.2.1 17 0 = nI (S.1 3) := by rw [ez_97]; exact (J9.2.2.1 0 (by omega)).trans hm0
              refine lv_aload_n hx hb dX8_looks_98 rfl (lv_at hl 3 rfl) ?_
              refine lv_iload_n hx hb dX8_looks_99 rfl (lv_at hl 1 rfl) ?_
              refine lv_aload_n hx hb dX8_looks_100 rfl (lv_at hl 3 rfl) ?_
              refine rg_22 X w.1 dX8_looks_101 ?_
              refine tp_i (show z_97.1 22 = (iZ (((sp_mq S tg i9a : Nat) : Int) - (1 : Int))) from m97) ?_
              refine jn (tgt := 122) (rest := [.ref g.2.2.2.1]) (fun v9 => v9 = (if (((sp_byv S tg i9a : Nat) : Int)) ≤ (((sp_mq S tg i9a : Nat) : Int) - (1 : Int)) then ((z_97.1 23)) else ((nI ((S.1 3) + i9a))))) (fun x_122 ex_122 => ?_) (fun k_122 => ?_)
              · skip
                refine rp_23 X w dX8_looks_122 (fun z_122 H locs ez_122 w => ?_)
                have m122 : z_122.1 22 = iZ (((sp_mq S tg i9a : Nat) : Int) - (1 : Int)) := by rw [ez_122]; exact m97
                refine lv_aload_n hx hb dX8_looks_125 rfl (lv_at hl 3 rfl) ?_
                refine lv_iload_n hx hb dX8_looks_126 rfl (lv_at hl 1 rfl) ?_
                refine lv_aload_n hx hb dX8_looks_127 rfl (lv_at hl 3 rfl) ?_
                refine rg_22 X w.1 dX8_looks_128 ?_
                refine tp_i (show z_122.1 22 = (iZ (((sp_mq S tg i9a : Nat) : Int) - (1 : Int))) from m122) ?_
                refine jn (tgt := 142) (rest := [.ref g.2.2.2.1]) (fun v9 => ∃ x9 : Int, x9 = (if (((sp_byv S tg i9a : Nat) : Int)) ≤ (((sp_mq S tg i9a : Nat) : Int) - (1 : Int)) then (((sp_mq S tg i9a : Nat) : Int) - (1 : Int)) else (((sp_byv S tg i9a : Nat) : Int))) ∧ v9 = iZ x9) (fun v_ hv_ => ?_) (fun k_142 => ?_)
                · obtain ⟨x_142, ex_142, rfl⟩ := hv_
                  refine rp_22 X w dX8_looks_142 (fun z_142 H locs ez_142 w => ?_)
                  refine lv_iinc (v := (nI (i9a + 1))) (lv' := [(2, .int (nI (i9a + 1))), (1, .int (nI 0)), (3, .int (nI (sp_byv S tg i9a))), (4, .int (nI ((S.1 3) + i9a))), (0, .ref g.2.2.2.1)]) hx hb dX8_looks_145 hl (k := 4) rfl (by first | exact nI_1 _ | (rw [show Int32.ofInt 1 = nI 1 from by decide, nI_add])) (by decide) rfl (fun ls hl => ?_)
                  refine lv_goto (tgt := 13) hx hb dX8_looks_148 (by decide) ?_
                  rw [show nI 0 = nI (sp_lkc S tg (i9a + 1)) from congrArg nI (by rw [lkc_s (by omega)]; first | (rw [if_pos (by omega)]; done) | (rw [if_neg (by omega), if_pos (by omega)]; done) | (rw [if_neg (by omega), if_neg (by omega)]; first | omega | (rw [ex_86]; split <;> omega)))] at hl
                  exact ih_13 (i9a + 1) (by omega) (by omega) ls z_142 _ _ w (by rw [ez_142, ez_122, ez_97]; exact lkI_s J9 (by rw [ex_122, ez_97]) (congrArg iZ ex_142)) (lv_sub hl [4, 1, 0] rfl)
                · skip
                  refine tp_i2 (iZ_n (sp_byv S tg i9a)).symm ?_
                  refine z_icmp_le (tgt := 138) hx hb dX8_looks_131 (by decide) (by omega) (by omega) (by omega) (by omega) (fun c_131_11 => ?_) (fun c_131_11 => ?_)
                  · skip
                    refine lv_aload_n hx hb dX8_looks_138 rfl (lv_at hl 3 rfl) ?_
                    refine rg_22 X w.1 dX8_looks_139 ?_
                    refine tp_i (show z_122.1 22 = (iZ (((sp_mq S tg i9a : Nat) : Int) - (1 : Int))) from m122) ?_
                    exact k_142 _ ⟨_, by simp only [if_pos c_131_11], rfl⟩
                  · skip
                    refine lv_iload_n hx hb dX8_looks_134 rfl (lv_at hl 1 rfl) ?_
                    refine lv_goto (tgt := 142) hx hb dX8_looks_135 (by decide) ?_
                    exact k_142 _ ⟨((sp_byv S tg i9a : Nat) : Int), by simp only [if_neg c_131_11], (iZ_n (sp_byv S tg i9a)).symm⟩
              · skip
                refine tp_i2 (iZ_n (sp_byv S tg i9a)).symm ?_
                refine z_icmp_le (tgt := 118) hx hb dX8_looks_104 (by decide) (by omega) (by omega) (by omega) (by omega) (fun c_104_12 => ?_) (fun c_104_12 => ?_)
                · skip
                  refine lv_aload_n hx hb dX8_looks_118 rfl (lv_at hl 3 rfl) ?_
                  refine rg_23 X w.1 dX8_looks_119 ?_
                  exact k_122 _ (by simp only [if_pos c_104_12])
                · skip
                  refine lv_aload_n hx hb dX8_looks_107 rfl (lv_at hl 3 rfl) ?_
                  refine rg_17 X w.1 dX8_looks_108 ?_
                  refine lv_iconst (v := (nI 0)) hx hb dX8_looks_111 (by decide) ?_
                  refine rn_17 X w.1 (by omega) dX8_looks_112 ?_
                  refine tp_i (show z_97.2.1 17 0 = (nI (S.1 3)) from a97) ?_
                  refine lv_iload_n hx hb dX8_looks_113 rfl (lv_at hl 4 rfl) ?_
                  refine n_iadd hx hb dX8_looks_114 ?_
                  refine lv_goto (tgt := 122) hx hb dX8_looks_115 (by decide) ?_
                  exact k_122 _ (by simp only [if_neg c_104_12])
            · skip
              refine lv_aload_n hx hb dX8_looks_61 rfl (lv_at hl 2 rfl) ?_
              refine rg_5 X w.1 dX8_looks_62 ?_
              refine lv_iconst (v := (nI 0)) hx hb dX8_looks_65 (by decide) ?_
              refine rn_5 X w.1 (by omega) dX8_looks_66 ?_
              refine tp_i (show z_53.2.1 5 0 = (nI (sp_tm S tg i9a (S.1 3))) from (rs_mo hr_53.2.1).trans (by rw [er]; rfl)) ?_
              refine lv_iload hx hb dX8_looks_67 (lv_at hl 1 rfl) ?_
              refine n_icmp_lt (tgt := 81) hx hb dX8_looks_69 (by decide) (by omega) (by omega) (fun c_69_13 => ?_) (fun c_69_13 => ?_)
              · skip
                refine lv_iconst (v := (nI 1)) hx hb dX8_looks_81 (by decide) ?_
                refine lv_goto (tgt := 86) hx hb dX8_looks_82 (by decide) ?_
                refine lv_istore_n (lv' := [(1, .int (nI 1)), (3, .int (nI (sp_c (sp_rch S tg (S.1 3 + i9a))))), (4, .int (nI ((S.1 3) + i9a))), (0, .ref g.2.2.2.1), (2, .int (nI i9a))]) hx hb dX8_looks_86 rfl hl (by decide) rfl (fun ls hl => ?_)
                refine lv_aload_n hx hb dX8_looks_87 rfl (lv_at hl 3 rfl) ?_
                refine rc_v (rest := []) X hml hl.1 (k_backs l g z_53) ok_backs wm_X8_229 ⟨Nat.le_of_ble_eq_true rfl, Nat.le_of_ble_eq_true rfl⟩ ⟨Nat.le_refl _, Nat.le_refl _⟩ w rfl (Nat.le_of_ble_eq_true rfl) dX8_looks_88 (fun z_88 H locs hr_88 w => ?_)
                skip
                have J9 : lkI S tg z i9a z_88 := lkI_bk hI hz fz_53 hr_88 hr_53.2.2.1
                have Jm : (sp_mq S tg i9a : Int) ≤ 1000001 := by have := mq_le S tg i9a; omega
                have Jb := byv_le S tg i9a
                have e91 : sp_c (sp_rch S tg (S.1 3 + i9a)) = sp_byv S tg i9a := (byv_n (by omega)).symm
                rw [e91] at hl
                refine lv_aload_n hx hb dX8_looks_91 rfl (lv_at hl 3 rfl) ?_
                refine rg_21 X w.1 dX8_looks_92 ?_
                refine lv_iload_n hx hb dX8_looks_95 rfl (lv_at hl 4 rfl) ?_
                refine lv_iload_n hx hb dX8_looks_96 rfl (lv_at hl 1 rfl) ?_
                refine ru_21 X w (by omega) dX8_looks_97 (fun z_97 H locs ez_97 w => ?_)
                have m97 : z_97.1 22 = iZ (((sp_mq S tg i9a : Nat) : Int) - (1 : Int)) := by rw [ez_97]; exact J9.2.2.2.1
                have a97 : z_97.2.1 17 0 = nI (S.1 3) := by rw [ez_97]; exact (J9.2.2.1 0 (by omega)).trans hm0
                refine lv_aload_n hx hb dX8_looks_98 rfl (lv_at hl 3 rfl) ?_
                refine lv_iload_n hx hb dX8_looks_99 rfl (lv_at hl 1 rfl) ?_
                refine lv_aload_n hx hb dX8_looks_100 rfl (lv_at hl 3 rfl) ?_
                refine rg_22 X w.1 dX8_looks_101 ?_
                refine tp_i (show z_97.1 22 = (iZ (((sp_mq S tg i9a : Nat) : Int) - (1 : Int))) from m97) ?_
                refine jn (tgt := 122) (rest := [.ref g.2.2.2.1]) (fun v9 => v9 = (if (((sp_byv S tg i9a : Nat) : Int)) ≤ (((sp_mq S tg i9a : Nat) : Int) - (1 : Int)) then ((z_97.1 23)) else ((nI ((S.1 3) + i9a))))) (fun x_122 ex_122 => ?_) (fun k_122 => ?_)
                · skip
                  refine rp_23 X w dX8_looks_122 (fun z_122 H locs ez_122 w => ?_)
                  have m122 : z_122.1 22 = iZ (((sp_mq S tg i9a : Nat) : Int) - (1 : Int)) := by rw [ez_122]; exact m97
                  refine lv_aload_n hx hb dX8_looks_125 rfl (lv_at hl 3 rfl) ?_
                  refine lv_iload_n hx hb dX8_looks_126 rfl (lv_at hl 1 rfl) ?_
                  refine lv_aload_n hx hb dX8_looks_127 rfl (lv_at hl 3 rfl) ?_
                  refine rg_22 X w.1 dX8_looks_128 ?_
                  refine tp_i (show z_122.1 22 = (iZ (((sp_mq S tg i9a : Nat) : Int) - (1 : Int))) from m122) ?_
                  refine jn (tgt := 142) (rest := [.ref g.2.2.2.1]) (fun v9 => ∃ x9 : Int, x9 = (if (((sp_byv S tg i9a : Nat) : Int)) ≤ (((sp_mq S tg i9a : Nat) : Int) - (1 : Int)) then (((sp_mq S tg i9a : Nat) : Int) - (1 : Int)) else (((sp_byv S tg i9a : Nat) : Int))) ∧ v9 = iZ x9) (fun v_ hv_ => ?_) (fun k_142 => ?_)
                  · obtain ⟨x_142, ex_142, rfl⟩ := hv_
                    refine rp_22 X w dX8_looks_142 (fun z_142 H locs ez_142 w => ?_)
                    refine lv_iinc (v := (nI (i9a + 1))) (lv' := [(2, .int (nI (i9a + 1))), (1, .int (nI 1)), (3, .int (nI (sp_byv S tg i9a))), (4, .int (nI ((S.1 3) + i9a))), (0, .ref g.2.2.2.1)]) hx hb dX8_looks_145 hl (k := 4) rfl (by first | exact nI_1 _ | (rw [show Int32.ofInt 1 = nI 1 from by decide, nI_add])) (by decide) rfl (fun ls hl => ?_)
                    refine lv_goto (tgt := 13) hx hb dX8_looks_148 (by decide) ?_
                    rw [show nI 1 = nI (sp_lkc S tg (i9a + 1)) from congrArg nI (by rw [lkc_s (by omega)]; first | (rw [if_pos (by omega)]; done) | (rw [if_neg (by omega), if_pos (by omega)]; done) | (rw [if_neg (by omega), if_neg (by omega)]; first | omega | (rw [ex_86]; split <;> omega)))] at hl
                    exact ih_13 (i9a + 1) (by omega) (by omega) ls z_142 _ _ w (by rw [ez_142, ez_122, ez_97]; exact lkI_s J9 (by rw [ex_122, ez_97]) (congrArg iZ ex_142)) (lv_sub hl [4, 1, 0] rfl)
                  · skip
                    refine tp_i2 (iZ_n (sp_byv S tg i9a)).symm ?_
                    refine z_icmp_le (tgt := 138) hx hb dX8_looks_131 (by decide) (by omega) (by omega) (by omega) (by omega) (fun c_131_16 => ?_) (fun c_131_16 => ?_)
                    · skip
                      refine lv_aload_n hx hb dX8_looks_138 rfl (lv_at hl 3 rfl) ?_
                      refine rg_22 X w.1 dX8_looks_139 ?_
                      refine tp_i (show z_122.1 22 = (iZ (((sp_mq S tg i9a : Nat) : Int) - (1 : Int))) from m122) ?_
                      exact k_142 _ ⟨_, by simp only [if_pos c_131_16], rfl⟩
                    · skip
                      refine lv_iload_n hx hb dX8_looks_134 rfl (lv_at hl 1 rfl) ?_
                      refine lv_goto (tgt := 142) hx hb dX8_looks_135 (by decide) ?_
                      exact k_142 _ ⟨((sp_byv S tg i9a : Nat) : Int), by simp only [if_neg c_131_16], (iZ_n (sp_byv S tg i9a)).symm⟩
                · skip
                  refine tp_i2 (iZ_n (sp_byv S tg i9a)).symm ?_
                  refine z_icmp_le (tgt := 118) hx hb dX8_looks_104 (by decide) (by omega) (by omega) (by omega) (by omega) (fun c_104_17 => ?_) (fun c_104_17 => ?_)
                  · skip
                    refine lv_aload_n hx hb dX8_looks_118 rfl (lv_at hl 3 rfl) ?_
                    refine rg_23 X w.1 dX8_looks_119 ?_
                    exact k_122 _ (by simp only [if_pos c_104_17])
                  · skip
                    refine lv_aload_n hx hb dX8_looks_107 rfl (lv_at hl 3 rfl) ?_
                    refine rg_17 X w.1 dX8_looks_108 ?_
                    refine lv_iconst (v := (nI 0)) hx hb dX8_looks_111 (by decide) ?_
                    refine rn_17 X w.1 (by omega) dX8_looks_112 ?_
                    refine tp_i (show z_97.2.1 17 0 = (nI (S.1 3)) from a97) ?_
                    refine lv_iload_n hx hb dX8_looks_113 rfl (lv_at hl 4 rfl) ?_
                    refine n_iadd hx hb dX8_looks_114 ?_
                    refine lv_goto (tgt := 122) hx hb dX8_looks_115 (by decide) ?_
                    exact k_122 _ (by simp only [if_neg c_104_17])
              · skip
                refine lv_aload_n hx hb dX8_looks_72 rfl (lv_at hl 2 rfl) ?_
                refine lv_iload hx hb dX8_looks_73 (lv_at hl 1 rfl) ?_
                refine rc_i (rest := []) X hml hl.1 (k_isCaughtThen l g z_53 (S.1 3 + i9a) (sp_rch S tg (S.1 3 + i9a)) S hr_53.2.1 (rNw_of (rSc_nw hz) (fun k hk => (congrFun (fz_53.2.1 17 (by decide)) k).trans (hI.2.2.1 k hk))) (by rw [er, at_turn]; exact ho) tg ((fz_53.1 6 (by decide)).trans ((hI.2.2.2.2.2.2.1 6 (by decide)).trans htg)) hg1 (by omega)) ok_isCaughtThen wm_X8_235 ⟨Nat.le_of_ble_eq_true rfl, Nat.le_of_ble_eq_true rfl⟩ ⟨Nat.le_refl _, Nat.le_refl _⟩ w rfl (Nat.le_of_ble_eq_true rfl) dX8_looks_75 (fun r_75 z_75 H locs hr_75 w => ?_)
                obtain ⟨h9, hr_75⟩ := hr_75
                rw [er, at_turn] at h9
                subst h9
                have fz_75 := rFr_w (is' := []) (ks' := [5, 18, 19, 20]) hr_75.2 (by simp) (by simp)
                have lz_75 : ∃ U9, rLt z_75 U9 := by obtain ⟨U8, hU8⟩ := hr_53.2.2.1; exact ⟨U8, fun j hj => (congrFun (hr_75.2.2.1 19 (by decide)) j).trans (hU8.1 j hj), hU8.2⟩
                have c01 := sp_ct01 S tg (S.1 3 + i9a)
                refine jn (tgt := 86) (rest := []) (fun v9 => ∃ x9 : Nat, x9 = (if (sp_ct S tg (S.1 3 + i9a)) = 0 then 0 else 1) ∧ v9 = nI x9) (fun v_ hv_ => ?_) (fun k_86 => ?_)
                · obtain ⟨x_86, ex_86, rfl⟩ := hv_
                  refine lv_istore_n (lv' := [(1, .int (nI x_86)), (3, .int (nI (sp_c (sp_rch S tg (S.1 3 + i9a))))), (4, .int (nI ((S.1 3) + i9a))), (0, .ref g.2.2.2.1), (2, .int (nI i9a))]) hx hb dX8_looks_86 rfl hl (by decide) rfl (fun ls hl => ?_)
                  refine lv_aload_n hx hb dX8_looks_87 rfl (lv_at hl 3 rfl) ?_
                  refine rc_v (rest := []) X hml hl.1 (k_backs l g z_75) ok_backs wm_X8_229 ⟨Nat.le_of_ble_eq_true rfl, Nat.le_of_ble_eq_true rfl⟩ ⟨Nat.le_refl _, Nat.le_refl _⟩ w rfl (Nat.le_of_ble_eq_true rfl) dX8_looks_88 (fun z_88 H locs hr_88 w => ?_)
                  skip
                  have J9 : lkI S tg z i9a z_88 := lkI_bk hI hz (rFr_tr fz_53 fz_75) hr_88 lz_75
                  have Jm : (sp_mq S tg i9a : Int) ≤ 1000001 := by have := mq_le S tg i9a; omega
                  have Jb := byv_le S tg i9a
                  have e91 : sp_c (sp_rch S tg (S.1 3 + i9a)) = sp_byv S tg i9a := (byv_n (by omega)).symm
                  rw [e91] at hl
                  refine lv_aload_n hx hb dX8_looks_91 rfl (lv_at hl 3 rfl) ?_
                  refine rg_21 X w.1 dX8_looks_92 ?_
                  refine lv_iload_n hx hb dX8_looks_95 rfl (lv_at hl 4 rfl) ?_
                  refine lv_iload_n hx hb dX8_looks_96 rfl (lv_at hl 1 rfl) ?_
                  refine ru_21 X w (by omega) dX8_looks_97 (fun z_97 H locs ez_97 w => ?_)
                  have m97 : z_97.1 22 = iZ (((sp_mq S tg i9a : Nat) : Int) - (1 : Int)) := by rw [ez_97]; exact J9.2.2.2.1
                  have a97 : z_97.2.1 17 0 = nI (S.1 3) := by rw [ez_97]; exact (J9.2.2.1 0 (by omega)).trans hm0
                  refine lv_aload_n hx hb dX8_looks_98 rfl (lv_at hl 3 rfl) ?_
                  refine lv_iload_n hx hb dX8_looks_99 rfl (lv_at hl 1 rfl) ?_
                  refine lv_aload_n hx hb dX8_looks_100 rfl (lv_at hl 3 rfl) ?_
                  refine rg_22 X w.1 dX8_looks_101 ?_
                  refine tp_i (show z_97.1 22 = (iZ (((sp_mq S tg i9a : Nat) : Int) - (1 : Int))) from m97) ?_
                  refine jn (tgt := 122) (rest := [.ref g.2.2.2.1]) (fun v9 => v9 = (if (((sp_byv S tg i9a : Nat) : Int)) ≤ (((sp_mq S tg i9a : Nat) : Int) - (1 : Int)) then ((z_97.1 23)) else ((nI ((S.1 3) + i9a))))) (fun x_122 ex_122 => ?_) (fun k_122 => ?_)
                  · skip
                    refine rp_23 X w dX8_looks_122 (fun z_122 H locs ez_122 w => ?_)
                    have m122 : z_122.1 22 = iZ (((sp_mq S tg i9a : Nat) : Int) - (1 : Int)) := by rw [ez_122]; exact m97
                    refine lv_aload_n hx hb dX8_looks_125 rfl (lv_at hl 3 rfl) ?_
                    refine lv_iload_n hx hb dX8_looks_126 rfl (lv_at hl 1 rfl) ?_
                    refine lv_aload_n hx hb dX8_looks_127 rfl (lv_at hl 3 rfl) ?_
                    refine rg_22 X w.1 dX8_looks_128 ?_
                    refine tp_i (show z_122.1 22 = (iZ (((sp_mq S tg i9a : Nat) : Int) - (1 : Int))) from m122) ?_
                    refine jn (tgt := 142) (rest := [.ref g.2.2.2.1]) (fun v9 => ∃ x9 : Int, x9 = (if (((sp_byv S tg i9a : Nat) : Int)) ≤ (((sp_mq S tg i9a : Nat) : Int) - (1 : Int)) then (((sp_mq S tg i9a : Nat) : Int) - (1 : Int)) else (((sp_byv S tg i9a : Nat) : Int))) ∧ v9 = iZ x9) (fun v_ hv_ => ?_) (fun k_142 => ?_)
                    · obtain ⟨x_142, ex_142, rfl⟩ := hv_
                      refine rp_22 X w dX8_looks_142 (fun z_142 H locs ez_142 w => ?_)
                      refine lv_iinc (v := (nI (i9a + 1))) (lv' := [(2, .int (nI (i9a + 1))), (1, .int (nI x_86)), (3, .int (nI (sp_byv S tg i9a))), (4, .int (nI ((S.1 3) + i9a))), (0, .ref g.2.2.2.1)]) hx hb dX8_looks_145 hl (k := 4) rfl (by first | exact nI_1 _ | (rw [show Int32.ofInt 1 = nI 1 from by decide, nI_add])) (by decide) rfl (fun ls hl => ?_)
                      refine lv_goto (tgt := 13) hx hb dX8_looks_148 (by decide) ?_
                      rw [show nI x_86 = nI (sp_lkc S tg (i9a + 1)) from congrArg nI (by rw [lkc_s (by omega)]; first | (rw [if_pos (by omega)]; done) | (rw [if_neg (by omega), if_pos (by omega)]; done) | (rw [if_neg (by omega), if_neg (by omega)]; first | omega | (rw [ex_86]; split <;> omega)))] at hl
                      exact ih_13 (i9a + 1) (by omega) (by omega) ls z_142 _ _ w (by rw [ez_142, ez_122, ez_97]; exact lkI_s J9 (by rw [ex_122, ez_97]) (congrArg iZ ex_142)) (lv_sub hl [4, 1, 0] rfl)
                    · skip
                      refine tp_i2 (iZ_n (sp_byv S tg i9a)).symm ?_
                      refine z_icmp_le (tgt := 138) hx hb dX8_looks_131 (by decide) (by omega) (by omega) (by omega) (by omega) (fun c_131_21 => ?_) (fun c_131_21 => ?_)
                      · skip
                        refine lv_aload_n hx hb dX8_looks_138 rfl (lv_at hl 3 rfl) ?_
                        refine rg_22 X w.1 dX8_looks_139 ?_
                        refine tp_i (show z_122.1 22 = (iZ (((sp_mq S tg i9a : Nat) : Int) - (1 : Int))) from m122) ?_
                        exact k_142 _ ⟨_, by simp only [if_pos c_131_21], rfl⟩
                      · skip
                        refine lv_iload_n hx hb dX8_looks_134 rfl (lv_at hl 1 rfl) ?_
                        refine lv_goto (tgt := 142) hx hb dX8_looks_135 (by decide) ?_
                        exact k_142 _ ⟨((sp_byv S tg i9a : Nat) : Int), by simp only [if_neg c_131_21], (iZ_n (sp_byv S tg i9a)).symm⟩
                  · skip
                    refine tp_i2 (iZ_n (sp_byv S tg i9a)).symm ?_
                    refine z_icmp_le (tgt := 118) hx hb dX8_looks_104 (by decide) (by omega) (by omega) (by omega) (by omega) (fun c_104_22 => ?_) (fun c_104_22 => ?_)
                    · skip
                      refine lv_aload_n hx hb dX8_looks_118 rfl (lv_at hl 3 rfl) ?_
                      refine rg_23 X w.1 dX8_looks_119 ?_
                      exact k_122 _ (by simp only [if_pos c_104_22])
                    · skip
                      refine lv_aload_n hx hb dX8_looks_107 rfl (lv_at hl 3 rfl) ?_
                      refine rg_17 X w.1 dX8_looks_108 ?_
                      refine lv_iconst (v := (nI 0)) hx hb dX8_looks_111 (by decide) ?_
                      refine rn_17 X w.1 (by omega) dX8_looks_112 ?_
                      refine tp_i (show z_97.2.1 17 0 = (nI (S.1 3)) from a97) ?_
                      refine lv_iload_n hx hb dX8_looks_113 rfl (lv_at hl 4 rfl) ?_
                      refine n_iadd hx hb dX8_looks_114 ?_
                      refine lv_goto (tgt := 122) hx hb dX8_looks_115 (by decide) ?_
                      exact k_122 _ (by simp only [if_neg c_104_22])
                · skip
                  refine n_if_eq (tgt := 85) hx hb dX8_looks_78 (by decide) (by omega) (fun c_78_23 => ?_) (fun c_78_23 => ?_)
                  · skip
                    refine lv_iconst (v := (nI 0)) hx hb dX8_looks_85 (by decide) ?_
                    exact k_86 _ ⟨_, by simp only [if_pos c_78_23], rfl⟩
                  · skip
                    refine lv_iconst (v := (nI 1)) hx hb dX8_looks_81 (by decide) ?_
                    refine lv_goto (tgt := 86) hx hb dX8_looks_82 (by decide) ?_
                    exact k_86 _ ⟨_, by simp only [if_neg c_78_23], rfl⟩
        · skip
          refine n_if_le (tgt := 34) hx hb dX8_looks_20 (by decide) (by omega) (fun c_20_24 => ?_) (fun c_20_24 => ?_)
          · skip
            refine lv_iconst (v := (nI 0)) hx hb dX8_looks_34 (by decide) ?_
            exact k_35 _ ⟨_, by simp only [if_pos c_20_24], rfl⟩
          · skip
            refine lv_aload_n hx hb dX8_looks_23 rfl (lv_at hl 0 rfl) ?_
            refine rg_21 X w.1 dX8_looks_24 ?_
            refine lv_iload_n hx hb dX8_looks_27 rfl (lv_at hl 2 rfl) ?_
            refine lv_iconst (v := (nI 1)) hx hb dX8_looks_28 (by decide) ?_
            refine n_isub hx hb dX8_looks_29 (by omega) ?_
            refine rn_21 X w.1 (by omega) dX8_looks_30 ?_
            refine tp_i (show zz.2.1 21 (i9a - 1) = (nI (sp_byv S tg (i9a - 1))) from hI.2.2.2.2.2.1 (i9a - 1) (by omega)) ?_
            refine lv_goto (tgt := 35) hx hb dX8_looks_31 (by decide) ?_
            exact k_35 _ ⟨_, by simp only [if_neg c_20_24], rfl⟩
  exact lp_13 _ 0 (Nat.zero_le _) (Nat.lt_succ_self _) ls z_6 _ _ w (by rw [ez_6]; exact I0) (lv_sub hl [2, 1, 0] rfl)
