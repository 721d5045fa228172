theorem ok0_foldMoment : cOk RX0 yX0_foldMoment cX0_foldMoment 10 none 2 := ⟨wc_X0_foldMoment, wi_X0_foldMoment, ws_X0_foldMoment, wn_X0, rfl, by decide, by decide, by decide +kernel⟩
set_option maxHeartbeats 4000000 in
set_option maxRecDepth 100000 in
theorem c0_foldMoment (l : Launch) (G : CG) (a : Nat → Nat) (z : RS) (ma9 : Nat) (fa9 : Nat) (S : Sc) (na : Nat) (ro wa : Nat → Nat) (hA : chA z na ro wa) (hn : na ≤ 4) (hn1 : 1 ≤ na) (hF : chF z S ro na) (hI : chI z S ro wa na) (hu : ∀ j, j < na → S.2.1 4 (ro j) ≤ 5) (osr : ∀ f, S.2.1 2 f ≤ 9) (hfa : fa9 = S.2.1 4 0) (h05 : fa9 ≤ 5) (hw0 : wa 0 = 0) (hwm : ∀ i j, i < j → j < na → wa i ≤ wa j) (hwb : ∀ j, j < na → wa j ≤ 1000) (hib : oI S ro wa na ≤ 1000) (hm : ma9 < wa (na - 1)) (hRI : mRI S ro na wa fa9 (ma9 + 1) z) : cMv G l yX0_foldMoment cX0_foldMoment 10 none 2 48 [.ref (a 0), .int (nI ma9), .int (nI fa9)] (fun q9 : RS => w0 G a q9) z (fun z9 => mRI S ro na wa fa9 ma9 z9 ∧ rFr [] [9] z z9) := by
  refine cMv_in (by decide) rfl (Nat.le_of_ble_eq_true rfl) ?_
  intro p e s m args below meth c A ls X hml hr hk hl w
  have hx := X.1
  have hb := X.2.1
  have hts := X.2.2.1
  have hown := X.2.2.2.1
  have hl : lv_has ls 10 [(0, .ref (a 0)), (1, .int (nI ma9)), (2, .int (nI fa9))] := hl
  have hmb : ma9 ≤ 1000 := by have e1 := hwb (na - 1) (by omega); omega
  have hct := cnt_ok (cf := wa) (en := ma9) na hwm
  refine lv_aload_n hx hb dX0_foldMoment_0 rfl (lv_at hl 0 rfl) ?_
  refine lv_iload_n hx hb dX0_foldMoment_1 rfl (lv_at hl 1 rfl) ?_
  refine gc_p (C := RX0) (ci := 0) (rest := []) X hml hl.1 (c0_countThere l G a z ma9 na ro wa hA hn hn1 hw0 hwm hwb hmb) ok0_countThere wm_X0_133 ⟨Nat.le_of_ble_eq_true rfl, Nat.le_of_ble_eq_true rfl⟩ ⟨Nat.le_refl _, Nat.le_refl _⟩ w.1 [0, 1, 2, 3, 4, 5, 6, 7, 8, 9, 10, 11] rfl rfl rfl rfl (Nat.le_of_ble_eq_true rfl) dX0_foldMoment_2 (fun r_2 hr_2 => ?_)
  subst hr_2
  have th1 : cntL wa ma9 na ≤ na := hct.1
  have th2 : 1 ≤ cntL wa ma9 na := by have e1 := (hct.2 0 (by omega)).mp (by rw [hw0]; exact Nat.zero_le _); omega
  refine lv_istore_n (lv' := [(3, .int (nI (cntL wa ma9 na))), (0, .ref (a 0)), (1, .int (nI ma9)), (2, .int (nI fa9))]) hx hb dX0_foldMoment_5 rfl hl (by decide) rfl (fun ls hl => ?_)
  refine lv_iconst (v := (nI 0)) hx hb dX0_foldMoment_6 (by decide) ?_
  refine lv_istore (lv' := [(4, .int (nI 0)), (3, .int (nI (cntL wa ma9 na))), (0, .ref (a 0)), (1, .int (nI ma9)), (2, .int (nI fa9))]) hx hb dX0_foldMoment_7 hl (by decide) rfl (fun ls hl => ?_)
  have lp_9 : ∀ (n_9 : Nat) (i : Nat) (hi : i ≤ cntL wa ma9 na) (hm_9 : cntL wa ma9 na - i < n_9) (ls : Array Slot) (zz : RS) (H : Heap) (locs : List Loc) (w : cW G A s (w0 G a zz) H locs) (hqj : mD S ro na wa fa9 ma9 (oB S ro i) 0 zz ∧ rFr [] [9] z zz), lv_has ls 10 [(0, .ref (a 0)), (1, .int (nI ma9)), (2, .int (nI fa9)), (3, .int (nI (cntL wa ma9 na))), (4, .int (nI i))] → W p l e (ro_m 2 48) s m args below meth c H locs 0 0 (MQ below (va_Qv (fun z9 => mRI S ro na wa fa9 ma9 z9 ∧ rFr [] [9] z z9) (cB G (fun q9 : RS => w0 G a q9) A) A) args s 0 0 A) (F0 m 9 ls []) := by
    intro n_9
    induction n_9 with
    | zero => intro i hi hm; exact absurd hm (Nat.not_lt_zero _)
    | succ n_9 ih_9 =>
      intro i hi hm_9 ls zz H locs w hqj hl
      refine lv_iload hx hb dX0_foldMoment_9 (lv_at hl 4 rfl) ?_
      refine lv_iload_n hx hb dX0_foldMoment_11 rfl (lv_at hl 3 rfl) ?_
      refine n_icmp_ge (tgt := 126) hx hb dX0_foldMoment_12 (by decide) (by omega) (by omega) (fun c_12_1 => ?_) (fun c_12_1 => ?_)
      · skip
        exact ce_v (w := (fun q9 : RS => w0 G a q9)) (z := zz) X hr hk w (⟨mD_e hm hct.2 rfl (by rw [show cntL wa ma9 na = i by omega]; exact hqj.1), hqj.2⟩) dX0_foldMoment_126
      · skip
        have b1 := oB_le (S := S) (ro := ro) i
        have b2 := oB_le (S := S) (ro := ro) (i + 1)
        have b3 : oB S ro (i + 1) = oB S ro i + (6 - S.2.1 4 (ro i)) := rfl
        have b4 := hu i (by omega)
        have b5 := oI_mono (S := S) (ro := ro) (w := wa) (show i + 1 ≤ na by omega)
        have b6 := oB_mono (S := S) (ro := ro) (show i + 1 ≤ na by omega)
        have b7 := oB_le (S := S) (ro := ro) na
        refine lv_aload_n hx hb dX0_foldMoment_15 rfl (lv_at hl 0 rfl) ?_
        refine ag_C_X0_21_this X w.1 dX0_foldMoment_16 ?_
        refine lv_iload hx hb dX0_foldMoment_19 (lv_at hl 4 rfl) ?_
        refine an_C_this_4 X w.1 (by omega) dX0_foldMoment_21 ?_
        refine tp_i (show zz.2.1 4 i = (nI (oB S ro i)) from ((congrFun (hqj.2.2.1 4 (by decide)) _).trans (hF.1 i (by omega)))) ?_
        refine lv_iload_n hx hb dX0_foldMoment_22 rfl (lv_at hl 1 rfl) ?_
        refine lv_aload_n hx hb dX0_foldMoment_23 rfl (lv_at hl 0 rfl) ?_
        refine ag_C_X0_24_this X w.1 dX0_foldMoment_24 ?_
        refine lv_iload hx hb dX0_foldMoment_27 (lv_at hl 4 rfl) ?_
        refine an_C_this_5 X w.1 (by omega) dX0_foldMoment_29 ?_
        refine tp_i (show zz.2.1 5 i = (nI (oI S ro wa (i + 1))) from ((congrFun (hqj.2.2.1 5 (by decide)) _).trans (hI i (by omega)))) ?_
        refine tp_i (iZ_n (oI S ro wa (i + 1))).symm ?_
        refine tp_i2 (iZ_n ma9).symm ?_
        refine z_isub hx hb dX0_foldMoment_30 ?_
        refine lv_iconst (v := (nI 5)) hx hb dX0_foldMoment_31 (by decide) ?_
        refine lv_iload_n hx hb dX0_foldMoment_32 rfl (lv_at hl 2 rfl) ?_
        refine n_isub hx hb dX0_foldMoment_33 (by omega) ?_
        refine tp_i (iZ_n (5 - fa9)).symm ?_
        refine z_isub hx hb dX0_foldMoment_34 ?_
        refine tp_i2 (iZ_n (oB S ro i)).symm ?_
        refine gm_max (rest := []) ⟨X.1, X.2.1, X.2.2.1, X.2.2.2.1⟩ hml hl.1 wm_X0_89 ⟨Nat.le_of_ble_eq_true rfl, Nat.le_of_ble_eq_true rfl⟩ ⟨Nat.le_refl _, Nat.le_refl _⟩ (Nat.le_of_ble_eq_true rfl) (by omega) (by omega) (by omega) (by omega) dX0_foldMoment_35 ?_
        refine tp_i (show (iZ (max ((oB S ro i : Nat) : Int) (((((ma9 : Nat) : Int)) - (((oI S ro wa (i + 1) : Nat) : Int))) - (((5 - fa9 : Nat) : Int))))) = (nI (max (oB S ro i) (ma9 - oI S ro wa (i + 1) - (5 - fa9)))) from (by rw [← iZ_n]; exact congrArg iZ (by omega))) ?_
        refine lv_istore (lv' := [(5, .int (nI (max (oB S ro i) (ma9 - oI S ro wa (i + 1) - (5 - fa9))))), (0, .ref (a 0)), (1, .int (nI ma9)), (2, .int (nI fa9)), (3, .int (nI (cntL wa ma9 na))), (4, .int (nI i))]) hx hb dX0_foldMoment_38 hl (by decide) rfl (fun ls hl => ?_)
        refine lv_aload_n hx hb dX0_foldMoment_40 rfl (lv_at hl 1 rfl) ?_
        refine ag_C_X0_21_this X w.1 dX0_foldMoment_41 ?_
        refine lv_iload hx hb dX0_foldMoment_44 (lv_at hl 5 rfl) ?_
        refine lv_iconst (v := (nI 1)) hx hb dX0_foldMoment_46 (by decide) ?_
        refine n_iadd hx hb dX0_foldMoment_47 ?_
        refine an_C_this_4 X w.1 (by omega) dX0_foldMoment_48 ?_
        refine tp_i (show zz.2.1 4 (i + 1) = (nI (oB S ro (i + 1))) from ((congrFun (hqj.2.2.1 4 (by decide)) _).trans (hF.1 (i + 1) (by omega)))) ?_
        refine lv_iconst (v := (nI 1)) hx hb dX0_foldMoment_49 (by decide) ?_
        refine n_isub hx hb dX0_foldMoment_50 (by omega) ?_
        refine lv_iload_n hx hb dX0_foldMoment_51 rfl (lv_at hl 2 rfl) ?_
        refine tp_i (iZ_n ma9).symm ?_
        refine tp_i2 (iZ_n ((oB S ro (i + 1)) - 1)).symm ?_
        refine gm_min (rest := []) ⟨X.1, X.2.1, X.2.2.1, X.2.2.2.1⟩ hml hl.1 wm_X0_94 ⟨Nat.le_of_ble_eq_true rfl, Nat.le_of_ble_eq_true rfl⟩ ⟨Nat.le_refl _, Nat.le_refl _⟩ (Nat.le_of_ble_eq_true rfl) (by omega) (by omega) (by omega) (by omega) dX0_foldMoment_52 ?_
        refine tp_i (show iZ (min (((oB S ro (i + 1)) - 1 : Nat) : Int) ((ma9 : Nat) : Int)) = nI (min ((oB S ro (i + 1)) - 1) ma9) from by rw [← iZ_n]; exact congrArg iZ (by omega)) ?_
        refine lv_istore (lv' := [(6, .int (nI (min ((oB S ro (i + 1)) - 1) ma9))), (5, .int (nI (max (oB S ro i) (ma9 - oI S ro wa (i + 1) - (5 - fa9))))), (0, .ref (a 0)), (1, .int (nI ma9)), (2, .int (nI fa9)), (3, .int (nI (cntL wa ma9 na))), (4, .int (nI i))]) hx hb dX0_foldMoment_55 hl (by decide) rfl (fun ls hl => ?_)
        refine lv_iload hx hb dX0_foldMoment_57 (lv_at hl 1 rfl) ?_
        refine lv_istore (lv' := [(7, .int (nI (max (oB S ro i) (ma9 - oI S ro wa (i + 1) - (5 - fa9))))), (6, .int (nI (min ((oB S ro (i + 1)) - 1) ma9))), (5, .int (nI (max (oB S ro i) (ma9 - oI S ro wa (i + 1) - (5 - fa9))))), (0, .ref (a 0)), (1, .int (nI ma9)), (2, .int (nI fa9)), (3, .int (nI (cntL wa ma9 na))), (4, .int (nI i))]) hx hb dX0_foldMoment_59 hl (by decide) rfl (fun ls hl => ?_)
        have lp_61 : ∀ (n_61 : Nat) (b : Nat) (hb1 : max (oB S ro i) (ma9 - oI S ro wa (i + 1) - (5 - fa9)) ≤ b) (hb2 : b ≤ 2000) (hm_61 : 1000 - b < n_61) (ls : Array Slot) (zy : RS) (H : Heap) (locs : List Loc) (w : cW G A s (w0 G a zy) H locs) (hqb : mD S ro na wa fa9 ma9 (min b (oB S ro (i + 1))) 0 zy ∧ rFr [] [9] z zy), lv_has ls 10 [(0, .ref (a 0)), (1, .int (nI ma9)), (2, .int (nI fa9)), (3, .int (nI (cntL wa ma9 na))), (4, .int (nI i)), (5, .int (nI (max (oB S ro i) (ma9 - oI S ro wa (i + 1) - (5 - fa9))))), (6, .int (nI (min ((oB S ro (i + 1)) - 1) ma9))), (7, .int (nI b))] → W p l e (ro_m 2 48) s m args below meth c H locs 0 0 (MQ below (va_Qv (fun z9 => mRI S ro na wa fa9 ma9 z9 ∧ rFr [] [9] z z9) (cB G (fun q9 : RS => w0 G a q9) A) A) args s 0 0 A) (F0 m 61 ls []) := by
          intro n_61
          induction n_61 with
          | zero => intro b hb1 hb2 hm; exact absurd hm (Nat.not_lt_zero _)
          | succ n_61 ih_61 =>
            intro b hb1 hb2 hm_61 ls zy H locs w hqb hl
            refine lv_iload hx hb dX0_foldMoment_61 (lv_at hl 7 rfl) ?_
            refine lv_iload hx hb dX0_foldMoment_63 (lv_at hl 6 rfl) ?_
            refine n_icmp_gt (tgt := 120) hx hb dX0_foldMoment_65 (by decide) (by omega) (by omega) (fun c_65_2 => ?_) (fun c_65_2 => ?_)
            · skip
              refine lv_iinc (v := (nI (i + 1))) (lv' := [(4, .int (nI (i + 1))), (0, .ref (a 0)), (1, .int (nI ma9)), (2, .int (nI fa9)), (3, .int (nI (cntL wa ma9 na))), (5, .int (nI (max (oB S ro i) (ma9 - oI S ro wa (i + 1) - (5 - fa9))))), (6, .int (nI (min ((oB S ro (i + 1)) - 1) ma9))), (7, .int (nI b))]) hx hb dX0_foldMoment_120 hl (k := 4) rfl (by first | exact nI_1 _ | (rw [show Int32.ofInt 1 = nI 1 from by decide, nI_add])) (by decide) rfl (fun ls hl => ?_)
              refine lv_goto (tgt := 9) hx hb dX0_foldMoment_123 (by decide) ?_
              exact ih_9 (i + 1) (by omega) (by omega) ls zy _ _ w ⟨fm_be (by omega) rfl (by omega) (by omega) hqb.1, hqb.2⟩ (lv_sub hl [1, 2, 3, 4, 0] rfl)
            · skip
              have c1 : oB S ro i ≤ b := by omega
              have c2 : b < oB S ro (i + 1) := by omega
              have c3 : b ≤ ma9 := by omega
              refine lv_iconst (v := (nI 5)) hx hb dX0_foldMoment_68 (by decide) ?_
              refine lv_iload_n hx hb dX0_foldMoment_69 rfl (lv_at hl 2 rfl) ?_
              refine lv_iload_n hx hb dX0_foldMoment_70 rfl (lv_at hl 1 rfl) ?_
              refine n_iadd hx hb dX0_foldMoment_71 ?_
              refine lv_iload hx hb dX0_foldMoment_72 (lv_at hl 7 rfl) ?_
              refine n_isub hx hb dX0_foldMoment_74 (by omega) ?_
              refine tp_i (iZ_n ((fa9 + ma9) - b)).symm ?_
              refine tp_i2 (show nI 5 = iZ (5 : Int) from by decide) ?_
              refine gm_min (rest := []) ⟨X.1, X.2.1, X.2.2.1, X.2.2.2.1⟩ hml hl.1 wm_X0_94 ⟨Nat.le_of_ble_eq_true rfl, Nat.le_of_ble_eq_true rfl⟩ ⟨Nat.le_refl _, Nat.le_refl _⟩ (Nat.le_of_ble_eq_true rfl) (by omega) (by omega) (by omega) (by omega) dX0_foldMoment_75 ?_
              refine tp_i (show iZ (min (5 : Int) (((fa9 + ma9) - b : Nat) : Int)) = nI (min 5 ((fa9 + ma9) - b)) from by rw [← iZ_n]; exact congrArg iZ (by omega)) ?_
              refine lv_istore (lv' := [(8, .int (nI (min 5 ((fa9 + ma9) - b)))), (0, .ref (a 0)), (1, .int (nI ma9)), (2, .int (nI fa9)), (3, .int (nI (cntL wa ma9 na))), (4, .int (nI i)), (5, .int (nI (max (oB S ro i) (ma9 - oI S ro wa (i + 1) - (5 - fa9))))), (6, .int (nI (min ((oB S ro (i + 1)) - 1) ma9))), (7, .int (nI b))]) hx hb dX0_foldMoment_78 hl (by decide) rfl (fun ls hl => ?_)
              refine lv_aload_n hx hb dX0_foldMoment_80 rfl (lv_at hl 1 rfl) ?_
              refine lv_iload_n hx hb dX0_foldMoment_81 rfl (lv_at hl 3 rfl) ?_
              refine lv_iload_n hx hb dX0_foldMoment_82 rfl (lv_at hl 2 rfl) ?_
              refine lv_iload hx hb dX0_foldMoment_83 (lv_at hl 5 rfl) ?_
              refine lv_iload hx hb dX0_foldMoment_85 (lv_at hl 8 rfl) ?_
              refine gc_p (C := RX0) (ci := 0) (rest := []) X hml hl.1 (c0_leastHurt l G a zy fa9 ma9 i b (oI S ro wa (i + 1)) (by omega) ((congrFun (hqb.2.2.1 5 (by decide)) _).trans (hI i (by omega))) (by omega) (by omega) (by omega) (by omega)) ok0_leastHurt wm_X0_109 ⟨Nat.le_of_ble_eq_true rfl, Nat.le_of_ble_eq_true rfl⟩ ⟨Nat.le_refl _, Nat.le_refl _⟩ w.1 [0, 1, 2, 3, 4, 5, 6, 7, 8, 9, 10, 11] rfl rfl rfl rfl (Nat.le_of_ble_eq_true rfl) dX0_foldMoment_87 (fun r_87 hr_87 => ?_)
              subst hr_87
              refine lv_istore (lv' := [(9, .int (nI (max fa9 (fa9 + ma9 - oI S ro wa (i + 1) - b)))), (8, .int (nI (min 5 ((fa9 + ma9) - b)))), (0, .ref (a 0)), (1, .int (nI ma9)), (2, .int (nI fa9)), (3, .int (nI (cntL wa ma9 na))), (4, .int (nI i)), (5, .int (nI (max (oB S ro i) (ma9 - oI S ro wa (i + 1) - (5 - fa9))))), (6, .int (nI (min ((oB S ro (i + 1)) - 1) ma9))), (7, .int (nI b))]) hx hb dX0_foldMoment_90 hl (by decide) rfl (fun ls hl => ?_)
              have lp_92 : ∀ (n_92 : Nat) (h : Nat) (hh1 : max fa9 (fa9 + ma9 - oI S ro wa (i + 1) - b) ≤ h) (hh2 : h ≤ 3000) (hm_92 : 1000 - h < n_92) (ls : Array Slot) (zx : RS) (H : Heap) (locs : List Loc) (w : cW G A s (w0 G a zx) H locs) (hqh : mD S ro na wa fa9 ma9 b h zx ∧ rFr [] [9] z zx), lv_has ls 10 [(0, .ref (a 0)), (1, .int (nI ma9)), (2, .int (nI fa9)), (3, .int (nI (cntL wa ma9 na))), (4, .int (nI i)), (5, .int (nI (max (oB S ro i) (ma9 - oI S ro wa (i + 1) - (5 - fa9))))), (6, .int (nI (min ((oB S ro (i + 1)) - 1) ma9))), (7, .int (nI b)), (8, .int (nI (min 5 ((fa9 + ma9) - b)))), (9, .int (nI h))] → W p l e (ro_m 2 48) s m args below meth c H locs 0 0 (MQ below (va_Qv (fun z9 => mRI S ro na wa fa9 ma9 z9 ∧ rFr [] [9] z z9) (cB G (fun q9 : RS => w0 G a q9) A) A) args s 0 0 A) (F0 m 92 ls []) := by
                intro n_92
                induction n_92 with
                | zero => intro h hh1 hh2 hm; exact absurd hm (Nat.not_lt_zero _)
                | succ n_92 ih_92 =>
                  intro h hh1 hh2 hm_92 ls zx H locs w hqh hl
                  refine lv_iload hx hb dX0_foldMoment_92 (lv_at hl 9 rfl) ?_
                  refine lv_iload hx hb dX0_foldMoment_94 (lv_at hl 8 rfl) ?_
                  refine n_icmp_gt (tgt := 114) hx hb dX0_foldMoment_96 (by decide) (by omega) (by omega) (fun c_96_3 => ?_) (fun c_96_3 => ?_)
                  · skip
                    refine lv_iinc (v := (nI (b + 1))) (lv' := [(7, .int (nI (b + 1))), (0, .ref (a 0)), (1, .int (nI ma9)), (2, .int (nI fa9)), (3, .int (nI (cntL wa ma9 na))), (4, .int (nI i)), (5, .int (nI (max (oB S ro i) (ma9 - oI S ro wa (i + 1) - (5 - fa9))))), (6, .int (nI (min ((oB S ro (i + 1)) - 1) ma9))), (8, .int (nI (min 5 ((fa9 + ma9) - b)))), (9, .int (nI h))]) hx hb dX0_foldMoment_114 hl (k := 7) rfl (by first | exact nI_1 _ | (rw [show Int32.ofInt 1 = nI 1 from by decide, nI_add])) (by decide) rfl (fun ls hl => ?_)
                    refine lv_goto (tgt := 61) hx hb dX0_foldMoment_117 (by decide) ?_
                    exact ih_61 (b + 1) (by omega) (by omega) (by omega) ls zx _ _ w ⟨by rw [show min (b + 1) (oB S ro (i + 1)) = b + 1 by omega]; exact fm_he rfl (by omega) hqh.1, hqh.2⟩ (lv_sub hl [1, 2, 3, 4, 5, 6, 7, 0] rfl)
                  · skip
                    have hR9 : mR S ro na wa fa9 ma9 h b := fm_R (by omega) c1 c2 (by omega) (by omega) (by omega) (by omega)
                    have hrd := mD_rd hn hqh.1 hR9
                    have hF9 := chF_fr hF hqh.2 (by decide) (by decide) (by decide) (by decide)
                    have hT9 : oT S ro na b = i := oT_eq (by omega) c1 c2
                    refine lv_aload_n hx hb dX0_foldMoment_99 rfl (lv_at hl 0 rfl) ?_
                    refine lv_iload hx hb dX0_foldMoment_100 (lv_at hl 9 rfl) ?_
                    refine lv_iload hx hb dX0_foldMoment_102 (lv_at hl 7 rfl) ?_
                    refine lv_iload_n hx hb dX0_foldMoment_104 rfl (lv_at hl 3 rfl) ?_
                    refine gc_v (C := RX0) (ci := 0) (rest := []) (w := (fun q9 : RS => w0 G a q9)) (wr := []) (wn := (fun q9 : RS => w0 G a q9)) X hml hl.1 (c0_fold l G a zx h b (cntL wa ma9 na) (pc_force (S.2.1 1 0) (S.2.1 2 0) h) (oF S ro na b) (oT S ro na b) (if b + 1 = oB S ro na then 1000000 else mV S ro na wa (ma9 + 1) (oX S ro na (b + 1) + h)) (if h = 5 then 0 else mV S ro na wa (ma9 + 1) (oX S ro na b + (h + 1))) (by omega) (by omega) (hF9.2.2 h (by omega) (by omega)) (hF9.2.1 b hR9.2.2.1).2 (hF9.2.1 b hR9.2.2.1).1 hrd.1 hrd.2 (Nat.le_trans (pc_force_le _ _ _ (osr 0)) (by decide)) (Nat.le_trans (pc_force_le _ _ _ (osr _)) (by decide)) (by omega) (by omega) (it_le (Nat.le_refl _) (vm_le _ _ _ _ _ _)) (it_le (Nat.zero_le _) (vm_le _ _ _ _ _ _))) ok0_fold wm_X0_113 ⟨Nat.le_of_ble_eq_true rfl, Nat.le_of_ble_eq_true rfl⟩ ⟨Nat.le_refl _, Nat.le_refl _⟩ w [0, 1, 2, 3, 4, 5, 6, 7, 8, 9, 10, 11] [] [0, 1, 2, 3, 4, 5, 6, 7, 8, 9, 10, 11] rfl (by decide) rfl (by decide) (by decide) (fun _ => rfl) (by decide) rfl rfl rfl (Nat.le_of_ble_eq_true rfl) dX0_foldMoment_105 (fun z_105 H locs hr_105 w => ?_)
                    refine lv_iinc (v := (nI (h + 1))) (lv' := [(9, .int (nI (h + 1))), (0, .ref (a 0)), (1, .int (nI ma9)), (2, .int (nI fa9)), (3, .int (nI (cntL wa ma9 na))), (4, .int (nI i)), (5, .int (nI (max (oB S ro i) (ma9 - oI S ro wa (i + 1) - (5 - fa9))))), (6, .int (nI (min ((oB S ro (i + 1)) - 1) ma9))), (7, .int (nI b)), (8, .int (nI (min 5 ((fa9 + ma9) - b))))]) hx hb dX0_foldMoment_108 hl (k := 9) rfl (by first | exact nI_1 _ | (rw [show Int32.ofInt 1 = nI 1 from by decide, nI_add])) (by decide) rfl (fun ls hl => ?_)
                    refine lv_goto (tgt := 92) hx hb dX0_foldMoment_111 (by decide) ?_
                    exact ih_92 (h + 1) (by omega) (by omega) (by omega) ls z_105 _ _ w (by rw [hr_105]; exact ⟨mD_s hn hu hm rfl (by omega) hqh.1 hR9 rfl, rFr_tr hqh.2 (rFr_A _ (by decide))⟩) (lv_sub hl [1, 2, 3, 4, 5, 6, 7, 8, 9, 0] rfl)
              exact lp_92 _ (max fa9 (fa9 + ma9 - oI S ro wa (i + 1) - b)) (Nat.le_refl _) (by omega) (Nat.lt_succ_self _) ls zy _ _ w ⟨fm_h0 (by omega) c1 c2 rfl (by rw [show min b (oB S ro (i + 1)) = b by omega] at hqb; exact hqb.1), hqb.2⟩ (lv_sub hl [2, 3, 4, 5, 6, 7, 8, 9, 1, 0] rfl)
        exact lp_61 _ (max (oB S ro i) (ma9 - oI S ro wa (i + 1) - (5 - fa9))) (Nat.le_refl _) (by omega) (Nat.lt_succ_self _) ls zz _ _ w ⟨fm_b0 (by omega) h05 rfl hqj.1, hqj.2⟩ (lv_sub hl [3, 4, 5, 6, 7, 2, 1, 0] rfl)
  exact lp_9 _ 0 (Nat.zero_le _) (Nat.lt_succ_self _) ls z _ _ w ⟨mD_0 hRI, rFr_rf _ _ _⟩ (lv_sub hl [2, 3, 4, 1, 0] rfl)

section Lm_c0_foldBack
variable {p : Program} {l : Launch} {e : Env} {R : Room} {s : State} {m : MethodId} {args : Array Value} {below : List Frame} {meth : Method} {c : Code} {H : Heap} {locs : List Loc} {cells slots : Nat} {Q : State → Prop}
variable {cc : ByteArray} {pc : Nat} {ls : Array Slot} {rest : List Value} {G : CG} {A : Nat → Prop}
theorem ag_CS_X0_18_this {a b : Nat → Nat} {zo : RS} {z : RS} (X : cX RX0 G A p c cc s args m) (w : va_P G.1 vwCl (w0 G a z ++ w5 G b zo) H) (hdg : decode cc pc = .ok (.getfield 18, 3)) (kk : W p l e R s m args below meth c H locs cells slots Q (F0 m (pc + 3) ls (.ref (a 4) :: rest))) : W p l e R s m args below meth c H locs cells slots Q (F0 m pc ls (.ref (a 0) :: rest)) :=
  va_get (D := G.1) (ci := 0) (v := .ref (a 4)) (C := RX0) (T := TX0) (N := 12) X.1 X.2.1 X.2.2.1 gX0 X.2.2.2.1 X.2.2.2.2.1.1 w 0 rfl rfl 3 (by decide) (X.2.2.1 _ wf_X0_18) (fun _ h9 => h9) rfl hdg kk
theorem an_CS_this_3 {own : String} {a b : Nat → Nat} {zo : RS} {z : RS} {j : Nat} (X : cX own G A p c cc s args m) (w : va_P G.1 vwCl (w0 G a z ++ w5 G b zo) H) (hj : j < 4) (hdg : decode cc pc = .ok (.iaload, 1)) (kk : W p l e R s m args below meth c H locs cells slots Q (F0 m (pc + 1) ls (.int (z.2.1 3 j) :: rest))) : W p l e R s m args below meth c H locs cells slots Q (F0 m pc ls (.int (nI j) :: .ref (a 4) :: rest)) :=
  va_iald X.1 X.2.1 X.2.2.2.2.1.1 w 3 0 rfl rfl (vp_in_nI hj (by decide)) hdg (by rw [nI_clamp (by omega)]; exact kk)
theorem ag_CS_X0_36_this {a b : Nat → Nat} {zo : RS} {z : RS} (X : cX RX0 G A p c cc s args m) (w : va_P G.1 vwCl (w0 G a z ++ w5 G b zo) H) (hdg : decode cc pc = .ok (.getfield 36, 3)) (kk : W p l e R s m args below meth c H locs cells slots Q (F0 m (pc + 3) ls (.ref (a 10) :: rest))) : W p l e R s m args below meth c H locs cells slots Q (F0 m pc ls (.ref (a 0) :: rest)) :=
  va_get (D := G.1) (ci := 0) (v := .ref (a 10)) (C := RX0) (T := TX0) (N := 12) X.1 X.2.1 X.2.2.1 gX0 X.2.2.2.1 X.2.2.2.2.1.1 w 0 rfl rfl 9 (by decide) (X.2.2.1 _ wf_X0_36) (fun _ h9 => h9) rfl hdg kk
theorem an_CS_this_9 {own : String} {a b : Nat → Nat} {zo : RS} {z : RS} {j : Nat} (X : cX own G A p c cc s args m) (w : va_P G.1 vwCl (w0 G a z ++ w5 G b zo) H) (hj : j < 175) (hdg : decode cc pc = .ok (.iaload, 1)) (kk : W p l e R s m args below meth c H locs cells slots Q (F0 m (pc + 1) ls (.int (z.2.1 9 j) :: rest))) : W p l e R s m args below meth c H locs cells slots Q (F0 m pc ls (.int (nI j) :: .ref (a 10) :: rest)) :=
  va_iald X.1 X.2.1 X.2.2.2.2.1.1 w 9 0 rfl rfl (vp_in_nI hj (by decide)) hdg (by rw [nI_clamp (by omega)]; exact kk)
theorem an_CS_this_4 {own : String} {a b : Nat → Nat} {zo : RS} {z : RS} {j : Nat} (X : cX own G A p c cc s args m) (w : va_P G.1 vwCl (w0 G a z ++ w5 G b zo) H) (hj : j < 5) (hdg : decode cc pc = .ok (.iaload, 1)) (kk : W p l e R s m args below meth c H locs cells slots Q (F0 m (pc + 1) ls (.int (z.2.1 4 j) :: rest))) : W p l e R s m args below meth c H locs cells slots Q (F0 m pc ls (.int (nI j) :: .ref (a 5) :: rest)) :=
  va_iald X.1 X.2.1 X.2.2.2.2.1.1 w 4 0 rfl rfl (vp_in_nI hj (by decide)) hdg (by rw [nI_clamp (by omega)]; exact kk)
end Lm_c0_foldBack
theorem ok0_foldBack : cOk RX0 yX0_foldBack cX0_foldBack 8 (some .int) 1 := ⟨wc_X0_foldBack, wi_X0_foldBack, ws_X0_foldBack, wn_X0, rfl, by decide, by decide, by decide +kernel⟩
set_option maxHeartbeats 4000000 in
set_option maxRecDepth 100000 in
theorem c0_foldBack (l : Launch) (G : CG) (a b : Nat → Nat) (zo : RS) (z : RS)  (S : Sc) (hz : cSn zo S) (ho : oSc S) (na : Nat) (ro wa : Nat → Nat) (hA : chA z na ro wa) (hn : na ≤ 4) (hn1 : 1 ≤ na) (hro : ∀ j, j < na → 1 ≤ ro j ∧ ro j < S.1 1 ∧ S.2.1 4 (ro j) ≤ 5) (h05 : S.2.1 4 0 ≤ 5) (h1 : 1 ≤ S.1 1) (hw0 : wa 0 = 0) (hwm : ∀ j, j + 1 < na → wa j ≤ wa (j + 1)) (hwb : ∀ j, j < na → wa j ≤ 1000) : cMi G l yX0_foldBack cX0_foldBack 8 (some .int) 3 77 [.ref (a 0), .ref (b 0)] (fun q9 : RS => w0 G a q9 ++ w5 G b zo) z (fun r z9 => r = nI (cvV S ro na wa) ∧ rFr [] [4, 5, 6, 7, 8, 9] z z9) := by
  refine cMi_in (by decide) rfl (Nat.le_of_ble_eq_true rfl) ?_
  intro p e s m args below meth c A ls X hml hr hk hl w
  have hx := X.1
  have hb := X.2.1
  have hts := X.2.2.1
  have hown := X.2.2.2.1
  have hl : lv_has ls 8 [(0, .ref (a 0)), (1, .ref (b 0))] := hl
  obtain ⟨o1, o2, o3, o4, o5, o6, oso, oki, osr, opa, ohu, oco⟩ := id ho
  have hwm2 : ∀ i j, i < j → j < na → wa i ≤ wa j := fun i j g1 g2 => by have e1 := mono_w hwm (j - i) i (by omega); rw [show i + (j - i) = j by omega] at e1; exact e1
  have hu : ∀ j, j < na → S.2.1 4 (ro j) ≤ 5 := fun j hj => (hro j hj).2.2
  have wl := hwb (na - 1) (by omega)
  refine lv_aload_n hx hb dX0_foldBack_0 rfl (lv_at hl 0 rfl) ?_
  refine lv_aload_n hx hb dX0_foldBack_1 rfl (lv_at hl 1 rfl) ?_
  refine gc_v (C := RX0) (ci := 0) (rest := []) (w := (fun q9 : RS => w0 G a q9 ++ w5 G b zo)) (wr := []) (wn := (fun q9 : RS => w0 G a q9 ++ w5 G b zo)) X hml hl.1 (c0_tellForces l G a b zo z S hz ho na ro wa hA hn hro h05 h1) ok0_tellForces wm_X0_97 ⟨Nat.le_of_ble_eq_true rfl, Nat.le_of_ble_eq_true rfl⟩ ⟨Nat.le_refl _, Nat.le_refl _⟩ w [0, 1, 2, 3, 4, 5, 6, 7, 8, 9, 10, 11, 12, 13, 14, 15, 16, 17, 18, 19] [] [0, 1, 2, 3, 4, 5, 6, 7, 8, 9, 10, 11, 12, 13, 14, 15, 16, 17, 18, 19] rfl (by decide) rfl (by decide) (by decide) (fun _ => rfl) (by decide) rfl rfl rfl (Nat.le_of_ble_eq_true rfl) dX0_foldBack_2 (fun z_2 H locs hr_2 w => ?_)
  have hA2 := chA_fr hA hr_2.2 (by decide) (by decide) (by decide)
  refine lv_aload_n hx hb dX0_foldBack_5 rfl (lv_at hl 0 rfl) ?_
  refine gc_v (C := RX0) (ci := 0) (rest := []) (w := (fun q9 : RS => w0 G a q9)) (wr := [((b 0), .inr (4, [.int (zo.1 0), .ref (b 2), .ref (b 3), .int (zo.1 3), .ref (b 5), .ref (b 6), .ref (b 7), .ref (b 8), .int (zo.1 8), .int (zo.1 9), .int (zo.1 10), .ref (b 12), .int (zo.1 12)])), ((b 2), .inl (G.2.1, 40, .inl (zo.2.1 1))), ((b 3), .inl (G.2.1, 40, .inl (zo.2.1 2))), ((b 5), .inl (G.2.1, 5, .inl (zo.2.1 4))), ((b 6), .inl (G.2.1, 5, .inl (zo.2.1 5))), ((b 7), .inl (G.2.1, 5, .inl (zo.2.1 6))), ((b 8), .inl (G.2.1, 5, .inl (zo.2.1 7))), ((b 12), .inl (G.2.1, 5, .inl (zo.2.1 11)))]) (wn := (fun u9 => w0 G a (u9) ++ w5 G b zo)) X hml hl.1 (c0_tellIdle l G a z_2 S na ro wa hA2 hn hr_2.1.1 hwb) ok0_tellIdle wm_X0_100 ⟨Nat.le_of_ble_eq_true rfl, Nat.le_of_ble_eq_true rfl⟩ ⟨Nat.le_refl _, Nat.le_refl _⟩ w [0, 1, 2, 3, 4, 5, 6, 7, 8, 9, 10, 11] [12, 13, 14, 15, 16, 17, 18, 19] [8, 9, 10, 11, 12, 13, 14, 15, 16, 17, 18, 19, 0, 1, 2, 3, 4, 5, 6, 7] rfl (by decide) rfl (by decide) (by decide) (fun _ => rfl) (by decide) rfl rfl rfl (Nat.le_of_ble_eq_true rfl) dX0_foldBack_6 (fun u_6 H locs hr_6 w => ?_)
  obtain ⟨z_6, ez_6⟩ : ∃ q9 : RS, q9 = u_6 := ⟨_, rfl⟩
  have w : cW G A s (w0 G a z_6 ++ w5 G b zo) H locs := by rw [ez_6]; exact w
  rw [← ez_6] at hr_6
  have hA6 := chA_fr hA2 hr_6.2.1 (by decide) (by decide) (by decide)
  have hF6 := chF_fr hr_2.1 hr_6.2.1 (by decide) (by decide) (by decide) (by decide)
  have hib := hr_6.2.2
  refine lv_aload_n hx hb dX0_foldBack_9 rfl (lv_at hl 1 rfl) ?_
  refine ag_CS_X0_103_scn X w.1 dX0_foldBack_10 ?_
  refine lv_iconst (v := (nI 0)) hx hb dX0_foldBack_13 (by decide) ?_
  refine an_CS_scn_7 X w.1 (by omega) dX0_foldBack_14 ?_
  refine tp_i (show zo.2.1 7 0 = (nI (S.2.1 4 0)) from cs_hu hz 0 (by omega)) ?_
  refine lv_istore_n (lv' := [(2, .int (nI (S.2.1 4 0))), (0, .ref (a 0)), (1, .ref (b 0))]) hx hb dX0_foldBack_15 rfl hl (by decide) rfl (fun ls hl => ?_)
  refine lv_aload_n hx hb dX0_foldBack_16 rfl (lv_at hl 1 rfl) ?_
  refine lv_iload_n hx hb dX0_foldBack_17 rfl (lv_at hl 0 rfl) ?_
  refine gc_v (C := RX0) (ci := 0) (rest := []) (w := (fun q9 : RS => w0 G a q9)) (wr := [((b 0), .inr (4, [.int (zo.1 0), .ref (b 2), .ref (b 3), .int (zo.1 3), .ref (b 5), .ref (b 6), .ref (b 7), .ref (b 8), .int (zo.1 8), .int (zo.1 9), .int (zo.1 10), .ref (b 12), .int (zo.1 12)])), ((b 2), .inl (G.2.1, 40, .inl (zo.2.1 1))), ((b 3), .inl (G.2.1, 40, .inl (zo.2.1 2))), ((b 5), .inl (G.2.1, 5, .inl (zo.2.1 4))), ((b 6), .inl (G.2.1, 5, .inl (zo.2.1 5))), ((b 7), .inl (G.2.1, 5, .inl (zo.2.1 6))), ((b 8), .inl (G.2.1, 5, .inl (zo.2.1 7))), ((b 12), .inl (G.2.1, 5, .inl (zo.2.1 11)))]) (wn := (fun u9 => w0 G a (u9) ++ w5 G b zo)) X hml hl.1 (c0_settleEnds l G a z_6 (S.2.1 4 0) S na ro hA6.1 hn hF6.1 (by omega)) ok0_settleEnds wm_X0_106 ⟨Nat.le_of_ble_eq_true rfl, Nat.le_of_ble_eq_true rfl⟩ ⟨Nat.le_refl _, Nat.le_refl _⟩ w [0, 1, 2, 3, 4, 5, 6, 7, 8, 9, 10, 11] [12, 13, 14, 15, 16, 17, 18, 19] [8, 9, 10, 11, 12, 13, 14, 15, 16, 17, 18, 19, 0, 1, 2, 3, 4, 5, 6, 7] rfl (by decide) rfl (by decide) (by decide) (fun _ => rfl) (by decide) rfl rfl rfl (Nat.le_of_ble_eq_true rfl) dX0_foldBack_18 (fun u_18 H locs hr_18 w => ?_)
  obtain ⟨z_18, ez_18⟩ : ∃ q9 : RS, q9 = u_18 := ⟨_, rfl⟩
  have w : cW G A s (w0 G a z_18 ++ w5 G b zo) H locs := by rw [ez_18]; exact w
  rw [← ez_18] at hr_18
  have hA18 := chA_fr hA6 hr_18.2 (by decide) (by decide) (by decide)
  have hF18 := chF_fr hF6 hr_18.2 (by decide) (by decide) (by decide) (by decide)
  have hI18 := chI_fr hr_6.1 hr_18.2 (by decide)
  have f18 : rFr [] [4, 5, 6, 7, 8, 9] z z_18 := rFr_tr (rFr_tr (rFr_w hr_2.2 (by simp) (by simp)) (rFr_w hr_6.2.1 (by simp) (by simp))) (rFr_w hr_18.2 (by simp) (by simp))
  refine lv_aload_n hx hb dX0_foldBack_21 rfl (lv_at hl 1 rfl) ?_
  refine ag_CS_X0_18_this X w.1 dX0_foldBack_22 ?_
  refine lv_aload_n hx hb dX0_foldBack_25 rfl (lv_at hl 1 rfl) ?_
  refine ag_CS_X0_69_this X w.1 dX0_foldBack_26 ?_
  refine tp_i (show z_18.1 0 = (nI na) from hA18.1) ?_
  refine lv_iconst (v := (nI 1)) hx hb dX0_foldBack_29 (by decide) ?_
  refine n_isub hx hb dX0_foldBack_30 (by omega) ?_
  refine an_CS_this_3 X w.1 (by omega) dX0_foldBack_31 ?_
  refine tp_i (show z_18.2.1 3 (na - 1) = (nI (wa (na - 1))) from (hA18.2.2 (na - 1) (by omega))) ?_
  refine lv_istore_n (lv' := [(3, .int (nI (wa (na - 1)))), (2, .int (nI (S.2.1 4 0))), (0, .ref (a 0)), (1, .ref (b 0))]) hx hb dX0_foldBack_32 rfl hl (by decide) rfl (fun ls hl => ?_)
  refine lv_aload_n hx hb dX0_foldBack_33 rfl (lv_at hl 2 rfl) ?_
  refine ag_CS_X0_69_this X w.1 dX0_foldBack_34 ?_
  refine tp_i (show z_18.1 0 = (nI na) from hA18.1) ?_
  refine lv_iconst (v := (nI 1)) hx hb dX0_foldBack_37 (by decide) ?_
  refine tp_i (show nI 1 = iZ (1 : Int) from by decide) ?_
  refine tp_i2 (iZ_n na).symm ?_
  refine z_isub hx hb dX0_foldBack_38 ?_
  refine lv_istore (lv' := [(4, .int (iZ ((((na : Nat) : Int)) - ((1 : Int))))), (3, .int (nI (wa (na - 1)))), (2, .int (nI (S.2.1 4 0))), (0, .ref (a 0)), (1, .ref (b 0))]) hx hb dX0_foldBack_39 hl (by decide) rfl (fun ls hl => ?_)
  have lp_41 : ∀ (n_41 : Nat) (y9 : Nat) (hy9 : y9 ≤ na) (hm_41 : y9 < n_41) (ls : Array Slot) (zz : RS) (H : Heap) (locs : List Loc) (w : cW G A s (w0 G a zz ++ w5 G b zo) H locs) (hqj : bD S ro na wa (S.2.1 4 0) (oB S ro y9) 0 zz ∧ rFr [] [9] z_18 zz), lv_has ls 8 [(0, .ref (a 0)), (1, .ref (b 0)), (2, .int (nI (S.2.1 4 0))), (3, .int (nI (wa (na - 1)))), (4, .int (iZ (((y9 : Nat) : Int) - (1 : Int))))] → W p l e (ro_m 3 77) s m args below meth c H locs 0 0 (MQ below (va_Qi (fun r z9 => r = nI (cvV S ro na wa) ∧ rFr [] [4, 5, 6, 7, 8, 9] z z9) (cB G (fun q9 : RS => w0 G a q9 ++ w5 G b zo) A) A) args s 0 0 A) (F0 m 41 ls []) := by
    intro n_41
    induction n_41 with
    | zero => intro y9 hy9 hm; exact absurd hm (Nat.not_lt_zero _)
    | succ n_41 ih_41 =>
      intro y9 hy9 hm_41 ls zz H locs w hqj hl
      refine lv_iload hx hb dX0_foldBack_41 (lv_at hl 4 rfl) ?_
      refine z_if_lt (tgt := 123) hx hb dX0_foldBack_43 (by decide) (by omega) (by omega) (fun c_43_1 => ?_) (fun c_43_1 => ?_)
      · skip
        refine lv_iload_n hx hb dX0_foldBack_123 rfl (lv_at hl 3 rfl) ?_
        refine lv_iconst (v := (nI 1)) hx hb dX0_foldBack_124 (by decide) ?_
        refine tp_i (show nI 1 = iZ (1 : Int) from by decide) ?_
        refine tp_i2 (iZ_n (wa (na - 1))).symm ?_
        refine z_isub hx hb dX0_foldBack_125 ?_
        refine lv_istore (lv' := [(4, .int (iZ ((((wa (na - 1) : Nat) : Int)) - ((1 : Int))))), (0, .ref (a 0)), (1, .ref (b 0)), (2, .int (nI (S.2.1 4 0))), (3, .int (nI (wa (na - 1))))]) hx hb dX0_foldBack_126 hl (by decide) rfl (fun ls hl => ?_)
        have lp_128 : ∀ (n_128 : Nat) (ty9 : Nat) (hty9 : ty9 ≤ wa (na - 1)) (hm_128 : ty9 < n_128) (ls : Array Slot) (zm : RS) (H : Heap) (locs : List Loc) (w : cW G A s (w0 G a zm ++ w5 G b zo) H locs) (hqm : mRI S ro na wa (S.2.1 4 0) ty9 zm ∧ rFr [] [9] z_18 zm), lv_has ls 8 [(0, .ref (a 0)), (1, .ref (b 0)), (2, .int (nI (S.2.1 4 0))), (3, .int (nI (wa (na - 1)))), (4, .int (iZ (((ty9 : Nat) : Int) - (1 : Int))))] → W p l e (ro_m 3 77) s m args below meth c H locs 0 0 (MQ below (va_Qi (fun r z9 => r = nI (cvV S ro na wa) ∧ rFr [] [4, 5, 6, 7, 8, 9] z z9) (cB G (fun q9 : RS => w0 G a q9 ++ w5 G b zo) A) A) args s 0 0 A) (F0 m 128 ls []) := by
          intro n_128
          induction n_128 with
          | zero => intro ty9 hty9 hm; exact absurd hm (Nat.not_lt_zero _)
          | succ n_128 ih_128 =>
            intro ty9 hty9 hm_128 ls zm H locs w hqm hl
            refine lv_iload hx hb dX0_foldBack_128 (lv_at hl 4 rfl) ?_
            refine z_if_lt (tgt := 146) hx hb dX0_foldBack_130 (by decide) (by omega) (by omega) (fun c_130_2 => ?_) (fun c_130_2 => ?_)
            · skip
              refine lv_aload_n hx hb dX0_foldBack_146 rfl (lv_at hl 0 rfl) ?_
              refine ag_CS_X0_36_this X w.1 dX0_foldBack_147 ?_
              refine lv_iload_n hx hb dX0_foldBack_150 rfl (lv_at hl 2 rfl) ?_
              refine lv_bipush (v := (nI 25)) hx hb dX0_foldBack_151 (by decide) ?_
              refine n_imul hx hb dX0_foldBack_153 ?_
              refine an_CS_this_9 X w.1 (by omega) dX0_foldBack_154 ?_
              refine tp_i (show zm.2.1 9 ((S.2.1 4 0) * 25) = (nI (cvV S ro na wa)) from (mRI_e (by have e1 := hqm.1; rw [show ty9 = 0 by omega] at e1; exact e1) hn1 (by omega) rfl hu hw0 hwm)) ?_
              exact ce_i (w := (fun q9 : RS => w0 G a q9 ++ w5 G b zo)) (z := zm) X hr hk w (⟨rfl, rFr_tr f18 (rFr_w hqm.2 (by simp) (by simp))⟩) dX0_foldBack_155
            · skip
              obtain ⟨m9, rfl⟩ : ∃ m9, ty9 = m9 + 1 := ⟨ty9 - 1, by omega⟩
              have hl : lv_has ls 8 [(0, .ref (a 0)), (1, .ref (b 0)), (2, .int (nI (S.2.1 4 0))), (3, .int (nI (wa (na - 1)))), (4, .int (nI m9))] := by rw [zn1 m9]; exact hl
              refine lv_aload_n hx hb dX0_foldBack_133 rfl (lv_at hl 0 rfl) ?_
              refine lv_iload hx hb dX0_foldBack_134 (lv_at hl 4 rfl) ?_
              refine lv_iload_n hx hb dX0_foldBack_136 rfl (lv_at hl 2 rfl) ?_
              refine gc_v (C := RX0) (ci := 0) (rest := []) (w := (fun q9 : RS => w0 G a q9)) (wr := [((b 0), .inr (4, [.int (zo.1 0), .ref (b 2), .ref (b 3), .int (zo.1 3), .ref (b 5), .ref (b 6), .ref (b 7), .ref (b 8), .int (zo.1 8), .int (zo.1 9), .int (zo.1 10), .ref (b 12), .int (zo.1 12)])), ((b 2), .inl (G.2.1, 40, .inl (zo.2.1 1))), ((b 3), .inl (G.2.1, 40, .inl (zo.2.1 2))), ((b 5), .inl (G.2.1, 5, .inl (zo.2.1 4))), ((b 6), .inl (G.2.1, 5, .inl (zo.2.1 5))), ((b 7), .inl (G.2.1, 5, .inl (zo.2.1 6))), ((b 8), .inl (G.2.1, 5, .inl (zo.2.1 7))), ((b 12), .inl (G.2.1, 5, .inl (zo.2.1 11)))]) (wn := (fun u9 => w0 G a (u9) ++ w5 G b zo)) X hml hl.1 (c0_foldMoment l G a zm m9 (S.2.1 4 0) S na ro wa (chA_fr hA18 hqm.2 (by decide) (by decide) (by decide)) hn hn1 (chF_fr hF18 hqm.2 (by decide) (by decide) (by decide) (by decide)) (chI_fr hI18 hqm.2 (by decide)) hu osr rfl h05 hw0 hwm2 hwb hib (by omega) hqm.1) ok0_foldMoment wm_X0_117 ⟨Nat.le_of_ble_eq_true rfl, Nat.le_of_ble_eq_true rfl⟩ ⟨Nat.le_refl _, Nat.le_refl _⟩ w [0, 1, 2, 3, 4, 5, 6, 7, 8, 9, 10, 11] [12, 13, 14, 15, 16, 17, 18, 19] [8, 9, 10, 11, 12, 13, 14, 15, 16, 17, 18, 19, 0, 1, 2, 3, 4, 5, 6, 7] rfl (by decide) rfl (by decide) (by decide) (fun _ => rfl) (by decide) rfl rfl rfl (Nat.le_of_ble_eq_true rfl) dX0_foldBack_137 (fun u_137 H locs hr_137 w => ?_)
              obtain ⟨z_137, ez_137⟩ : ∃ q9 : RS, q9 = u_137 := ⟨_, rfl⟩
              have w : cW G A s (w0 G a z_137 ++ w5 G b zo) H locs := by rw [ez_137]; exact w
              rw [← ez_137] at hr_137
              refine lv_iinc (v := (iZ (((m9 : Nat) : Int) - (1 : Int)))) (lv' := [(4, .int (iZ (((m9 : Nat) : Int) - (1 : Int)))), (0, .ref (a 0)), (1, .ref (b 0)), (2, .int (nI (S.2.1 4 0))), (3, .int (nI (wa (na - 1))))]) hx hb dX0_foldBack_140 hl (k := 4) rfl (dec_z _) (by decide) rfl (fun ls hl => ?_)
              refine lv_goto (tgt := 128) hx hb dX0_foldBack_143 (by decide) ?_
              exact ih_128 m9 (by omega) (by omega) ls z_137 _ _ w ⟨hr_137.1, rFr_tr hqm.2 hr_137.2⟩ (lv_sub hl [1, 2, 3, 4, 0] rfl)
        exact lp_128 _ (wa (na - 1)) (Nat.le_refl _) (Nat.lt_succ_self _) ls zz _ _ w ⟨bD_e (by have e1 := hqj.1; rw [show y9 = 0 by omega] at e1; exact e1), hqj.2⟩ (lv_sub hl [1, 2, 3, 4, 0] rfl)
      · skip
        obtain ⟨k9, rfl⟩ : ∃ k9, y9 = k9 + 1 := ⟨y9 - 1, by omega⟩
        have hl : lv_has ls 8 [(0, .ref (a 0)), (1, .ref (b 0)), (2, .int (nI (S.2.1 4 0))), (3, .int (nI (wa (na - 1)))), (4, .int (nI k9))] := by rw [zn1 k9]; exact hl
        have b1 := oB_le (S := S) (ro := ro) k9
        have b2 := oB_le (S := S) (ro := ro) (k9 + 1)
        have b3 : oB S ro (k9 + 1) = oB S ro k9 + (6 - S.2.1 4 (ro k9)) := rfl
        have b4 := hu k9 (by omega)
        have b5 := oI_mono (S := S) (ro := ro) (w := wa) (show k9 + 1 ≤ na by omega)
        have b6 := oB_mono (S := S) (ro := ro) (show k9 + 1 ≤ na by omega)
        have b7 := oB_le (S := S) (ro := ro) na
        refine lv_aload_n hx hb dX0_foldBack_46 rfl (lv_at hl 0 rfl) ?_
        refine ag_CS_X0_21_this X w.1 dX0_foldBack_47 ?_
        refine lv_iload hx hb dX0_foldBack_50 (lv_at hl 4 rfl) ?_
        refine lv_iconst (v := (nI 1)) hx hb dX0_foldBack_52 (by decide) ?_
        refine n_iadd hx hb dX0_foldBack_53 ?_
        refine an_CS_this_4 X w.1 (by omega) dX0_foldBack_54 ?_
        refine tp_i (show zz.2.1 4 (k9 + 1) = (nI (oB S ro (k9 + 1))) from ((congrFun (hqj.2.2.1 4 (by decide)) _).trans (hF18.1 (k9 + 1) (by omega)))) ?_
        refine lv_iconst (v := (nI 1)) hx hb dX0_foldBack_55 (by decide) ?_
        refine tp_i (show nI 1 = iZ (1 : Int) from by decide) ?_
        refine tp_i2 (iZ_n (oB S ro (k9 + 1))).symm ?_
        refine z_isub hx hb dX0_foldBack_56 ?_
        refine lv_istore (lv' := [(5, .int (iZ ((((oB S ro (k9 + 1) : Nat) : Int)) - ((1 : Int))))), (0, .ref (a 0)), (1, .ref (b 0)), (2, .int (nI (S.2.1 4 0))), (3, .int (nI (wa (na - 1)))), (4, .int (nI k9))]) hx hb dX0_foldBack_57 hl (by decide) rfl (fun ls hl => ?_)
        have lp_59 : ∀ (n_59 : Nat) (v9 : Nat) (hv1 : oB S ro k9 ≤ v9) (hv2 : v9 ≤ oB S ro (k9 + 1)) (hm_59 : v9 < n_59) (ls : Array Slot) (zy : RS) (H : Heap) (locs : List Loc) (w : cW G A s (w0 G a zy ++ w5 G b zo) H locs) (hqb : bD S ro na wa (S.2.1 4 0) v9 0 zy ∧ rFr [] [9] z_18 zy), lv_has ls 8 [(0, .ref (a 0)), (1, .ref (b 0)), (2, .int (nI (S.2.1 4 0))), (3, .int (nI (wa (na - 1)))), (4, .int (nI k9)), (5, .int (iZ (((v9 : Nat) : Int) - (1 : Int))))] → W p l e (ro_m 3 77) s m args below meth c H locs 0 0 (MQ below (va_Qi (fun r z9 => r = nI (cvV S ro na wa) ∧ rFr [] [4, 5, 6, 7, 8, 9] z z9) (cB G (fun q9 : RS => w0 G a q9 ++ w5 G b zo) A) A) args s 0 0 A) (F0 m 59 ls []) := by
          intro n_59
          induction n_59 with
          | zero => intro v9 hv1 hv2 hm; exact absurd hm (Nat.not_lt_zero _)
          | succ n_59 ih_59 =>
            intro v9 hv1 hv2 hm_59 ls zy H locs w hqb hl
            refine lv_iload hx hb dX0_foldBack_59 (lv_at hl 5 rfl) ?_
            refine lv_aload_n hx hb dX0_foldBack_61 rfl (lv_at hl 0 rfl) ?_
            refine ag_CS_X0_21_this X w.1 dX0_foldBack_62 ?_
            refine lv_iload hx hb dX0_foldBack_65 (lv_at hl 4 rfl) ?_
            refine an_CS_this_4 X w.1 (by omega) dX0_foldBack_67 ?_
            refine tp_i (show zy.2.1 4 k9 = (nI (oB S ro k9)) from ((congrFun (hqb.2.2.1 4 (by decide)) _).trans (hF18.1 k9 (by omega)))) ?_
            refine tp_i (iZ_n (oB S ro k9)).symm ?_
            refine z_icmp_lt (tgt := 117) hx hb dX0_foldBack_68 (by decide) (by omega) (by omega) (by omega) (by omega) (fun c_68_3 => ?_) (fun c_68_3 => ?_)
            · skip
              refine lv_iinc (v := (iZ (((k9 : Nat) : Int) - (1 : Int)))) (lv' := [(4, .int (iZ (((k9 : Nat) : Int) - (1 : Int)))), (0, .ref (a 0)), (1, .ref (b 0)), (2, .int (nI (S.2.1 4 0))), (3, .int (nI (wa (na - 1)))), (5, .int (iZ (((v9 : Nat) : Int) - (1 : Int))))]) hx hb dX0_foldBack_117 hl (k := 4) rfl (dec_z _) (by decide) rfl (fun ls hl => ?_)
              refine lv_goto (tgt := 41) hx hb dX0_foldBack_120 (by decide) ?_
              exact ih_41 k9 (by omega) (by omega) ls zy _ _ w ⟨by rw [show oB S ro k9 = v9 by omega]; exact hqb.1, hqb.2⟩ (lv_sub hl [1, 2, 3, 4, 0] rfl)
            · skip
              obtain ⟨b9, rfl⟩ : ∃ b9, v9 = b9 + 1 := ⟨v9 - 1, by omega⟩
              have hl : lv_has ls 8 [(0, .ref (a 0)), (1, .ref (b 0)), (2, .int (nI (S.2.1 4 0))), (3, .int (nI (wa (na - 1)))), (4, .int (nI k9)), (5, .int (nI b9))] := by rw [zn1 b9]; exact hl
              have hT9 : oT S ro na b9 = k9 := oT_eq (by omega) (by omega) (by omega)
              refine lv_aload_n hx hb dX0_foldBack_71 rfl (lv_at hl 0 rfl) ?_
              refine lv_iload_n hx hb dX0_foldBack_72 rfl (lv_at hl 2 rfl) ?_
              refine lv_iload_n hx hb dX0_foldBack_73 rfl (lv_at hl 3 rfl) ?_
              refine lv_iload hx hb dX0_foldBack_74 (lv_at hl 4 rfl) ?_
              refine lv_iload hx hb dX0_foldBack_76 (lv_at hl 5 rfl) ?_
              refine gc_p (C := RX0) (ci := 0) (rest := []) X hml hl.1 (c0_leastHurt l G a zy (S.2.1 4 0) (wa (na - 1)) k9 b9 (oI S ro wa (k9 + 1)) (by omega) ((congrFun (hqb.2.2.1 5 (by decide)) _).trans (hI18 k9 (by omega))) (by omega) (by omega) (by omega) (by omega)) ok0_leastHurt wm_X0_109 ⟨Nat.le_of_ble_eq_true rfl, Nat.le_of_ble_eq_true rfl⟩ ⟨Nat.le_refl _, Nat.le_refl _⟩ w.1 [0, 1, 2, 3, 4, 5, 6, 7, 8, 9, 10, 11] rfl rfl rfl rfl (Nat.le_of_ble_eq_true rfl) dX0_foldBack_78 (fun r_78 hr_78 => ?_)
              subst hr_78
              refine lv_istore (lv' := [(6, .int (nI (max (S.2.1 4 0) (S.2.1 4 0 + wa (na - 1) - oI S ro wa (k9 + 1) - b9)))), (0, .ref (a 0)), (1, .ref (b 0)), (2, .int (nI (S.2.1 4 0))), (3, .int (nI (wa (na - 1)))), (4, .int (nI k9)), (5, .int (nI b9))]) hx hb dX0_foldBack_81 hl (by decide) rfl (fun ls hl => ?_)
              refine lv_iconst (v := (nI 5)) hx hb dX0_foldBack_83 (by decide) ?_
              refine lv_istore (lv' := [(7, .int (nI 5)), (6, .int (nI (max (S.2.1 4 0) (S.2.1 4 0 + wa (na - 1) - oI S ro wa (k9 + 1) - b9)))), (0, .ref (a 0)), (1, .ref (b 0)), (2, .int (nI (S.2.1 4 0))), (3, .int (nI (wa (na - 1)))), (4, .int (nI k9)), (5, .int (nI b9))]) hx hb dX0_foldBack_84 hl (by decide) rfl (fun ls hl => ?_)
              have hl : lv_has ls 8 [(7, .int (iZ (((6 : Nat) : Int) - (1 : Int)))), (6, .int (nI (max (S.2.1 4 0) (S.2.1 4 0 + wa (na - 1) - oI S ro wa (k9 + 1) - b9)))), (0, .ref (a 0)), (1, .ref (b 0)), (2, .int (nI (S.2.1 4 0))), (3, .int (nI (wa (na - 1)))), (4, .int (nI k9)), (5, .int (nI b9))] := by rw [show (iZ (((6 : Nat) : Int) - (1 : Int))) = (nI 5) from by decide]; exact hl
              have lp_86 : ∀ (n_86 : Nat) (u9 : Nat) (hu9 : u9 ≤ 6) (hm_86 : u9 < n_86) (ls : Array Slot) (zx : RS) (H : Heap) (locs : List Loc) (w : cW G A s (w0 G a zx ++ w5 G b zo) H locs) (hqh : bD S ro na wa (S.2.1 4 0) b9 u9 zx ∧ rFr [] [9] z_18 zx), lv_has ls 8 [(0, .ref (a 0)), (1, .ref (b 0)), (2, .int (nI (S.2.1 4 0))), (3, .int (nI (wa (na - 1)))), (4, .int (nI k9)), (5, .int (nI b9)), (6, .int (nI (max (S.2.1 4 0) (S.2.1 4 0 + wa (na - 1) - oI S ro wa (k9 + 1) - b9)))), (7, .int (iZ (((u9 : Nat) : Int) - (1 : Int))))] → W p l e (ro_m 3 77) s m args below meth c H locs 0 0 (MQ below (va_Qi (fun r z9 => r = nI (cvV S ro na wa) ∧ rFr [] [4, 5, 6, 7, 8, 9] z z9) (cB G (fun q9 : RS => w0 G a q9 ++ w5 G b zo) A) A) args s 0 0 A) (F0 m 86 ls []) := by
                intro n_86
                induction n_86 with
                | zero => intro u9 hu9 hm; exact absurd hm (Nat.not_lt_zero _)
                | succ n_86 ih_86 =>
                  intro u9 hu9 hm_86 ls zx H locs w hqh hl
                  refine lv_iload hx hb dX0_foldBack_86 (lv_at hl 7 rfl) ?_
                  refine lv_iload hx hb dX0_foldBack_88 (lv_at hl 6 rfl) ?_
                  refine tp_i (iZ_n (max (S.2.1 4 0) (S.2.1 4 0 + wa (na - 1) - oI S ro wa (k9 + 1) - b9))).symm ?_
                  refine z_icmp_lt (tgt := 111) hx hb dX0_foldBack_90 (by decide) (by omega) (by omega) (by omega) (by omega) (fun c_90_4 => ?_) (fun c_90_4 => ?_)
                  · skip
                    refine lv_iinc (v := (iZ (((b9 : Nat) : Int) - (1 : Int)))) (lv' := [(5, .int (iZ (((b9 : Nat) : Int) - (1 : Int)))), (0, .ref (a 0)), (1, .ref (b 0)), (2, .int (nI (S.2.1 4 0))), (3, .int (nI (wa (na - 1)))), (4, .int (nI k9)), (6, .int (nI (max (S.2.1 4 0) (S.2.1 4 0 + wa (na - 1) - oI S ro wa (k9 + 1) - b9)))), (7, .int (iZ (((u9 : Nat) : Int) - (1 : Int))))]) hx hb dX0_foldBack_111 hl (k := 5) rfl (dec_z _) (by decide) rfl (fun ls hl => ?_)
                    refine lv_goto (tgt := 59) hx hb dX0_foldBack_114 (by decide) ?_
                    exact ih_59 b9 (by omega) (by omega) (by omega) ls zx _ _ w ⟨bd_h rfl (by rw [hT9]; omega) hqh.1, hqh.2⟩ (lv_sub hl [1, 2, 3, 4, 5, 0] rfl)
                  · skip
                    obtain ⟨h9, rfl⟩ : ∃ h9, u9 = h9 + 1 := ⟨u9 - 1, by omega⟩
                    have hl : lv_has ls 8 [(0, .ref (a 0)), (1, .ref (b 0)), (2, .int (nI (S.2.1 4 0))), (3, .int (nI (wa (na - 1)))), (4, .int (nI k9)), (5, .int (nI b9)), (6, .int (nI (max (S.2.1 4 0) (S.2.1 4 0 + wa (na - 1) - oI S ro wa (k9 + 1) - b9)))), (7, .int (nI h9))] := by rw [zn1 h9]; exact hl
                    have r4 : S.2.1 4 0 + wa (na - 1) ≤ h9 + oI S ro wa (oT S ro na b9 + 1) + b9 := by rw [hT9]; omega
                    have hrd := bD_rd hn hqh.1 (by omega) (by omega) (by omega) r4
                    have hF9 := chF_fr hF18 hqh.2 (by decide) (by decide) (by decide) (by decide)
                    refine lv_aload_n hx hb dX0_foldBack_93 rfl (lv_at hl 0 rfl) ?_
                    refine lv_iload hx hb dX0_foldBack_94 (lv_at hl 7 rfl) ?_
                    refine lv_iload hx hb dX0_foldBack_96 (lv_at hl 5 rfl) ?_
                    refine lv_aload_n hx hb dX0_foldBack_98 rfl (lv_at hl 0 rfl) ?_
                    refine ag_CS_X0_69_this X w.1 dX0_foldBack_99 ?_
                    refine tp_i (show zx.1 0 = (nI na) from ((hqh.2.1 0 (by decide)).trans hA18.1)) ?_
                    refine gc_v (C := RX0) (ci := 0) (rest := []) (w := (fun q9 : RS => w0 G a q9)) (wr := [((b 0), .inr (4, [.int (zo.1 0), .ref (b 2), .ref (b 3), .int (zo.1 3), .ref (b 5), .ref (b 6), .ref (b 7), .ref (b 8), .int (zo.1 8), .int (zo.1 9), .int (zo.1 10), .ref (b 12), .int (zo.1 12)])), ((b 2), .inl (G.2.1, 40, .inl (zo.2.1 1))), ((b 3), .inl (G.2.1, 40, .inl (zo.2.1 2))), ((b 5), .inl (G.2.1, 5, .inl (zo.2.1 4))), ((b 6), .inl (G.2.1, 5, .inl (zo.2.1 5))), ((b 7), .inl (G.2.1, 5, .inl (zo.2.1 6))), ((b 8), .inl (G.2.1, 5, .inl (zo.2.1 7))), ((b 12), .inl (G.2.1, 5, .inl (zo.2.1 11)))]) (wn := (fun u9 => w0 G a (u9) ++ w5 G b zo)) X hml hl.1 (c0_fold l G a zx h9 b9 na (pc_force (S.2.1 1 0) (S.2.1 2 0) h9) (oF S ro na b9) (oT S ro na b9) (if b9 + 1 = oB S ro na then 1000000 else sp_bs S ro na (fun _ => 0) (36 * na) (oX S ro na (b9 + 1) + h9)) (if h9 = 5 then 0 else sp_bs S ro na (fun _ => 0) (36 * na) (oX S ro na b9 + (h9 + 1))) (by omega) (by omega) (hF9.2.2 h9 (by omega) (by omega)) (hF9.2.1 b9 (by omega)).2 (hF9.2.1 b9 (by omega)).1 hrd.1 hrd.2 (Nat.le_trans (pc_force_le _ _ _ (osr 0)) (by decide)) (Nat.le_trans (pc_force_le _ _ _ (osr _)) (by decide)) (by omega) (by omega) (it_le (Nat.le_refl _) (bs_le _ _ _ _ (fun _ => Nat.zero_le _) _ _)) (it_le (Nat.zero_le _) (bs_le _ _ _ _ (fun _ => Nat.zero_le _) _ _))) ok0_fold wm_X0_113 ⟨Nat.le_of_ble_eq_true rfl, Nat.le_of_ble_eq_true rfl⟩ ⟨Nat.le_refl _, Nat.le_refl _⟩ w [0, 1, 2, 3, 4, 5, 6, 7, 8, 9, 10, 11] [12, 13, 14, 15, 16, 17, 18, 19] [8, 9, 10, 11, 12, 13, 14, 15, 16, 17, 18, 19, 0, 1, 2, 3, 4, 5, 6, 7] rfl (by decide) rfl (by decide) (by decide) (fun _ => rfl) (by decide) rfl rfl rfl (Nat.le_of_ble_eq_true rfl) dX0_foldBack_102 (fun u_102 H locs hr_102 w => ?_)
                    obtain ⟨z_102, ez_102⟩ : ∃ q9 : RS, q9 = u_102 := ⟨_, rfl⟩
                    have w : cW G A s (w0 G a z_102 ++ w5 G b zo) H locs := by rw [ez_102]; exact w
                    rw [← ez_102] at hr_102
                    refine lv_iinc (v := (iZ (((h9 : Nat) : Int) - (1 : Int)))) (lv' := [(7, .int (iZ (((h9 : Nat) : Int) - (1 : Int)))), (0, .ref (a 0)), (1, .ref (b 0)), (2, .int (nI (S.2.1 4 0))), (3, .int (nI (wa (na - 1)))), (4, .int (nI k9)), (5, .int (nI b9)), (6, .int (nI (max (S.2.1 4 0) (S.2.1 4 0 + wa (na - 1) - oI S ro wa (k9 + 1) - b9))))]) hx hb dX0_foldBack_105 hl (k := 7) rfl (dec_z _) (by decide) rfl (fun ls hl => ?_)
                    refine lv_goto (tgt := 86) hx hb dX0_foldBack_108 (by decide) ?_
                    exact ih_86 h9 (by omega) (by omega) ls z_102 _ _ w (by rw [hr_102]; exact ⟨bD_s hn hu hqh.1 (by omega) (by omega) (by omega) rfl, rFr_tr hqh.2 (rFr_A _ (by decide))⟩) (lv_sub hl [1, 2, 3, 4, 5, 6, 7, 0] rfl)
              exact lp_86 _ 6 (Nat.le_refl _) (Nat.lt_succ_self _) ls zy _ _ w ⟨bd_b hqb.1, hqb.2⟩ (lv_sub hl [2, 3, 4, 5, 6, 7, 1, 0] rfl)
        exact lp_59 _ (oB S ro (k9 + 1)) (by omega) (Nat.le_refl _) (Nat.lt_succ_self _) ls zz _ _ w hqj (lv_sub hl [1, 2, 3, 4, 5, 0] rfl)
  exact lp_41 _ na (Nat.le_refl _) (Nat.lt_succ_self _) ls z_18 _ _ w ⟨bd_0 hr_18.1, rFr_rf _ _ _⟩ (lv_sub hl [3, 4, 2, 1, 0] rfl)
