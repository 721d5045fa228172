section Lm_c1_readFighters
variable {p : Program} {l : Launch} {e : Env} {R : Room} {s : State} {m : MethodId} {args : Array Value} {below : List Frame} {meth : Method} {c : Code} {H : Heap} {locs : List Loc} {cells slots : Nat} {Q : State → Prop}
variable {cc : ByteArray} {pc : Nat} {ls : Array Slot} {rest : List Value} {G : CG} {A : Nat → Prop}
theorem ag_TD_X1_72_dr {a d : Nat → Nat} {z : RS × RS} (X : cX RX1 G A p c cc s args m) (w : va_P G.1 vwCl (wT1 G a d z.1 ++ w5 G d z.2) H) (hdg : decode cc pc = .ok (.getfield 72, 3)) (kk : W p l e R s m args below meth c H locs cells slots Q (F0 m (pc + 3) ls (.int (z.2.1 3) :: rest))) : W p l e R s m args below meth c H locs cells slots Q (F0 m pc ls (.ref (d 0) :: rest)) :=
  va_getN (own := RX1) (ref := RX5) (host := "RunningThree") (D := G.1) (ci := 4) (v := .int (z.2.1 3)) (C := RX5) (T := TX5) (N := 13) X.1 X.2.1 X.2.2.1 gX5 X.2.2.2.1 X.2.2.2.2.1.1 w 2 rfl rfl 3 (by decide) (va_Nw.use rfl (X.2.2.2.2.1.2 _ wq_X1_72)) (fun _ h9 => h9) rfl hdg kk
end Lm_c1_readFighters
theorem ok1_readFighters : cOk RX1 yX1_readFighters cX1_readFighters 1 (some .boolean) 0 := ⟨wc_X1_readFighters, wi_X1_readFighters, ws_X1_readFighters, wn_X1, rfl, by decide, by decide, by decide +kernel⟩
set_option maxHeartbeats 4000000 in
set_option maxRecDepth 100000 in
theorem c1_readFighters (l : Launch) (G : CG) (a d : Nat → Nat) (z : RS × RS)  (n : Nat) (T : Nat → Nat) (ht : cTp z.1 n T) (ha : z.1.1 2 = nI (ps_0 T n)) (E : Sc) (he : cSn z.2 (gF E T n 0)) (h1 : E.1 1 = 0) : cTi G l yX1_readFighters cX1_readFighters 1 (some .boolean) 5 115 [.ref (a 0)] (fun q9 : RS × RS => wT1 G a d q9.1 ++ w5 G d q9.2) z (fun r z9 => r = nI (rfW T n) ∧ z9.1.1 2 = nI (rfA T n) ∧ (rfW T n = 1 → cSn z9.2 (gF E T n (gk_f T n (ps_0 T n) 5 0))) ∧ tkF z.1 z9.1) := by
  refine cTi_in (by decide) rfl (Nat.le_of_ble_eq_true rfl) ?_
  intro p e s m args below meth c A ls X hT hml hr hk hl w
  have hx := X.1
  have hb := X.2.1
  have hts := X.2.2.1
  have hown := X.2.2.2.1
  have hl : lv_has ls 1 [(0, .ref (a 0))] := hl
  have htT := ht.2.2.2
  have t1 := ht.2.1
  have lp_0 : ∀ (n_0 : Nat) (i : Nat) (hi5 : i < 5) (hk9 : gk_f T n (ps_0 T n) (5 - i) i = gk_f T n (ps_0 T n) 5 0) (hm_0 : 5 - i < n_0) (ls : Array Slot) (zz : RS × RS) (H : Heap) (locs : List Loc) (w : cW G A s (wT1 G a d zz.1 ++ w5 G d zz.2) H locs) (hq : zz.1.1 2 = nI (gk_p T n (ps_0 T n) i) ∧ tkF z.1 zz.1 ∧ cSn zz.2 (gF E T n i)), lv_has ls 1 [(0, .ref (a 0))] → W p l e (ro_m 5 115) s m args below meth c H locs 0 0 (MQ below (va_Qi (fun r z9 => r = nI (rfW T n) ∧ z9.1.1 2 = nI (rfA T n) ∧ (rfW T n = 1 → cSn z9.2 (gF E T n (gk_f T n (ps_0 T n) 5 0))) ∧ tkF z.1 z9.1) (cB G (fun q9 : RS × RS => wT1 G a d q9.1 ++ w5 G d q9.2) A) A) args s 0 0 A) (F0 m 0 ls []) := by
    intro n_0
    induction n_0 with
    | zero => intro i hi5 hk9 hm; exact absurd hm (Nat.not_lt_zero _)
    | succ n_0 ih_0 =>
      intro i hi5 hk9 hm_0 ls zz H locs w hq hl
      have gk9 := gkp_le (T := T) (j := i) t1 (by omega)
      refine lv_aload_n hx hb dX1_readFighters_0 rfl (lv_at hl 0 rfl) ?_
      refine ag_TD_X1_18_this X w.1 dX1_readFighters_1 ?_
      refine ag_TD_X1_72_dr X w.1 dX1_readFighters_4 ?_
      refine tp_i (show zz.2.1 3 = (nI i) from ((cs_nf hq.2.2).trans (congrArg nI (gF_n h1 i)))) ?_
      refine lv_iconst (v := (nI 5)) hx hb dX1_readFighters_7 (by decide) ?_
      refine n_icmp_ge (tgt := 51) hx hb dX1_readFighters_8 (by decide) (by omega) (by omega) (fun c_8_1 => ?_) (fun c_8_1 => ?_)
      · skip
        refine lv_iconst (v := (nI 0)) hx hb dX1_readFighters_51 (by decide) ?_
        exact ce_iz (w := (fun q9 : RS × RS => wT1 G a d q9.1 ++ w5 G d q9.2)) (z := zz) X hr hk w (by first | exact Or.inl rfl | exact Or.inr rfl) (by exfalso; omega) dX1_readFighters_52
      · skip
        refine lv_aload_n hx hb dX1_readFighters_11 rfl (lv_at hl 0 rfl) ?_
        refine gc_ti (C := RX1) (ci := 1) (rest := []) (w := (fun q9 : RS × RS => wT1 G a d q9.1 ++ w5 G d q9.2)) (wr := []) (wn := (fun q9 : RS × RS => wT1 G a d q9.1 ++ w5 G d q9.2)) hT X hml hl.1 (c1_readFighter l G a d zz n T (cTp_F ht hq.2.1) (gk_p T n (ps_0 T n) i) hq.1 (by omega) (gF E T n i) hq.2.2 (by rw [gF_n h1]; omega)) ok1_readFighter wm_X1_75 ⟨Nat.le_of_ble_eq_true rfl, Nat.le_of_ble_eq_true rfl⟩ ⟨Nat.le_refl _, Nat.le_refl _⟩ w [0, 1, 2, 3, 4, 5, 6, 7, 8, 9] [] [0, 1, 2, 3, 4, 5, 6, 7, 8, 9] rfl (by decide) rfl (by decide) (by decide) (fun _ => rfl) (by decide) rfl rfl rfl (Nat.le_of_ble_eq_true rfl) dX1_readFighters_12 (fun r_12 z_12 H locs hr_12 w => ?_)
        have d_12 := i10 (fk_w T n (gk_p T n (ps_0 T n) i) = 0)
        have h8 : r_12 = nI (if fk_w T n (gk_p T n (ps_0 T n) i) = 0 then 1 else 0) := by by_cases g1 : fk_w T n (gk_p T n (ps_0 T n) i) = 0; rw [if_pos g1]; exact (hr_12.1 g1).1; rw [if_neg g1]; exact hr_12.2.1 g1
        refine tp_i h8 ?_
        have pa_12 := hr_12.2.2.1
        have pf_12 := tkF_tr hq.2.1 hr_12.2.2.2
        have hg_12 : fk_w T n (gk_p T n (ps_0 T n) i) = 0 → cSn z_12.2 (gF E T n (i + 1)) := fun g1 => (hr_12.1 g1).2
        refine n_if_ne (tgt := 20) hx hb dX1_readFighters_15 (by decide) (by omega) (fun c_15_2 => ?_) (fun c_15_2 => ?_)
        · skip
          refine lv_aload_n hx hb dX1_readFighters_20 rfl (lv_at hl 0 rfl) ?_
          refine gc_i (C := RX1) (ci := 1) (rest := []) (w := (fun q9 : RS => wT1 G a d q9)) (wr := [((d 0), .inr (4, [.int (z_12.2.1 0), .ref (d 2), .ref (d 3), .int (z_12.2.1 3), .ref (d 5), .ref (d 6), .ref (d 7), .ref (d 8), .int (z_12.2.1 8), .int (z_12.2.1 9), .int (z_12.2.1 10), .ref (d 12), .int (z_12.2.1 12)])), ((d 2), .inl (G.2.1, 40, .inl (z_12.2.2.1 1))), ((d 3), .inl (G.2.1, 40, .inl (z_12.2.2.1 2))), ((d 5), .inl (G.2.1, 5, .inl (z_12.2.2.1 4))), ((d 6), .inl (G.2.1, 5, .inl (z_12.2.2.1 5))), ((d 7), .inl (G.2.1, 5, .inl (z_12.2.2.1 6))), ((d 8), .inl (G.2.1, 5, .inl (z_12.2.2.1 7))), ((d 12), .inl (G.2.1, 5, .inl (z_12.2.2.1 11)))]) (wn := (fun u9 => wT1 G a d ((u9, z_12.2)).1 ++ w5 G d ((u9, z_12.2)).2)) X hml hl.1 (c1_peek l G a d z_12.1 n T (cTp_F ht pf_12) (fk_a T n (gk_p T n (ps_0 T n) i)) pa_12 (by omega)) ok1_peek wm_X1_46 ⟨Nat.le_of_ble_eq_true rfl, Nat.le_of_ble_eq_true rfl⟩ ⟨Nat.le_refl _, Nat.le_refl _⟩ w [0, 1] [2, 3, 4, 5, 6, 7, 8, 9] [8, 9, 0, 1, 2, 3, 4, 5, 6, 7] rfl (by decide) rfl (by decide) (by decide) (fun _ => rfl) (by decide) rfl rfl rfl (Nat.le_of_ble_eq_true rfl) dX1_readFighters_21 (fun r_21 u_21 H locs hr_21 w => ?_)
          obtain ⟨z_21, ez_21⟩ : ∃ q9 : RS × RS, q9 = (u_21, z_12.2) := ⟨_, rfl⟩
          have w : cW G A s (wT1 G a d z_21.1 ++ w5 G d z_21.2) H locs := by rw [ez_21]; exact w
          have eu_21_this : z_21.1 = u_21 := by rw [ez_21]
          rw [← eu_21_this] at hr_21
          have ek_21_dr : z_21.2 = z_12.2 := by rw [ez_21]
          obtain ⟨hr_21, pa_21, pf_21⟩ := hr_21
          subst hr_21
          have ph_21 := tk_h_le htT n (fk_a T n (gk_p T n (ps_0 T n) i))
          have hl_21 := tk_le T n (fk_a T n (gk_p T n (ps_0 T n) i))
          have hi_21 := tk_hid T n (fk_a T n (gk_p T n (ps_0 T n) i))
          refine n_if_ne (tgt := 29) hx hb dX1_readFighters_24 (by decide) (by omega) (fun c_24_3 => ?_) (fun c_24_3 => ?_)
          · skip
            refine lv_aload_n hx hb dX1_readFighters_29 rfl (lv_at hl 0 rfl) ?_
            refine ag_TD_X1_18_this X w.1 dX1_readFighters_30 ?_
            refine ag_TD_X1_72_dr X w.1 dX1_readFighters_33 ?_
            refine tp_i (show z_21.2.1 3 = (nI (i + 1)) from (by rw [ek_21_dr]; exact (cs_nf (hg_12 (by omega))).trans (congrArg nI (gF_n h1 (i + 1))))) ?_
            refine lv_iconst (v := (nI 5)) hx hb dX1_readFighters_36 (by decide) ?_
            refine n_icmp_eq (tgt := 49) hx hb dX1_readFighters_37 (by decide) (by omega) (by omega) (fun c_37_4 => ?_) (fun c_37_4 => ?_)
            · skip
              refine lv_iconst (v := (nI 0)) hx hb dX1_readFighters_49 (by decide) ?_
              exact ce_iz (w := (fun q9 : RS × RS => wT1 G a d q9.1 ++ w5 G d q9.2)) (z := z_21) X hr hk w (by first | exact Or.inl rfl | exact Or.inr rfl) (by have e9 := gf_n hi5 (gmN (Or.inl (by omega))) hk9; have f9 := rf_2 e9 (by omega) (by omega); exact ⟨by rw [f9.1], by rw [f9.2]; exact pa_21, fun g9 => by exfalso; omega, tkF_tr pf_12 pf_21⟩) dX1_readFighters_50
            · skip
              refine lv_aload_n hx hb dX1_readFighters_40 rfl (lv_at hl 0 rfl) ?_
              refine lv_bipush (v := (nI 44)) hx hb dX1_readFighters_41 (by decide) ?_
              refine gc_i (C := RX1) (ci := 1) (rest := []) (w := (fun q9 : RS => wT1 G a d q9)) (wr := [((d 0), .inr (4, [.int (z_21.2.1 0), .ref (d 2), .ref (d 3), .int (z_21.2.1 3), .ref (d 5), .ref (d 6), .ref (d 7), .ref (d 8), .int (z_21.2.1 8), .int (z_21.2.1 9), .int (z_21.2.1 10), .ref (d 12), .int (z_21.2.1 12)])), ((d 2), .inl (G.2.1, 40, .inl (z_21.2.2.1 1))), ((d 3), .inl (G.2.1, 40, .inl (z_21.2.2.1 2))), ((d 5), .inl (G.2.1, 5, .inl (z_21.2.2.1 4))), ((d 6), .inl (G.2.1, 5, .inl (z_21.2.2.1 5))), ((d 7), .inl (G.2.1, 5, .inl (z_21.2.2.1 6))), ((d 8), .inl (G.2.1, 5, .inl (z_21.2.2.1 7))), ((d 12), .inl (G.2.1, 5, .inl (z_21.2.2.1 11)))]) (wn := (fun u9 => wT1 G a d ((u9, z_21.2)).1 ++ w5 G d ((u9, z_21.2)).2)) X hml hl.1 (c1_take l G a d z_21.1 44 n T (cTp_F ht (tkF_tr pf_12 pf_21)) (tk_s T n (fk_a T n (gk_p T n (ps_0 T n) i))) pa_21 (by omega) (by decide)) ok1_take wm_X1_50 ⟨Nat.le_of_ble_eq_true rfl, Nat.le_of_ble_eq_true rfl⟩ ⟨Nat.le_refl _, Nat.le_refl _⟩ w [0, 1] [2, 3, 4, 5, 6, 7, 8, 9] [8, 9, 0, 1, 2, 3, 4, 5, 6, 7] rfl (by decide) rfl (by decide) (by decide) (fun _ => rfl) (by decide) rfl rfl rfl (Nat.le_of_ble_eq_true rfl) dX1_readFighters_43 (fun r_43 u_43 H locs hr_43 w => ?_)
              obtain ⟨z_43, ez_43⟩ : ∃ q9 : RS × RS, q9 = (u_43, z_21.2) := ⟨_, rfl⟩
              have w : cW G A s (wT1 G a d z_43.1 ++ w5 G d z_43.2) H locs := by rw [ez_43]; exact w
              have eu_43_this : z_43.1 = u_43 := by rw [ez_43]
              rw [← eu_43_this] at hr_43
              have ek_43_dr : z_43.2 = z_21.2 := by rw [ez_43]
              obtain ⟨hr_43, pa_43, pf_43⟩ := hr_43
              subst hr_43
              have d_43 := i10 (tk_h T n (tk_s T n (fk_a T n (gk_p T n (ps_0 T n) i))) = 44)
              have hl_43 := tk_le T n (tk_s T n (fk_a T n (gk_p T n (ps_0 T n) i)))
              refine n_if_ne (tgt := 0) hx hb dX1_readFighters_46 (by decide) (by omega) (fun c_46_5 => ?_) (fun c_46_5 => ?_)
              · skip
                exact ih_0 (i + 1) (by omega) (gf_y hi5 (gmY (by omega) (by omega) (by omega)).1 hk9) (by omega) ls z_43 _ _ w ⟨by rw [(gmY (T := T) (n := n) (a0 := ps_0 T n) (i := i) (by omega) (by omega) (by omega)).2, pa_43, tk_id]; exact congrArg nI (by omega), tkF_tr pf_12 (tkF_tr pf_21 pf_43), by rw [ek_43_dr, ek_21_dr]; exact hg_12 (by omega)⟩ (lv_sub hl [0] rfl)
              · skip
                refine lv_iconst (v := (nI 0)) hx hb dX1_readFighters_49 (by decide) ?_
                exact ce_iz (w := (fun q9 : RS × RS => wT1 G a d q9.1 ++ w5 G d q9.2)) (z := z_43) X hr hk w (by first | exact Or.inl rfl | exact Or.inr rfl) (by have e9 := gf_n hi5 (gmN (Or.inr (Or.inr (by omega)))) hk9; have f9 := rf_2 e9 (by omega) (by omega); exact ⟨by rw [f9.1], by rw [f9.2, pa_43, tk_id]; exact congrArg nI (by omega), fun g9 => by exfalso; omega, tkF_tr pf_12 (tkF_tr pf_21 pf_43)⟩) dX1_readFighters_50
          · skip
            refine lv_iconst (v := (nI 1)) hx hb dX1_readFighters_27 (by decide) ?_
            exact ce_iz (w := (fun q9 : RS × RS => wT1 G a d q9.1 ++ w5 G d q9.2)) (z := z_21) X hr hk w (by first | exact Or.inl rfl | exact Or.inr rfl) (by have e9 := gf_n hi5 (gmN (Or.inr (Or.inr (by omega)))) hk9; have f9 := rf_1 e9 (by omega) (by omega); exact ⟨by rw [f9.1], by rw [f9.2]; exact pa_21, fun _ => by rw [← e9, ek_21_dr]; exact hg_12 (by omega), tkF_tr pf_12 pf_21⟩) dX1_readFighters_28
        · skip
          refine lv_iconst (v := (nI 0)) hx hb dX1_readFighters_18 (by decide) ?_
          exact ce_iz (w := (fun q9 : RS × RS => wT1 G a d q9.1 ++ w5 G d q9.2)) (z := z_12) X hr hk w (by first | exact Or.inl rfl | exact Or.inr rfl) (by have e9 := gf_n hi5 (gmN (Or.inr (Or.inl (by omega)))) hk9; have f9 := rf_0 e9 (by omega); exact ⟨by rw [f9.1], by rw [f9.2]; exact pa_12, fun g9 => by exfalso; omega, pf_12⟩) dX1_readFighters_19
  exact lp_0 _ 0 (by omega) rfl (Nat.lt_succ_self _) ls z _ _ w ⟨ha, tkF_rf _, he⟩ (lv_sub hl [0] rfl)
