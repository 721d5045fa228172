section Lm_c1_readGround
variable {p : Program} {l : Launch} {e : Env} {R : Room} {s : State} {m : MethodId} {args : Array Value} {below : List Frame} {meth : Method} {c : Code} {H : Heap} {locs : List Loc} {cells slots : Nat} {Q : State → Prop}
variable {cc : ByteArray} {pc : Nat} {ls : Array Slot} {rest : List Value} {G : CG} {A : Nat → Prop}
theorem ag_TD_X1_18_this {a d : Nat → Nat} {z : RS × RS} (X : cX RX1 G A p c cc s args m) (w : va_P G.1 vwCl (wT1 G a d z.1 ++ w5 G d z.2) H) (hdg : decode cc pc = .ok (.getfield 18, 3)) (kk : W p l e R s m args below meth c H locs cells slots Q (F0 m (pc + 3) ls (.ref (d 0) :: rest))) : W p l e R s m args below meth c H locs cells slots Q (F0 m pc ls (.ref (a 0) :: rest)) :=
  va_get (D := G.1) (ci := 1) (v := .ref (d 0)) (C := RX1) (T := TX1) (N := 4) X.1 X.2.1 X.2.2.1 gX1 X.2.2.2.1 X.2.2.2.2.1.1 w 0 rfl rfl 3 (by decide) (X.2.2.1 _ wf_X1_18) (fun _ h9 => h9) rfl hdg kk
theorem ag_TD_X1_57_dr {a d : Nat → Nat} {z : RS × RS} (X : cX RX1 G A p c cc s args m) (w : va_P G.1 vwCl (wT1 G a d z.1 ++ w5 G d z.2) H) (hdg : decode cc pc = .ok (.getfield 57, 3)) (kk : W p l e R s m args below meth c H locs cells slots Q (F0 m (pc + 3) ls (.int (z.2.1 0) :: rest))) : W p l e R s m args below meth c H locs cells slots Q (F0 m pc ls (.ref (d 0) :: rest)) :=
  va_getN (own := RX1) (ref := RX5) (host := "RunningThree") (D := G.1) (ci := 4) (v := .int (z.2.1 0)) (C := RX5) (T := TX5) (N := 13) X.1 X.2.1 X.2.2.1 gX5 X.2.2.2.1 X.2.2.2.2.1.1 w 2 rfl rfl 0 (by decide) (va_Nw.use rfl (X.2.2.2.2.1.2 _ wq_X1_57)) (fun _ h9 => h9) rfl hdg kk
theorem ag_TD_X1_36_this {a d : Nat → Nat} {z : RS × RS} (X : cX RX1 G A p c cc s args m) (w : va_P G.1 vwCl (wT1 G a d z.1 ++ w5 G d z.2) H) (hdg : decode cc pc = .ok (.getfield 36, 3)) (kk : W p l e R s m args below meth c H locs cells slots Q (F0 m (pc + 3) ls (.int (z.1.1 2) :: rest))) : W p l e R s m args below meth c H locs cells slots Q (F0 m pc ls (.ref (a 0) :: rest)) :=
  va_get (D := G.1) (ci := 1) (v := .int (z.1.1 2)) (C := RX1) (T := TX1) (N := 4) X.1 X.2.1 X.2.2.1 gX1 X.2.2.2.1 X.2.2.2.2.1.1 w 0 rfl rfl 2 (by decide) (X.2.2.1 _ wf_X1_36) (fun _ h9 => h9) rfl hdg kk
theorem ap_TD_X1_36_this {a d : Nat → Nat} {z : RS × RS} {v : Int32} (X : cX RX1 G A p c cc s args m) (w : cW G A s (wT1 G a d z.1 ++ w5 G d z.2) H locs) (hdg : decode cc pc = .ok (.putfield 36, 3)) (kk : ∀ (z1 : RS × RS) (H : Heap) (locs : List Loc), z1 = ((sI z.1 2 v), z.2) → cW G A s (wT1 G a d z1.1 ++ w5 G d z1.2) H locs → W p l e R s m args below meth c H locs cells slots Q (F0 m (pc + 3) ls rest)) : W p l e R s m args below meth c H locs cells slots Q (F0 m pc ls (.int v :: .ref (a 0) :: rest)) :=
  va_put (D := G.1) (ci := 1) (v := .int v) (ty := .int) (C := RX1) (T := TX1) (N := 4) X.1 X.2.1 X.2.2.1 gX1 tyX1 tyX1_ok nmX1 X.2.2.2.1 X.2.2.2.2.1.1 w.1 w.2.1 w.2.2 0 rfl rfl 2 (by decide) (X.2.2.1 _ wf_X1_36) (fun _ h9 => h9) rfl (by decide +kernel) rfl rfl (Nat.le_of_ble_eq_true rfl) hdg (fun H1 locs1 hP hD hS => kk _ H1 locs1 rfl ⟨hP, hD, hS⟩)
end Lm_c1_readGround
theorem ok1_readGround : cOk RX1 yX1_readGround cX1_readGround 2 (some .boolean) 0 := ⟨wc_X1_readGround, wi_X1_readGround, ws_X1_readGround, wn_X1, rfl, by decide, by decide, by decide +kernel⟩
set_option maxHeartbeats 4000000 in
set_option maxRecDepth 100000 in
theorem c1_readGround (l : Launch) (G : CG) (a d : Nat → Nat) (z : RS × RS)  (n : Nat) (T : Nat → Nat) (ht : cTp z.1 n T) (ha : z.1.1 2 = nI 0) (E : Sc) (he : cSn z.2 E) (h0 : E.1 0 = 0) (hso : ∀ q, E.2.1 0 q ≤ 2) : cTi G l yX1_readGround cX1_readGround 2 (some .boolean) 4 91 [.ref (a 0)] (fun q9 : RS × RS => wT1 G a d q9.1 ++ w5 G d q9.2) z (fun r z9 => (tk_h T n 0 = 46 → r = nI 1 ∧ cSn z9.2 (gD E T n (tk_m T n)) ∧ ∃ b8, z9.1.1 2 = nI b8 ∧ tk_s T n b8 = tk_s T n (ps_e T n) ∧ b8 ≤ 5000) ∧ (¬ tk_h T n 0 = 46 → r = nI 0 ∧ z9.1.1 2 = nI (tk_s T n 0)) ∧ tkF z.1 z9.1) := by
  refine cTi_in (by decide) rfl (Nat.le_of_ble_eq_true rfl) ?_
  intro p e s m args below meth c A ls X hT hml hr hk hl w
  have hx := X.1
  have hb := X.2.1
  have hts := X.2.2.1
  have hown := X.2.2.2.1
  have hl : lv_has ls 2 [(0, .ref (a 0))] := hl
  have htT := ht.2.2.2
  have t1 := ht.2.1
  have lp_0 : ∀ (n_0 : Nat) (i b9 : Nat) (hbq : tk_s T n b9 = tk_s T n (tk_c T n i)) (hbl : b9 ≤ tk_c T n i) (hnf : tk_nf T n (40 - i) i = tk_m T n) (h46 : i = 0 ∨ tk_h T n 0 = 46) (hi40 : i ≤ 40) (hm_0 : 40 - i < n_0) (ls : Array Slot) (zz : RS × RS) (H : Heap) (locs : List Loc) (w : cW G A s (wT1 G a d zz.1 ++ w5 G d zz.2) H locs) (hq : zz.1.1 2 = nI b9 ∧ tkF z.1 zz.1 ∧ cSn zz.2 (gD E T n i)), lv_has ls 2 [(0, .ref (a 0))] → W p l e (ro_m 4 91) s m args below meth c H locs 0 0 (MQ below (va_Qi (fun r z9 => (tk_h T n 0 = 46 → r = nI 1 ∧ cSn z9.2 (gD E T n (tk_m T n)) ∧ ∃ b8, z9.1.1 2 = nI b8 ∧ tk_s T n b8 = tk_s T n (ps_e T n) ∧ b8 ≤ 5000) ∧ (¬ tk_h T n 0 = 46 → r = nI 0 ∧ z9.1.1 2 = nI (tk_s T n 0)) ∧ tkF z.1 z9.1) (cB G (fun q9 : RS × RS => wT1 G a d q9.1 ++ w5 G d q9.2) A) A) args s 0 0 A) (F0 m 0 ls []) := by
    intro n_0
    induction n_0 with
    | zero => intro i b9 hbq hbl hnf h46 hi40 hm; exact absurd hm (Nat.not_lt_zero _)
    | succ n_0 ih_0 =>
      intro i b9 hbq hbl hnf h46 hi40 hm_0 ls zz H locs w hq hl
      have hh := tk_hs hbq
      have hc9 := tk_cb (T := T) ht.2.1 hi40
      have h00 : i = 0 → tk_h T n (tk_c T n i) = tk_h T n 0 := fun e9 => by rw [e9]; exact tk_hid T n 0
      have hs9 := tk_le T n b9
      refine lv_aload_n hx hb dX1_readGround_0 rfl (lv_at hl 0 rfl) ?_
      refine ag_TD_X1_18_this X w.1 dX1_readGround_1 ?_
      refine ag_TD_X1_57_dr X w.1 dX1_readGround_4 ?_
      refine tp_i (show zz.2.1 0 = (nI i) from ((cs_ce hq.2.2).trans (congrArg nI (gD_n h0 i)))) ?_
      refine lv_bipush (v := (nI 40)) hx hb dX1_readGround_7 (by decide) ?_
      refine n_icmp_ge (tgt := 65) hx hb dX1_readGround_9 (by decide) (by omega) (by omega) (fun c_9_1 => ?_) (fun c_9_1 => ?_)
      · skip
        refine lv_aload_n hx hb dX1_readGround_65 rfl (lv_at hl 0 rfl) ?_
        refine ag_TD_X1_18_this X w.1 dX1_readGround_66 ?_
        refine ag_TD_X1_57_dr X w.1 dX1_readGround_69 ?_
        refine tp_i (show zz.2.1 0 = (nI i) from ((cs_ce hq.2.2).trans (congrArg nI (gD_n h0 i)))) ?_
        refine n_if_le (tgt := 79) hx hb dX1_readGround_72 (by decide) (by omega) (fun c_72_2 => ?_) (fun c_72_2 => ?_)
        · skip
          refine lv_iconst (v := (nI 0)) hx hb dX1_readGround_79 (by decide) ?_
          exact ce_iz (w := (fun q9 : RS × RS => wT1 G a d q9.1 ++ w5 G d q9.2)) (z := zz) X hr hk w (by first | exact Or.inl rfl | exact Or.inr rfl) (by exfalso; omega) dX1_readGround_80
        · skip
          refine lv_iconst (v := (nI 1)) hx hb dX1_readGround_75 (by decide) ?_
          refine lv_goto (tgt := 80) hx hb dX1_readGround_76 (by decide) ?_
          exact ce_iz (w := (fun q9 : RS × RS => wT1 G a d q9.1 ++ w5 G d q9.2)) (z := zz) X hr hk w (by first | exact Or.inl rfl | exact Or.inr rfl) (⟨fun _ => ⟨rfl, by rw [← nf_e (by omega) hnf]; exact hq.2.2, b9, hq.1, by unfold ps_e; rw [← nf_e (by omega) hnf]; exact hbq, by omega⟩, fun g9 => absurd (by omega) g9, hq.2.1⟩) dX1_readGround_80
      · skip
        obtain ⟨ks_12, vs_12, hq_12, hw_12⟩ := hT.2.1
        refine va_ldcS hx hb hown hq_12 dX1_readGround_12 ?_
        refine lv_aload_n hx hb dX1_readGround_14 rfl (lv_at hl 0 rfl) ?_
        refine gc_i (C := RX1) (ci := 1) (rest := [.ref ks_12]) (w := (fun q9 : RS => wT1 G a d q9)) (wr := [((d 0), .inr (4, [.int (zz.2.1 0), .ref (d 2), .ref (d 3), .int (zz.2.1 3), .ref (d 5), .ref (d 6), .ref (d 7), .ref (d 8), .int (zz.2.1 8), .int (zz.2.1 9), .int (zz.2.1 10), .ref (d 12), .int (zz.2.1 12)])), ((d 2), .inl (G.2.1, 40, .inl (zz.2.2.1 1))), ((d 3), .inl (G.2.1, 40, .inl (zz.2.2.1 2))), ((d 5), .inl (G.2.1, 5, .inl (zz.2.2.1 4))), ((d 6), .inl (G.2.1, 5, .inl (zz.2.2.1 5))), ((d 7), .inl (G.2.1, 5, .inl (zz.2.2.1 6))), ((d 8), .inl (G.2.1, 5, .inl (zz.2.2.1 7))), ((d 12), .inl (G.2.1, 5, .inl (zz.2.2.1 11)))]) (wn := (fun u9 => wT1 G a d ((u9, zz.2)).1 ++ w5 G d ((u9, zz.2)).2)) X hml hl.1 (c1_peek l G a d zz.1 n T (cTp_F ht hq.2.1) b9 hq.1 (by omega)) ok1_peek wm_X1_46 ⟨Nat.le_of_ble_eq_true rfl, Nat.le_of_ble_eq_true rfl⟩ ⟨Nat.le_refl _, Nat.le_refl _⟩ w [0, 1] [2, 3, 4, 5, 6, 7, 8, 9] [8, 9, 0, 1, 2, 3, 4, 5, 6, 7] rfl (by decide) rfl (by decide) (by decide) (fun _ => rfl) (by decide) rfl rfl rfl (Nat.le_of_ble_eq_true rfl) dX1_readGround_15 (fun r_15 u_15 H locs hr_15 w => ?_)
        obtain ⟨z_15, ez_15⟩ : ∃ q9 : RS × RS, q9 = (u_15, zz.2) := ⟨_, rfl⟩
        have w : cW G A s (wT1 G a d z_15.1 ++ w5 G d z_15.2) H locs := by rw [ez_15]; exact w
        have eu_15_this : z_15.1 = u_15 := by rw [ez_15]
        rw [← eu_15_this] at hr_15
        have ek_15_dr : z_15.2 = zz.2 := by rw [ez_15]
        obtain ⟨hr_15, pa_15, pf_15⟩ := hr_15
        subst hr_15
        have ph_15 := tk_h_le htT n b9
        refine lv_i2c (v := (nI (tk_h T n b9))) hx hb dX1_readGround_18 (i16_nI (by omega)) ?_
        refine sc_x (rest := []) ⟨X.1, X.2.1, X.2.2.1, X.2.2.2.1⟩ hml hl.1 (sj_indexOf l ks_12 vs_12 3 sK0 (tk_h T n b9) (by omega) (by decide) (by decide) sK0_le) okJ_indexOf1 wJ_m62_X1 ⟨Nat.le_of_ble_eq_true rfl, Nat.le_of_ble_eq_true rfl⟩ ⟨Nat.le_refl _, Nat.le_refl _⟩ hT.1 hw_12 w.2.2 rfl (Nat.le_of_ble_eq_true rfl) dX1_readGround_19 (fun r_19 hr_19 => ?_)
        refine tp_i (sP_0 hr_19) ?_
        have dj_19 := sJ0_ok (tk_h T n b9)
        refine lv_istore_n (lv' := [(1, .int (iZ (sJ0 (tk_h T n b9)))), (0, .ref (a 0))]) hx hb dX1_readGround_22 rfl hl (by decide) rfl (fun ls hl => ?_)
        refine lv_iload_n hx hb dX1_readGround_23 rfl (lv_at hl 0 rfl) ?_
        refine z_if_lt (tgt := 65) hx hb dX1_readGround_24 (by decide) (by omega) (by omega) (fun c_24_3 => ?_) (fun c_24_3 => ?_)
        · skip
          refine lv_aload_n hx hb dX1_readGround_65 rfl (lv_at hl 1 rfl) ?_
          refine ag_TD_X1_18_this X w.1 dX1_readGround_66 ?_
          refine ag_TD_X1_57_dr X w.1 dX1_readGround_69 ?_
          refine tp_i (show z_15.2.1 0 = (nI i) from (by rw [ek_15_dr]; exact (cs_ce hq.2.2).trans (congrArg nI (gD_n h0 i)))) ?_
          refine n_if_le (tgt := 79) hx hb dX1_readGround_72 (by decide) (by omega) (fun c_72_4 => ?_) (fun c_72_4 => ?_)
          · skip
            refine lv_iconst (v := (nI 0)) hx hb dX1_readGround_79 (by decide) ?_
            exact ce_iz (w := (fun q9 : RS × RS => wT1 G a d q9.1 ++ w5 G d q9.2)) (z := z_15) X hr hk w (by first | exact Or.inl rfl | exact Or.inr rfl) (⟨fun g9 => by exfalso; omega, fun _ => ⟨rfl, by rw [pa_15, hbq, show i = 0 by omega]; exact congrArg nI (tk_id T n 0)⟩, tkF_tr hq.2.1 pf_15⟩) dX1_readGround_80
          · skip
            refine lv_iconst (v := (nI 1)) hx hb dX1_readGround_75 (by decide) ?_
            refine lv_goto (tgt := 80) hx hb dX1_readGround_76 (by decide) ?_
            exact ce_iz (w := (fun q9 : RS × RS => wT1 G a d q9.1 ++ w5 G d q9.2)) (z := z_15) X hr hk w (by first | exact Or.inl rfl | exact Or.inr rfl) (by have e8 : i = tk_m T n := nf_n (by omega) (by rw [← hh]; omega) hnf; exact ⟨fun _ => ⟨rfl, by rw [← e8, ek_15_dr]; exact hq.2.2, tk_s T n b9, pa_15, by unfold ps_e; rw [← e8, tk_id]; exact hbq, by omega⟩, fun g9 => absurd (by omega) g9, tkF_tr hq.2.1 pf_15⟩) dX1_readGround_80
        · skip
          refine lv_aload_n hx hb dX1_readGround_27 rfl (lv_at hl 1 rfl) ?_
          refine ag_TD_X1_18_this X w.1 dX1_readGround_28 ?_
          refine ag_TD_X1_57_dr X w.1 dX1_readGround_31 ?_
          refine tp_i (show z_15.2.1 0 = (nI i) from (by rw [ek_15_dr]; exact (cs_ce hq.2.2).trans (congrArg nI (gD_n h0 i)))) ?_
          refine n_if_ne (tgt := 44) hx hb dX1_readGround_34 (by decide) (by omega) (fun c_34_5 => ?_) (fun c_34_5 => ?_)
          · skip
            have hl : lv_has ls 2 [(1, .int (nI (fd_so T n i))), (0, .ref (a 0))] := by rw [show (nI (fd_so T n i)) = (iZ (sJ0 (tk_h T n b9))) from so_J hh (by omega)]; exact hl
            have sl9 := so_le T n i
            refine lv_aload_n hx hb dX1_readGround_44 rfl (lv_at hl 1 rfl) ?_
            refine ag_TD_X1_18_this X w.1 dX1_readGround_45 ?_
            refine lv_iload_n hx hb dX1_readGround_48 rfl (lv_at hl 0 rfl) ?_
            refine gc_v (C := RX5) (ci := 4) (rest := []) (w := (fun q9 : RS => w5 G d q9)) (wr := [((a 0), .inr (1, [.ref (a 1), .int (z_15.1.1 1), .int (z_15.1.1 2), .ref (d 0)])), ((a 1), .inl (G.2.1, 100, .inl (z_15.1.2.1 0)))]) (wn := (fun u9 => wT1 G a d ((z_15.1, u9)).1 ++ w5 G d ((z_15.1, u9)).2)) X hml hl.1 (c5_addCell l G d z_15.2 (fd_so T n i) (gD E T n i) (by rw [ek_15_dr]; exact hq.2.2) (by rw [gD_n h0]; omega) (so_le T n i) (gD_so hso i)) ok5_addCell wm_X1_68 ⟨Nat.le_of_ble_eq_true rfl, Nat.le_of_ble_eq_true rfl⟩ ⟨Nat.le_refl _, Nat.le_refl _⟩ w [2, 3, 4, 5, 6, 7, 8, 9] [0, 1] [0, 1, 2, 3, 4, 5, 6, 7, 8, 9] rfl (by decide) rfl (by decide) (by decide) (fun _ => rfl) (by decide) rfl rfl rfl (Nat.le_of_ble_eq_true rfl) dX1_readGround_49 (fun u_49 H locs hr_49 w => ?_)
            obtain ⟨z_49, ez_49⟩ : ∃ q9 : RS × RS, q9 = (z_15.1, u_49) := ⟨_, rfl⟩
            have w : cW G A s (wT1 G a d z_49.1 ++ w5 G d z_49.2) H locs := by rw [ez_49]; exact w
            have eu_49_dr : z_49.2 = u_49 := by rw [ez_49]
            rw [← eu_49_dr] at hr_49
            have ek_49_this : z_49.1 = z_15.1 := by rw [ez_49]
            refine lv_aload_n hx hb dX1_readGround_52 rfl (lv_at hl 1 rfl) ?_
            refine lv_dup hx hb dX1_readGround_53 rfl ?_
            refine ag_TD_X1_36_this X w.1 dX1_readGround_54 ?_
            refine tp_i (show z_49.1.1 2 = (nI (tk_s T n b9)) from (by rw [ek_49_this]; exact pa_15)) ?_
            refine lv_iconst (v := (nI 1)) hx hb dX1_readGround_57 (by decide) ?_
            refine n_iadd hx hb dX1_readGround_58 ?_
            refine ap_TD_X1_36_this X w dX1_readGround_59 (fun z_59 H locs ez_59 w => ?_)
            refine lv_goto (tgt := 0) hx hb dX1_readGround_62 (by decide) ?_
            exact ih_0 (i + 1) (tk_s T n b9 + 1) (by show tk_s T n _ = tk_s T n (tk_s T n (tk_c T n i) + 1); rw [hbq]) (by show _ ≤ tk_s T n (tk_c T n i) + 1; rw [hbq]; exact Nat.le_refl _) (nf_y (by omega) (by rw [← hh]; omega) hnf) (Or.inr (by omega)) (by omega) (by omega) ls z_59 _ _ w (by rw [ez_59]; exact ⟨rfl, tkF_tr hq.2.1 (tkF_tr pf_15 (by rw [← ek_49_this]; exact tkF_I _ _)), hr_49⟩) (lv_sub hl [1] rfl)
          · skip
            refine lv_iload_n hx hb dX1_readGround_37 rfl (lv_at hl 0 rfl) ?_
            refine z_if_eq (tgt := 44) hx hb dX1_readGround_38 (by decide) (by omega) (by omega) (fun c_38_6 => ?_) (fun c_38_6 => ?_)
            · skip
              have hl : lv_has ls 2 [(1, .int (nI (fd_so T n i))), (0, .ref (a 0))] := by rw [show (nI (fd_so T n i)) = (iZ (sJ0 (tk_h T n b9))) from so_J hh (by omega)]; exact hl
              have sl9 := so_le T n i
              refine lv_aload_n hx hb dX1_readGround_44 rfl (lv_at hl 1 rfl) ?_
              refine ag_TD_X1_18_this X w.1 dX1_readGround_45 ?_
              refine lv_iload_n hx hb dX1_readGround_48 rfl (lv_at hl 0 rfl) ?_
              refine gc_v (C := RX5) (ci := 4) (rest := []) (w := (fun q9 : RS => w5 G d q9)) (wr := [((a 0), .inr (1, [.ref (a 1), .int (z_15.1.1 1), .int (z_15.1.1 2), .ref (d 0)])), ((a 1), .inl (G.2.1, 100, .inl (z_15.1.2.1 0)))]) (wn := (fun u9 => wT1 G a d ((z_15.1, u9)).1 ++ w5 G d ((z_15.1, u9)).2)) X hml hl.1 (c5_addCell l G d z_15.2 (fd_so T n i) (gD E T n i) (by rw [ek_15_dr]; exact hq.2.2) (by rw [gD_n h0]; omega) (so_le T n i) (gD_so hso i)) ok5_addCell wm_X1_68 ⟨Nat.le_of_ble_eq_true rfl, Nat.le_of_ble_eq_true rfl⟩ ⟨Nat.le_refl _, Nat.le_refl _⟩ w [2, 3, 4, 5, 6, 7, 8, 9] [0, 1] [0, 1, 2, 3, 4, 5, 6, 7, 8, 9] rfl (by decide) rfl (by decide) (by decide) (fun _ => rfl) (by decide) rfl rfl rfl (Nat.le_of_ble_eq_true rfl) dX1_readGround_49 (fun u_49 H locs hr_49 w => ?_)
              obtain ⟨z_49, ez_49⟩ : ∃ q9 : RS × RS, q9 = (z_15.1, u_49) := ⟨_, rfl⟩
              have w : cW G A s (wT1 G a d z_49.1 ++ w5 G d z_49.2) H locs := by rw [ez_49]; exact w
              have eu_49_dr : z_49.2 = u_49 := by rw [ez_49]
              rw [← eu_49_dr] at hr_49
              have ek_49_this : z_49.1 = z_15.1 := by rw [ez_49]
              refine lv_aload_n hx hb dX1_readGround_52 rfl (lv_at hl 1 rfl) ?_
              refine lv_dup hx hb dX1_readGround_53 rfl ?_
              refine ag_TD_X1_36_this X w.1 dX1_readGround_54 ?_
              refine tp_i (show z_49.1.1 2 = (nI (tk_s T n b9)) from (by rw [ek_49_this]; exact pa_15)) ?_
              refine lv_iconst (v := (nI 1)) hx hb dX1_readGround_57 (by decide) ?_
              refine n_iadd hx hb dX1_readGround_58 ?_
              refine ap_TD_X1_36_this X w dX1_readGround_59 (fun z_59 H locs ez_59 w => ?_)
              refine lv_goto (tgt := 0) hx hb dX1_readGround_62 (by decide) ?_
              exact ih_0 (i + 1) (tk_s T n b9 + 1) (by show tk_s T n _ = tk_s T n (tk_s T n (tk_c T n i) + 1); rw [hbq]) (by show _ ≤ tk_s T n (tk_c T n i) + 1; rw [hbq]; exact Nat.le_refl _) (nf_y (by omega) (by rw [← hh]; omega) hnf) (Or.inr (by omega)) (by omega) (by omega) ls z_59 _ _ w (by rw [ez_59]; exact ⟨rfl, tkF_tr hq.2.1 (tkF_tr pf_15 (by rw [← ek_49_this]; exact tkF_I _ _)), hr_49⟩) (lv_sub hl [1] rfl)
            · skip
              refine lv_goto (tgt := 65) hx hb dX1_readGround_41 (by decide) ?_
              refine lv_aload_n hx hb dX1_readGround_65 rfl (lv_at hl 1 rfl) ?_
              refine ag_TD_X1_18_this X w.1 dX1_readGround_66 ?_
              refine ag_TD_X1_57_dr X w.1 dX1_readGround_69 ?_
              refine tp_i (show z_15.2.1 0 = (nI i) from (by rw [ek_15_dr]; exact (cs_ce hq.2.2).trans (congrArg nI (gD_n h0 i)))) ?_
              refine n_if_le (tgt := 79) hx hb dX1_readGround_72 (by decide) (by omega) (fun c_72_7 => ?_) (fun c_72_7 => ?_)
              · skip
                refine lv_iconst (v := (nI 0)) hx hb dX1_readGround_79 (by decide) ?_
                exact ce_iz (w := (fun q9 : RS × RS => wT1 G a d q9.1 ++ w5 G d q9.2)) (z := z_15) X hr hk w (by first | exact Or.inl rfl | exact Or.inr rfl) (⟨fun g9 => by exfalso; omega, fun _ => ⟨rfl, by rw [pa_15, hbq, show i = 0 by omega]; exact congrArg nI (tk_id T n 0)⟩, tkF_tr hq.2.1 pf_15⟩) dX1_readGround_80
              · skip
                refine lv_iconst (v := (nI 1)) hx hb dX1_readGround_75 (by decide) ?_
                refine lv_goto (tgt := 80) hx hb dX1_readGround_76 (by decide) ?_
                exact ce_iz (w := (fun q9 : RS × RS => wT1 G a d q9.1 ++ w5 G d q9.2)) (z := z_15) X hr hk w (by first | exact Or.inl rfl | exact Or.inr rfl) (by have e8 : i = tk_m T n := nf_n (by omega) (by rw [← hh]; omega) hnf; exact ⟨fun _ => ⟨rfl, by rw [← e8, ek_15_dr]; exact hq.2.2, tk_s T n b9, pa_15, by unfold ps_e; rw [← e8, tk_id]; exact hbq, by omega⟩, fun g9 => absurd (by omega) g9, tkF_tr hq.2.1 pf_15⟩) dX1_readGround_80
  exact lp_0 _ 0 0 (tk_id T n 0).symm (Nat.zero_le _) rfl (Or.inl rfl) (by omega) (Nat.lt_succ_self _) ls z _ _ w ⟨ha, tkF_rf _, he⟩ (lv_sub hl [0] rfl)
