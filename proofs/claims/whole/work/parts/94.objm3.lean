section Lm_c7_sheet
variable {p : Program} {l : Launch} {e : Env} {R : Room} {s : State} {m : MethodId} {args : Array Value} {below : List Frame} {meth : Method} {c : Code} {H : Heap} {locs : List Loc} {cells slots : Nat} {Q : State → Prop}
variable {cc : ByteArray} {pc : Nat} {ls : Array Slot} {rest : List Value} {G : CG} {A : Nat → Prop}
theorem ag_XH_X7_45_this {a : Nat → Nat} {ad : Nat → Nat → Nat} {zt : RS} {tq9 : Nat} {z : RS} (X : cX RX7 G A p c cc s args m) (w : va_P G.1 vwCl (wO G a ad zt ++ w6 G (ad (10 + tq9)) z) H) (hdg : decode cc pc = .ok (.getfield 45, 3)) (kk : W p l e R s m args below meth c H locs cells slots Q (F0 m (pc + 3) ls (.ref (a 8) :: rest))) : W p l e R s m args below meth c H locs cells slots Q (F0 m pc ls (.ref (a 0) :: rest)) :=
  va_get (D := G.1) (ci := 6) (v := .ref (a 8)) (C := RX7) (T := TX7) (N := 8) X.1 X.2.1 X.2.2.1 gX7 X.2.2.2.1 X.2.2.2.2.1.1 w 0 rfl rfl 7 (by decide) (X.2.2.1 _ wf_X7_45) (fun _ h9 => h9) rfl hdg kk
theorem aq_XH {own : String} {a : Nat → Nat} {ad : Nat → Nat → Nat} {zt : RS} {tq9 : Nat} {z : RS} {j : Nat} (X : cX own G A p c cc s args m) (w : va_P G.1 vwCl (wO G a ad zt ++ w6 G (ad (10 + tq9)) z) H) (hj : j < 4) (hdg : decode cc pc = .ok (.aaload, 1)) (kk : W p l e R s m args below meth c H locs cells slots Q (F0 m (pc + 1) ls (.ref (ad (10 + j) 0) :: rest))) : W p l e R s m args below meth c H locs cells slots Q (F0 m pc ls (.int (nI j) :: .ref (a 8) :: rest)) :=
  va_aldq X.1 X.2.1 X.2.2.2.2.1.1 w 1 2 rfl rfl (vp_in_nI hj (by decide)) hdg (by rw [nI_clamp (by omega)]; exact kk)
end Lm_c7_sheet
theorem ok7_sheet : cOk RX7 yX7_sheet cX7_sheet 4 (some .int) 3 := ⟨wc_X7_sheet, wi_X7_sheet, ws_X7_sheet, wn_X7, rfl, by decide, by decide, by decide +kernel⟩
set_option maxHeartbeats 4000000 in
set_option maxRecDepth 100000 in
theorem c7_sheet (l : Launch) (G : CG) (a : Nat → Nat) (ad : Nat → Nat → Nat) (zt : RS) (tq9 : Nat) (z : RS) (xt9 : Int32) (xl9 : Int32) (xn9 : Int32) (L N9 : Nat → Nat) (I9 : Nat → Nat → Int64) (hs : cSt z (L tq9) (N9 tq9) (I9 tq9)) (hq4 : tq9 < 4) (hx9 : 0 ≤ xt9.toInt ∧ xt9.toInt ≤ 3 → xt9 = nI tq9)  : cMi G l yX7_sheet cX7_sheet 4 (some .int) 2 42 [.ref (a 0), .int xt9, .int xl9, .int xn9] (fun q9 : RS => wO G a ad zt ++ w6 G (ad (10 + tq9)) q9) z (fun r z9 => r = an_sheet xt9 xl9 xn9 ∧ (od_sheet xt9 xl9 xn9 → cSt z9 (xl9.toInt.toNat + 1) xn9.toInt.toNat (fun _ => 0)) ∧ (¬ od_sheet xt9 xl9 xn9 → z9 = z)) := by
  refine cMi_in (by decide) rfl (Nat.le_of_ble_eq_true rfl) ?_
  intro p e s m args below meth c A ls X hml hr hk hl w
  have hx := X.1
  have hb := X.2.1
  have hts := X.2.2.1
  have hown := X.2.2.2.1
  have hl : lv_has ls 4 [(0, .ref (a 0)), (1, .int xt9), (2, .int xl9), (3, .int xn9)] := hl
  obtain ⟨s1, s2, s3, s4, s5⟩ := id hs
  have n24 : ∀ y9 : Int32, y9 ≤ nI 24 ↔ y9.toInt ≤ 24 := fun y9 => by rw [Int32.le_iff_toInt_le, nI_toInt (by decide)]; exact Iff.rfl
  have n0 : ∀ y9 : Int32, (0 : Int32) ≤ y9 ↔ 0 ≤ y9.toInt := fun y9 => by rw [Int32.le_iff_toInt_le]; exact Iff.rfl
  refine lv_iload_n hx hb dX7_sheet_0 rfl (lv_at hl 1 rfl) ?_
  refine gc_s (C := RX7) (rest := []) ⟨X.1, X.2.1, X.2.2.1, X.2.2.2.1⟩ hml hl.1 (c7_isSheet l xt9) ok7_isSheet wm_X7_216 ⟨Nat.le_of_ble_eq_true rfl, Nat.le_of_ble_eq_true rfl⟩ ⟨Nat.le_refl _, Nat.le_refl _⟩ rfl (Nat.le_of_ble_eq_true rfl) dX7_sheet_1 (fun r_1 hr_1 => ?_) rfl
  subst hr_1
  have d_1 := pc_inI_ok xt9.toInt 0 3
  refine n_if_eq (tgt := 20) hx hb dX7_sheet_4 (by decide) (by omega) (fun c_4_1 => ?_) (fun c_4_1 => ?_)
  · skip
    refine lv_iconst (v := (iZ (-1))) hx hb dX7_sheet_20 (by decide) ?_
    exact ce_i (w := (fun q9 : RS => wO G a ad zt ++ w6 G (ad (10 + tq9)) q9)) (z := z) X hr hk w (⟨by unfold an_sheet; rw [if_neg (by omega)], fun w9 => absurd w9 (by unfold od_sheet; omega), fun _ => rfl⟩) dX7_sheet_21
  · skip
    refine lv_iload_n hx hb dX7_sheet_7 rfl (lv_at hl 2 rfl) ?_
    refine gc_s (C := RX7) (rest := []) ⟨X.1, X.2.1, X.2.2.1, X.2.2.2.1⟩ hml hl.1 (c7_isLane l xl9) ok7_isLane wm_X7_219 ⟨Nat.le_of_ble_eq_true rfl, Nat.le_of_ble_eq_true rfl⟩ ⟨Nat.le_refl _, Nat.le_refl _⟩ rfl (Nat.le_of_ble_eq_true rfl) dX7_sheet_8 (fun r_8 hr_8 => ?_) rfl
    subst hr_8
    have d_8 := pc_inI_ok xl9.toInt 0 3
    refine n_if_eq (tgt := 20) hx hb dX7_sheet_11 (by decide) (by omega) (fun c_11_2 => ?_) (fun c_11_2 => ?_)
    · skip
      refine lv_iconst (v := (iZ (-1))) hx hb dX7_sheet_20 (by decide) ?_
      exact ce_i (w := (fun q9 : RS => wO G a ad zt ++ w6 G (ad (10 + tq9)) q9)) (z := z) X hr hk w (⟨by unfold an_sheet; rw [if_neg (by omega)], fun w9 => absurd w9 (by unfold od_sheet; omega), fun _ => rfl⟩) dX7_sheet_21
    · skip
      refine lv_iload_n hx hb dX7_sheet_14 rfl (lv_at hl 3 rfl) ?_
      refine lv_bipush (v := (nI 24)) hx hb dX7_sheet_15 (by decide) ?_
      refine lv_icmp_le (tgt := 22) hx hb dX7_sheet_17 (by decide) (fun c_17_3 => ?_) (fun c_17_3 => ?_)
      · skip
        have e17 := (n24 _).mp c_17_3
        refine lv_iload_n hx hb dX7_sheet_22 rfl (lv_at hl 3 rfl) ?_
        refine lv_if_ge (tgt := 29) hx hb dX7_sheet_23 (by decide) (fun c_23_4 => ?_) (fun c_23_4 => ?_)
        · skip
          have e23 := (n0 _).mp c_23_4
          have et_tq9 := hx9 (by omega)
          have eu_tq9 : xt9.toInt = (tq9 : Int) := by rw [et_tq9]; exact nI_toInt (by omega)
          have hl : lv_has ls 4 [(0, .ref (a 0)), (1, .int (nI tq9)), (2, .int xl9), (3, .int xn9)] := by rw [← et_tq9]; exact hl
          obtain ⟨j, hk_j, ek_j⟩ := iv_n (x := xl9) (by omega)
          have hl : lv_has ls 4 [(0, .ref (a 0)), (1, .int (nI tq9)), (2, .int (nI j)), (3, .int xn9)] := by rw [← ek_j]; exact hl
          obtain ⟨k, hk_k, ek_k⟩ := iv_n (x := xn9) (by omega)
          have hl : lv_has ls 4 [(0, .ref (a 0)), (1, .int (nI tq9)), (2, .int (nI j)), (3, .int (nI k))] := by rw [← ek_k]; exact hl
          refine lv_aload_n hx hb dX7_sheet_29 rfl (lv_at hl 0 rfl) ?_
          refine ag_XH_X7_45_this X w.1 dX7_sheet_30 ?_
          refine lv_iload_n hx hb dX7_sheet_33 rfl (lv_at hl 1 rfl) ?_
          refine aq_XH X w.1 (by omega) dX7_sheet_34 ?_
          refine lv_iload_n hx hb dX7_sheet_35 rfl (lv_at hl 2 rfl) ?_
          refine lv_iload_n hx hb dX7_sheet_36 rfl (lv_at hl 3 rfl) ?_
          refine gc_v (C := RX6) (ci := 5) (rest := []) (w := (fun q9 : RS => w6 G (ad (10 + tq9)) q9)) (wr := [((a 0), .inr (6, [.ref (ad 0 0), .ref (ad 1 0), .ref (ad 2 0), .ref (ad 3 0), .int (zt.1 4), .ref (ad 5 0), .ref (ad 6 0), .ref (a 8)])), ((a 8), .inl (G.2.2.2, 4, .inr (.inr (.inr (.inr (fun j => some (ad (10 + j) 0)))))))]) (wn := (fun u9 => wO G a ad zt ++ w6 G (ad (10 + tq9)) ((u9)))) X hml hl.1 (c6_hold l G (ad (10 + tq9)) z j k L N9 I9 tq9 hs (by omega) (by omega)) ok6_hold wm_X7_276 ⟨Nat.le_of_ble_eq_true rfl, Nat.le_of_ble_eq_true rfl⟩ ⟨Nat.le_refl _, Nat.le_refl _⟩ w [2, 3] [0, 1] [0, 1, 2, 3] rfl (by decide) rfl (by decide) (by decide) (fun _ => rfl) (by decide) rfl rfl rfl (Nat.le_of_ble_eq_true rfl) dX7_sheet_37 (fun u_37 H locs hr_37 w => ?_)
          obtain ⟨z_37, ez_37⟩ : ∃ q9 : RS, q9 = u_37 := ⟨_, rfl⟩
          have w : cW G A s (wO G a ad zt ++ w6 G (ad (10 + tq9)) z_37) H locs := by rw [ez_37]; exact w
          rw [← ez_37] at hr_37
          refine lv_iload_n hx hb dX7_sheet_40 rfl (lv_at hl 3 rfl) ?_
          exact ce_i (w := (fun q9 : RS => wO G a ad zt ++ w6 G (ad (10 + tq9)) q9)) (z := z_37) X hr hk w (⟨by unfold an_sheet; rw [if_pos (by omega), if_neg (by omega)]; exact ek_k.symm, fun _ => by rw [show xl9.toInt.toNat = j by omega, show xn9.toInt.toNat = k by omega]; exact hr_37, fun w9 => absurd (show od_sheet xt9 xl9 xn9 by unfold od_sheet; omega) w9⟩) dX7_sheet_41
        · skip
          have e23 : ¬ 0 ≤ xn9.toInt := fun w9 => c_23_4 ((n0 _).mpr w9)
          refine lv_bipush (v := (iZ (-14))) hx hb dX7_sheet_26 (by decide) ?_
          exact ce_i (w := (fun q9 : RS => wO G a ad zt ++ w6 G (ad (10 + tq9)) q9)) (z := z) X hr hk w (⟨by unfold an_sheet; rw [if_pos (by omega), if_pos (by omega)], fun w9 => absurd w9 (by unfold od_sheet; omega), fun _ => rfl⟩) dX7_sheet_28
      · skip
        have e17 : ¬ xn9.toInt ≤ 24 := fun w9 => c_17_3 ((n24 _).mpr w9)
        refine lv_iconst (v := (iZ (-1))) hx hb dX7_sheet_20 (by decide) ?_
        exact ce_i (w := (fun q9 : RS => wO G a ad zt ++ w6 G (ad (10 + tq9)) q9)) (z := z) X hr hk w (⟨by unfold an_sheet; rw [if_neg (by omega)], fun w9 => absurd w9 (by unfold od_sheet; omega), fun _ => rfl⟩) dX7_sheet_21

section Lm_c7_drop
variable {p : Program} {l : Launch} {e : Env} {R : Room} {s : State} {m : MethodId} {args : Array Value} {below : List Frame} {meth : Method} {c : Code} {H : Heap} {locs : List Loc} {cells slots : Nat} {Q : State → Prop}
variable {cc : ByteArray} {pc : Nat} {ls : Array Slot} {rest : List Value} {G : CG} {A : Nat → Prop}
theorem ag_XH_X7_285_sh {a : Nat → Nat} {ad : Nat → Nat → Nat} {zt : RS} {tq9 : Nat} {z : RS} (X : cX RX7 G A p c cc s args m) (w : va_P G.1 vwCl (wO G a ad zt ++ w6 G (ad (10 + tq9)) z) H) (hdg : decode cc pc = .ok (.getfield 285, 3)) (kk : W p l e R s m args below meth c H locs cells slots Q (F0 m (pc + 3) ls (.int (z.1 1) :: rest))) : W p l e R s m args below meth c H locs cells slots Q (F0 m pc ls (.ref ((ad (10 + tq9)) 0) :: rest)) :=
  va_getN (own := RX7) (ref := RX6) (host := "RunningThree") (D := G.1) (ci := 5) (v := .int (z.1 1)) (C := RX6) (T := TX6) (N := 3) X.1 X.2.1 X.2.2.1 gX6 X.2.2.2.1 X.2.2.2.2.1.1 w 2 rfl rfl 1 (by decide) (va_Nw.use rfl (X.2.2.2.2.1.2 _ wq_X7_285)) (fun _ h9 => h9) rfl hdg kk
end Lm_c7_drop
theorem ok7_drop : cOk RX7 yX7_drop cX7_drop 3 (some .int) 1 := ⟨wc_X7_drop, wi_X7_drop, ws_X7_drop, wn_X7, rfl, by decide, by decide, by decide +kernel⟩
set_option maxHeartbeats 4000000 in
set_option maxRecDepth 100000 in
theorem c7_drop (l : Launch) (G : CG) (a : Nat → Nat) (ad : Nat → Nat → Nat) (zt : RS) (tq9 : Nat) (z : RS) (xt9 : Int32) (L N9 : Nat → Nat) (I9 : Nat → Nat → Int64) (hs : cSt z (L tq9) (N9 tq9) (I9 tq9)) (hq4 : tq9 < 4) (hx9 : 0 ≤ xt9.toInt ∧ xt9.toInt ≤ 3 → xt9 = nI tq9)  : cMi G l yX7_drop cX7_drop 3 (some .int) 2 42 [.ref (a 0), .int xt9] (fun q9 : RS => wO G a ad zt ++ w6 G (ad (10 + tq9)) q9) z (fun r z9 => r = an_drop L N9 xt9 ∧ ((0 ≤ xt9.toInt ∧ xt9.toInt ≤ 3) → cSt z9 0 (N9 tq9) (I9 tq9)) ∧ (¬ (0 ≤ xt9.toInt ∧ xt9.toInt ≤ 3) → z9 = z)) := by
  refine cMi_in (by decide) rfl (Nat.le_of_ble_eq_true rfl) ?_
  intro p e s m args below meth c A ls X hml hr hk hl w
  have hx := X.1
  have hb := X.2.1
  have hts := X.2.2.1
  have hown := X.2.2.2.1
  have hl : lv_has ls 3 [(0, .ref (a 0)), (1, .int xt9)] := hl
  obtain ⟨s1, s2, s3, s4, s5⟩ := id hs
  refine lv_iload_n hx hb dX7_drop_0 rfl (lv_at hl 1 rfl) ?_
  refine gc_s (C := RX7) (rest := []) ⟨X.1, X.2.1, X.2.2.1, X.2.2.2.1⟩ hml hl.1 (c7_isSheet l xt9) ok7_isSheet wm_X7_216 ⟨Nat.le_of_ble_eq_true rfl, Nat.le_of_ble_eq_true rfl⟩ ⟨Nat.le_refl _, Nat.le_refl _⟩ rfl (Nat.le_of_ble_eq_true rfl) dX7_drop_1 (fun r_1 hr_1 => ?_) rfl
  subst hr_1
  have d_1 := pc_inI_ok xt9.toInt 0 3
  refine n_if_ne (tgt := 9) hx hb dX7_drop_4 (by decide) (by omega) (fun c_4_1 => ?_) (fun c_4_1 => ?_)
  · skip
    have et_tq9 := hx9 (by omega)
    have eu_tq9 : xt9.toInt = (tq9 : Int) := by rw [et_tq9]; exact nI_toInt (by omega)
    have hl : lv_has ls 3 [(0, .ref (a 0)), (1, .int (nI tq9))] := by rw [← et_tq9]; exact hl
    refine lv_aload_n hx hb dX7_drop_9 rfl (lv_at hl 0 rfl) ?_
    refine ag_XH_X7_45_this X w.1 dX7_drop_10 ?_
    refine lv_iload_n hx hb dX7_drop_13 rfl (lv_at hl 1 rfl) ?_
    refine aq_XH X w.1 (by omega) dX7_drop_14 ?_
    refine lv_astore_n (lv' := [(2, .ref ((ad (10 + tq9)) 0)), (0, .ref (a 0)), (1, .int (nI tq9))]) hx hb dX7_drop_15 rfl hl (by decide) rfl (fun ls hl => ?_)
    refine lv_aload_n hx hb dX7_drop_16 rfl (lv_at hl 0 rfl) ?_
    refine gc_p (C := RX6) (ci := 5) (rest := []) X hml hl.1 (c6_isThere l G (ad (10 + tq9)) z  L N9 I9 tq9 hs ) ok6_isThere wm_X7_279 ⟨Nat.le_of_ble_eq_true rfl, Nat.le_of_ble_eq_true rfl⟩ ⟨Nat.le_refl _, Nat.le_refl _⟩ w.1 [2, 3] rfl rfl rfl rfl (Nat.le_of_ble_eq_true rfl) dX7_drop_17 (fun r_17 hr_17 => ?_)
    subst hr_17
    have d_17 : ((if L tq9 = 0 then 0 else 1) = 0 ∧ L tq9 = 0) ∨ ((if L tq9 = 0 then 0 else 1) = 1 ∧ ¬ L tq9 = 0) := by by_cases q : L tq9 = 0; rw [if_pos q]; exact Or.inl ⟨rfl, q⟩; rw [if_neg q]; exact Or.inr ⟨rfl, q⟩
    refine n_if_ne (tgt := 26) hx hb dX7_drop_20 (by decide) (by omega) (fun c_20_2 => ?_) (fun c_20_2 => ?_)
    · skip
      refine lv_aload_n hx hb dX7_drop_26 rfl (lv_at hl 0 rfl) ?_
      refine gc_v (C := RX6) (ci := 5) (rest := []) (w := (fun q9 : RS => w6 G (ad (10 + tq9)) q9)) (wr := [((a 0), .inr (6, [.ref (ad 0 0), .ref (ad 1 0), .ref (ad 2 0), .ref (ad 3 0), .int (zt.1 4), .ref (ad 5 0), .ref (ad 6 0), .ref (a 8)])), ((a 8), .inl (G.2.2.2, 4, .inr (.inr (.inr (.inr (fun j => some (ad (10 + j) 0)))))))]) (wn := (fun u9 => wO G a ad zt ++ w6 G (ad (10 + tq9)) ((u9)))) X hml hl.1 (c6_dropAll l G (ad (10 + tq9)) z L N9 I9 tq9 hs) ok6_dropAll wm_X7_282 ⟨Nat.le_of_ble_eq_true rfl, Nat.le_of_ble_eq_true rfl⟩ ⟨Nat.le_refl _, Nat.le_refl _⟩ w [2, 3] [0, 1] [0, 1, 2, 3] rfl (by decide) rfl (by decide) (by decide) (fun _ => rfl) (by decide) rfl rfl rfl (Nat.le_of_ble_eq_true rfl) dX7_drop_27 (fun u_27 H locs hr_27 w => ?_)
      obtain ⟨z_27, ez_27⟩ : ∃ q9 : RS, q9 = u_27 := ⟨_, rfl⟩
      have w : cW G A s (wO G a ad zt ++ w6 G (ad (10 + tq9)) z_27) H locs := by rw [ez_27]; exact w
      rw [← ez_27] at hr_27
      refine lv_aload_n hx hb dX7_drop_30 rfl (lv_at hl 0 rfl) ?_
      refine ag_XH_X7_285_sh X w.1 dX7_drop_31 ?_
      refine tp_i (show z_27.1 1 = (nI (N9 tq9)) from hr_27.2.1) ?_
      exact ce_i (w := (fun q9 : RS => wO G a ad zt ++ w6 G (ad (10 + tq9)) q9)) (z := z_27) X hr hk w (⟨by unfold an_drop; rw [if_pos (by omega), show xt9.toInt.toNat = tq9 by omega, if_neg (by omega)], fun _ => hr_27, fun w9 => absurd (show 0 ≤ xt9.toInt ∧ xt9.toInt ≤ 3 by omega) w9⟩) dX7_drop_34
    · skip
      refine lv_bipush (v := (iZ (-11))) hx hb dX7_drop_23 (by decide) ?_
      exact ce_i (w := (fun q9 : RS => wO G a ad zt ++ w6 G (ad (10 + tq9)) q9)) (z := z) X hr hk w (⟨by unfold an_drop; rw [if_pos (by omega), show xt9.toInt.toNat = tq9 by omega, if_pos (by omega)], fun _ => by have e0 : L tq9 = 0 := (by omega); rw [e0] at hs; exact hs, fun w9 => absurd (show 0 ≤ xt9.toInt ∧ xt9.toInt ≤ 3 by omega) w9⟩) dX7_drop_25
  · skip
    refine lv_iconst (v := (iZ (-1))) hx hb dX7_drop_7 (by decide) ?_
    exact ce_i (w := (fun q9 : RS => wO G a ad zt ++ w6 G (ad (10 + tq9)) q9)) (z := z) X hr hk w (⟨by unfold an_drop; rw [if_neg (by omega)], fun w9 => absurd w9 (by omega), fun _ => rfl⟩) dX7_drop_8

theorem ok7_item : cOk RX7 yX7_item cX7_item 8 (some .int) 4 := ⟨wc_X7_item, wi_X7_item, ws_X7_item, wn_X7, rfl, by decide, by decide, by decide +kernel⟩
set_option maxHeartbeats 4000000 in
set_option maxRecDepth 100000 in
theorem c7_item (l : Launch) (G : CG) (a : Nat → Nat) (ad : Nat → Nat → Nat) (zt : RS) (tq9 : Nat) (z : RS) (xt9 : Int32) (xl9 : Int32) (xi9 : Int32) (xv9 : Int64) (L N9 : Nat → Nat) (I9 : Nat → Nat → Int64) (hs : cSt z (L tq9) (N9 tq9) (I9 tq9)) (hq4 : tq9 < 4) (hx9 : 0 ≤ xt9.toInt ∧ xt9.toInt ≤ 3 → xt9 = nI tq9)  : cMi G l yX7_item cX7_item 8 (some .int) 2 45 [.ref (a 0), .int xt9, .int xl9, .int xi9, .long (xv9)] (fun q9 : RS => wO G a ad zt ++ w6 G (ad (10 + tq9)) q9) z (fun r z9 => r = an_item L N9 xt9 xl9 xi9 ∧ cSt z9 (L tq9) (N9 tq9) (ni_item L N9 I9 xt9 xl9 xi9 xv9 tq9)) := by
  refine cMi_in (by decide) rfl (Nat.le_of_ble_eq_true rfl) ?_
  intro p e s m args below meth c A ls X hml hr hk hl w
  have hx := X.1
  have hb := X.2.1
  have hts := X.2.2.1
  have hown := X.2.2.2.1
  have hl : lv_has ls 8 [(0, .ref (a 0)), (1, .int xt9), (2, .int xl9), (3, .int xi9), (4, .long (xv9))] := hl
  obtain ⟨s1, s2, s3, s4, s5⟩ := id hs
  refine lv_iload_n hx hb dX7_item_0 rfl (lv_at hl 1 rfl) ?_
  refine gc_s (C := RX7) (rest := []) ⟨X.1, X.2.1, X.2.2.1, X.2.2.2.1⟩ hml hl.1 (c7_isSheet l xt9) ok7_isSheet wm_X7_216 ⟨Nat.le_of_ble_eq_true rfl, Nat.le_of_ble_eq_true rfl⟩ ⟨Nat.le_refl _, Nat.le_refl _⟩ rfl (Nat.le_of_ble_eq_true rfl) dX7_item_1 (fun r_1 hr_1 => ?_) rfl
  subst hr_1
  have d_1 := pc_inI_ok xt9.toInt 0 3
  refine n_if_eq (tgt := 14) hx hb dX7_item_4 (by decide) (by omega) (fun c_4_1 => ?_) (fun c_4_1 => ?_)
  · skip
    refine lv_iconst (v := (iZ (-1))) hx hb dX7_item_14 (by decide) ?_
    exact ce_i (w := (fun q9 : RS => wO G a ad zt ++ w6 G (ad (10 + tq9)) q9)) (z := z) X hr hk w (⟨by unfold an_item; rw [if_neg (by omega)], by unfold ni_item; rw [if_neg (by omega)]; exact hs⟩) dX7_item_15
  · skip
    refine lv_iload_n hx hb dX7_item_7 rfl (lv_at hl 2 rfl) ?_
    refine gc_s (C := RX7) (rest := []) ⟨X.1, X.2.1, X.2.2.1, X.2.2.2.1⟩ hml hl.1 (c7_isLane l xl9) ok7_isLane wm_X7_219 ⟨Nat.le_of_ble_eq_true rfl, Nat.le_of_ble_eq_true rfl⟩ ⟨Nat.le_refl _, Nat.le_refl _⟩ rfl (Nat.le_of_ble_eq_true rfl) dX7_item_8 (fun r_8 hr_8 => ?_) rfl
    subst hr_8
    have d_8 := pc_inI_ok xl9.toInt 0 3
    refine n_if_ne (tgt := 16) hx hb dX7_item_11 (by decide) (by omega) (fun c_11_2 => ?_) (fun c_11_2 => ?_)
    · skip
      have et_tq9 := hx9 (by omega)
      have eu_tq9 : xt9.toInt = (tq9 : Int) := by rw [et_tq9]; exact nI_toInt (by omega)
      have hl : lv_has ls 8 [(0, .ref (a 0)), (1, .int (nI tq9)), (2, .int xl9), (3, .int xi9), (4, .long (xv9))] := by rw [← et_tq9]; exact hl
      obtain ⟨j, hk_j, ek_j⟩ := iv_n (x := xl9) (by omega)
      have hl : lv_has ls 8 [(0, .ref (a 0)), (1, .int (nI tq9)), (2, .int (nI j)), (3, .int xi9), (4, .long (xv9))] := by rw [← ek_j]; exact hl
      refine lv_aload_n hx hb dX7_item_16 rfl (lv_at hl 0 rfl) ?_
      refine ag_XH_X7_45_this X w.1 dX7_item_17 ?_
      refine lv_iload_n hx hb dX7_item_20 rfl (lv_at hl 1 rfl) ?_
      refine aq_XH X w.1 (by omega) dX7_item_21 ?_
      refine lv_astore (lv' := [(6, .ref ((ad (10 + tq9)) 0)), (0, .ref (a 0)), (1, .int (nI tq9)), (2, .int (nI j)), (3, .int xi9), (4, .long (xv9))]) hx hb dX7_item_22 hl (by decide) rfl (fun ls hl => ?_)
      refine lv_aload hx hb dX7_item_24 (lv_at hl 0 rfl) ?_
      refine lv_iload_n hx hb dX7_item_26 rfl (lv_at hl 3 rfl) ?_
      refine lv_iload_n hx hb dX7_item_27 rfl (lv_at hl 4 rfl) ?_
      refine lv_iconst (v := (nI 1)) hx hb dX7_item_28 (by decide) ?_
      refine gc_p (C := RX6) (ci := 5) (rest := []) X hml hl.1 (c6_refusal l G (ad (10 + tq9)) z j xi9 1 L N9 I9 tq9 hs (by omega) (by omega)) ok6_refusal wm_X7_222 ⟨Nat.le_of_ble_eq_true rfl, Nat.le_of_ble_eq_true rfl⟩ ⟨Nat.le_refl _, Nat.le_refl _⟩ w.1 [2, 3] rfl rfl rfl rfl (Nat.le_of_ble_eq_true rfl) dX7_item_29 (fun r_29 hr_29 => ?_)
      subst hr_29
      have d_29 := pw_why_ok L N9 tq9 j xi9.toInt 1
      refine lv_istore (lv' := [(7, .int (iZ (pw_why L N9 tq9 j xi9.toInt 1))), (6, .ref ((ad (10 + tq9)) 0)), (0, .ref (a 0)), (1, .int (nI tq9)), (2, .int (nI j)), (3, .int xi9), (4, .long (xv9))]) hx hb dX7_item_32 hl (by decide) rfl (fun ls hl => ?_)
      refine lv_iload hx hb dX7_item_34 (lv_at hl 0 rfl) ?_
      refine z_if_ge (tgt := 42) hx hb dX7_item_36 (by decide) (by omega) (by omega) (fun c_36_3 => ?_) (fun c_36_3 => ?_)
      · skip
        obtain ⟨k, hk_k, ek_k⟩ := iv_n (x := xi9) (by omega)
        have hl : lv_has ls 8 [(7, .int (iZ (pw_why L N9 tq9 j xi9.toInt 1))), (6, .ref ((ad (10 + tq9)) 0)), (0, .ref (a 0)), (1, .int (nI tq9)), (2, .int (nI j)), (3, .int (nI k)), (4, .long (xv9))] := by rw [← ek_k]; exact hl
        refine lv_aload hx hb dX7_item_42 (lv_at hl 1 rfl) ?_
        refine lv_iload_n hx hb dX7_item_44 rfl (lv_at hl 5 rfl) ?_
        refine lv_lload hx hb dX7_item_45 (lv_at hl 6 rfl) ?_
        refine gc_v (C := RX6) (ci := 5) (rest := []) (w := (fun q9 : RS => w6 G (ad (10 + tq9)) q9)) (wr := [((a 0), .inr (6, [.ref (ad 0 0), .ref (ad 1 0), .ref (ad 2 0), .ref (ad 3 0), .int (zt.1 4), .ref (ad 5 0), .ref (ad 6 0), .ref (a 8)])), ((a 8), .inl (G.2.2.2, 4, .inr (.inr (.inr (.inr (fun j => some (ad (10 + j) 0)))))))]) (wn := (fun u9 => wO G a ad zt ++ w6 G (ad (10 + tq9)) ((u9)))) X hml hl.1 (c6_put l G (ad (10 + tq9)) z k xv9 L N9 I9 tq9 hs (by omega)) ok6_put wm_X7_272 ⟨Nat.le_of_ble_eq_true rfl, Nat.le_of_ble_eq_true rfl⟩ ⟨Nat.le_refl _, Nat.le_refl _⟩ w [2, 3] [0, 1] [0, 1, 2, 3] rfl (by decide) rfl (by decide) (by decide) (fun _ => rfl) (by decide) rfl rfl rfl (Nat.le_of_ble_eq_true rfl) dX7_item_47 (fun u_47 H locs hr_47 w => ?_)
        obtain ⟨z_47, ez_47⟩ : ∃ q9 : RS, q9 = u_47 := ⟨_, rfl⟩
        have w : cW G A s (wO G a ad zt ++ w6 G (ad (10 + tq9)) z_47) H locs := by rw [ez_47]; exact w
        rw [← ez_47] at hr_47
        refine lv_iconst (v := (nI 1)) hx hb dX7_item_50 (by decide) ?_
        exact ce_i (w := (fun q9 : RS => wO G a ad zt ++ w6 G (ad (10 + tq9)) q9)) (z := z_47) X hr hk w (⟨by unfold an_item; rw [if_pos (by omega), show xt9.toInt.toNat = tq9 by omega, show xl9.toInt.toNat = j by omega, if_neg (by omega)], by unfold ni_item; rw [show xt9.toInt.toNat = tq9 by omega, show xl9.toInt.toNat = j by omega, show xi9.toInt.toNat = k by omega, if_pos (by omega), va_up_self]; exact hr_47⟩) dX7_item_51
      · skip
        refine lv_iload hx hb dX7_item_39 (lv_at hl 0 rfl) ?_
        exact ce_i (w := (fun q9 : RS => wO G a ad zt ++ w6 G (ad (10 + tq9)) q9)) (z := z) X hr hk w (⟨by unfold an_item; rw [if_pos (by omega), show xt9.toInt.toNat = tq9 by omega, show xl9.toInt.toNat = j by omega, if_pos (by omega)], by unfold ni_item; rw [show xt9.toInt.toNat = tq9 by omega, show xl9.toInt.toNat = j by omega, if_neg (by omega)]; exact hs⟩) dX7_item_41
    · skip
      refine lv_iconst (v := (iZ (-1))) hx hb dX7_item_14 (by decide) ?_
      exact ce_i (w := (fun q9 : RS => wO G a ad zt ++ w6 G (ad (10 + tq9)) q9)) (z := z) X hr hk w (⟨by unfold an_item; rw [if_neg (by omega)], by unfold ni_item; rw [if_neg (by omega)]; exact hs⟩) dX7_item_15

section Lm_c7_areSightings
variable {p : Program} {l : Launch} {e : Env} {R : Room} {s : State} {m : MethodId} {args : Array Value} {below : List Frame} {meth : Method} {c : Code} {H : Heap} {locs : List Loc} {cells slots : Nat} {Q : State → Prop}
variable {cc : ByteArray} {pc : Nat} {ls : Array Slot} {rest : List Value} {G : CG} {A : Nat → Prop}
theorem ag_XSH_X7_10_this {a : Nat → Nat} {ad : Nat → Nat → Nat} {zt : RS} {tq9 : Nat} {z : RS × RS} (X : cX RX7 G A p c cc s args m) (w : va_P G.1 vwCl (wO G a ad zt ++ w5 G (ad 0) z.1 ++ w6 G (ad (10 + tq9)) z.2) H) (hdg : decode cc pc = .ok (.getfield 10, 3)) (kk : W p l e R s m args below meth c H locs cells slots Q (F0 m (pc + 3) ls (.ref ((ad 0) 0) :: rest))) : W p l e R s m args below meth c H locs cells slots Q (F0 m pc ls (.ref (a 0) :: rest)) :=
  va_get (D := G.1) (ci := 6) (v := .ref ((ad 0) 0)) (C := RX7) (T := TX7) (N := 8) X.1 X.2.1 X.2.2.1 gX7 X.2.2.2.1 X.2.2.2.2.1.1 w 0 rfl rfl 0 (by decide) (X.2.2.1 _ wf_X7_10) (fun _ h9 => h9) rfl hdg kk
theorem ag_XSH_X7_131_sc {a : Nat → Nat} {ad : Nat → Nat → Nat} {zt : RS} {tq9 : Nat} {z : RS × RS} (X : cX RX7 G A p c cc s args m) (w : va_P G.1 vwCl (wO G a ad zt ++ w5 G (ad 0) z.1 ++ w6 G (ad (10 + tq9)) z.2) H) (hdg : decode cc pc = .ok (.getfield 131, 3)) (kk : W p l e R s m args below meth c H locs cells slots Q (F0 m (pc + 3) ls (.int (z.1.1 0) :: rest))) : W p l e R s m args below meth c H locs cells slots Q (F0 m pc ls (.ref ((ad 0) 0) :: rest)) :=
  va_getN (own := RX7) (ref := RX5) (host := "RunningThree") (D := G.1) (ci := 4) (v := .int (z.1.1 0)) (C := RX5) (T := TX5) (N := 13) X.1 X.2.1 X.2.2.1 gX5 X.2.2.2.1 X.2.2.2.2.1.1 w 2 rfl rfl 0 (by decide) (va_Nw.use rfl (X.2.2.2.2.1.2 _ wq_X7_131)) (fun _ h9 => h9) rfl hdg kk
end Lm_c7_areSightings
theorem ok7_areSightings : cOk RX7 yX7_areSightings cX7_areSightings 9 (some .boolean) 3 := ⟨wc_X7_areSightings, wi_X7_areSightings, ws_X7_areSightings, wn_X7, rfl, by decide, by decide, by decide +kernel⟩
set_option maxHeartbeats 4000000 in
set_option maxRecDepth 100000 in
theorem c7_areSightings (l : Launch) (G : CG) (a : Nat → Nat) (ad : Nat → Nat → Nat) (zt : RS) (tq9 : Nat) (z : RS × RS) (ia9 : Nat) (na9 : Nat) (S : Sc) (hT : cSc z.1 S) (ho : oSc S) (L N9 : Nat → Nat) (I9 : Nat → Nat → Int64) (hs : cSt z.2 (L tq9) (N9 tq9) (I9 tq9)) (hin : ia9 + 2 * na9 ≤ N9 tq9) : cMp G l yX7_areSightings cX7_areSightings 9 (some .boolean) 2 43 [.ref (a 0), .ref ((ad (10 + tq9)) 0), .int (nI ia9), .int (nI na9)] (wO G a ad zt ++ w5 G (ad 0) z.1 ++ w6 G (ad (10 + tq9)) z.2) (fun r => r = nI (sp_al S (fun q => I9 tq9 (ia9 + q)) na9)) := by
  refine cMp_in (by decide) rfl (Nat.le_of_ble_eq_true rfl) ?_
  intro p e s m args below meth c ls X hml hr hk hl w
  have hx := X.1
  have hb := X.2.1
  have hts := X.2.2.1
  have hown := X.2.2.2.1
  have hl : lv_has ls 9 [(0, .ref (a 0)), (1, .ref ((ad (10 + tq9)) 0)), (2, .int (nI ia9)), (3, .int (nI na9))] := hl
  obtain ⟨o1, o2, o3, o4, o5, o6, oso, oki, osr, opa, ohu, oco⟩ := id ho
  have s4 := hs.2.2.2.1
  refine lv_iconst (v := (nI 0)) hx hb dX7_areSightings_0 (by decide) ?_
  refine lv_istore (lv' := [(4, .int (nI 0)), (0, .ref (a 0)), (1, .ref ((ad (10 + tq9)) 0)), (2, .int (nI ia9)), (3, .int (nI na9))]) hx hb dX7_areSightings_1 hl (by decide) rfl (fun ls hl => ?_)
  have lp_3 : ∀ (n_3 : Nat) (i : Nat) (hi : i ≤ na9) (hal : ¬ sp_al S (fun q => I9 tq9 (ia9 + q)) i = 0) (hm_3 : na9 - i < n_3) (ls : Array Slot), lv_has ls 9 [(0, .ref (a 0)), (1, .ref ((ad (10 + tq9)) 0)), (2, .int (nI ia9)), (3, .int (nI na9)), (4, .int (nI i))] → W p l e (ro_m 2 43) s m args below meth c s.heap [] 0 0 (MQ below (vp_Si (fun r => r = nI (sp_al S (fun q => I9 tq9 (ia9 + q)) na9))) args s 0 0 (fun _ => False)) (F0 m 3 ls []) := by
    intro n_3
    induction n_3 with
    | zero => intro i hi hal hm; exact absurd hm (Nat.not_lt_zero _)
    | succ n_3 ih_3 =>
      intro i hi hal hm_3 ls hl
      refine lv_iload hx hb dX7_areSightings_3 (lv_at hl 4 rfl) ?_
      refine lv_iload_n hx hb dX7_areSightings_5 rfl (lv_at hl 3 rfl) ?_
      refine n_icmp_ge (tgt := 80) hx hb dX7_areSightings_6 (by decide) (by omega) (by omega) (fun c_6_1 => ?_) (fun c_6_1 => ?_)
      · skip
        refine lv_iconst (v := (nI 1)) hx hb dX7_areSightings_80 (by decide) ?_
        exact re_pz hx hb hr hk (by first | exact Or.inl rfl | exact Or.inr rfl) (by have e1 := al_le S (fun q => I9 tq9 (ia9 + q)) na9; rw [show i = na9 by omega] at hal; exact congrArg nI (by omega)) dX7_areSightings_81
      · skip
        refine lv_aload_n hx hb dX7_areSightings_9 rfl (lv_at hl 1 rfl) ?_
        refine lv_iload_n hx hb dX7_areSightings_10 rfl (lv_at hl 2 rfl) ?_
        refine lv_iconst (v := (nI 2)) hx hb dX7_areSightings_11 (by decide) ?_
        refine lv_iload hx hb dX7_areSightings_12 (lv_at hl 4 rfl) ?_
        refine n_imul hx hb dX7_areSightings_14 ?_
        refine n_iadd hx hb dX7_areSightings_15 ?_
        refine gc_l (C := RX6) (ci := 5) (rest := []) X hml hl.1 (c6_itemAt l G (ad (10 + tq9)) z.2 (ia9 + (2 * i)) L N9 I9 tq9 hs (by omega)) ok6_itemAt wm_X7_233 ⟨Nat.le_of_ble_eq_true rfl, Nat.le_of_ble_eq_true rfl⟩ ⟨Nat.le_refl _, Nat.le_refl _⟩ w [10, 11] rfl rfl rfl rfl (Nat.le_of_ble_eq_true rfl) dX7_areSightings_16 (fun r_16 hr_16 => ?_)
        rw [if_pos (by omega)] at hr_16
        subst hr_16
        refine lv_lstore (lv' := [(5, .long (I9 tq9 (ia9 + (2 * i)))), (0, .ref (a 0)), (1, .ref ((ad (10 + tq9)) 0)), (2, .int (nI ia9)), (3, .int (nI na9)), (4, .int (nI i))]) hx hb dX7_areSightings_19 hl (by decide) rfl (fun ls hl => ?_)
        refine lv_aload_n hx hb dX7_areSightings_21 rfl (lv_at hl 2 rfl) ?_
        refine lv_iload_n hx hb dX7_areSightings_22 rfl (lv_at hl 3 rfl) ?_
        refine lv_iconst (v := (nI 2)) hx hb dX7_areSightings_23 (by decide) ?_
        refine lv_iload hx hb dX7_areSightings_24 (lv_at hl 5 rfl) ?_
        refine n_imul hx hb dX7_areSightings_26 ?_
        refine n_iadd hx hb dX7_areSightings_27 ?_
        refine lv_iconst (v := (nI 1)) hx hb dX7_areSightings_28 (by decide) ?_
        refine n_iadd hx hb dX7_areSightings_29 ?_
        refine gc_l (C := RX6) (ci := 5) (rest := []) X hml hl.1 (c6_itemAt l G (ad (10 + tq9)) z.2 ((ia9 + (2 * i)) + 1) L N9 I9 tq9 hs (by omega)) ok6_itemAt wm_X7_233 ⟨Nat.le_of_ble_eq_true rfl, Nat.le_of_ble_eq_true rfl⟩ ⟨Nat.le_refl _, Nat.le_refl _⟩ w [10, 11] rfl rfl rfl rfl (Nat.le_of_ble_eq_true rfl) dX7_areSightings_30 (fun r_30 hr_30 => ?_)
        rw [if_pos (by omega)] at hr_30
        subst hr_30
        refine lv_lstore (lv' := [(7, .long (I9 tq9 ((ia9 + (2 * i)) + 1))), (5, .long (I9 tq9 (ia9 + (2 * i)))), (0, .ref (a 0)), (1, .ref ((ad (10 + tq9)) 0)), (2, .int (nI ia9)), (3, .int (nI na9)), (4, .int (nI i))]) hx hb dX7_areSightings_33 hl (by decide) rfl (fun ls hl => ?_)
        refine lv_lload hx hb dX7_areSightings_35 (lv_at hl 1 rfl) ?_
        refine lv_lconst (v := 0) hx hb dX7_areSightings_37 (by decide) ?_
        refine W.lcmp hx hb dX7_areSightings_38 ?_
        refine lv_if_lt (tgt := 72) hx hb dX7_areSightings_39 (by decide) (fun c_39_2 => ?_) (fun c_39_2 => ?_)
        · skip
          have g39 := (lc_lt (a := (I9 tq9 (ia9 + 2 * i)).toInt) (b := 0) rfl rfl).mp c_39_2
          refine lv_iconst (v := (nI 0)) hx hb dX7_areSightings_72 (by decide) ?_
          exact re_pz hx hb hr hk (by first | exact Or.inl rfl | exact Or.inr rfl) (congrArg nI (al_bad (R9 := (fun q => I9 tq9 (ia9 + q))) hal (by omega) (fun w9 => by have w1 : 0 ≤ (I9 tq9 (ia9 + 2 * i)).toInt := w9.1.1; have w2 : (I9 tq9 (ia9 + 2 * i)).toInt ≤ 400 := w9.1.2; have w3 : 0 ≤ (I9 tq9 (ia9 + 2 * i + 1)).toInt := w9.2.1; have w4 : (I9 tq9 (ia9 + 2 * i + 1)).toInt < (S.1 0 : Int) := w9.2.2; omega)).symm) dX7_areSightings_73
        · skip
          have g39 : ¬ (I9 tq9 (ia9 + 2 * i)).toInt < 0 := fun w9 => c_39_2 ((lc_lt (a := (I9 tq9 (ia9 + 2 * i)).toInt) (b := 0) rfl rfl).mpr w9)
          refine lv_lload hx hb dX7_areSightings_42 (lv_at hl 1 rfl) ?_
          refine lv_ldc2 hx hb hown (hts _ wk_X7_237) dX7_areSightings_44 ?_
          refine W.lcmp hx hb dX7_areSightings_47 ?_
          refine lv_if_gt (tgt := 72) hx hb dX7_areSightings_48 (by decide) (fun c_48_3 => ?_) (fun c_48_3 => ?_)
          · skip
            have g48 := (lc_gt (a := (I9 tq9 (ia9 + 2 * i)).toInt) (b := 400) rfl rfl).mp c_48_3
            refine lv_iconst (v := (nI 0)) hx hb dX7_areSightings_72 (by decide) ?_
            exact re_pz hx hb hr hk (by first | exact Or.inl rfl | exact Or.inr rfl) (congrArg nI (al_bad (R9 := (fun q => I9 tq9 (ia9 + q))) hal (by omega) (fun w9 => by have w1 : 0 ≤ (I9 tq9 (ia9 + 2 * i)).toInt := w9.1.1; have w2 : (I9 tq9 (ia9 + 2 * i)).toInt ≤ 400 := w9.1.2; have w3 : 0 ≤ (I9 tq9 (ia9 + 2 * i + 1)).toInt := w9.2.1; have w4 : (I9 tq9 (ia9 + 2 * i + 1)).toInt < (S.1 0 : Int) := w9.2.2; omega)).symm) dX7_areSightings_73
          · skip
            have g48 : ¬ (400 : Int) < (I9 tq9 (ia9 + 2 * i)).toInt := fun w9 => c_48_3 ((lc_gt (a := (I9 tq9 (ia9 + 2 * i)).toInt) (b := 400) rfl rfl).mpr w9)
            refine lv_lload hx hb dX7_areSightings_51 (lv_at hl 0 rfl) ?_
            refine lv_lconst (v := 0) hx hb dX7_areSightings_53 (by decide) ?_
            refine W.lcmp hx hb dX7_areSightings_54 ?_
            refine lv_if_lt (tgt := 72) hx hb dX7_areSightings_55 (by decide) (fun c_55_4 => ?_) (fun c_55_4 => ?_)
            · skip
              have g55 := (lc_lt (a := (I9 tq9 (ia9 + 2 * i + 1)).toInt) (b := 0) rfl rfl).mp c_55_4
              refine lv_iconst (v := (nI 0)) hx hb dX7_areSightings_72 (by decide) ?_
              exact re_pz hx hb hr hk (by first | exact Or.inl rfl | exact Or.inr rfl) (congrArg nI (al_bad (R9 := (fun q => I9 tq9 (ia9 + q))) hal (by omega) (fun w9 => by have w1 : 0 ≤ (I9 tq9 (ia9 + 2 * i)).toInt := w9.1.1; have w2 : (I9 tq9 (ia9 + 2 * i)).toInt ≤ 400 := w9.1.2; have w3 : 0 ≤ (I9 tq9 (ia9 + 2 * i + 1)).toInt := w9.2.1; have w4 : (I9 tq9 (ia9 + 2 * i + 1)).toInt < (S.1 0 : Int) := w9.2.2; omega)).symm) dX7_areSightings_73
            · skip
              have g55 : ¬ (I9 tq9 (ia9 + 2 * i + 1)).toInt < 0 := fun w9 => c_55_4 ((lc_lt (a := (I9 tq9 (ia9 + 2 * i + 1)).toInt) (b := 0) rfl rfl).mpr w9)
              refine lv_lload hx hb dX7_areSightings_58 (lv_at hl 0 rfl) ?_
              refine lv_aload_n hx hb dX7_areSightings_60 rfl (lv_at hl 2 rfl) ?_
              refine ag_XSH_X7_10_this X w dX7_areSightings_61 ?_
              refine ag_XSH_X7_131_sc X w dX7_areSightings_64 ?_
              refine tp_i (show z.1.1 0 = (nI (S.1 0)) from (cs_ce hT.1)) ?_
              refine lv_i2l (v := (nI (S.1 0)).toInt64) hx hb dX7_areSightings_67 rfl ?_
              refine W.lcmp hx hb dX7_areSightings_68 ?_
              refine lv_if_lt (tgt := 74) hx hb dX7_areSightings_69 (by decide) (fun c_69_5 => ?_) (fun c_69_5 => ?_)
              · skip
                have g69 := (lc_lt (a := (I9 tq9 (ia9 + 2 * i + 1)).toInt) (b := (S.1 0 : Int)) rfl (in_toN (by omega))).mp c_69_5
                refine lv_iinc (v := (nI (i + 1))) (lv' := [(4, .int (nI (i + 1))), (7, .long (I9 tq9 ((ia9 + (2 * i)) + 1))), (5, .long (I9 tq9 (ia9 + (2 * i)))), (0, .ref (a 0)), (1, .ref ((ad (10 + tq9)) 0)), (2, .int (nI ia9)), (3, .int (nI na9))]) hx hb dX7_areSightings_74 hl (k := 6) rfl (by first | exact nI_1 _ | (rw [show Int32.ofInt 1 = nI 1 from by decide, nI_add])) (by decide) rfl (fun ls hl => ?_)
                refine lv_goto (tgt := 3) hx hb dX7_areSightings_77 (by decide) ?_
                exact ih_3 (i + 1) (by omega) (al_good hal ⟨⟨by have e1 := g39; omega, by have e1 := g48; omega⟩, by show 0 ≤ (I9 tq9 (ia9 + 2 * i + 1)).toInt; omega, g69⟩) (by omega) ls (lv_sub hl [3, 4, 5, 6, 0] rfl)
              · skip
                have g69 : ¬ (I9 tq9 (ia9 + 2 * i + 1)).toInt < (S.1 0 : Int) := fun w9 => c_69_5 ((lc_lt (a := (I9 tq9 (ia9 + 2 * i + 1)).toInt) (b := (S.1 0 : Int)) rfl (in_toN (by omega))).mpr w9)
                refine lv_iconst (v := (nI 0)) hx hb dX7_areSightings_72 (by decide) ?_
                exact re_pz hx hb hr hk (by first | exact Or.inl rfl | exact Or.inr rfl) (congrArg nI (al_bad (R9 := (fun q => I9 tq9 (ia9 + q))) hal (by omega) (fun w9 => by have w1 : 0 ≤ (I9 tq9 (ia9 + 2 * i)).toInt := w9.1.1; have w2 : (I9 tq9 (ia9 + 2 * i)).toInt ≤ 400 := w9.1.2; have w3 : 0 ≤ (I9 tq9 (ia9 + 2 * i + 1)).toInt := w9.2.1; have w4 : (I9 tq9 (ia9 + 2 * i + 1)).toInt < (S.1 0 : Int) := w9.2.2; omega)).symm) dX7_areSightings_73
  exact lp_3 _ 0 (Nat.zero_le _) (by show ¬ (1 : Nat) = 0; decide) (Nat.lt_succ_self _) ls (lv_sub hl [1, 2, 3, 4, 0] rfl)

theorem ok7_strodeSo : cOk RX7 yX7_strodeSo cX7_strodeSo 8 (some .boolean) 5 := ⟨wc_X7_strodeSo, wi_X7_strodeSo, ws_X7_strodeSo, wn_X7, rfl, by decide, by decide, by decide +kernel⟩
set_option maxHeartbeats 4000000 in
set_option maxRecDepth 100000 in
theorem c7_strodeSo (l : Launch) (G : CG) (a : Nat → Nat) (ad : Nat → Nat → Nat) (zt : RS) (tq9 : Nat) (z : RS × RS) (fa9 : Nat) (ha9 : Nat) (ia9 : Nat) (na9 : Nat) (S : Sc) (hT : cSc z.1 S) (ho : oSc S) (L N9 : Nat → Nat) (I9 : Nat → Nat → Int64) (hs : cSt z.2 (L tq9) (N9 tq9) (I9 tq9)) (hf : fa9 < S.1 1) (hh : ha9 ≤ 6) (hin : ia9 + 2 * na9 ≤ N9 tq9) (hal : ¬ sp_al S (fun q => I9 tq9 (ia9 + q)) na9 = 0) : cMp G l yX7_strodeSo cX7_strodeSo 8 (some .boolean) 3 68 [.ref (a 0), .int (nI fa9), .int (nI ha9), .ref ((ad (10 + tq9)) 0), .int (nI ia9), .int (nI na9)] (wO G a ad zt ++ w5 G (ad 0) z.1 ++ w6 G (ad (10 + tq9)) z.2) (fun r => r = nI (sp_sd S (fun q => I9 tq9 (ia9 + q)) fa9 ha9 na9)) := by
  refine cMp_in (by decide) rfl (Nat.le_of_ble_eq_true rfl) ?_
  intro p e s m args below meth c ls X hml hr hk hl w
  have hx := X.1
  have hb := X.2.1
  have hts := X.2.2.1
  have hown := X.2.2.2.1
  have hl : lv_has ls 8 [(0, .ref (a 0)), (1, .int (nI fa9)), (2, .int (nI ha9)), (3, .ref ((ad (10 + tq9)) 0)), (4, .int (nI ia9)), (5, .int (nI na9))] := hl
  obtain ⟨o1, o2, o3, o4, o5, o6, oso, oki, osr, opa, ohu, oco⟩ := id ho
  have s4 := hs.2.2.2.1
  refine lv_iconst (v := (nI 0)) hx hb dX7_strodeSo_0 (by decide) ?_
  refine lv_istore (lv' := [(6, .int (nI 0)), (0, .ref (a 0)), (1, .int (nI fa9)), (2, .int (nI ha9)), (3, .ref ((ad (10 + tq9)) 0)), (4, .int (nI ia9)), (5, .int (nI na9))]) hx hb dX7_strodeSo_1 hl (by decide) rfl (fun ls hl => ?_)
  have lp_3 : ∀ (n_3 : Nat) (i : Nat) (hi : i ≤ na9) (hsd : ¬ sp_sd S (fun q => I9 tq9 (ia9 + q)) fa9 ha9 i = 0) (hm_3 : na9 - i < n_3) (ls : Array Slot), lv_has ls 8 [(0, .ref (a 0)), (1, .int (nI fa9)), (2, .int (nI ha9)), (3, .ref ((ad (10 + tq9)) 0)), (4, .int (nI ia9)), (5, .int (nI na9)), (6, .int (nI i))] → W p l e (ro_m 3 68) s m args below meth c s.heap [] 0 0 (MQ below (vp_Si (fun r => r = nI (sp_sd S (fun q => I9 tq9 (ia9 + q)) fa9 ha9 na9))) args s 0 0 (fun _ => False)) (F0 m 3 ls []) := by
    intro n_3
    induction n_3 with
    | zero => intro i hi hsd hm; exact absurd hm (Nat.not_lt_zero _)
    | succ n_3 ih_3 =>
      intro i hi hsd hm_3 ls hl
      refine lv_iload hx hb dX7_strodeSo_3 (lv_at hl 6 rfl) ?_
      refine lv_iload hx hb dX7_strodeSo_5 (lv_at hl 5 rfl) ?_
      refine n_icmp_ge (tgt := 68) hx hb dX7_strodeSo_7 (by decide) (by omega) (by omega) (fun c_7_1 => ?_) (fun c_7_1 => ?_)
      · skip
        refine lv_iconst (v := (nI 1)) hx hb dX7_strodeSo_68 (by decide) ?_
        exact re_pz hx hb hr hk (by first | exact Or.inl rfl | exact Or.inr rfl) (by have e1 := sd_le S (fun q => I9 tq9 (ia9 + q)) fa9 ha9 na9; rw [show i = na9 by omega] at hsd; exact congrArg nI (by omega)) dX7_strodeSo_69
      · skip
        refine lv_aload_n hx hb dX7_strodeSo_10 rfl (lv_at hl 3 rfl) ?_
        refine lv_iload hx hb dX7_strodeSo_11 (lv_at hl 4 rfl) ?_
        refine lv_iconst (v := (nI 2)) hx hb dX7_strodeSo_13 (by decide) ?_
        refine lv_iload hx hb dX7_strodeSo_14 (lv_at hl 6 rfl) ?_
        refine n_imul hx hb dX7_strodeSo_16 ?_
        refine n_iadd hx hb dX7_strodeSo_17 ?_
        refine gc_l (C := RX6) (ci := 5) (rest := []) X hml hl.1 (c6_itemAt l G (ad (10 + tq9)) z.2 (ia9 + (2 * i)) L N9 I9 tq9 hs (by omega)) ok6_itemAt wm_X7_233 ⟨Nat.le_of_ble_eq_true rfl, Nat.le_of_ble_eq_true rfl⟩ ⟨Nat.le_refl _, Nat.le_refl _⟩ w [10, 11] rfl rfl rfl rfl (Nat.le_of_ble_eq_true rfl) dX7_strodeSo_18 (fun r_18 hr_18 => ?_)
        rw [if_pos (by omega)] at hr_18
        subst hr_18
        have al9 := al_1 S (fun q => I9 tq9 (ia9 + q)) na9 hal i (by omega)
        have a1 : 0 ≤ (I9 tq9 (ia9 + 2 * i)).toInt := al9.1.1
        have a2 : (I9 tq9 (ia9 + 2 * i)).toInt ≤ 400 := al9.1.2
        have a3 : 0 ≤ (I9 tq9 (ia9 + 2 * i + 1)).toInt := al9.2.1
        refine lv_l2i (v := (I9 tq9 (ia9 + (2 * i))).toInt32) hx hb dX7_strodeSo_21 rfl ?_
        refine tp_i (show (I9 tq9 (ia9 + 2 * i)).toInt32 = nI (I9 tq9 (ia9 + 2 * i)).toInt.toNat from l_n a1 (by omega)) ?_
        refine lv_istore (lv' := [(7, .int (nI ((I9 tq9 (ia9 + 2 * i)).toInt.toNat))), (0, .ref (a 0)), (1, .int (nI fa9)), (2, .int (nI ha9)), (3, .ref ((ad (10 + tq9)) 0)), (4, .int (nI ia9)), (5, .int (nI na9)), (6, .int (nI i))]) hx hb dX7_strodeSo_22 hl (by decide) rfl (fun ls hl => ?_)
        refine lv_aload_n hx hb dX7_strodeSo_24 rfl (lv_at hl 1 rfl) ?_
        refine ag_XSH_X7_10_this X w dX7_strodeSo_25 ?_
        refine lv_aload_n hx hb dX7_strodeSo_28 rfl (lv_at hl 1 rfl) ?_
        refine ag_XSH_X7_10_this X w dX7_strodeSo_29 ?_
        refine lv_iload_n hx hb dX7_strodeSo_32 rfl (lv_at hl 2 rfl) ?_
        refine lv_iload_n hx hb dX7_strodeSo_33 rfl (lv_at hl 3 rfl) ?_
        refine lv_iload hx hb dX7_strodeSo_34 (lv_at hl 0 rfl) ?_
        refine gc_p (C := RX5) (ci := 4) (rest := [.ref ((ad 0) 0)]) X hml hl.1 (c5_pointsOf l G (ad 0) z.1 fa9 ha9 ((I9 tq9 (ia9 + 2 * i)).toInt.toNat) S hT.1 ho (by omega) (by omega) (by omega)) ok5_pointsOf wm_X7_111 ⟨Nat.le_of_ble_eq_true rfl, Nat.le_of_ble_eq_true rfl⟩ ⟨Nat.le_refl _, Nat.le_refl _⟩ w [2, 3, 4, 5, 6, 7, 8, 9] rfl rfl rfl rfl (Nat.le_of_ble_eq_true rfl) dX7_strodeSo_36 (fun r_36 hr_36 => ?_)
        subst hr_36
        have d_36 := sp_pts_le S ho fa9 ha9 ((I9 tq9 (ia9 + 2 * i)).toInt.toNat)
        refine gc_p (C := RX5) (ci := 4) (rest := []) X hml hl.1 (c5_cellBy l G (ad 0) z.1 (sp_pts S fa9 ha9 ((I9 tq9 (ia9 + 2 * i)).toInt.toNat)) S hT.1 ho (by omega)) ok5_cellBy wm_X7_239 ⟨Nat.le_of_ble_eq_true rfl, Nat.le_of_ble_eq_true rfl⟩ ⟨Nat.le_refl _, Nat.le_refl _⟩ w [2, 3, 4, 5, 6, 7, 8, 9] rfl rfl rfl rfl (Nat.le_of_ble_eq_true rfl) dX7_strodeSo_39 (fun r_39 hr_39 => ?_)
        subst hr_39
        have d_39 := pc_far_le (S.2.1 0) (sp_pts S fa9 ha9 ((I9 tq9 (ia9 + 2 * i)).toInt.toNat)) (S.1 0 - 1)
        refine lv_i2l (v := (nI (pc_far (S.2.1 0) (sp_pts S fa9 ha9 ((I9 tq9 (ia9 + 2 * i)).toInt.toNat)) (S.1 0 - 1))).toInt64) hx hb dX7_strodeSo_42 rfl ?_
        refine lv_aload_n hx hb dX7_strodeSo_43 rfl (lv_at hl 4 rfl) ?_
        refine lv_iload hx hb dX7_strodeSo_44 (lv_at hl 5 rfl) ?_
        refine lv_iconst (v := (nI 2)) hx hb dX7_strodeSo_46 (by decide) ?_
        refine lv_iload hx hb dX7_strodeSo_47 (lv_at hl 7 rfl) ?_
        refine n_imul hx hb dX7_strodeSo_49 ?_
        refine n_iadd hx hb dX7_strodeSo_50 ?_
        refine lv_iconst (v := (nI 1)) hx hb dX7_strodeSo_51 (by decide) ?_
        refine n_iadd hx hb dX7_strodeSo_52 ?_
        refine gc_l (C := RX6) (ci := 5) (rest := [.long ((nI (pc_far (S.2.1 0) (sp_pts S fa9 ha9 ((I9 tq9 (ia9 + 2 * i)).toInt.toNat)) (S.1 0 - 1))).toInt64)]) X hml hl.1 (c6_itemAt l G (ad (10 + tq9)) z.2 ((ia9 + (2 * i)) + 1) L N9 I9 tq9 hs (by omega)) ok6_itemAt wm_X7_233 ⟨Nat.le_of_ble_eq_true rfl, Nat.le_of_ble_eq_true rfl⟩ ⟨Nat.le_refl _, Nat.le_refl _⟩ w [10, 11] rfl rfl rfl rfl (Nat.le_of_ble_eq_true rfl) dX7_strodeSo_53 (fun r_53 hr_53 => ?_)
        rw [if_pos (by omega)] at hr_53
        subst hr_53
        refine W.lcmp hx hb dX7_strodeSo_56 ?_
        refine lv_if_eq (tgt := 62) hx hb dX7_strodeSo_57 (by decide) (fun c_57_2 => ?_) (fun c_57_2 => ?_)
        · skip
          have g57 := (l_eq (v := (I9 tq9 (ia9 + 2 * i + 1))) (n := pc_far (S.2.1 0) (sp_pts S fa9 ha9 (I9 tq9 (ia9 + 2 * i)).toInt.toNat) (S.1 0 - 1)) a3 (by omega)).mp ((lg_cmp_eq _ _).mp c_57_2)
          refine lv_iinc (v := (nI (i + 1))) (lv' := [(6, .int (nI (i + 1))), (7, .int (nI ((I9 tq9 (ia9 + 2 * i)).toInt.toNat))), (0, .ref (a 0)), (1, .int (nI fa9)), (2, .int (nI ha9)), (3, .ref ((ad (10 + tq9)) 0)), (4, .int (nI ia9)), (5, .int (nI na9))]) hx hb dX7_strodeSo_62 hl (k := 7) rfl (by first | exact nI_1 _ | (rw [show Int32.ofInt 1 = nI 1 from by decide, nI_add])) (by decide) rfl (fun ls hl => ?_)
          refine lv_goto (tgt := 3) hx hb dX7_strodeSo_65 (by decide) ?_
          exact ih_3 (i + 1) (by omega) (sd_y hsd g57) (by omega) ls (lv_sub hl [2, 3, 4, 5, 6, 7, 0] rfl)
        · skip
          have g57 : ¬ pc_far (S.2.1 0) (sp_pts S fa9 ha9 (I9 tq9 (ia9 + 2 * i)).toInt.toNat) (S.1 0 - 1) = (I9 tq9 (ia9 + 2 * i + 1)).toInt.toNat := fun w9 => c_57_2 ((lg_cmp_eq _ _).mpr ((l_eq (v := (I9 tq9 (ia9 + 2 * i + 1))) (n := pc_far (S.2.1 0) (sp_pts S fa9 ha9 (I9 tq9 (ia9 + 2 * i)).toInt.toNat) (S.1 0 - 1)) a3 (by omega)).mpr w9))
          refine lv_iconst (v := (nI 0)) hx hb dX7_strodeSo_60 (by decide) ?_
          exact re_pz hx hb hr hk (by first | exact Or.inl rfl | exact Or.inr rfl) (congrArg nI (sd_n (R9 := (fun q => I9 tq9 (ia9 + q))) (by omega) g57).symm) dX7_strodeSo_61
  exact lp_3 _ 0 (Nat.zero_le _) (by show ¬ (1 : Nat) = 0; decide) (Nat.lt_succ_self _) ls (lv_sub hl [1, 2, 3, 4, 5, 6, 0] rfl)

section Lm_c7_strides
variable {p : Program} {l : Launch} {e : Env} {R : Room} {s : State} {m : MethodId} {args : Array Value} {below : List Frame} {meth : Method} {c : Code} {H : Heap} {locs : List Loc} {cells slots : Nat} {Q : State → Prop}
variable {cc : ByteArray} {pc : Nat} {ls : Array Slot} {rest : List Value} {G : CG} {A : Nat → Prop}
theorem ag_XSH_X7_45_this {a : Nat → Nat} {ad : Nat → Nat → Nat} {zt : RS} {tq9 : Nat} {z : RS × RS} (X : cX RX7 G A p c cc s args m) (w : va_P G.1 vwCl (wO G a ad zt ++ w5 G (ad 0) z.1 ++ w6 G (ad (10 + tq9)) z.2) H) (hdg : decode cc pc = .ok (.getfield 45, 3)) (kk : W p l e R s m args below meth c H locs cells slots Q (F0 m (pc + 3) ls (.ref (a 8) :: rest))) : W p l e R s m args below meth c H locs cells slots Q (F0 m pc ls (.ref (a 0) :: rest)) :=
  va_get (D := G.1) (ci := 6) (v := .ref (a 8)) (C := RX7) (T := TX7) (N := 8) X.1 X.2.1 X.2.2.1 gX7 X.2.2.2.1 X.2.2.2.2.1.1 w 0 rfl rfl 7 (by decide) (X.2.2.1 _ wf_X7_45) (fun _ h9 => h9) rfl hdg kk
theorem aq_XSH {own : String} {a : Nat → Nat} {ad : Nat → Nat → Nat} {zt : RS} {tq9 : Nat} {z : RS × RS} {j : Nat} (X : cX own G A p c cc s args m) (w : va_P G.1 vwCl (wO G a ad zt ++ w5 G (ad 0) z.1 ++ w6 G (ad (10 + tq9)) z.2) H) (hj : j < 4) (hdg : decode cc pc = .ok (.aaload, 1)) (kk : W p l e R s m args below meth c H locs cells slots Q (F0 m (pc + 1) ls (.ref (ad (10 + j) 0) :: rest))) : W p l e R s m args below meth c H locs cells slots Q (F0 m pc ls (.int (nI j) :: .ref (a 8) :: rest)) :=
  va_aldq X.1 X.2.1 X.2.2.2.2.1.1 w 1 2 rfl rfl (vp_in_nI hj (by decide)) hdg (by rw [nI_clamp (by omega)]; exact kk)
end Lm_c7_strides
theorem ok7_strides : cOk RX7 yX7_strides cX7_strides 10 (some .int) 5 := ⟨wc_X7_strides, wi_X7_strides, ws_X7_strides, wn_X7, rfl, by decide, by decide, by decide +kernel⟩
set_option maxHeartbeats 4000000 in
set_option maxRecDepth 100000 in
theorem c7_strides (l : Launch) (G : CG) (a : Nat → Nat) (ad : Nat → Nat → Nat) (zt : RS) (tq9 : Nat) (z : RS × RS) (xf9 : Int32) (xt9 : Int32) (xl9 : Int32) (xi9 : Int32) (xn9 : Int32) (S : Sc) (hT : cSc z.1 S) (ho : oSc S) (L N9 : Nat → Nat) (I9 : Nat → Nat → Int64) (hs : cSt z.2 (L tq9) (N9 tq9) (I9 tq9)) (hq4 : tq9 < 4) (hx9 : 0 ≤ xt9.toInt ∧ xt9.toInt ≤ 3 → xt9 = nI tq9) : cMp G l yX7_strides cX7_strides 10 (some .int) 4 95 [.ref (a 0), .int xf9, .int xt9, .int xl9, .int xi9, .int xn9] (wO G a ad zt ++ w5 G (ad 0) z.1 ++ w6 G (ad (10 + tq9)) z.2) (fun r => r = an_str S L N9 I9 xf9 xt9 xl9 xi9 xn9) := by
  refine cMp_in (by decide) rfl (Nat.le_of_ble_eq_true rfl) ?_
  intro p e s m args below meth c ls X hml hr hk hl w
  have hx := X.1
  have hb := X.2.1
  have hts := X.2.2.1
  have hown := X.2.2.2.1
  have hl : lv_has ls 10 [(0, .ref (a 0)), (1, .int xf9), (2, .int xt9), (3, .int xl9), (4, .int xi9), (5, .int xn9)] := hl
  obtain ⟨o1, o2, o3, o4, o5, o6, oso, oki, osr, opa, ohu, oco⟩ := id ho
  refine lv_aload_n hx hb dX7_strides_0 rfl (lv_at hl 0 rfl) ?_
  refine ag_XSH_X7_10_this X w dX7_strides_1 ?_
  refine lv_iload_n hx hb dX7_strides_4 rfl (lv_at hl 1 rfl) ?_
  refine gc_p (C := RX5) (ci := 4) (rest := []) X hml hl.1 (c5_exists l G (ad 0) z.1 xf9 S hT.1 ho) ok5_exists wm_X7_69 ⟨Nat.le_of_ble_eq_true rfl, Nat.le_of_ble_eq_true rfl⟩ ⟨Nat.le_refl _, Nat.le_refl _⟩ w [2, 3, 4, 5, 6, 7, 8, 9] rfl rfl rfl rfl (Nat.le_of_ble_eq_true rfl) dX7_strides_5 (fun r_5 hr_5 => ?_)
  subst hr_5
  have d_5 := pc_inI_ok xf9.toInt 0 (((S.1 1 : Nat) : Int) - 1)
  refine n_if_eq (tgt := 36) hx hb dX7_strides_8 (by decide) (by omega) (fun c_8_1 => ?_) (fun c_8_1 => ?_)
  · skip
    refine lv_iconst (v := (iZ (-1))) hx hb dX7_strides_36 (by decide) ?_
    exact re_p hx hb hr hk (by unfold an_str; rw [if_neg (by omega)]) dX7_strides_37
  · skip
    refine lv_iload_n hx hb dX7_strides_11 rfl (lv_at hl 2 rfl) ?_
    refine gc_s (C := RX7) (rest := []) ⟨X.1, X.2.1, X.2.2.1, X.2.2.2.1⟩ hml hl.1 (c7_isSheet l xt9) ok7_isSheet wm_X7_216 ⟨Nat.le_of_ble_eq_true rfl, Nat.le_of_ble_eq_true rfl⟩ ⟨Nat.le_refl _, Nat.le_refl _⟩ rfl (Nat.le_of_ble_eq_true rfl) dX7_strides_12 (fun r_12 hr_12 => ?_) rfl
    subst hr_12
    have d_12 := pc_inI_ok xt9.toInt 0 3
    refine n_if_eq (tgt := 36) hx hb dX7_strides_15 (by decide) (by omega) (fun c_15_2 => ?_) (fun c_15_2 => ?_)
    · skip
      refine lv_iconst (v := (iZ (-1))) hx hb dX7_strides_36 (by decide) ?_
      exact re_p hx hb hr hk (by unfold an_str; rw [if_neg (by omega)]) dX7_strides_37
    · skip
      refine lv_iload_n hx hb dX7_strides_18 rfl (lv_at hl 3 rfl) ?_
      refine gc_s (C := RX7) (rest := []) ⟨X.1, X.2.1, X.2.2.1, X.2.2.2.1⟩ hml hl.1 (c7_isLane l xl9) ok7_isLane wm_X7_219 ⟨Nat.le_of_ble_eq_true rfl, Nat.le_of_ble_eq_true rfl⟩ ⟨Nat.le_refl _, Nat.le_refl _⟩ rfl (Nat.le_of_ble_eq_true rfl) dX7_strides_19 (fun r_19 hr_19 => ?_) rfl
      subst hr_19
      have d_19 := pc_inI_ok xl9.toInt 0 3
      refine n_if_eq (tgt := 36) hx hb dX7_strides_22 (by decide) (by omega) (fun c_22_3 => ?_) (fun c_22_3 => ?_)
      · skip
        refine lv_iconst (v := (iZ (-1))) hx hb dX7_strides_36 (by decide) ?_
        exact re_p hx hb hr hk (by unfold an_str; rw [if_neg (by omega)]) dX7_strides_37
      · skip
        refine lv_iload hx hb dX7_strides_25 (lv_at hl 5 rfl) ?_
        refine lv_iconst (v := (nI 1)) hx hb dX7_strides_27 (by decide) ?_
        refine lv_bipush (v := (nI 8)) hx hb dX7_strides_28 (by decide) ?_
        refine gc_s (C := RX7) (rest := []) ⟨X.1, X.2.1, X.2.2.1, X.2.2.2.1⟩ hml hl.1 (c7_within l xn9 (nI 1) (nI 8)) ok7_within wm_X7_50 ⟨Nat.le_of_ble_eq_true rfl, Nat.le_of_ble_eq_true rfl⟩ ⟨Nat.le_refl _, Nat.le_refl _⟩ rfl (Nat.le_of_ble_eq_true rfl) dX7_strides_30 (fun r_30 hr_30 => ?_) rfl
        subst hr_30
        refine tp_i (congrArg nI (w3_I rfl (by decide) (by decide) : _ = pc_inI xn9.toInt ((1 : Int)) ((8 : Int)))) ?_
        have d_30 := pc_inI_ok xn9.toInt ((1 : Int)) ((8 : Int))
        refine n_if_ne (tgt := 38) hx hb dX7_strides_33 (by decide) (by omega) (fun c_33_4 => ?_) (fun c_33_4 => ?_)
        · skip
          have et_tq9 := hx9 (by omega)
          have eu_tq9 : xt9.toInt = (tq9 : Int) := by rw [et_tq9]; exact nI_toInt (by omega)
          have hl : lv_has ls 10 [(0, .ref (a 0)), (1, .int xf9), (2, .int (nI tq9)), (3, .int xl9), (4, .int xi9), (5, .int xn9)] := by rw [← et_tq9]; exact hl
          obtain ⟨kf, hk_kf, ek_kf⟩ := iv_n (x := xf9) (by omega)
          have hl : lv_has ls 10 [(0, .ref (a 0)), (1, .int (nI kf)), (2, .int (nI tq9)), (3, .int xl9), (4, .int xi9), (5, .int xn9)] := by rw [← ek_kf]; exact hl
          obtain ⟨kl, hk_kl, ek_kl⟩ := iv_n (x := xl9) (by omega)
          have hl : lv_has ls 10 [(0, .ref (a 0)), (1, .int (nI kf)), (2, .int (nI tq9)), (3, .int (nI kl)), (4, .int xi9), (5, .int xn9)] := by rw [← ek_kl]; exact hl
          obtain ⟨kn, hk_kn, ek_kn⟩ := iv_n (x := xn9) (by omega)
          have hl : lv_has ls 10 [(0, .ref (a 0)), (1, .int (nI kf)), (2, .int (nI tq9)), (3, .int (nI kl)), (4, .int xi9), (5, .int (nI kn))] := by rw [← ek_kn]; exact hl
          refine lv_aload_n hx hb dX7_strides_38 rfl (lv_at hl 0 rfl) ?_
          refine ag_XSH_X7_45_this X w dX7_strides_39 ?_
          refine lv_iload_n hx hb dX7_strides_42 rfl (lv_at hl 2 rfl) ?_
          refine aq_XSH X w (by omega) dX7_strides_43 ?_
          refine lv_astore (lv' := [(6, .ref ((ad (10 + tq9)) 0)), (0, .ref (a 0)), (1, .int (nI kf)), (2, .int (nI tq9)), (3, .int (nI kl)), (4, .int xi9), (5, .int (nI kn))]) hx hb dX7_strides_44 hl (by decide) rfl (fun ls hl => ?_)
          refine lv_aload hx hb dX7_strides_46 (lv_at hl 0 rfl) ?_
          refine lv_iload_n hx hb dX7_strides_48 rfl (lv_at hl 4 rfl) ?_
          refine lv_iload hx hb dX7_strides_49 (lv_at hl 5 rfl) ?_
          refine lv_iconst (v := (nI 2)) hx hb dX7_strides_51 (by decide) ?_
          refine lv_iload hx hb dX7_strides_52 (lv_at hl 6 rfl) ?_
          refine n_imul hx hb dX7_strides_54 ?_
          refine gc_p (C := RX6) (ci := 5) (rest := []) X hml hl.1 (c6_refusal l G (ad (10 + tq9)) z.2 kl xi9 (2 * kn) L N9 I9 tq9 hs (by omega) (by omega)) ok6_refusal wm_X7_222 ⟨Nat.le_of_ble_eq_true rfl, Nat.le_of_ble_eq_true rfl⟩ ⟨Nat.le_refl _, Nat.le_refl _⟩ w [10, 11] rfl rfl rfl rfl (Nat.le_of_ble_eq_true rfl) dX7_strides_55 (fun r_55 hr_55 => ?_)
          subst hr_55
          have d_55 := pw_why_ok L N9 tq9 kl xi9.toInt (2 * kn)
          refine lv_istore (lv' := [(7, .int (iZ (pw_why L N9 tq9 kl xi9.toInt (2 * kn)))), (6, .ref ((ad (10 + tq9)) 0)), (0, .ref (a 0)), (1, .int (nI kf)), (2, .int (nI tq9)), (3, .int (nI kl)), (4, .int xi9), (5, .int (nI kn))]) hx hb dX7_strides_58 hl (by decide) rfl (fun ls hl => ?_)
          refine lv_iload hx hb dX7_strides_60 (lv_at hl 0 rfl) ?_
          refine z_if_ge (tgt := 68) hx hb dX7_strides_62 (by decide) (by omega) (by omega) (fun c_62_5 => ?_) (fun c_62_5 => ?_)
          · skip
            obtain ⟨ia9, hk_ia9, ek_ia9⟩ := iv_n (x := xi9) (by omega)
            have hl : lv_has ls 10 [(7, .int (iZ (pw_why L N9 tq9 kl xi9.toInt (2 * kn)))), (6, .ref ((ad (10 + tq9)) 0)), (0, .ref (a 0)), (1, .int (nI kf)), (2, .int (nI tq9)), (3, .int (nI kl)), (4, .int (nI ia9)), (5, .int (nI kn))] := by rw [← ek_ia9]; exact hl
            refine lv_aload_n hx hb dX7_strides_68 rfl (lv_at hl 2 rfl) ?_
            refine lv_aload hx hb dX7_strides_69 (lv_at hl 1 rfl) ?_
            refine lv_iload hx hb dX7_strides_71 (lv_at hl 6 rfl) ?_
            refine lv_iload hx hb dX7_strides_73 (lv_at hl 7 rfl) ?_
            refine gc_p (C := RX7) (ci := 6) (rest := []) X hml hl.1 (c7_areSightings l G a ad zt tq9 z ia9 kn S hT ho L N9 I9 hs (by omega)) ok7_areSightings wm_X7_225 ⟨Nat.le_of_ble_eq_true rfl, Nat.le_of_ble_eq_true rfl⟩ ⟨Nat.le_refl _, Nat.le_refl _⟩ w [0, 1, 2, 3, 4, 5, 6, 7, 8, 9, 10, 11] rfl rfl rfl rfl (Nat.le_of_ble_eq_true rfl) dX7_strides_75 (fun r_75 hr_75 => ?_)
            subst hr_75
            have d75 := al_le S (fun q => I9 tq9 (ia9 + q)) kn
            refine n_if_ne (tgt := 84) hx hb dX7_strides_78 (by decide) (by omega) (fun c_78_6 => ?_) (fun c_78_6 => ?_)
            · skip
              have hal : ¬ sp_al S (fun q => I9 tq9 (ia9 + q)) kn = 0 := by omega
              refine lv_iconst (v := (nI 0)) hx hb dX7_strides_84 (by decide) ?_
              refine lv_istore (lv' := [(8, .int (nI 0)), (7, .int (iZ (pw_why L N9 tq9 kl xi9.toInt (2 * kn)))), (6, .ref ((ad (10 + tq9)) 0)), (0, .ref (a 0)), (1, .int (nI kf)), (2, .int (nI tq9)), (3, .int (nI kl)), (4, .int (nI ia9)), (5, .int (nI kn))]) hx hb dX7_strides_85 hl (by decide) rfl (fun ls hl => ?_)
              refine lv_iconst (v := (nI 0)) hx hb dX7_strides_87 (by decide) ?_
              refine lv_istore (lv' := [(9, .int (nI 0)), (8, .int (nI 0)), (7, .int (iZ (pw_why L N9 tq9 kl xi9.toInt (2 * kn)))), (6, .ref ((ad (10 + tq9)) 0)), (0, .ref (a 0)), (1, .int (nI kf)), (2, .int (nI tq9)), (3, .int (nI kl)), (4, .int (nI ia9)), (5, .int (nI kn))]) hx hb dX7_strides_88 hl (by decide) rfl (fun ls hl => ?_)
              have lp_90 : ∀ (n_90 : Nat) (i : Nat) (hi : i ≤ 6) (hm_90 : 6 - i < n_90) (ls : Array Slot), lv_has ls 10 [(0, .ref (a 0)), (1, .int (nI kf)), (2, .int (nI tq9)), (3, .int (nI kl)), (4, .int (nI ia9)), (5, .int (nI kn)), (6, .ref ((ad (10 + tq9)) 0)), (7, .int (iZ (pw_why L N9 tq9 kl xi9.toInt (2 * kn)))), (8, .int (nI (sp_st S (fun q => I9 tq9 (ia9 + q)) kf kn i))), (9, .int (nI i))] → W p l e (ro_m 4 95) s m args below meth c s.heap [] 0 0 (MQ below (vp_Si (fun r => r = an_str S L N9 I9 xf9 xt9 xl9 xi9 xn9)) args s 0 0 (fun _ => False)) (F0 m 90 ls []) := by
                intro n_90
                induction n_90 with
                | zero => intro i hi hm; exact absurd hm (Nat.not_lt_zero _)
                | succ n_90 ih_90 =>
                  intro i hi hm_90 ls hl
                  have q7 := st_lt S (fun q => I9 tq9 (ia9 + q)) kf kn i
                  have q6 : 2 ^ i ≤ 64 := Nat.le_trans (Nat.pow_le_pow_right (by decide) hi) (by decide)
                  refine lv_iload hx hb dX7_strides_90 (lv_at hl 9 rfl) ?_
                  refine lv_bipush (v := (nI 6)) hx hb dX7_strides_92 (by decide) ?_
                  refine n_icmp_ge (tgt := 128) hx hb dX7_strides_94 (by decide) (by omega) (by omega) (fun c_94_7 => ?_) (fun c_94_7 => ?_)
                  · skip
                    refine lv_iload hx hb dX7_strides_128 (lv_at hl 8 rfl) ?_
                    exact re_p hx hb hr hk (by unfold an_str; rw [if_pos (by omega), show xt9.toInt.toNat = tq9 by omega, show xl9.toInt.toNat = kl by omega, show xn9.toInt.toNat = kn by omega, if_neg (by omega), show xi9.toInt.toNat = ia9 by omega, if_neg hal, show xf9.toInt.toNat = kf by omega, show i = 6 by omega]) dX7_strides_130
                  · skip
                    refine lv_aload_n hx hb dX7_strides_97 rfl (lv_at hl 0 rfl) ?_
                    refine lv_iload_n hx hb dX7_strides_98 rfl (lv_at hl 1 rfl) ?_
                    refine lv_iload hx hb dX7_strides_99 (lv_at hl 9 rfl) ?_
                    refine lv_aload hx hb dX7_strides_101 (lv_at hl 6 rfl) ?_
                    refine lv_iload hx hb dX7_strides_103 (lv_at hl 4 rfl) ?_
                    refine lv_iload hx hb dX7_strides_105 (lv_at hl 5 rfl) ?_
                    refine gc_p (C := RX7) (ci := 6) (rest := []) X hml hl.1 (c7_strodeSo l G a ad zt tq9 z kf i ia9 kn S hT ho L N9 I9 hs (by omega) (by omega) (by omega) hal) ok7_strodeSo wm_X7_229 ⟨Nat.le_of_ble_eq_true rfl, Nat.le_of_ble_eq_true rfl⟩ ⟨Nat.le_refl _, Nat.le_refl _⟩ w [0, 1, 2, 3, 4, 5, 6, 7, 8, 9, 10, 11] rfl rfl rfl rfl (Nat.le_of_ble_eq_true rfl) dX7_strides_107 (fun r_107 hr_107 => ?_)
                    subst hr_107
                    have d107 := sd_le S (fun q => I9 tq9 (ia9 + q)) kf i kn
                    refine n_if_eq (tgt := 122) hx hb dX7_strides_110 (by decide) (by omega) (fun c_110_8 => ?_) (fun c_110_8 => ?_)
                    · skip
                      have hl : lv_has ls 10 [(0, .ref (a 0)), (1, .int (nI kf)), (2, .int (nI tq9)), (3, .int (nI kl)), (4, .int (nI ia9)), (5, .int (nI kn)), (6, .ref ((ad (10 + tq9)) 0)), (7, .int (iZ (pw_why L N9 tq9 kl xi9.toInt (2 * kn)))), (8, .int (nI (sp_st S (fun q => I9 tq9 (ia9 + q)) kf kn (i + 1)))), (9, .int (nI i))] := by rw [show (nI (sp_st S (fun q => I9 tq9 (ia9 + q)) kf kn (i + 1))) = (nI (sp_st S (fun q => I9 tq9 (ia9 + q)) kf kn i)) from by first | exact congrArg nI (show sp_st S (fun q => I9 tq9 (ia9 + q)) kf kn i ||| (if sp_sd S (fun q => I9 tq9 (ia9 + q)) kf i kn = 0 then 0 else 2 ^ i) = _ by rw [if_neg (by omega)]) | exact congrArg nI (show sp_st S (fun q => I9 tq9 (ia9 + q)) kf kn i ||| (if sp_sd S (fun q => I9 tq9 (ia9 + q)) kf i kn = 0 then 0 else 2 ^ i) = _ by rw [if_pos (by omega), Nat.or_zero])]; exact hl
                      refine lv_iinc (v := (nI (i + 1))) (lv' := [(9, .int (nI (i + 1))), (0, .ref (a 0)), (1, .int (nI kf)), (2, .int (nI tq9)), (3, .int (nI kl)), (4, .int (nI ia9)), (5, .int (nI kn)), (6, .ref ((ad (10 + tq9)) 0)), (7, .int (iZ (pw_why L N9 tq9 kl xi9.toInt (2 * kn)))), (8, .int (nI (sp_st S (fun q => I9 tq9 (ia9 + q)) kf kn (i + 1))))]) hx hb dX7_strides_122 hl (k := 9) rfl (by first | exact nI_1 _ | (rw [show Int32.ofInt 1 = nI 1 from by decide, nI_add])) (by decide) rfl (fun ls hl => ?_)
                      refine lv_goto (tgt := 90) hx hb dX7_strides_125 (by decide) ?_
                      exact ih_90 (i + 1) (by omega) (by omega) ls (lv_sub hl [1, 2, 3, 4, 5, 6, 7, 8, 9, 0] rfl)
                    · skip
                      refine lv_iload hx hb dX7_strides_113 (lv_at hl 8 rfl) ?_
                      refine lv_iconst (v := (nI 1)) hx hb dX7_strides_115 (by decide) ?_
                      refine lv_iload hx hb dX7_strides_116 (lv_at hl 9 rfl) ?_
                      refine lv_ishl hx hb dX7_strides_118 ?_
                      refine tp_i (sh_1 (by omega)) ?_
                      refine lv_ior hx hb dX7_strides_119 ?_
                      refine tp_i (fa_or _ _) ?_
                      refine lv_istore (lv' := [(8, .int (nI ((sp_st S (fun q => I9 tq9 (ia9 + q)) kf kn i) ||| (2 ^ i)))), (0, .ref (a 0)), (1, .int (nI kf)), (2, .int (nI tq9)), (3, .int (nI kl)), (4, .int (nI ia9)), (5, .int (nI kn)), (6, .ref ((ad (10 + tq9)) 0)), (7, .int (iZ (pw_why L N9 tq9 kl xi9.toInt (2 * kn)))), (9, .int (nI i))]) hx hb dX7_strides_120 hl (by decide) rfl (fun ls hl => ?_)
                      have hl : lv_has ls 10 [(8, .int (nI (sp_st S (fun q => I9 tq9 (ia9 + q)) kf kn (i + 1)))), (0, .ref (a 0)), (1, .int (nI kf)), (2, .int (nI tq9)), (3, .int (nI kl)), (4, .int (nI ia9)), (5, .int (nI kn)), (6, .ref ((ad (10 + tq9)) 0)), (7, .int (iZ (pw_why L N9 tq9 kl xi9.toInt (2 * kn)))), (9, .int (nI i))] := by rw [show (nI (sp_st S (fun q => I9 tq9 (ia9 + q)) kf kn (i + 1))) = (nI ((sp_st S (fun q => I9 tq9 (ia9 + q)) kf kn i) ||| (2 ^ i))) from by first | exact congrArg nI (show sp_st S (fun q => I9 tq9 (ia9 + q)) kf kn i ||| (if sp_sd S (fun q => I9 tq9 (ia9 + q)) kf i kn = 0 then 0 else 2 ^ i) = _ by rw [if_neg (by omega)]) | exact congrArg nI (show sp_st S (fun q => I9 tq9 (ia9 + q)) kf kn i ||| (if sp_sd S (fun q => I9 tq9 (ia9 + q)) kf i kn = 0 then 0 else 2 ^ i) = _ by rw [if_pos (by omega), Nat.or_zero])]; exact hl
                      refine lv_iinc (v := (nI (i + 1))) (lv' := [(9, .int (nI (i + 1))), (8, .int (nI (sp_st S (fun q => I9 tq9 (ia9 + q)) kf kn (i + 1)))), (0, .ref (a 0)), (1, .int (nI kf)), (2, .int (nI tq9)), (3, .int (nI kl)), (4, .int (nI ia9)), (5, .int (nI kn)), (6, .ref ((ad (10 + tq9)) 0)), (7, .int (iZ (pw_why L N9 tq9 kl xi9.toInt (2 * kn))))]) hx hb dX7_strides_122 hl (k := 9) rfl (by first | exact nI_1 _ | (rw [show Int32.ofInt 1 = nI 1 from by decide, nI_add])) (by decide) rfl (fun ls hl => ?_)
                      refine lv_goto (tgt := 90) hx hb dX7_strides_125 (by decide) ?_
                      exact ih_90 (i + 1) (by omega) (by omega) ls (lv_sub hl [2, 3, 4, 5, 6, 7, 8, 9, 1, 0] rfl)
              exact lp_90 _ 0 (Nat.zero_le _) (Nat.lt_succ_self _) ls (lv_sub hl [4, 5, 6, 7, 8, 9, 3, 2, 1, 0] rfl)
            · skip
              refine lv_bipush (v := (iZ (-2))) hx hb dX7_strides_81 (by decide) ?_
              exact re_p hx hb hr hk (by unfold an_str; rw [if_pos (by omega), show xt9.toInt.toNat = tq9 by omega, show xl9.toInt.toNat = kl by omega, show xn9.toInt.toNat = kn by omega, if_neg (by omega), show xi9.toInt.toNat = ia9 by omega, if_pos (by omega)]) dX7_strides_83
          · skip
            refine lv_iload hx hb dX7_strides_65 (lv_at hl 0 rfl) ?_
            exact re_p hx hb hr hk (by unfold an_str; rw [if_pos (by omega), show xt9.toInt.toNat = tq9 by omega, show xl9.toInt.toNat = kl by omega, show xn9.toInt.toNat = kn by omega, if_pos (by omega)]) dX7_strides_67
        · skip
          refine lv_iconst (v := (iZ (-1))) hx hb dX7_strides_36 (by decide) ?_
          exact re_p hx hb hr hk (by unfold an_str; rw [if_neg (by omega)]) dX7_strides_37

section Lm_c7_comeAsTold
variable {p : Program} {l : Launch} {e : Env} {R : Room} {s : State} {m : MethodId} {args : Array Value} {below : List Frame} {meth : Method} {c : Code} {H : Heap} {locs : List Loc} {cells slots : Nat} {Q : State → Prop}
variable {cc : ByteArray} {pc : Nat} {ls : Array Slot} {rest : List Value} {G : CG} {A : Nat → Prop}
theorem ag_XSH_X7_58_sc {a : Nat → Nat} {ad : Nat → Nat → Nat} {zt : RS} {tq9 : Nat} {z : RS × RS} (X : cX RX7 G A p c cc s args m) (w : va_P G.1 vwCl (wO G a ad zt ++ w5 G (ad 0) z.1 ++ w6 G (ad (10 + tq9)) z.2) H) (hdg : decode cc pc = .ok (.getfield 58, 3)) (kk : W p l e R s m args below meth c H locs cells slots Q (F0 m (pc + 3) ls (.int (z.1.1 3) :: rest))) : W p l e R s m args below meth c H locs cells slots Q (F0 m pc ls (.ref ((ad 0) 0) :: rest)) :=
  va_getN (own := RX7) (ref := RX5) (host := "RunningThree") (D := G.1) (ci := 4) (v := .int (z.1.1 3)) (C := RX5) (T := TX5) (N := 13) X.1 X.2.1 X.2.2.1 gX5 X.2.2.2.1 X.2.2.2.2.1.1 w 2 rfl rfl 3 (by decide) (va_Nw.use rfl (X.2.2.2.2.1.2 _ wq_X7_58)) (fun _ h9 => h9) rfl hdg kk
end Lm_c7_comeAsTold
theorem ok7_comeAsTold : cOk RX7 yX7_comeAsTold cX7_comeAsTold 7 (some .boolean) 3 := ⟨wc_X7_comeAsTold, wi_X7_comeAsTold, ws_X7_comeAsTold, wn_X7, rfl, by decide, by decide, by decide +kernel⟩
set_option maxHeartbeats 4000000 in
set_option maxRecDepth 100000 in
theorem c7_comeAsTold (l : Launch) (G : CG) (a : Nat → Nat) (ad : Nat → Nat → Nat) (zt : RS) (tq9 : Nat) (z : RS × RS) (ta9 : Nat) (ia9 : Nat) (S : Sc) (hT : cSc z.1 S) (ho : oSc S) (L N9 : Nat → Nat) (I9 : Nat → Nat → Int64) (hs : cSt z.2 (L tq9) (N9 tq9) (I9 tq9)) (h1 : 1 ≤ S.1 1) (ht : ta9 ≤ 100) (hin : ia9 + sp_ou S (S.1 1 - 1) ≤ N9 tq9) : cMp G l yX7_comeAsTold cX7_comeAsTold 7 (some .boolean) 4 90 [.ref (a 0), .int (nI ta9), .ref ((ad (10 + tq9)) 0), .int (nI ia9)] (wO G a ad zt ++ w5 G (ad 0) z.1 ++ w6 G (ad (10 + tq9)) z.2) (fun r => r = nI (sp_fr S (fun q => I9 tq9 (ia9 + q)) (sp_run S ta9) (S.1 1 - 1))) := by
  refine cMp_in (by decide) rfl (Nat.le_of_ble_eq_true rfl) ?_
  intro p e s m args below meth c ls X hml hr hk hl w
  have hx := X.1
  have hb := X.2.1
  have hts := X.2.2.1
  have hown := X.2.2.2.1
  have hl : lv_has ls 7 [(0, .ref (a 0)), (1, .int (nI ta9)), (2, .ref ((ad (10 + tq9)) 0)), (3, .int (nI ia9))] := hl
  obtain ⟨o1, o2, o3, o4, o5, o6, oso, oki, osr, opa, ohu, oco⟩ := id ho
  have s4 := hs.2.2.2.1
  refine lv_aload_n hx hb dX7_comeAsTold_0 rfl (lv_at hl 0 rfl) ?_
  refine ag_XSH_X7_10_this X w dX7_comeAsTold_1 ?_
  refine lv_iconst (v := (nI 0)) hx hb dX7_comeAsTold_4 (by decide) ?_
  refine lv_iload_n hx hb dX7_comeAsTold_5 rfl (lv_at hl 1 rfl) ?_
  refine gc_p (C := RX5) (ci := 4) (rest := []) X hml hl.1 (c5_cellRunning l G (ad 0) z.1 0 ta9 S hT.1 ho (by omega) (by omega)) ok5_cellRunning wm_X7_263 ⟨Nat.le_of_ble_eq_true rfl, Nat.le_of_ble_eq_true rfl⟩ ⟨Nat.le_refl _, Nat.le_refl _⟩ w [2, 3, 4, 5, 6, 7, 8, 9] rfl rfl rfl rfl (Nat.le_of_ble_eq_true rfl) dX7_comeAsTold_6 (fun r_6 hr_6 => ?_)
  subst hr_6
  refine tp_i (show nI (sp_cr S 0 ta9) = nI (sp_run S ta9) from rfl) ?_
  have d_6 := sp_run_lt S ho ta9
  refine lv_istore (lv' := [(4, .int (nI (sp_run S ta9))), (0, .ref (a 0)), (1, .int (nI ta9)), (2, .ref ((ad (10 + tq9)) 0)), (3, .int (nI ia9))]) hx hb dX7_comeAsTold_9 hl (by decide) rfl (fun ls hl => ?_)
  refine lv_iload_n hx hb dX7_comeAsTold_11 rfl (lv_at hl 4 rfl) ?_
  refine lv_istore (lv' := [(5, .int (nI ia9)), (4, .int (nI (sp_run S ta9))), (0, .ref (a 0)), (1, .int (nI ta9)), (2, .ref ((ad (10 + tq9)) 0)), (3, .int (nI ia9))]) hx hb dX7_comeAsTold_12 hl (by decide) rfl (fun ls hl => ?_)
  refine lv_iconst (v := (nI 1)) hx hb dX7_comeAsTold_14 (by decide) ?_
  refine lv_istore (lv' := [(6, .int (nI 1)), (5, .int (nI ia9)), (4, .int (nI (sp_run S ta9))), (0, .ref (a 0)), (1, .int (nI ta9)), (2, .ref ((ad (10 + tq9)) 0)), (3, .int (nI ia9))]) hx hb dX7_comeAsTold_15 hl (by decide) rfl (fun ls hl => ?_)
  have lp_17 : ∀ (n_17 : Nat) (i : Nat) (hi : i ≤ S.1 1 - 1) (hfr : ¬ sp_fr S (fun q => I9 tq9 (ia9 + q)) (sp_run S ta9) i = 0) (hm_17 : S.1 1 - i < n_17) (ls : Array Slot), lv_has ls 7 [(0, .ref (a 0)), (1, .int (nI ta9)), (2, .ref ((ad (10 + tq9)) 0)), (3, .int (nI ia9)), (4, .int (nI (sp_run S ta9))), (5, .int (nI (ia9 + sp_ou S i))), (6, .int (nI (i + 1)))] → W p l e (ro_m 4 90) s m args below meth c s.heap [] 0 0 (MQ below (vp_Si (fun r => r = nI (sp_fr S (fun q => I9 tq9 (ia9 + q)) (sp_run S ta9) (S.1 1 - 1)))) args s 0 0 (fun _ => False)) (F0 m 17 ls []) := by
    intro n_17
    induction n_17 with
    | zero => intro i hi hfr hm; exact absurd hm (Nat.not_lt_zero _)
    | succ n_17 ih_17 =>
      intro i hi hfr hm_17 ls hl
      have q5 := ou_le S i
      have q6 := ou_mn (S := S) hi
      refine lv_iload hx hb dX7_comeAsTold_17 (lv_at hl 6 rfl) ?_
      refine lv_aload_n hx hb dX7_comeAsTold_19 rfl (lv_at hl 0 rfl) ?_
      refine ag_XSH_X7_10_this X w dX7_comeAsTold_20 ?_
      refine ag_XSH_X7_58_sc X w dX7_comeAsTold_23 ?_
      refine tp_i (show z.1.1 3 = (nI (S.1 1)) from (cs_nf hT.1)) ?_
      refine n_icmp_ge (tgt := 74) hx hb dX7_comeAsTold_26 (by decide) (by omega) (by omega) (fun c_26_1 => ?_) (fun c_26_1 => ?_)
      · skip
        refine lv_iconst (v := (nI 1)) hx hb dX7_comeAsTold_74 (by decide) ?_
        exact re_pz hx hb hr hk (by first | exact Or.inl rfl | exact Or.inr rfl) (by have e1 := fr_le S (fun q => I9 tq9 (ia9 + q)) (sp_run S ta9) (S.1 1 - 1); rw [show i = S.1 1 - 1 by omega] at hfr; exact congrArg nI (by omega)) dX7_comeAsTold_75
      · skip
        refine lv_aload_n hx hb dX7_comeAsTold_29 rfl (lv_at hl 0 rfl) ?_
        refine ag_XSH_X7_10_this X w dX7_comeAsTold_30 ?_
        refine lv_iload hx hb dX7_comeAsTold_33 (lv_at hl 6 rfl) ?_
        refine gc_p (C := RX5) (ci := 4) (rest := []) X hml hl.1 (c5_isUp l G (ad 0) z.1 (i + 1) S hT.1 ho (by omega)) ok5_isUp wm_X7_196 ⟨Nat.le_of_ble_eq_true rfl, Nat.le_of_ble_eq_true rfl⟩ ⟨Nat.le_refl _, Nat.le_refl _⟩ w [2, 3, 4, 5, 6, 7, 8, 9] rfl rfl rfl rfl (Nat.le_of_ble_eq_true rfl) dX7_comeAsTold_35 (fun r_35 hr_35 => ?_)
        subst hr_35
        have d_35 := pc_dn01 S (i + 1)
        refine n_if_eq (tgt := 68) hx hb dX7_comeAsTold_38 (by decide) (by omega) (fun c_38_2 => ?_) (fun c_38_2 => ?_)
        · skip
          have hl : lv_has ls 7 [(0, .ref (a 0)), (1, .int (nI ta9)), (2, .ref ((ad (10 + tq9)) 0)), (3, .int (nI ia9)), (4, .int (nI (sp_run S ta9))), (5, .int (nI (ia9 + sp_ou S (i + 1)))), (6, .int (nI (i + 1)))] := by rw [show (nI (ia9 + sp_ou S (i + 1))) = (nI (ia9 + sp_ou S i)) from by first | exact congrArg nI (by rw [oc_n (by omega)]) | exact congrArg nI (by rw [oc_y (by omega)]; omega)]; exact hl
          refine lv_iinc (v := (nI (i + 1 + 1))) (lv' := [(6, .int (nI (i + 1 + 1))), (0, .ref (a 0)), (1, .int (nI ta9)), (2, .ref ((ad (10 + tq9)) 0)), (3, .int (nI ia9)), (4, .int (nI (sp_run S ta9))), (5, .int (nI (ia9 + sp_ou S (i + 1))))]) hx hb dX7_comeAsTold_68 hl (k := 6) rfl (by first | exact nI_1 _ | (rw [show Int32.ofInt 1 = nI 1 from by decide, nI_add])) (by decide) rfl (fun ls hl => ?_)
          refine lv_goto (tgt := 17) hx hb dX7_comeAsTold_71 (by decide) ?_
          exact ih_17 (i + 1) (by omega) (by first | exact fr_yy hup hfr g60 | (rw [fr_d (by omega)]; exact hfr)) (by omega) ls (lv_sub hl [1, 2, 3, 4, 5, 6, 0] rfl)
        · skip
          have hup : pc_dn S (i + 1) = 0 := by omega
          have m1 := oc_y hup
          have m2 := ou_mn (S := S) (show i + 1 ≤ S.1 1 - 1 by omega)
          refine lv_aload_n hx hb dX7_comeAsTold_41 rfl (lv_at hl 2 rfl) ?_
          refine lv_iload hx hb dX7_comeAsTold_42 (lv_at hl 5 rfl) ?_
          refine gc_l (C := RX6) (ci := 5) (rest := []) X hml hl.1 (c6_itemAt l G (ad (10 + tq9)) z.2 (ia9 + sp_ou S i) L N9 I9 tq9 hs (by omega)) ok6_itemAt wm_X7_233 ⟨Nat.le_of_ble_eq_true rfl, Nat.le_of_ble_eq_true rfl⟩ ⟨Nat.le_refl _, Nat.le_refl _⟩ w [10, 11] rfl rfl rfl rfl (Nat.le_of_ble_eq_true rfl) dX7_comeAsTold_44 (fun r_44 hr_44 => ?_)
          rw [if_pos (by omega)] at hr_44
          subst hr_44
          refine lv_aload_n hx hb dX7_comeAsTold_47 rfl (lv_at hl 0 rfl) ?_
          refine ag_XSH_X7_10_this X w dX7_comeAsTold_48 ?_
          refine lv_iload hx hb dX7_comeAsTold_51 (lv_at hl 6 rfl) ?_
          refine lv_iload hx hb dX7_comeAsTold_53 (lv_at hl 4 rfl) ?_
          refine gc_p (C := RX5) (ci := 4) (rest := [.long (I9 tq9 (ia9 + sp_ou S i))]) X hml hl.1 (c5_comesTo l G (ad 0) z.1 (i + 1) (sp_run S ta9) S hT.1 ho (by omega) (by omega)) ok5_comesTo wm_X7_266 ⟨Nat.le_of_ble_eq_true rfl, Nat.le_of_ble_eq_true rfl⟩ ⟨Nat.le_refl _, Nat.le_refl _⟩ w [2, 3, 4, 5, 6, 7, 8, 9] rfl rfl rfl rfl (Nat.le_of_ble_eq_true rfl) dX7_comeAsTold_55 (fun r_55 hr_55 => ?_)
          subst hr_55
          have d_55 := sp_com_le S ho 0 (i + 1) (sp_run S ta9) (by omega)
          refine lv_i2l (v := (nI (sp_com S 0 (i + 1) (sp_run S ta9))).toInt64) hx hb dX7_comeAsTold_58 rfl ?_
          refine W.lcmp hx hb dX7_comeAsTold_59 ?_
          refine lv_if_eq (tgt := 65) hx hb dX7_comeAsTold_60 (by decide) (fun c_60_3 => ?_) (fun c_60_3 => ?_)
          · skip
            have g60 : (nI (sp_com S 0 (i + 1) (sp_run S ta9))).toInt64 = (fun q => I9 tq9 (ia9 + q)) (sp_ou S i) := ((lg_cmp_eq _ _).mp c_60_3).symm
            refine lv_iinc (v := (nI (ia9 + sp_ou S i + 1))) (lv' := [(5, .int (nI (ia9 + sp_ou S i + 1))), (0, .ref (a 0)), (1, .int (nI ta9)), (2, .ref ((ad (10 + tq9)) 0)), (3, .int (nI ia9)), (4, .int (nI (sp_run S ta9))), (6, .int (nI (i + 1)))]) hx hb dX7_comeAsTold_65 hl (k := 5) rfl (by first | exact nI_1 _ | (rw [show Int32.ofInt 1 = nI 1 from by decide, nI_add])) (by decide) rfl (fun ls hl => ?_)
            have hl : lv_has ls 7 [(5, .int (nI (ia9 + sp_ou S (i + 1)))), (0, .ref (a 0)), (1, .int (nI ta9)), (2, .ref ((ad (10 + tq9)) 0)), (3, .int (nI ia9)), (4, .int (nI (sp_run S ta9))), (6, .int (nI (i + 1)))] := by rw [show (nI (ia9 + sp_ou S (i + 1))) = (nI (ia9 + sp_ou S i + 1)) from by first | exact congrArg nI (by rw [oc_n (by omega)]) | exact congrArg nI (by rw [oc_y (by omega)]; omega)]; exact hl
            refine lv_iinc (v := (nI (i + 1 + 1))) (lv' := [(6, .int (nI (i + 1 + 1))), (5, .int (nI (ia9 + sp_ou S (i + 1)))), (0, .ref (a 0)), (1, .int (nI ta9)), (2, .ref ((ad (10 + tq9)) 0)), (3, .int (nI ia9)), (4, .int (nI (sp_run S ta9)))]) hx hb dX7_comeAsTold_68 hl (k := 6) rfl (by first | exact nI_1 _ | (rw [show Int32.ofInt 1 = nI 1 from by decide, nI_add])) (by decide) rfl (fun ls hl => ?_)
            refine lv_goto (tgt := 17) hx hb dX7_comeAsTold_71 (by decide) ?_
            exact ih_17 (i + 1) (by omega) (by first | exact fr_yy hup hfr g60 | (rw [fr_d (by omega)]; exact hfr)) (by omega) ls (lv_sub hl [2, 3, 4, 5, 6, 1, 0] rfl)
          · skip
            have g60 : ¬ (nI (sp_com S 0 (i + 1) (sp_run S ta9))).toInt64 = (fun q => I9 tq9 (ia9 + q)) (sp_ou S i) := fun w9 => c_60_3 ((lg_cmp_eq _ _).mpr w9.symm)
            refine lv_iconst (v := (nI 0)) hx hb dX7_comeAsTold_63 (by decide) ?_
            exact re_pz hx hb hr hk (by first | exact Or.inl rfl | exact Or.inr rfl) (congrArg nI (fr_n (R9 := (fun q => I9 tq9 (ia9 + q))) (k := i) (by omega) hup g60).symm) dX7_comeAsTold_64
  exact lp_17 _ 0 (Nat.zero_le _) (by show ¬ (1 : Nat) = 0; decide) (Nat.lt_succ_self _) ls (lv_sub hl [3, 4, 5, 6, 2, 1, 0] rfl)

section Lm_c7_lastFarTurn
variable {p : Program} {l : Launch} {e : Env} {R : Room} {s : State} {m : MethodId} {args : Array Value} {below : List Frame} {meth : Method} {c : Code} {H : Heap} {locs : List Loc} {cells slots : Nat} {Q : State → Prop}
variable {cc : ByteArray} {pc : Nat} {ls : Array Slot} {rest : List Value} {G : CG} {A : Nat → Prop}
theorem ag_XS_X7_58_sc {a : Nat → Nat} {ad : Nat → Nat → Nat} {zt : RS} {z : RS} (X : cX RX7 G A p c cc s args m) (w : va_P G.1 vwCl (wO G a ad zt ++ w5 G (ad 0) z) H) (hdg : decode cc pc = .ok (.getfield 58, 3)) (kk : W p l e R s m args below meth c H locs cells slots Q (F0 m (pc + 3) ls (.int (z.1 3) :: rest))) : W p l e R s m args below meth c H locs cells slots Q (F0 m pc ls (.ref ((ad 0) 0) :: rest)) :=
  va_getN (own := RX7) (ref := RX5) (host := "RunningThree") (D := G.1) (ci := 4) (v := .int (z.1 3)) (C := RX5) (T := TX5) (N := 13) X.1 X.2.1 X.2.2.1 gX5 X.2.2.2.1 X.2.2.2.2.1.1 w 2 rfl rfl 3 (by decide) (va_Nw.use rfl (X.2.2.2.2.1.2 _ wq_X7_58)) (fun _ h9 => h9) rfl hdg kk
end Lm_c7_lastFarTurn
theorem ok7_lastFarTurn : cOk RX7 yX7_lastFarTurn cX7_lastFarTurn 1 (some .int) 0 := ⟨wc_X7_lastFarTurn, wi_X7_lastFarTurn, ws_X7_lastFarTurn, wn_X7, rfl, by decide, by decide, by decide +kernel⟩
set_option maxHeartbeats 4000000 in
set_option maxRecDepth 100000 in
theorem c7_lastFarTurn (l : Launch) (G : CG) (a : Nat → Nat) (ad : Nat → Nat → Nat) (zt : RS) (z : RS)  (S : Sc) (hT : cSc z S) (ho : oSc S)  : cMp G l yX7_lastFarTurn cX7_lastFarTurn 1 (some .int) 6 137 [.ref (a 0)] (wO G a ad zt ++ w5 G (ad 0) z) (fun r => r = iZ (sp_lf S)) := by
  refine cMp_in (by decide) rfl (Nat.le_of_ble_eq_true rfl) ?_
  intro p e s m args below meth c ls X hml hr hk hl w
  have hx := X.1
  have hb := X.2.1
  have hts := X.2.2.1
  have hown := X.2.2.2.1
  have hl : lv_has ls 1 [(0, .ref (a 0))] := hl
  obtain ⟨o1, o2, o3, o4, o5, o6, oso, oki, osr, opa, ohu, oco⟩ := id ho
  refine lv_aload_n hx hb dX7_lastFarTurn_0 rfl (lv_at hl 0 rfl) ?_
  refine ag_XS_X7_10_this X w dX7_lastFarTurn_1 ?_
  refine ag_XS_X7_58_sc X w dX7_lastFarTurn_4 ?_
  refine tp_i (show z.1 3 = (nI (S.1 1)) from (cs_nf hT.1)) ?_
  refine jn (tgt := 24) (rest := []) (fun v9 => ∃ x9 : Int, x9 = (if (S.1 1) = 0 then (-1) else (((sp_tm S 0 (60 - 0) 0 : Nat) : Int))) ∧ v9 = iZ x9) (fun v_ hv_ => ?_) (fun k_24 => ?_)
  · obtain ⟨x_24, ex_24, rfl⟩ := hv_
    exact re_p hx hb hr hk (by rw [ex_24]; rfl) dX7_lastFarTurn_24
  · skip
    refine n_if_ne (tgt := 14) hx hb dX7_lastFarTurn_7 (by decide) (by omega) (fun c_7_2 => ?_) (fun c_7_2 => ?_)
    · skip
      refine lv_aload_n hx hb dX7_lastFarTurn_14 rfl (lv_at hl 0 rfl) ?_
      refine ag_XS_X7_10_this X w dX7_lastFarTurn_15 ?_
      refine lv_iconst (v := (nI 0)) hx hb dX7_lastFarTurn_18 (by decide) ?_
      refine lv_bipush (v := (nI 60)) hx hb dX7_lastFarTurn_19 (by decide) ?_
      refine gc_p (C := RX5) (ci := 4) (rest := []) X hml hl.1 (c5_turnMoment l G (ad 0) z 0 60 S hT.1 ho (by omega) (by omega) (by omega)) ok5_turnMoment wm_X7_259 ⟨Nat.le_of_ble_eq_true rfl, Nat.le_of_ble_eq_true rfl⟩ ⟨Nat.le_refl _, Nat.le_refl _⟩ w [2, 3, 4, 5, 6, 7, 8, 9] rfl rfl rfl rfl (Nat.le_of_ble_eq_true rfl) dX7_lastFarTurn_21 (fun r_21 hr_21 => ?_)
      subst hr_21
      have d_21 := sp_tm_le S 0 (60 - 0) 0
      exact k_24 _ ⟨((sp_tm S 0 (60 - 0) 0 : Nat) : Int), by simp only [if_neg c_7_2], (iZ_n (sp_tm S 0 (60 - 0) 0)).symm⟩
    · skip
      refine lv_iconst (v := (iZ (-1))) hx hb dX7_lastFarTurn_10 (by decide) ?_
      refine lv_goto (tgt := 24) hx hb dX7_lastFarTurn_11 (by decide) ?_
      exact k_24 _ ⟨_, by simp only [if_pos c_7_2], rfl⟩

theorem ok7_turnsThatFit : cOk RX7 yX7_turnsThatFit cX7_turnsThatFit 6 (some .int) 3 := ⟨wc_X7_turnsThatFit, wi_X7_turnsThatFit, ws_X7_turnsThatFit, wn_X7, rfl, by decide, by decide, by decide +kernel⟩
set_option maxHeartbeats 4000000 in
set_option maxRecDepth 100000 in
theorem c7_turnsThatFit (l : Launch) (G : CG) (a : Nat → Nat) (ad : Nat → Nat → Nat) (zt : RS) (tq9 : Nat) (z : RS × RS) (ia9 : Nat) (la9 : Int) (S : Sc) (hT : cSc z.1 S) (ho : oSc S) (L N9 : Nat → Nat) (I9 : Nat → Nat → Int64) (hs : cSt z.2 (L tq9) (N9 tq9) (I9 tq9)) (hin : ia9 + sp_ou S (S.1 1 - 1) ≤ N9 tq9) (hla : la9 = sp_lf S) : cMp G l yX7_turnsThatFit cX7_turnsThatFit 6 (some .int) 5 116 [.ref (a 0), .ref ((ad (10 + tq9)) 0), .int (nI ia9), .int (iZ (la9))] (wO G a ad zt ++ w5 G (ad 0) z.1 ++ w6 G (ad (10 + tq9)) z.2) (fun r => r = nI (sp_fa S (fun q => I9 tq9 (ia9 + q)) 61).1) := by
  refine cMp_in (by decide) rfl (Nat.le_of_ble_eq_true rfl) ?_
  intro p e s m args below meth c ls X hml hr hk hl w
  have hx := X.1
  have hb := X.2.1
  have hts := X.2.2.1
  have hown := X.2.2.2.1
  have hl : lv_has ls 6 [(0, .ref (a 0)), (1, .ref ((ad (10 + tq9)) 0)), (2, .int (nI ia9)), (3, .int (iZ (la9)))] := hl
  obtain ⟨o1, o2, o3, o4, o5, o6, oso, oki, osr, opa, ohu, oco⟩ := id ho
  have lb := lf_b S
  refine lv_iconst (v := (nI 0)) hx hb dX7_turnsThatFit_0 (by decide) ?_
  refine lv_istore (lv' := [(4, .int (nI 0)), (0, .ref (a 0)), (1, .ref ((ad (10 + tq9)) 0)), (2, .int (nI ia9)), (3, .int (iZ (la9)))]) hx hb dX7_turnsThatFit_1 hl (by decide) rfl (fun ls hl => ?_)
  refine lv_iconst (v := (nI 0)) hx hb dX7_turnsThatFit_3 (by decide) ?_
  refine lv_istore (lv' := [(5, .int (nI 0)), (4, .int (nI 0)), (0, .ref (a 0)), (1, .ref ((ad (10 + tq9)) 0)), (2, .int (nI ia9)), (3, .int (iZ (la9)))]) hx hb dX7_turnsThatFit_4 hl (by decide) rfl (fun ls hl => ?_)
  have lp_6 : ∀ (n_6 : Nat) (i : Nat) (hi : i ≤ (la9 + 1).toNat) (hm_6 : 100 - i < n_6) (ls : Array Slot), lv_has ls 6 [(0, .ref (a 0)), (1, .ref ((ad (10 + tq9)) 0)), (2, .int (nI ia9)), (3, .int (iZ (la9))), (4, .int (nI ((sp_fa S (fun q => I9 tq9 (ia9 + q)) i).1))), (5, .int (nI i))] → W p l e (ro_m 5 116) s m args below meth c s.heap [] 0 0 (MQ below (vp_Si (fun r => r = nI (sp_fa S (fun q => I9 tq9 (ia9 + q)) 61).1)) args s 0 0 (fun _ => False)) (F0 m 6 ls []) := by
    intro n_6
    induction n_6 with
    | zero => intro i hi hm; exact absurd hm (Nat.not_lt_zero _)
    | succ n_6 ih_6 =>
      intro i hi hm_6 ls hl
      have q3 := fa_le S (fun q => I9 tq9 (ia9 + q)) i
      refine lv_iload hx hb dX7_turnsThatFit_6 (lv_at hl 5 rfl) ?_
      refine lv_iload_n hx hb dX7_turnsThatFit_8 rfl (lv_at hl 3 rfl) ?_
      refine tp_i2 (iZ_n i).symm ?_
      refine z_icmp_gt (tgt := 32) hx hb dX7_turnsThatFit_9 (by decide) (by omega) (by omega) (by omega) (by omega) (fun c_9_1 => ?_) (fun c_9_1 => ?_)
      · skip
        refine lv_iload hx hb dX7_turnsThatFit_32 (lv_at hl 4 rfl) ?_
        exact re_p hx hb hr hk (congrArg nI (fa_x1 (i := i) (by omega))) dX7_turnsThatFit_34
      · skip
        have hn0 : ¬ S.1 1 = 0 := fun w9 => by unfold sp_lf at hla; rw [if_pos w9] at hla; omega
        have htm : (i : Int) ≤ ((sp_tm S 0 60 0 : Nat) : Int) := by unfold sp_lf at hla; rw [if_neg hn0] at hla; omega
        have hgo := fa_go (R9 := (fun q => I9 tq9 (ia9 + q))) hn0 i (by omega)
        have hfs := fa_ss hgo
        refine lv_aload_n hx hb dX7_turnsThatFit_12 rfl (lv_at hl 0 rfl) ?_
        refine lv_iload hx hb dX7_turnsThatFit_13 (lv_at hl 5 rfl) ?_
        refine lv_aload_n hx hb dX7_turnsThatFit_15 rfl (lv_at hl 1 rfl) ?_
        refine lv_iload_n hx hb dX7_turnsThatFit_16 rfl (lv_at hl 2 rfl) ?_
        refine gc_p (C := RX7) (ci := 6) (rest := []) X hml hl.1 (c7_comeAsTold l G a ad zt tq9 z i ia9 S hT ho L N9 I9 hs (by omega) (by omega) hin) ok7_comeAsTold wm_X7_255 ⟨Nat.le_of_ble_eq_true rfl, Nat.le_of_ble_eq_true rfl⟩ ⟨Nat.le_refl _, Nat.le_refl _⟩ w [0, 1, 2, 3, 4, 5, 6, 7, 8, 9, 10, 11] rfl rfl rfl rfl (Nat.le_of_ble_eq_true rfl) dX7_turnsThatFit_17 (fun r_17 hr_17 => ?_)
        subst hr_17
        have d17 := fr_le S (fun q => I9 tq9 (ia9 + q)) (sp_run S i) (S.1 1 - 1)
        refine n_if_eq (tgt := 26) hx hb dX7_turnsThatFit_20 (by decide) (by omega) (fun c_20_2 => ?_) (fun c_20_2 => ?_)
        · skip
          have hl : lv_has ls 6 [(0, .ref (a 0)), (1, .ref ((ad (10 + tq9)) 0)), (2, .int (nI ia9)), (3, .int (iZ (la9))), (4, .int (nI ((sp_fa S (fun q => I9 tq9 (ia9 + q)) (i + 1)).1))), (5, .int (nI i))] := by rw [show (nI ((sp_fa S (fun q => I9 tq9 (ia9 + q)) (i + 1)).1)) = (nI ((sp_fa S (fun q => I9 tq9 (ia9 + q)) i).1)) from by first | exact congrArg nI (by rw [hfs]; show _ + (if _ then 0 else 1) = _; rw [if_neg (by omega)]) | exact congrArg nI (by rw [hfs]; show _ + (if _ then 0 else 1) = _; rw [if_pos (by omega)]; rfl)]; exact hl
          refine lv_iinc (v := (nI (i + 1))) (lv' := [(5, .int (nI (i + 1))), (0, .ref (a 0)), (1, .ref ((ad (10 + tq9)) 0)), (2, .int (nI ia9)), (3, .int (iZ (la9))), (4, .int (nI ((sp_fa S (fun q => I9 tq9 (ia9 + q)) (i + 1)).1)))]) hx hb dX7_turnsThatFit_26 hl (k := 5) rfl (by first | exact nI_1 _ | (rw [show Int32.ofInt 1 = nI 1 from by decide, nI_add])) (by decide) rfl (fun ls hl => ?_)
          refine lv_goto (tgt := 6) hx hb dX7_turnsThatFit_29 (by decide) ?_
          exact ih_6 (i + 1) (by omega) (by omega) ls (lv_sub hl [1, 2, 3, 4, 5, 0] rfl)
        · skip
          refine lv_iinc (v := (nI ((sp_fa S (fun q => I9 tq9 (ia9 + q)) i).1 + 1))) (lv' := [(4, .int (nI ((sp_fa S (fun q => I9 tq9 (ia9 + q)) i).1 + 1))), (0, .ref (a 0)), (1, .ref ((ad (10 + tq9)) 0)), (2, .int (nI ia9)), (3, .int (iZ (la9))), (5, .int (nI i))]) hx hb dX7_turnsThatFit_23 hl (k := 4) rfl (by first | exact nI_1 _ | (rw [show Int32.ofInt 1 = nI 1 from by decide, nI_add])) (by decide) rfl (fun ls hl => ?_)
          have hl : lv_has ls 6 [(4, .int (nI ((sp_fa S (fun q => I9 tq9 (ia9 + q)) (i + 1)).1))), (0, .ref (a 0)), (1, .ref ((ad (10 + tq9)) 0)), (2, .int (nI ia9)), (3, .int (iZ (la9))), (5, .int (nI i))] := by rw [show (nI ((sp_fa S (fun q => I9 tq9 (ia9 + q)) (i + 1)).1)) = (nI ((sp_fa S (fun q => I9 tq9 (ia9 + q)) i).1 + 1)) from by first | exact congrArg nI (by rw [hfs]; show _ + (if _ then 0 else 1) = _; rw [if_neg (by omega)]) | exact congrArg nI (by rw [hfs]; show _ + (if _ then 0 else 1) = _; rw [if_pos (by omega)]; rfl)]; exact hl
          refine lv_iinc (v := (nI (i + 1))) (lv' := [(5, .int (nI (i + 1))), (4, .int (nI ((sp_fa S (fun q => I9 tq9 (ia9 + q)) (i + 1)).1))), (0, .ref (a 0)), (1, .ref ((ad (10 + tq9)) 0)), (2, .int (nI ia9)), (3, .int (iZ (la9)))]) hx hb dX7_turnsThatFit_26 hl (k := 5) rfl (by first | exact nI_1 _ | (rw [show Int32.ofInt 1 = nI 1 from by decide, nI_add])) (by decide) rfl (fun ls hl => ?_)
          refine lv_goto (tgt := 6) hx hb dX7_turnsThatFit_29 (by decide) ?_
          exact ih_6 (i + 1) (by omega) (by omega) ls (lv_sub hl [2, 3, 4, 5, 1, 0] rfl)
  exact lp_6 _ 0 (by omega) (Nat.lt_succ_self _) ls (lv_sub hl [2, 3, 4, 5, 1, 0] rfl)

theorem ok7_firstTurnThatFits : cOk RX7 yX7_firstTurnThatFits cX7_firstTurnThatFits 5 (some .int) 3 := ⟨wc_X7_firstTurnThatFits, wi_X7_firstTurnThatFits, ws_X7_firstTurnThatFits, wn_X7, rfl, by decide, by decide, by decide +kernel⟩
set_option maxHeartbeats 4000000 in
set_option maxRecDepth 100000 in
theorem c7_firstTurnThatFits (l : Launch) (G : CG) (a : Nat → Nat) (ad : Nat → Nat → Nat) (zt : RS) (tq9 : Nat) (z : RS × RS) (ia9 : Nat) (la9 : Int) (S : Sc) (hT : cSc z.1 S) (ho : oSc S) (L N9 : Nat → Nat) (I9 : Nat → Nat → Int64) (hs : cSt z.2 (L tq9) (N9 tq9) (I9 tq9)) (hin : ia9 + sp_ou S (S.1 1 - 1) ≤ N9 tq9) (hla : la9 = sp_lf S) : cMp G l yX7_firstTurnThatFits cX7_firstTurnThatFits 5 (some .int) 5 116 [.ref (a 0), .ref ((ad (10 + tq9)) 0), .int (nI ia9), .int (iZ (la9))] (wO G a ad zt ++ w5 G (ad 0) z.1 ++ w6 G (ad (10 + tq9)) z.2) (fun r => r = pc_ff (sp_fa S (fun q => I9 tq9 (ia9 + q)) 61).2.1) := by
  refine cMp_in (by decide) rfl (Nat.le_of_ble_eq_true rfl) ?_
  intro p e s m args below meth c ls X hml hr hk hl w
  have hx := X.1
  have hb := X.2.1
  have hts := X.2.2.1
  have hown := X.2.2.2.1
  have hl : lv_has ls 5 [(0, .ref (a 0)), (1, .ref ((ad (10 + tq9)) 0)), (2, .int (nI ia9)), (3, .int (iZ (la9)))] := hl
  obtain ⟨o1, o2, o3, o4, o5, o6, oso, oki, osr, opa, ohu, oco⟩ := id ho
  have lb := lf_b S
  refine lv_iconst (v := (nI 0)) hx hb dX7_firstTurnThatFits_0 (by decide) ?_
  refine lv_istore (lv' := [(4, .int (nI 0)), (0, .ref (a 0)), (1, .ref ((ad (10 + tq9)) 0)), (2, .int (nI ia9)), (3, .int (iZ (la9)))]) hx hb dX7_firstTurnThatFits_1 hl (by decide) rfl (fun ls hl => ?_)
  have lp_3 : ∀ (n_3 : Nat) (i : Nat) (hi : i ≤ (la9 + 1).toNat) (hz1 : (sp_fa S (fun q => I9 tq9 (ia9 + q)) i).1 = 0) (hz2 : (sp_fa S (fun q => I9 tq9 (ia9 + q)) i).2.1 = 0) (hm_3 : 100 - i < n_3) (ls : Array Slot), lv_has ls 5 [(0, .ref (a 0)), (1, .ref ((ad (10 + tq9)) 0)), (2, .int (nI ia9)), (3, .int (iZ (la9))), (4, .int (nI i))] → W p l e (ro_m 5 116) s m args below meth c s.heap [] 0 0 (MQ below (vp_Si (fun r => r = pc_ff (sp_fa S (fun q => I9 tq9 (ia9 + q)) 61).2.1)) args s 0 0 (fun _ => False)) (F0 m 3 ls []) := by
    intro n_3
    induction n_3 with
    | zero => intro i hi hz1 hz2 hm; exact absurd hm (Nat.not_lt_zero _)
    | succ n_3 ih_3 =>
      intro i hi hz1 hz2 hm_3 ls hl
      refine lv_iload hx hb dX7_firstTurnThatFits_3 (lv_at hl 4 rfl) ?_
      refine lv_iload_n hx hb dX7_firstTurnThatFits_5 rfl (lv_at hl 3 rfl) ?_
      refine tp_i2 (iZ_n i).symm ?_
      refine z_icmp_gt (tgt := 29) hx hb dX7_firstTurnThatFits_6 (by decide) (by omega) (by omega) (by omega) (by omega) (fun c_6_1 => ?_) (fun c_6_1 => ?_)
      · skip
        refine lv_bipush (v := (iZ (-4))) hx hb dX7_firstTurnThatFits_29 (by decide) ?_
        exact re_p hx hb hr hk (by rw [← fa_x3 (R9 := (fun q => I9 tq9 (ia9 + q))) (i := i) (by omega), hz2]; rfl) dX7_firstTurnThatFits_31
      · skip
        have hn0 : ¬ S.1 1 = 0 := fun w9 => by unfold sp_lf at hla; rw [if_pos w9] at hla; omega
        have htm : (i : Int) ≤ ((sp_tm S 0 60 0 : Nat) : Int) := by unfold sp_lf at hla; rw [if_neg hn0] at hla; omega
        have hgo := fa_go (R9 := (fun q => I9 tq9 (ia9 + q))) hn0 i (by omega)
        have hfs := fa_ss hgo
        refine lv_aload_n hx hb dX7_firstTurnThatFits_9 rfl (lv_at hl 0 rfl) ?_
        refine lv_iload hx hb dX7_firstTurnThatFits_10 (lv_at hl 4 rfl) ?_
        refine lv_aload_n hx hb dX7_firstTurnThatFits_12 rfl (lv_at hl 1 rfl) ?_
        refine lv_iload_n hx hb dX7_firstTurnThatFits_13 rfl (lv_at hl 2 rfl) ?_
        refine gc_p (C := RX7) (ci := 6) (rest := []) X hml hl.1 (c7_comeAsTold l G a ad zt tq9 z i ia9 S hT ho L N9 I9 hs (by omega) (by omega) hin) ok7_comeAsTold wm_X7_255 ⟨Nat.le_of_ble_eq_true rfl, Nat.le_of_ble_eq_true rfl⟩ ⟨Nat.le_refl _, Nat.le_refl _⟩ w [0, 1, 2, 3, 4, 5, 6, 7, 8, 9, 10, 11] rfl rfl rfl rfl (Nat.le_of_ble_eq_true rfl) dX7_firstTurnThatFits_14 (fun r_14 hr_14 => ?_)
        subst hr_14
        have d14 := fr_le S (fun q => I9 tq9 (ia9 + q)) (sp_run S i) (S.1 1 - 1)
        refine n_if_eq (tgt := 23) hx hb dX7_firstTurnThatFits_17 (by decide) (by omega) (fun c_17_2 => ?_) (fun c_17_2 => ?_)
        · skip
          refine lv_iinc (v := (nI (i + 1))) (lv' := [(4, .int (nI (i + 1))), (0, .ref (a 0)), (1, .ref ((ad (10 + tq9)) 0)), (2, .int (nI ia9)), (3, .int (iZ (la9)))]) hx hb dX7_firstTurnThatFits_23 hl (k := 4) rfl (by first | exact nI_1 _ | (rw [show Int32.ofInt 1 = nI 1 from by decide, nI_add])) (by decide) rfl (fun ls hl => ?_)
          refine lv_goto (tgt := 3) hx hb dX7_firstTurnThatFits_26 (by decide) ?_
          exact ih_3 (i + 1) (by omega) (by rw [hfs]; show _ + (if _ then 0 else 1) = 0; rw [if_pos (by omega), hz1]) (by rw [hfs]; show (if _ then _ else _) = 0; rw [if_pos (by omega)]; exact hz2) (by omega) ls (lv_sub hl [1, 2, 3, 4, 0] rfl)
        · skip
          refine lv_iload hx hb dX7_firstTurnThatFits_20 (lv_at hl 4 rfl) ?_
          exact re_p hx hb hr hk ((fa_x2 (R9 := (fun q => I9 tq9 (ia9 + q))) hfs (by omega) hz1 (by omega)).symm) dX7_firstTurnThatFits_22
  exact lp_3 _ 0 (by omega) rfl rfl (Nat.lt_succ_self _) ls (lv_sub hl [1, 2, 3, 4, 0] rfl)

theorem ok7_far : cOk RX7 yX7_far cX7_far 8 (some .int) 4 := ⟨wc_X7_far, wi_X7_far, ws_X7_far, wn_X7, rfl, by decide, by decide, by decide +kernel⟩
set_option maxHeartbeats 4000000 in
set_option maxRecDepth 100000 in
theorem c7_far (l : Launch) (G : CG) (a : Nat → Nat) (ad : Nat → Nat → Nat) (zt : RS) (tq9 : Nat) (z : RS × RS) (xt9 : Int32) (xl9 : Int32) (xi9 : Int32) (xw9 : Int32) (S : Sc) (hT : cSc z.1 S) (ho : oSc S) (L N9 : Nat → Nat) (I9 : Nat → Nat → Int64) (hs : cSt z.2 (L tq9) (N9 tq9) (I9 tq9)) (hq4 : tq9 < 4) (hx9 : 0 ≤ xt9.toInt ∧ xt9.toInt ≤ 3 → xt9 = nI tq9) : cMp G l yX7_far cX7_far 8 (some .int) 7 157 [.ref (a 0), .int xt9, .int xl9, .int xi9, .int xw9] (wO G a ad zt ++ w5 G (ad 0) z.1 ++ w6 G (ad (10 + tq9)) z.2) (fun r => r = an_far S L N9 I9 xt9 xl9 xi9 xw9) := by
  refine cMp_in (by decide) rfl (Nat.le_of_ble_eq_true rfl) ?_
  intro p e s m args below meth c ls X hml hr hk hl w
  have hx := X.1
  have hb := X.2.1
  have hts := X.2.2.1
  have hown := X.2.2.2.1
  have hl : lv_has ls 8 [(0, .ref (a 0)), (1, .int xt9), (2, .int xl9), (3, .int xi9), (4, .int xw9)] := hl
  obtain ⟨o1, o2, o3, o4, o5, o6, oso, oki, osr, opa, ohu, oco⟩ := id ho
  have lb := lf_b S
  refine lv_iload_n hx hb dX7_far_0 rfl (lv_at hl 1 rfl) ?_
  refine gc_s (C := RX7) (rest := []) ⟨X.1, X.2.1, X.2.2.1, X.2.2.2.1⟩ hml hl.1 (c7_isSheet l xt9) ok7_isSheet wm_X7_216 ⟨Nat.le_of_ble_eq_true rfl, Nat.le_of_ble_eq_true rfl⟩ ⟨Nat.le_refl _, Nat.le_refl _⟩ rfl (Nat.le_of_ble_eq_true rfl) dX7_far_1 (fun r_1 hr_1 => ?_) rfl
  subst hr_1
  have d_1 := pc_inI_ok xt9.toInt 0 3
  refine n_if_eq (tgt := 24) hx hb dX7_far_4 (by decide) (by omega) (fun c_4_1 => ?_) (fun c_4_1 => ?_)
  · skip
    refine lv_iconst (v := (iZ (-1))) hx hb dX7_far_24 (by decide) ?_
    exact re_p hx hb hr hk (by unfold an_far; rw [if_neg (by omega)]) dX7_far_25
  · skip
    refine lv_iload_n hx hb dX7_far_7 rfl (lv_at hl 2 rfl) ?_
    refine gc_s (C := RX7) (rest := []) ⟨X.1, X.2.1, X.2.2.1, X.2.2.2.1⟩ hml hl.1 (c7_isLane l xl9) ok7_isLane wm_X7_219 ⟨Nat.le_of_ble_eq_true rfl, Nat.le_of_ble_eq_true rfl⟩ ⟨Nat.le_refl _, Nat.le_refl _⟩ rfl (Nat.le_of_ble_eq_true rfl) dX7_far_8 (fun r_8 hr_8 => ?_) rfl
    subst hr_8
    have d_8 := pc_inI_ok xl9.toInt 0 3
    refine n_if_eq (tgt := 24) hx hb dX7_far_11 (by decide) (by omega) (fun c_11_2 => ?_) (fun c_11_2 => ?_)
    · skip
      refine lv_iconst (v := (iZ (-1))) hx hb dX7_far_24 (by decide) ?_
      exact re_p hx hb hr hk (by unfold an_far; rw [if_neg (by omega)]) dX7_far_25
    · skip
      refine lv_iload hx hb dX7_far_14 (lv_at hl 4 rfl) ?_
      refine lv_iconst (v := (nI 0)) hx hb dX7_far_16 (by decide) ?_
      refine lv_iconst (v := (nI 1)) hx hb dX7_far_17 (by decide) ?_
      refine gc_s (C := RX7) (rest := []) ⟨X.1, X.2.1, X.2.2.1, X.2.2.2.1⟩ hml hl.1 (c7_within l xw9 (nI 0) (nI 1)) ok7_within wm_X7_50 ⟨Nat.le_of_ble_eq_true rfl, Nat.le_of_ble_eq_true rfl⟩ ⟨Nat.le_refl _, Nat.le_refl _⟩ rfl (Nat.le_of_ble_eq_true rfl) dX7_far_18 (fun r_18 hr_18 => ?_) rfl
      subst hr_18
      refine tp_i (congrArg nI (w3_I rfl (by decide) (by decide) : _ = pc_inI xw9.toInt ((0 : Int)) ((1 : Int)))) ?_
      have d_18 := pc_inI_ok xw9.toInt ((0 : Int)) ((1 : Int))
      refine n_if_ne (tgt := 26) hx hb dX7_far_21 (by decide) (by omega) (fun c_21_3 => ?_) (fun c_21_3 => ?_)
      · skip
        have et_tq9 := hx9 (by omega)
        have eu_tq9 : xt9.toInt = (tq9 : Int) := by rw [et_tq9]; exact nI_toInt (by omega)
        have hl : lv_has ls 8 [(0, .ref (a 0)), (1, .int (nI tq9)), (2, .int xl9), (3, .int xi9), (4, .int xw9)] := by rw [← et_tq9]; exact hl
        obtain ⟨kl, hk_kl, ek_kl⟩ := iv_n (x := xl9) (by omega)
        have hl : lv_has ls 8 [(0, .ref (a 0)), (1, .int (nI tq9)), (2, .int (nI kl)), (3, .int xi9), (4, .int xw9)] := by rw [← ek_kl]; exact hl
        obtain ⟨kw, hk_kw, ek_kw⟩ := iv_n (x := xw9) (by omega)
        have hl : lv_has ls 8 [(0, .ref (a 0)), (1, .int (nI tq9)), (2, .int (nI kl)), (3, .int xi9), (4, .int (nI kw))] := by rw [← ek_kw]; exact hl
        refine lv_aload_n hx hb dX7_far_26 rfl (lv_at hl 0 rfl) ?_
        refine ag_XSH_X7_45_this X w dX7_far_27 ?_
        refine lv_iload_n hx hb dX7_far_30 rfl (lv_at hl 1 rfl) ?_
        refine aq_XSH X w (by omega) dX7_far_31 ?_
        refine lv_astore (lv' := [(5, .ref ((ad (10 + tq9)) 0)), (0, .ref (a 0)), (1, .int (nI tq9)), (2, .int (nI kl)), (3, .int xi9), (4, .int (nI kw))]) hx hb dX7_far_32 hl (by decide) rfl (fun ls hl => ?_)
        refine lv_aload hx hb dX7_far_34 (lv_at hl 0 rfl) ?_
        refine lv_iload_n hx hb dX7_far_36 rfl (lv_at hl 3 rfl) ?_
        refine lv_iload_n hx hb dX7_far_37 rfl (lv_at hl 4 rfl) ?_
        refine lv_aload_n hx hb dX7_far_38 rfl (lv_at hl 1 rfl) ?_
        refine ag_XSH_X7_10_this X w dX7_far_39 ?_
        refine gc_p (C := RX5) (ci := 4) (rest := [.int xi9, .int (nI kl), .ref ((ad (10 + tq9)) 0)]) X hml hl.1 (c5_othersUp l G (ad 0) z.1  S hT.1 ho ) ok5_othersUp wm_X7_242 ⟨Nat.le_of_ble_eq_true rfl, Nat.le_of_ble_eq_true rfl⟩ ⟨Nat.le_refl _, Nat.le_refl _⟩ w [2, 3, 4, 5, 6, 7, 8, 9] rfl rfl rfl rfl (Nat.le_of_ble_eq_true rfl) dX7_far_42 (fun r_42 hr_42 => ?_)
        subst hr_42
        have d_42 := ou_le S (S.1 1 - 1)
        refine gc_p (C := RX6) (ci := 5) (rest := []) X hml hl.1 (c6_refusal l G (ad (10 + tq9)) z.2 kl xi9 (sp_ou S (S.1 1 - 1)) L N9 I9 tq9 hs (by omega) (by omega)) ok6_refusal wm_X7_222 ⟨Nat.le_of_ble_eq_true rfl, Nat.le_of_ble_eq_true rfl⟩ ⟨Nat.le_refl _, Nat.le_refl _⟩ w [10, 11] rfl rfl rfl rfl (Nat.le_of_ble_eq_true rfl) dX7_far_45 (fun r_45 hr_45 => ?_)
        subst hr_45
        have d_45 := pw_why_ok L N9 tq9 kl xi9.toInt (sp_ou S (S.1 1 - 1))
        refine lv_istore (lv' := [(6, .int (iZ (pw_why L N9 tq9 kl xi9.toInt (sp_ou S (S.1 1 - 1))))), (5, .ref ((ad (10 + tq9)) 0)), (0, .ref (a 0)), (1, .int (nI tq9)), (2, .int (nI kl)), (3, .int xi9), (4, .int (nI kw))]) hx hb dX7_far_48 hl (by decide) rfl (fun ls hl => ?_)
        refine lv_iload hx hb dX7_far_50 (lv_at hl 0 rfl) ?_
        refine z_if_ge (tgt := 58) hx hb dX7_far_52 (by decide) (by omega) (by omega) (fun c_52_4 => ?_) (fun c_52_4 => ?_)
        · skip
          obtain ⟨ia9, hk_ia9, ek_ia9⟩ := iv_n (x := xi9) (by omega)
          have hl : lv_has ls 8 [(6, .int (iZ (pw_why L N9 tq9 kl xi9.toInt (sp_ou S (S.1 1 - 1))))), (5, .ref ((ad (10 + tq9)) 0)), (0, .ref (a 0)), (1, .int (nI tq9)), (2, .int (nI kl)), (3, .int (nI ia9)), (4, .int (nI kw))] := by rw [← ek_ia9]; exact hl
          refine lv_aload_n hx hb dX7_far_58 rfl (lv_at hl 2 rfl) ?_
          refine gc_p (C := RX7) (ci := 6) (rest := []) X hml hl.1 (c7_lastFarTurn l G a ad zt z.1 S hT ho) ok7_lastFarTurn wm_X7_245 ⟨Nat.le_of_ble_eq_true rfl, Nat.le_of_ble_eq_true rfl⟩ ⟨Nat.le_refl _, Nat.le_refl _⟩ w [0, 1, 2, 3, 4, 5, 6, 7, 8, 9] rfl rfl rfl rfl (Nat.le_of_ble_eq_true rfl) dX7_far_59 (fun r_59 hr_59 => ?_)
          subst hr_59
          refine lv_istore (lv' := [(7, .int (iZ (sp_lf S))), (6, .int (iZ (pw_why L N9 tq9 kl xi9.toInt (sp_ou S (S.1 1 - 1))))), (5, .ref ((ad (10 + tq9)) 0)), (0, .ref (a 0)), (1, .int (nI tq9)), (2, .int (nI kl)), (3, .int (nI ia9)), (4, .int (nI kw))]) hx hb dX7_far_62 hl (by decide) rfl (fun ls hl => ?_)
          refine lv_iload hx hb dX7_far_64 (lv_at hl 7 rfl) ?_
          refine n_if_ne (tgt := 81) hx hb dX7_far_66 (by decide) (by omega) (fun c_66_5 => ?_) (fun c_66_5 => ?_)
          · skip
            refine lv_aload_n hx hb dX7_far_81 rfl (lv_at hl 3 rfl) ?_
            refine lv_aload hx hb dX7_far_82 (lv_at hl 2 rfl) ?_
            refine lv_iload_n hx hb dX7_far_84 rfl (lv_at hl 6 rfl) ?_
            refine lv_iload hx hb dX7_far_85 (lv_at hl 0 rfl) ?_
            refine gc_p (C := RX7) (ci := 6) (rest := []) X hml hl.1 (c7_firstTurnThatFits l G a ad zt tq9 z ia9 (sp_lf S) S hT ho L N9 I9 hs (by omega) rfl) ok7_firstTurnThatFits wm_X7_252 ⟨Nat.le_of_ble_eq_true rfl, Nat.le_of_ble_eq_true rfl⟩ ⟨Nat.le_refl _, Nat.le_refl _⟩ w [0, 1, 2, 3, 4, 5, 6, 7, 8, 9, 10, 11] rfl rfl rfl rfl (Nat.le_of_ble_eq_true rfl) dX7_far_87 (fun r_87 hr_87 => ?_)
            exact re_p hx hb hr hk (by rw [hr_87]; unfold an_far; rw [if_pos (by omega), show xt9.toInt.toNat = tq9 by omega, show xl9.toInt.toNat = kl by omega, if_neg (by omega), if_neg (by omega), show xi9.toInt.toNat = ia9 by omega]) dX7_far_90
          · skip
            refine lv_aload_n hx hb dX7_far_69 rfl (lv_at hl 3 rfl) ?_
            refine lv_aload hx hb dX7_far_70 (lv_at hl 2 rfl) ?_
            refine lv_iload_n hx hb dX7_far_72 rfl (lv_at hl 6 rfl) ?_
            refine lv_iload hx hb dX7_far_73 (lv_at hl 0 rfl) ?_
            refine gc_p (C := RX7) (ci := 6) (rest := []) X hml hl.1 (c7_turnsThatFit l G a ad zt tq9 z ia9 (sp_lf S) S hT ho L N9 I9 hs (by omega) rfl) ok7_turnsThatFit wm_X7_248 ⟨Nat.le_of_ble_eq_true rfl, Nat.le_of_ble_eq_true rfl⟩ ⟨Nat.le_refl _, Nat.le_refl _⟩ w [0, 1, 2, 3, 4, 5, 6, 7, 8, 9, 10, 11] rfl rfl rfl rfl (Nat.le_of_ble_eq_true rfl) dX7_far_75 (fun r_75 hr_75 => ?_)
            refine lv_goto (tgt := 90) hx hb dX7_far_78 (by decide) ?_
            exact re_p hx hb hr hk (by rw [hr_75]; unfold an_far; rw [if_pos (by omega), show xt9.toInt.toNat = tq9 by omega, show xl9.toInt.toNat = kl by omega, if_neg (by omega), if_pos (by omega), show xi9.toInt.toNat = ia9 by omega]) dX7_far_90
        · skip
          refine lv_iload hx hb dX7_far_55 (lv_at hl 0 rfl) ?_
          exact re_p hx hb hr hk (by unfold an_far; rw [if_pos (by omega), show xt9.toInt.toNat = tq9 by omega, show xl9.toInt.toNat = kl by omega, if_pos (by omega)]) dX7_far_57
      · skip
        refine lv_iconst (v := (iZ (-1))) hx hb dX7_far_24 (by decide) ?_
        exact re_p hx hb hr hk (by unfold an_far; rw [if_neg (by omega)]) dX7_far_25
