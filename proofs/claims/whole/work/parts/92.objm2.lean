section Lm_c7_chance
variable {p : Program} {l : Launch} {e : Env} {R : Room} {s : State} {m : MethodId} {args : Array Value} {below : List Frame} {meth : Method} {c : Code} {H : Heap} {locs : List Loc} {cells slots : Nat} {Q : State → Prop}
variable {cc : ByteArray} {pc : Nat} {ls : Array Slot} {rest : List Value} {G : CG} {A : Nat → Prop}
theorem ag_XF_X7_10_this {a : Nat → Nat} {ad : Nat → Nat → Nat} {zt : RS} {z : RS × RS × RS × RS} (X : cX RX7 G A p c cc s args m) (w : va_P G.1 vwCl (wO G a ad zt ++ w5 G (ad 0) z.1 ++ wFo G ad z.2.1 ++ w5 G (ad 8) z.2.2.1 ++ w0 G (ad 9) z.2.2.2) H) (hdg : decode cc pc = .ok (.getfield 10, 3)) (kk : W p l e R s m args below meth c H locs cells slots Q (F0 m (pc + 3) ls (.ref ((ad 0) 0) :: rest))) : W p l e R s m args below meth c H locs cells slots Q (F0 m pc ls (.ref (a 0) :: rest)) :=
  va_get (D := G.1) (ci := 6) (v := .ref ((ad 0) 0)) (C := RX7) (T := TX7) (N := 8) X.1 X.2.1 X.2.2.1 gX7 X.2.2.2.1 X.2.2.2.2.1.1 w 0 rfl rfl 0 (by decide) (X.2.2.1 _ wf_X7_10) (fun _ h9 => h9) rfl hdg kk
theorem ag_XF_X7_39_this {a : Nat → Nat} {ad : Nat → Nat → Nat} {zt : RS} {z : RS × RS × RS × RS} (X : cX RX7 G A p c cc s args m) (w : va_P G.1 vwCl (wO G a ad zt ++ w5 G (ad 0) z.1 ++ wFo G ad z.2.1 ++ w5 G (ad 8) z.2.2.1 ++ w0 G (ad 9) z.2.2.2) H) (hdg : decode cc pc = .ok (.getfield 39, 3)) (kk : W p l e R s m args below meth c H locs cells slots Q (F0 m (pc + 3) ls (.ref ((ad 6) 0) :: rest))) : W p l e R s m args below meth c H locs cells slots Q (F0 m pc ls (.ref (a 0) :: rest)) :=
  va_get (D := G.1) (ci := 6) (v := .ref ((ad 6) 0)) (C := RX7) (T := TX7) (N := 8) X.1 X.2.1 X.2.2.1 gX7 X.2.2.2.1 X.2.2.2.2.1.1 w 0 rfl rfl 6 (by decide) (X.2.2.1 _ wf_X7_39) (fun _ h9 => h9) rfl hdg kk
end Lm_c7_chance
theorem ok7_chance : cOk RX7 yX7_chance cX7_chance 2 (some .int) 1 := ⟨wc_X7_chance, wi_X7_chance, ws_X7_chance, wn_X7, rfl, by decide, by decide, by decide +kernel⟩
set_option maxHeartbeats 4000000 in
set_option maxRecDepth 100000 in
theorem c7_chance (l : Launch) (G : CG) (a : Nat → Nat) (ad : Nat → Nat → Nat) (zt : RS) (z : RS × RS × RS × RS) (ta9 : Int32) (S : Sc) (hT : cSc z.1 S) (ho : oSc S) (hm : S.1 3 ≤ 400) (hc : ¬ S.1 4 = 0 → sp_cm420 S) : cMi G l yX7_chance cX7_chance 2 (some .int) 7 163 [.ref (a 0), .int ta9] (fun q9 : RS × RS × RS × RS => wO G a ad zt ++ w5 G (ad 0) q9.1 ++ wFo G ad q9.2.1 ++ w5 G (ad 8) q9.2.2.1 ++ w0 G (ad 9) q9.2.2.2) z (fun r z9 => r = an_chance S ta9 ∧ z9.1 = z.1) := by
  refine cMi_in (by decide) rfl (Nat.le_of_ble_eq_true rfl) ?_
  intro p e s m args below meth c A ls X hml hr hk hl w
  have hx := X.1
  have hb := X.2.1
  have hts := X.2.2.1
  have hown := X.2.2.2.1
  have hl : lv_has ls 2 [(0, .ref (a 0)), (1, .int ta9)] := hl
  obtain ⟨o1, o2, o3, o4, o5, o6, oso, oki, osr, opa, ohu, oco⟩ := id ho
  refine lv_iload_n hx hb dX7_chance_0 rfl (lv_at hl 1 rfl) ?_
  refine lv_iconst (v := (nI 0)) hx hb dX7_chance_1 (by decide) ?_
  refine lv_sipush (v := (nI 400)) hx hb dX7_chance_2 (by decide) ?_
  refine gc_s (C := RX7) (rest := []) ⟨X.1, X.2.1, X.2.2.1, X.2.2.2.1⟩ hml hl.1 (c7_within l ta9 (nI 0) (nI 400)) ok7_within wm_X7_50 ⟨Nat.le_of_ble_eq_true rfl, Nat.le_of_ble_eq_true rfl⟩ ⟨Nat.le_refl _, Nat.le_refl _⟩ rfl (Nat.le_of_ble_eq_true rfl) dX7_chance_5 (fun r_5 hr_5 => ?_) rfl
  subst hr_5
  refine tp_i (congrArg nI (w3_I rfl (by decide) (by decide) : _ = pc_inI ta9.toInt ((0 : Int)) ((400 : Int)))) ?_
  have d_5 := pc_inI_ok ta9.toInt ((0 : Int)) ((400 : Int))
  refine n_if_ne (tgt := 13) hx hb dX7_chance_8 (by decide) (by omega) (fun c_8_1 => ?_) (fun c_8_1 => ?_)
  · skip
    refine lv_aload_n hx hb dX7_chance_13 rfl (lv_at hl 0 rfl) ?_
    refine ag_XF_X7_10_this X w.1 dX7_chance_14 ?_
    refine gc_p (C := RX5) (ci := 4) (rest := []) X hml hl.1 (c5_outcome l G (ad 0) z.1  S hT.1 ho ) ok5_outcome wm_X7_144 ⟨Nat.le_of_ble_eq_true rfl, Nat.le_of_ble_eq_true rfl⟩ ⟨Nat.le_refl _, Nat.le_refl _⟩ w.1 [2, 3, 4, 5, 6, 7, 8, 9] rfl rfl rfl rfl (Nat.le_of_ble_eq_true rfl) dX7_chance_17 (fun r_17 hr_17 => ?_)
    subst hr_17
    have d_17 := sp_over_le S
    refine n_if_eq (tgt := 26) hx hb dX7_chance_20 (by decide) (by omega) (fun c_20_2 => ?_) (fun c_20_2 => ?_)
    · skip
      obtain ⟨k, hk_k, ek_k⟩ := iv_n (x := ta9) (by omega)
      have hl : lv_has ls 2 [(0, .ref (a 0)), (1, .int (nI k))] := by rw [← ek_k]; exact hl
      refine lv_aload_n hx hb dX7_chance_26 rfl (lv_at hl 0 rfl) ?_
      refine ag_XF_X7_39_this X w.1 dX7_chance_27 ?_
      refine lv_aload_n hx hb dX7_chance_30 rfl (lv_at hl 0 rfl) ?_
      refine ag_XF_X7_10_this X w.1 dX7_chance_31 ?_
      refine gc_v (C := RX2) (ci := 2) (rest := []) (w := (fun q9 : RS × RS × RS => wF G (ad 6) (ad 8) (ad 9) q9 ++ w5 G (ad 0) z.1)) (wr := [((a 0), .inr (6, [.ref ((ad 0) 0), .ref (ad 1 0), .ref (ad 2 0), .ref (ad 3 0), .int (zt.1 4), .ref (ad 5 0), .ref ((ad 6) 0), .ref (a 8)])), ((a 8), .inl (G.2.2.2, 4, .inr (.inr (.inr (.inr (fun j => some (ad (10 + j) 0)))))))]) (wn := (fun u9 => wO G a ad zt ++ w5 G (ad 0) (((((((z.1, u9.1, z.2.2.1, z.2.2.2)).1, ((z.1, u9.1, z.2.2.1, z.2.2.2)).2.1, u9.2.1, ((z.1, u9.1, z.2.2.1, z.2.2.2)).2.2.2)).1, ((((z.1, u9.1, z.2.2.1, z.2.2.2)).1, ((z.1, u9.1, z.2.2.1, z.2.2.2)).2.1, u9.2.1, ((z.1, u9.1, z.2.2.1, z.2.2.2)).2.2.2)).2.1, ((((z.1, u9.1, z.2.2.1, z.2.2.2)).1, ((z.1, u9.1, z.2.2.1, z.2.2.2)).2.1, u9.2.1, ((z.1, u9.1, z.2.2.1, z.2.2.2)).2.2.2)).2.2.1, u9.2.2))).1 ++ wFo G ad (((((((z.1, u9.1, z.2.2.1, z.2.2.2)).1, ((z.1, u9.1, z.2.2.1, z.2.2.2)).2.1, u9.2.1, ((z.1, u9.1, z.2.2.1, z.2.2.2)).2.2.2)).1, ((((z.1, u9.1, z.2.2.1, z.2.2.2)).1, ((z.1, u9.1, z.2.2.1, z.2.2.2)).2.1, u9.2.1, ((z.1, u9.1, z.2.2.1, z.2.2.2)).2.2.2)).2.1, ((((z.1, u9.1, z.2.2.1, z.2.2.2)).1, ((z.1, u9.1, z.2.2.1, z.2.2.2)).2.1, u9.2.1, ((z.1, u9.1, z.2.2.1, z.2.2.2)).2.2.2)).2.2.1, u9.2.2))).2.1 ++ w5 G (ad 8) (((((((z.1, u9.1, z.2.2.1, z.2.2.2)).1, ((z.1, u9.1, z.2.2.1, z.2.2.2)).2.1, u9.2.1, ((z.1, u9.1, z.2.2.1, z.2.2.2)).2.2.2)).1, ((((z.1, u9.1, z.2.2.1, z.2.2.2)).1, ((z.1, u9.1, z.2.2.1, z.2.2.2)).2.1, u9.2.1, ((z.1, u9.1, z.2.2.1, z.2.2.2)).2.2.2)).2.1, ((((z.1, u9.1, z.2.2.1, z.2.2.2)).1, ((z.1, u9.1, z.2.2.1, z.2.2.2)).2.1, u9.2.1, ((z.1, u9.1, z.2.2.1, z.2.2.2)).2.2.2)).2.2.1, u9.2.2))).2.2.1 ++ w0 G (ad 9) (((((((z.1, u9.1, z.2.2.1, z.2.2.2)).1, ((z.1, u9.1, z.2.2.1, z.2.2.2)).2.1, u9.2.1, ((z.1, u9.1, z.2.2.1, z.2.2.2)).2.2.2)).1, ((((z.1, u9.1, z.2.2.1, z.2.2.2)).1, ((z.1, u9.1, z.2.2.1, z.2.2.2)).2.1, u9.2.1, ((z.1, u9.1, z.2.2.1, z.2.2.2)).2.2.2)).2.1, ((((z.1, u9.1, z.2.2.1, z.2.2.2)).1, ((z.1, u9.1, z.2.2.1, z.2.2.2)).2.1, u9.2.1, ((z.1, u9.1, z.2.2.1, z.2.2.2)).2.2.2)).2.2.1, u9.2.2))).2.2.2)) X hml hl.1 (c2_begin l G (ad 6) (ad 8) (ad 9) (ad 0) z.1 z.2) ok2_begin wm_X7_173 ⟨Nat.le_of_ble_eq_true rfl, Nat.le_of_ble_eq_true rfl⟩ ⟨Nat.le_refl _, Nat.le_refl _⟩ w [10, 11, 12, 13, 14, 15, 16, 17, 18, 19, 20, 21, 22, 23, 24, 25, 26, 27, 28, 29, 30, 31, 2, 3, 4, 5, 6, 7, 8, 9] [0, 1] [0, 1, 24, 25, 26, 27, 28, 29, 30, 31, 2, 3, 4, 5, 6, 7, 8, 9, 10, 11, 12, 13, 14, 15, 16, 17, 18, 19, 20, 21, 22, 23] rfl (by decide) rfl (by decide) (by decide) (fun _ => rfl) (by decide) rfl rfl rfl (Nat.le_of_ble_eq_true rfl) dX7_chance_34 (fun u_34 H locs hr_34 w => ?_)
      obtain ⟨z_34, ez_34⟩ : ∃ q9 : RS × RS × RS × RS, q9 = (((((z.1, u_34.1, z.2.2.1, z.2.2.2)).1, ((z.1, u_34.1, z.2.2.1, z.2.2.2)).2.1, u_34.2.1, ((z.1, u_34.1, z.2.2.1, z.2.2.2)).2.2.2)).1, ((((z.1, u_34.1, z.2.2.1, z.2.2.2)).1, ((z.1, u_34.1, z.2.2.1, z.2.2.2)).2.1, u_34.2.1, ((z.1, u_34.1, z.2.2.1, z.2.2.2)).2.2.2)).2.1, ((((z.1, u_34.1, z.2.2.1, z.2.2.2)).1, ((z.1, u_34.1, z.2.2.1, z.2.2.2)).2.1, u_34.2.1, ((z.1, u_34.1, z.2.2.1, z.2.2.2)).2.2.2)).2.2.1, u_34.2.2) := ⟨_, rfl⟩
      have w : cW G A s (wO G a ad zt ++ w5 G (ad 0) z_34.1 ++ wFo G ad z_34.2.1 ++ w5 G (ad 8) z_34.2.2.1 ++ w0 G (ad 9) z_34.2.2.2) H locs := by rw [ez_34]; exact w
      have eu_34_fo : z_34.2.1 = u_34.1 := by rw [ez_34]
      try rw [← eu_34_fo] at hr_34
      have eu_34_tr : z_34.2.2.1 = u_34.2.1 := by rw [ez_34]
      try rw [← eu_34_tr] at hr_34
      have eu_34_ch : z_34.2.2.2 = u_34.2.2 := by rw [ez_34]
      try rw [← eu_34_ch] at hr_34
      have ek_34_sc : z_34.1 = z.1 := by rw [ez_34]
      have hT_34 : cSc z_34.1 S := by rw [ek_34_sc]; exact hT
      have hF_34 : cSc z_34.2.2.1 S := cEq_c hr_34.1 o2 o3 hT
      have hM_34 : chM S z_34.2.2.2 := chM_0 hr_34.2.1
      have hk_34 : z_34.1 = z.1 := ek_34_sc
      refine lv_aload_n hx hb dX7_chance_37 rfl (lv_at hl 0 rfl) ?_
      refine ag_XF_X7_39_this X w.1 dX7_chance_38 ?_
      refine lv_iload_n hx hb dX7_chance_41 rfl (lv_at hl 1 rfl) ?_
      refine gc_i (C := RX2) (ci := 2) (rest := []) (w := (fun q9 : RS × RS × RS => wF G (ad 6) (ad 8) (ad 9) q9)) (wr := [((a 0), .inr (6, [.ref ((ad 0) 0), .ref (ad 1 0), .ref (ad 2 0), .ref (ad 3 0), .int (zt.1 4), .ref (ad 5 0), .ref ((ad 6) 0), .ref (a 8)])), ((a 8), .inl (G.2.2.2, 4, .inr (.inr (.inr (.inr (fun j => some (ad (10 + j) 0))))))), (((ad 0) 0), .inr (4, [.int (z_34.1.1 0), .ref ((ad 0) 2), .ref ((ad 0) 3), .int (z_34.1.1 3), .ref ((ad 0) 5), .ref ((ad 0) 6), .ref ((ad 0) 7), .ref ((ad 0) 8), .int (z_34.1.1 8), .int (z_34.1.1 9), .int (z_34.1.1 10), .ref ((ad 0) 12), .int (z_34.1.1 12)])), (((ad 0) 2), .inl (G.2.1, 40, .inl (z_34.1.2.1 1))), (((ad 0) 3), .inl (G.2.1, 40, .inl (z_34.1.2.1 2))), (((ad 0) 5), .inl (G.2.1, 5, .inl (z_34.1.2.1 4))), (((ad 0) 6), .inl (G.2.1, 5, .inl (z_34.1.2.1 5))), (((ad 0) 7), .inl (G.2.1, 5, .inl (z_34.1.2.1 6))), (((ad 0) 8), .inl (G.2.1, 5, .inl (z_34.1.2.1 7))), (((ad 0) 12), .inl (G.2.1, 5, .inl (z_34.1.2.1 11)))]) (wn := (fun u9 => wO G a ad zt ++ w5 G (ad 0) (((((((z_34.1, u9.1, z_34.2.2.1, z_34.2.2.2)).1, ((z_34.1, u9.1, z_34.2.2.1, z_34.2.2.2)).2.1, u9.2.1, ((z_34.1, u9.1, z_34.2.2.1, z_34.2.2.2)).2.2.2)).1, ((((z_34.1, u9.1, z_34.2.2.1, z_34.2.2.2)).1, ((z_34.1, u9.1, z_34.2.2.1, z_34.2.2.2)).2.1, u9.2.1, ((z_34.1, u9.1, z_34.2.2.1, z_34.2.2.2)).2.2.2)).2.1, ((((z_34.1, u9.1, z_34.2.2.1, z_34.2.2.2)).1, ((z_34.1, u9.1, z_34.2.2.1, z_34.2.2.2)).2.1, u9.2.1, ((z_34.1, u9.1, z_34.2.2.1, z_34.2.2.2)).2.2.2)).2.2.1, u9.2.2))).1 ++ wFo G ad (((((((z_34.1, u9.1, z_34.2.2.1, z_34.2.2.2)).1, ((z_34.1, u9.1, z_34.2.2.1, z_34.2.2.2)).2.1, u9.2.1, ((z_34.1, u9.1, z_34.2.2.1, z_34.2.2.2)).2.2.2)).1, ((((z_34.1, u9.1, z_34.2.2.1, z_34.2.2.2)).1, ((z_34.1, u9.1, z_34.2.2.1, z_34.2.2.2)).2.1, u9.2.1, ((z_34.1, u9.1, z_34.2.2.1, z_34.2.2.2)).2.2.2)).2.1, ((((z_34.1, u9.1, z_34.2.2.1, z_34.2.2.2)).1, ((z_34.1, u9.1, z_34.2.2.1, z_34.2.2.2)).2.1, u9.2.1, ((z_34.1, u9.1, z_34.2.2.1, z_34.2.2.2)).2.2.2)).2.2.1, u9.2.2))).2.1 ++ w5 G (ad 8) (((((((z_34.1, u9.1, z_34.2.2.1, z_34.2.2.2)).1, ((z_34.1, u9.1, z_34.2.2.1, z_34.2.2.2)).2.1, u9.2.1, ((z_34.1, u9.1, z_34.2.2.1, z_34.2.2.2)).2.2.2)).1, ((((z_34.1, u9.1, z_34.2.2.1, z_34.2.2.2)).1, ((z_34.1, u9.1, z_34.2.2.1, z_34.2.2.2)).2.1, u9.2.1, ((z_34.1, u9.1, z_34.2.2.1, z_34.2.2.2)).2.2.2)).2.1, ((((z_34.1, u9.1, z_34.2.2.1, z_34.2.2.2)).1, ((z_34.1, u9.1, z_34.2.2.1, z_34.2.2.2)).2.1, u9.2.1, ((z_34.1, u9.1, z_34.2.2.1, z_34.2.2.2)).2.2.2)).2.2.1, u9.2.2))).2.2.1 ++ w0 G (ad 9) (((((((z_34.1, u9.1, z_34.2.2.1, z_34.2.2.2)).1, ((z_34.1, u9.1, z_34.2.2.1, z_34.2.2.2)).2.1, u9.2.1, ((z_34.1, u9.1, z_34.2.2.1, z_34.2.2.2)).2.2.2)).1, ((((z_34.1, u9.1, z_34.2.2.1, z_34.2.2.2)).1, ((z_34.1, u9.1, z_34.2.2.1, z_34.2.2.2)).2.1, u9.2.1, ((z_34.1, u9.1, z_34.2.2.1, z_34.2.2.2)).2.2.2)).2.1, ((((z_34.1, u9.1, z_34.2.2.1, z_34.2.2.2)).1, ((z_34.1, u9.1, z_34.2.2.1, z_34.2.2.2)).2.1, u9.2.1, ((z_34.1, u9.1, z_34.2.2.1, z_34.2.2.2)).2.2.2)).2.2.1, u9.2.2))).2.2.2)) X hml hl.1 (c2_chanceBy l G (ad 6) (ad 8) (ad 9) z_34.2 k S hF_34 ho hM_34 (by omega) hc (by omega) (by omega)) ok2_chanceBy wm_X7_176 ⟨Nat.le_of_ble_eq_true rfl, Nat.le_of_ble_eq_true rfl⟩ ⟨Nat.le_refl _, Nat.le_refl _⟩ w [10, 11, 12, 13, 14, 15, 16, 17, 18, 19, 20, 21, 22, 23, 24, 25, 26, 27, 28, 29, 30, 31] [0, 1, 2, 3, 4, 5, 6, 7, 8, 9] [0, 1, 2, 3, 4, 5, 6, 7, 8, 9, 10, 11, 12, 13, 14, 15, 16, 17, 18, 19, 20, 21, 22, 23, 24, 25, 26, 27, 28, 29, 30, 31] rfl (by decide) rfl (by decide) (by decide) (fun _ => rfl) (by decide) rfl rfl rfl (Nat.le_of_ble_eq_true rfl) dX7_chance_42 (fun r_42 u_42 H locs hr_42 w => ?_)
      obtain ⟨z_42, ez_42⟩ : ∃ q9 : RS × RS × RS × RS, q9 = (((((z_34.1, u_42.1, z_34.2.2.1, z_34.2.2.2)).1, ((z_34.1, u_42.1, z_34.2.2.1, z_34.2.2.2)).2.1, u_42.2.1, ((z_34.1, u_42.1, z_34.2.2.1, z_34.2.2.2)).2.2.2)).1, ((((z_34.1, u_42.1, z_34.2.2.1, z_34.2.2.2)).1, ((z_34.1, u_42.1, z_34.2.2.1, z_34.2.2.2)).2.1, u_42.2.1, ((z_34.1, u_42.1, z_34.2.2.1, z_34.2.2.2)).2.2.2)).2.1, ((((z_34.1, u_42.1, z_34.2.2.1, z_34.2.2.2)).1, ((z_34.1, u_42.1, z_34.2.2.1, z_34.2.2.2)).2.1, u_42.2.1, ((z_34.1, u_42.1, z_34.2.2.1, z_34.2.2.2)).2.2.2)).2.2.1, u_42.2.2) := ⟨_, rfl⟩
      have w : cW G A s (wO G a ad zt ++ w5 G (ad 0) z_42.1 ++ wFo G ad z_42.2.1 ++ w5 G (ad 8) z_42.2.2.1 ++ w0 G (ad 9) z_42.2.2.2) H locs := by rw [ez_42]; exact w
      have eu_42_fo : z_42.2.1 = u_42.1 := by rw [ez_42]
      try rw [← eu_42_fo] at hr_42
      have eu_42_tr : z_42.2.2.1 = u_42.2.1 := by rw [ez_42]
      try rw [← eu_42_tr] at hr_42
      have eu_42_ch : z_42.2.2.2 = u_42.2.2 := by rw [ez_42]
      try rw [← eu_42_ch] at hr_42
      have ek_42_sc : z_42.1 = z_34.1 := by rw [ez_42]
      exact ce_i (w := (fun q9 : RS × RS × RS × RS => wO G a ad zt ++ w5 G (ad 0) q9.1 ++ wFo G ad q9.2.1 ++ w5 G (ad 8) q9.2.2.1 ++ w0 G (ad 9) q9.2.2.2)) (z := z_42) X hr hk w (⟨by rw [hr_42]; unfold an_chance; rw [if_pos (by omega), if_pos (by omega), show ta9.toInt.toNat = k by omega], by rw [ek_42_sc]; exact hk_34⟩) dX7_chance_45
    · skip
      refine lv_bipush (v := (iZ (-2))) hx hb dX7_chance_23 (by decide) ?_
      exact ce_i (w := (fun q9 : RS × RS × RS × RS => wO G a ad zt ++ w5 G (ad 0) q9.1 ++ wFo G ad q9.2.1 ++ w5 G (ad 8) q9.2.2.1 ++ w0 G (ad 9) q9.2.2.2)) (z := z) X hr hk w (⟨by unfold an_chance; rw [if_pos (by omega), if_neg (by omega)], rfl⟩) dX7_chance_25
  · skip
    refine lv_iconst (v := (iZ (-1))) hx hb dX7_chance_11 (by decide) ?_
    exact ce_i (w := (fun q9 : RS × RS × RS × RS => wO G a ad zt ++ w5 G (ad 0) q9.1 ++ wFo G ad q9.2.1 ++ w5 G (ad 8) q9.2.2.1 ++ w0 G (ad 9) q9.2.2.2)) (z := z) X hr hk w (⟨by unfold an_chance; rw [if_neg (by omega)], rfl⟩) dX7_chance_12

theorem ok7_best : cOk RX7 yX7_best cX7_best 3 (some .int) 1 := ⟨wc_X7_best, wi_X7_best, ws_X7_best, wn_X7, rfl, by decide, by decide, by decide +kernel⟩
set_option maxHeartbeats 4000000 in
set_option maxRecDepth 100000 in
theorem c7_best (l : Launch) (G : CG) (a : Nat → Nat) (ad : Nat → Nat → Nat) (zt : RS) (z : RS × RS × RS × RS) (wa9 : Int32) (S : Sc) (hT : cSc z.1 S) (ho : oSc S) (hm : S.1 3 ≤ 400)  : cMi G l yX7_best cX7_best 3 (some .int) 6 163 [.ref (a 0), .int wa9] (fun q9 : RS × RS × RS × RS => wO G a ad zt ++ w5 G (ad 0) q9.1 ++ wFo G ad q9.2.1 ++ w5 G (ad 8) q9.2.2.1 ++ w0 G (ad 9) q9.2.2.2) z (fun r z9 => r = an_best S wa9 ∧ z9.1 = z.1) := by
  refine cMi_in (by decide) rfl (Nat.le_of_ble_eq_true rfl) ?_
  intro p e s m args below meth c A ls X hml hr hk hl w
  have hx := X.1
  have hb := X.2.1
  have hts := X.2.2.1
  have hown := X.2.2.2.1
  have hl : lv_has ls 3 [(0, .ref (a 0)), (1, .int wa9)] := hl
  obtain ⟨o1, o2, o3, o4, o5, o6, oso, oki, osr, opa, ohu, oco⟩ := id ho
  refine lv_iload_n hx hb dX7_best_0 rfl (lv_at hl 1 rfl) ?_
  refine lv_iconst (v := (nI 0)) hx hb dX7_best_1 (by decide) ?_
  refine lv_iconst (v := (nI 1)) hx hb dX7_best_2 (by decide) ?_
  refine gc_s (C := RX7) (rest := []) ⟨X.1, X.2.1, X.2.2.1, X.2.2.2.1⟩ hml hl.1 (c7_within l wa9 (nI 0) (nI 1)) ok7_within wm_X7_50 ⟨Nat.le_of_ble_eq_true rfl, Nat.le_of_ble_eq_true rfl⟩ ⟨Nat.le_refl _, Nat.le_refl _⟩ rfl (Nat.le_of_ble_eq_true rfl) dX7_best_3 (fun r_3 hr_3 => ?_) rfl
  subst hr_3
  refine tp_i (congrArg nI (w3_I rfl (by decide) (by decide) : _ = pc_inI wa9.toInt ((0 : Int)) ((1 : Int)))) ?_
  have d_3 := pc_inI_ok wa9.toInt ((0 : Int)) ((1 : Int))
  refine n_if_ne (tgt := 11) hx hb dX7_best_6 (by decide) (by omega) (fun c_6_1 => ?_) (fun c_6_1 => ?_)
  · skip
    refine lv_aload_n hx hb dX7_best_11 rfl (lv_at hl 0 rfl) ?_
    refine gc_p (C := RX7) (ci := 6) (rest := []) X hml hl.1 (c7_mayTurn l G a ad zt z.1 S hT ho) ok7_mayTurn wm_X7_163 ⟨Nat.le_of_ble_eq_true rfl, Nat.le_of_ble_eq_true rfl⟩ ⟨Nat.le_refl _, Nat.le_refl _⟩ w.1 [0, 1, 2, 3, 4, 5, 6, 7, 8, 9] rfl rfl rfl rfl (Nat.le_of_ble_eq_true rfl) dX7_best_12 (fun r_12 hr_12 => ?_)
    subst hr_12
    have d_12 := may_ok S
    refine n_if_ne (tgt := 21) hx hb dX7_best_15 (by decide) (by omega) (fun c_15_2 => ?_) (fun c_15_2 => ?_)
    · skip
      have hov := ov_0 (show sp_over S = 0 by omega)
      have hnt : S.1 4 = 0 := by omega
      obtain ⟨k, hk_k, ek_k⟩ := iv_n (x := wa9) (by omega)
      have hl : lv_has ls 3 [(0, .ref (a 0)), (1, .int (nI k))] := by rw [← ek_k]; exact hl
      refine lv_aload_n hx hb dX7_best_21 rfl (lv_at hl 0 rfl) ?_
      refine ag_XF_X7_39_this X w.1 dX7_best_22 ?_
      refine lv_aload_n hx hb dX7_best_25 rfl (lv_at hl 0 rfl) ?_
      refine ag_XF_X7_10_this X w.1 dX7_best_26 ?_
      refine gc_v (C := RX2) (ci := 2) (rest := []) (w := (fun q9 : RS × RS × RS => wF G (ad 6) (ad 8) (ad 9) q9 ++ w5 G (ad 0) z.1)) (wr := [((a 0), .inr (6, [.ref ((ad 0) 0), .ref (ad 1 0), .ref (ad 2 0), .ref (ad 3 0), .int (zt.1 4), .ref (ad 5 0), .ref ((ad 6) 0), .ref (a 8)])), ((a 8), .inl (G.2.2.2, 4, .inr (.inr (.inr (.inr (fun j => some (ad (10 + j) 0)))))))]) (wn := (fun u9 => wO G a ad zt ++ w5 G (ad 0) (((((((z.1, u9.1, z.2.2.1, z.2.2.2)).1, ((z.1, u9.1, z.2.2.1, z.2.2.2)).2.1, u9.2.1, ((z.1, u9.1, z.2.2.1, z.2.2.2)).2.2.2)).1, ((((z.1, u9.1, z.2.2.1, z.2.2.2)).1, ((z.1, u9.1, z.2.2.1, z.2.2.2)).2.1, u9.2.1, ((z.1, u9.1, z.2.2.1, z.2.2.2)).2.2.2)).2.1, ((((z.1, u9.1, z.2.2.1, z.2.2.2)).1, ((z.1, u9.1, z.2.2.1, z.2.2.2)).2.1, u9.2.1, ((z.1, u9.1, z.2.2.1, z.2.2.2)).2.2.2)).2.2.1, u9.2.2))).1 ++ wFo G ad (((((((z.1, u9.1, z.2.2.1, z.2.2.2)).1, ((z.1, u9.1, z.2.2.1, z.2.2.2)).2.1, u9.2.1, ((z.1, u9.1, z.2.2.1, z.2.2.2)).2.2.2)).1, ((((z.1, u9.1, z.2.2.1, z.2.2.2)).1, ((z.1, u9.1, z.2.2.1, z.2.2.2)).2.1, u9.2.1, ((z.1, u9.1, z.2.2.1, z.2.2.2)).2.2.2)).2.1, ((((z.1, u9.1, z.2.2.1, z.2.2.2)).1, ((z.1, u9.1, z.2.2.1, z.2.2.2)).2.1, u9.2.1, ((z.1, u9.1, z.2.2.1, z.2.2.2)).2.2.2)).2.2.1, u9.2.2))).2.1 ++ w5 G (ad 8) (((((((z.1, u9.1, z.2.2.1, z.2.2.2)).1, ((z.1, u9.1, z.2.2.1, z.2.2.2)).2.1, u9.2.1, ((z.1, u9.1, z.2.2.1, z.2.2.2)).2.2.2)).1, ((((z.1, u9.1, z.2.2.1, z.2.2.2)).1, ((z.1, u9.1, z.2.2.1, z.2.2.2)).2.1, u9.2.1, ((z.1, u9.1, z.2.2.1, z.2.2.2)).2.2.2)).2.1, ((((z.1, u9.1, z.2.2.1, z.2.2.2)).1, ((z.1, u9.1, z.2.2.1, z.2.2.2)).2.1, u9.2.1, ((z.1, u9.1, z.2.2.1, z.2.2.2)).2.2.2)).2.2.1, u9.2.2))).2.2.1 ++ w0 G (ad 9) (((((((z.1, u9.1, z.2.2.1, z.2.2.2)).1, ((z.1, u9.1, z.2.2.1, z.2.2.2)).2.1, u9.2.1, ((z.1, u9.1, z.2.2.1, z.2.2.2)).2.2.2)).1, ((((z.1, u9.1, z.2.2.1, z.2.2.2)).1, ((z.1, u9.1, z.2.2.1, z.2.2.2)).2.1, u9.2.1, ((z.1, u9.1, z.2.2.1, z.2.2.2)).2.2.2)).2.1, ((((z.1, u9.1, z.2.2.1, z.2.2.2)).1, ((z.1, u9.1, z.2.2.1, z.2.2.2)).2.1, u9.2.1, ((z.1, u9.1, z.2.2.1, z.2.2.2)).2.2.2)).2.2.1, u9.2.2))).2.2.2)) X hml hl.1 (c2_begin l G (ad 6) (ad 8) (ad 9) (ad 0) z.1 z.2) ok2_begin wm_X7_173 ⟨Nat.le_of_ble_eq_true rfl, Nat.le_of_ble_eq_true rfl⟩ ⟨Nat.le_refl _, Nat.le_refl _⟩ w [10, 11, 12, 13, 14, 15, 16, 17, 18, 19, 20, 21, 22, 23, 24, 25, 26, 27, 28, 29, 30, 31, 2, 3, 4, 5, 6, 7, 8, 9] [0, 1] [0, 1, 24, 25, 26, 27, 28, 29, 30, 31, 2, 3, 4, 5, 6, 7, 8, 9, 10, 11, 12, 13, 14, 15, 16, 17, 18, 19, 20, 21, 22, 23] rfl (by decide) rfl (by decide) (by decide) (fun _ => rfl) (by decide) rfl rfl rfl (Nat.le_of_ble_eq_true rfl) dX7_best_29 (fun u_29 H locs hr_29 w => ?_)
      obtain ⟨z_29, ez_29⟩ : ∃ q9 : RS × RS × RS × RS, q9 = (((((z.1, u_29.1, z.2.2.1, z.2.2.2)).1, ((z.1, u_29.1, z.2.2.1, z.2.2.2)).2.1, u_29.2.1, ((z.1, u_29.1, z.2.2.1, z.2.2.2)).2.2.2)).1, ((((z.1, u_29.1, z.2.2.1, z.2.2.2)).1, ((z.1, u_29.1, z.2.2.1, z.2.2.2)).2.1, u_29.2.1, ((z.1, u_29.1, z.2.2.1, z.2.2.2)).2.2.2)).2.1, ((((z.1, u_29.1, z.2.2.1, z.2.2.2)).1, ((z.1, u_29.1, z.2.2.1, z.2.2.2)).2.1, u_29.2.1, ((z.1, u_29.1, z.2.2.1, z.2.2.2)).2.2.2)).2.2.1, u_29.2.2) := ⟨_, rfl⟩
      have w : cW G A s (wO G a ad zt ++ w5 G (ad 0) z_29.1 ++ wFo G ad z_29.2.1 ++ w5 G (ad 8) z_29.2.2.1 ++ w0 G (ad 9) z_29.2.2.2) H locs := by rw [ez_29]; exact w
      have eu_29_fo : z_29.2.1 = u_29.1 := by rw [ez_29]
      try rw [← eu_29_fo] at hr_29
      have eu_29_tr : z_29.2.2.1 = u_29.2.1 := by rw [ez_29]
      try rw [← eu_29_tr] at hr_29
      have eu_29_ch : z_29.2.2.2 = u_29.2.2 := by rw [ez_29]
      try rw [← eu_29_ch] at hr_29
      have ek_29_sc : z_29.1 = z.1 := by rw [ez_29]
      have hT_29 : cSc z_29.1 S := by rw [ek_29_sc]; exact hT
      have hF_29 : cSc z_29.2.2.1 S := cEq_c hr_29.1 o2 o3 hT
      have hM_29 : chM S z_29.2.2.2 := chM_0 hr_29.2.1
      have hk_29 : z_29.1 = z.1 := ek_29_sc
      refine lv_aload_n hx hb dX7_best_32 rfl (lv_at hl 0 rfl) ?_
      refine ag_XF_X7_39_this X w.1 dX7_best_33 ?_
      refine lv_bipush (v := (nI 61)) hx hb dX7_best_36 (by decide) ?_
      refine gc_i (C := RX2) (ci := 2) (rest := []) (w := (fun q9 : RS × RS × RS => wF G (ad 6) (ad 8) (ad 9) q9)) (wr := [((a 0), .inr (6, [.ref ((ad 0) 0), .ref (ad 1 0), .ref (ad 2 0), .ref (ad 3 0), .int (zt.1 4), .ref (ad 5 0), .ref ((ad 6) 0), .ref (a 8)])), ((a 8), .inl (G.2.2.2, 4, .inr (.inr (.inr (.inr (fun j => some (ad (10 + j) 0))))))), (((ad 0) 0), .inr (4, [.int (z_29.1.1 0), .ref ((ad 0) 2), .ref ((ad 0) 3), .int (z_29.1.1 3), .ref ((ad 0) 5), .ref ((ad 0) 6), .ref ((ad 0) 7), .ref ((ad 0) 8), .int (z_29.1.1 8), .int (z_29.1.1 9), .int (z_29.1.1 10), .ref ((ad 0) 12), .int (z_29.1.1 12)])), (((ad 0) 2), .inl (G.2.1, 40, .inl (z_29.1.2.1 1))), (((ad 0) 3), .inl (G.2.1, 40, .inl (z_29.1.2.1 2))), (((ad 0) 5), .inl (G.2.1, 5, .inl (z_29.1.2.1 4))), (((ad 0) 6), .inl (G.2.1, 5, .inl (z_29.1.2.1 5))), (((ad 0) 7), .inl (G.2.1, 5, .inl (z_29.1.2.1 6))), (((ad 0) 8), .inl (G.2.1, 5, .inl (z_29.1.2.1 7))), (((ad 0) 12), .inl (G.2.1, 5, .inl (z_29.1.2.1 11)))]) (wn := (fun u9 => wO G a ad zt ++ w5 G (ad 0) (((((((z_29.1, u9.1, z_29.2.2.1, z_29.2.2.2)).1, ((z_29.1, u9.1, z_29.2.2.1, z_29.2.2.2)).2.1, u9.2.1, ((z_29.1, u9.1, z_29.2.2.1, z_29.2.2.2)).2.2.2)).1, ((((z_29.1, u9.1, z_29.2.2.1, z_29.2.2.2)).1, ((z_29.1, u9.1, z_29.2.2.1, z_29.2.2.2)).2.1, u9.2.1, ((z_29.1, u9.1, z_29.2.2.1, z_29.2.2.2)).2.2.2)).2.1, ((((z_29.1, u9.1, z_29.2.2.1, z_29.2.2.2)).1, ((z_29.1, u9.1, z_29.2.2.1, z_29.2.2.2)).2.1, u9.2.1, ((z_29.1, u9.1, z_29.2.2.1, z_29.2.2.2)).2.2.2)).2.2.1, u9.2.2))).1 ++ wFo G ad (((((((z_29.1, u9.1, z_29.2.2.1, z_29.2.2.2)).1, ((z_29.1, u9.1, z_29.2.2.1, z_29.2.2.2)).2.1, u9.2.1, ((z_29.1, u9.1, z_29.2.2.1, z_29.2.2.2)).2.2.2)).1, ((((z_29.1, u9.1, z_29.2.2.1, z_29.2.2.2)).1, ((z_29.1, u9.1, z_29.2.2.1, z_29.2.2.2)).2.1, u9.2.1, ((z_29.1, u9.1, z_29.2.2.1, z_29.2.2.2)).2.2.2)).2.1, ((((z_29.1, u9.1, z_29.2.2.1, z_29.2.2.2)).1, ((z_29.1, u9.1, z_29.2.2.1, z_29.2.2.2)).2.1, u9.2.1, ((z_29.1, u9.1, z_29.2.2.1, z_29.2.2.2)).2.2.2)).2.2.1, u9.2.2))).2.1 ++ w5 G (ad 8) (((((((z_29.1, u9.1, z_29.2.2.1, z_29.2.2.2)).1, ((z_29.1, u9.1, z_29.2.2.1, z_29.2.2.2)).2.1, u9.2.1, ((z_29.1, u9.1, z_29.2.2.1, z_29.2.2.2)).2.2.2)).1, ((((z_29.1, u9.1, z_29.2.2.1, z_29.2.2.2)).1, ((z_29.1, u9.1, z_29.2.2.1, z_29.2.2.2)).2.1, u9.2.1, ((z_29.1, u9.1, z_29.2.2.1, z_29.2.2.2)).2.2.2)).2.1, ((((z_29.1, u9.1, z_29.2.2.1, z_29.2.2.2)).1, ((z_29.1, u9.1, z_29.2.2.1, z_29.2.2.2)).2.1, u9.2.1, ((z_29.1, u9.1, z_29.2.2.1, z_29.2.2.2)).2.2.2)).2.2.1, u9.2.2))).2.2.1 ++ w0 G (ad 9) (((((((z_29.1, u9.1, z_29.2.2.1, z_29.2.2.2)).1, ((z_29.1, u9.1, z_29.2.2.1, z_29.2.2.2)).2.1, u9.2.1, ((z_29.1, u9.1, z_29.2.2.1, z_29.2.2.2)).2.2.2)).1, ((((z_29.1, u9.1, z_29.2.2.1, z_29.2.2.2)).1, ((z_29.1, u9.1, z_29.2.2.1, z_29.2.2.2)).2.1, u9.2.1, ((z_29.1, u9.1, z_29.2.2.1, z_29.2.2.2)).2.2.2)).2.1, ((((z_29.1, u9.1, z_29.2.2.1, z_29.2.2.2)).1, ((z_29.1, u9.1, z_29.2.2.1, z_29.2.2.2)).2.1, u9.2.1, ((z_29.1, u9.1, z_29.2.2.1, z_29.2.2.2)).2.2.2)).2.2.1, u9.2.2))).2.2.2)) X hml hl.1 (c2_foresee l G (ad 6) (ad 8) (ad 9) z_29.2 61 S hF_29 ho hM_29 hov.1 hov.2 hnt (by omega) (by omega)) ok2_foresee wm_X7_179 ⟨Nat.le_of_ble_eq_true rfl, Nat.le_of_ble_eq_true rfl⟩ ⟨Nat.le_refl _, Nat.le_refl _⟩ w [10, 11, 12, 13, 14, 15, 16, 17, 18, 19, 20, 21, 22, 23, 24, 25, 26, 27, 28, 29, 30, 31] [0, 1, 2, 3, 4, 5, 6, 7, 8, 9] [0, 1, 2, 3, 4, 5, 6, 7, 8, 9, 10, 11, 12, 13, 14, 15, 16, 17, 18, 19, 20, 21, 22, 23, 24, 25, 26, 27, 28, 29, 30, 31] rfl (by decide) rfl (by decide) (by decide) (fun _ => rfl) (by decide) rfl rfl rfl (Nat.le_of_ble_eq_true rfl) dX7_best_38 (fun r_38 u_38 H locs hr_38 w => ?_)
      obtain ⟨z_38, ez_38⟩ : ∃ q9 : RS × RS × RS × RS, q9 = (((((z_29.1, u_38.1, z_29.2.2.1, z_29.2.2.2)).1, ((z_29.1, u_38.1, z_29.2.2.1, z_29.2.2.2)).2.1, u_38.2.1, ((z_29.1, u_38.1, z_29.2.2.1, z_29.2.2.2)).2.2.2)).1, ((((z_29.1, u_38.1, z_29.2.2.1, z_29.2.2.2)).1, ((z_29.1, u_38.1, z_29.2.2.1, z_29.2.2.2)).2.1, u_38.2.1, ((z_29.1, u_38.1, z_29.2.2.1, z_29.2.2.2)).2.2.2)).2.1, ((((z_29.1, u_38.1, z_29.2.2.1, z_29.2.2.2)).1, ((z_29.1, u_38.1, z_29.2.2.1, z_29.2.2.2)).2.1, u_38.2.1, ((z_29.1, u_38.1, z_29.2.2.1, z_29.2.2.2)).2.2.2)).2.2.1, u_38.2.2) := ⟨_, rfl⟩
      have w : cW G A s (wO G a ad zt ++ w5 G (ad 0) z_38.1 ++ wFo G ad z_38.2.1 ++ w5 G (ad 8) z_38.2.2.1 ++ w0 G (ad 9) z_38.2.2.2) H locs := by rw [ez_38]; exact w
      have eu_38_fo : z_38.2.1 = u_38.1 := by rw [ez_38]
      try rw [← eu_38_fo] at hr_38
      have eu_38_tr : z_38.2.2.1 = u_38.2.1 := by rw [ez_38]
      try rw [← eu_38_tr] at hr_38
      have eu_38_ch : z_38.2.2.2 = u_38.2.2 := by rw [ez_38]
      try rw [← eu_38_ch] at hr_38
      have ek_38_sc : z_38.1 = z_29.1 := by rw [ez_38]
      obtain ⟨hr_38, hrow, htr, hM_38⟩ := hr_38
      subst hr_38
      have hT_38 : cSc z_38.1 S := by rw [ek_38_sc]; exact hT_29
      have hF_38 : cSc z_38.2.2.1 S := by rw [htr]; exact hF_29
      have hk_38 : z_38.1 = z.1 := by rw [ek_38_sc]; exact hk_29
      have d_38 := mq_le S 0 61
      refine lv_istore_n (lv' := [(2, .int (nI (sp_mq S 0 61 - 1))), (0, .ref (a 0)), (1, .int (nI k))]) hx hb dX7_best_41 rfl hl (by decide) rfl (fun ls hl => ?_)
      refine lv_iload_n hx hb dX7_best_42 rfl (lv_at hl 2 rfl) ?_
      refine n_if_ne (tgt := 57) hx hb dX7_best_43 (by decide) (by omega) (fun c_43_3 => ?_) (fun c_43_3 => ?_)
      · skip
        refine lv_iload_n hx hb dX7_best_57 rfl (lv_at hl 0 rfl) ?_
        exact ce_i (w := (fun q9 : RS × RS × RS × RS => wO G a ad zt ++ w5 G (ad 0) q9.1 ++ wFo G ad q9.2.1 ++ w5 G (ad 8) q9.2.2.1 ++ w0 G (ad 9) q9.2.2.2)) (z := z_38) X hr hk w (⟨by unfold an_best; rw [if_pos (by omega), if_pos (by omega), if_neg (by omega)]; rfl, hk_38⟩) dX7_best_58
      · skip
        refine lv_aload_n hx hb dX7_best_46 rfl (lv_at hl 1 rfl) ?_
        refine ag_XF_X7_39_this X w.1 dX7_best_47 ?_
        refine lv_iload_n hx hb dX7_best_50 rfl (lv_at hl 0 rfl) ?_
        refine gc_p (C := RX2) (ci := 2) (rest := []) X hml hl.1 (c2_firstWith l G (ad 6) (ad 8) (ad 9) z_38.2 (sp_mq S 0 61 - 1) S hF_38 ho rfl (by omega) hrow) ok2_firstWith wm_X7_182 ⟨Nat.le_of_ble_eq_true rfl, Nat.le_of_ble_eq_true rfl⟩ ⟨Nat.le_refl _, Nat.le_refl _⟩ w.1 [10, 11, 12, 13, 14, 15, 16, 17, 18, 19, 20, 21, 22, 23, 24, 25, 26, 27, 28, 29, 30, 31] rfl rfl rfl rfl (Nat.le_of_ble_eq_true rfl) dX7_best_51 (fun r_51 hr_51 => ?_)
        refine lv_goto (tgt := 58) hx hb dX7_best_54 (by decide) ?_
        exact ce_i (w := (fun q9 : RS × RS × RS × RS => wO G a ad zt ++ w5 G (ad 0) q9.1 ++ wFo G ad q9.2.1 ++ w5 G (ad 8) q9.2.2.1 ++ w0 G (ad 9) q9.2.2.2)) (z := z_38) X hr hk w (⟨by rw [hr_51]; unfold an_best; rw [if_pos (by omega), if_pos (by omega), if_pos (by omega)], hk_38⟩) dX7_best_58
    · skip
      refine lv_bipush (v := (iZ (-2))) hx hb dX7_best_18 (by decide) ?_
      exact ce_i (w := (fun q9 : RS × RS × RS × RS => wO G a ad zt ++ w5 G (ad 0) q9.1 ++ wFo G ad q9.2.1 ++ w5 G (ad 8) q9.2.2.1 ++ w0 G (ad 9) q9.2.2.2)) (z := z) X hr hk w (⟨by unfold an_best; rw [if_pos (by omega), if_neg (by omega)], rfl⟩) dX7_best_20
  · skip
    refine lv_iconst (v := (iZ (-1))) hx hb dX7_best_9 (by decide) ?_
    exact ce_i (w := (fun q9 : RS × RS × RS × RS => wO G a ad zt ++ w5 G (ad 0) q9.1 ++ wFo G ad q9.2.1 ++ w5 G (ad 8) q9.2.2.1 ++ w0 G (ad 9) q9.2.2.2)) (z := z) X hr hk w (⟨by unfold an_best; rw [if_neg (by omega)], rfl⟩) dX7_best_10

theorem ok7_late : cOk RX7 yX7_late cX7_late 2 (some .int) 1 := ⟨wc_X7_late, wi_X7_late, ws_X7_late, wn_X7, rfl, by decide, by decide, by decide +kernel⟩
set_option maxHeartbeats 4000000 in
set_option maxRecDepth 100000 in
theorem c7_late (l : Launch) (G : CG) (a : Nat → Nat) (ad : Nat → Nat → Nat) (zt : RS) (z : RS × RS × RS × RS) (wa9 : Int32) (S : Sc) (hT : cSc z.1 S) (ho : oSc S) (hm : S.1 3 ≤ 400)  : cMi G l yX7_late cX7_late 2 (some .int) 6 163 [.ref (a 0), .int wa9] (fun q9 : RS × RS × RS × RS => wO G a ad zt ++ w5 G (ad 0) q9.1 ++ wFo G ad q9.2.1 ++ w5 G (ad 8) q9.2.2.1 ++ w0 G (ad 9) q9.2.2.2) z (fun r z9 => r = an_late S wa9 ∧ z9.1 = z.1) := by
  refine cMi_in (by decide) rfl (Nat.le_of_ble_eq_true rfl) ?_
  intro p e s m args below meth c A ls X hml hr hk hl w
  have hx := X.1
  have hb := X.2.1
  have hts := X.2.2.1
  have hown := X.2.2.2.1
  have hl : lv_has ls 2 [(0, .ref (a 0)), (1, .int wa9)] := hl
  obtain ⟨o1, o2, o3, o4, o5, o6, oso, oki, osr, opa, ohu, oco⟩ := id ho
  refine lv_iload_n hx hb dX7_late_0 rfl (lv_at hl 1 rfl) ?_
  refine lv_iconst (v := (nI 0)) hx hb dX7_late_1 (by decide) ?_
  refine lv_ldc hx hb hown (hts _ wk_X7_185) dX7_late_2 ?_
  refine tp_i (show (1000000 : Int32) = (nI 1000000) from by decide) ?_
  refine gc_s (C := RX7) (rest := []) ⟨X.1, X.2.1, X.2.2.1, X.2.2.2.1⟩ hml hl.1 (c7_within l wa9 (nI 0) (nI 1000000)) ok7_within wm_X7_50 ⟨Nat.le_of_ble_eq_true rfl, Nat.le_of_ble_eq_true rfl⟩ ⟨Nat.le_refl _, Nat.le_refl _⟩ rfl (Nat.le_of_ble_eq_true rfl) dX7_late_4 (fun r_4 hr_4 => ?_) rfl
  subst hr_4
  refine tp_i (congrArg nI (w3_I rfl (by decide) (by decide) : _ = pc_inI wa9.toInt ((0 : Int)) ((1000000 : Int)))) ?_
  have d_4 := pc_inI_ok wa9.toInt ((0 : Int)) ((1000000 : Int))
  refine n_if_ne (tgt := 12) hx hb dX7_late_7 (by decide) (by omega) (fun c_7_1 => ?_) (fun c_7_1 => ?_)
  · skip
    refine lv_aload_n hx hb dX7_late_12 rfl (lv_at hl 0 rfl) ?_
    refine gc_p (C := RX7) (ci := 6) (rest := []) X hml hl.1 (c7_mayTurn l G a ad zt z.1 S hT ho) ok7_mayTurn wm_X7_163 ⟨Nat.le_of_ble_eq_true rfl, Nat.le_of_ble_eq_true rfl⟩ ⟨Nat.le_refl _, Nat.le_refl _⟩ w.1 [0, 1, 2, 3, 4, 5, 6, 7, 8, 9] rfl rfl rfl rfl (Nat.le_of_ble_eq_true rfl) dX7_late_13 (fun r_13 hr_13 => ?_)
    subst hr_13
    have d_13 := may_ok S
    refine n_if_ne (tgt := 22) hx hb dX7_late_16 (by decide) (by omega) (fun c_16_2 => ?_) (fun c_16_2 => ?_)
    · skip
      have hov := ov_0 (show sp_over S = 0 by omega)
      have hnt : S.1 4 = 0 := by omega
      obtain ⟨k, hk_k, ek_k⟩ := iv_n (x := wa9) (by omega)
      have hl : lv_has ls 2 [(0, .ref (a 0)), (1, .int (nI k))] := by rw [← ek_k]; exact hl
      refine lv_aload_n hx hb dX7_late_22 rfl (lv_at hl 0 rfl) ?_
      refine ag_XF_X7_39_this X w.1 dX7_late_23 ?_
      refine lv_aload_n hx hb dX7_late_26 rfl (lv_at hl 0 rfl) ?_
      refine ag_XF_X7_10_this X w.1 dX7_late_27 ?_
      refine gc_v (C := RX2) (ci := 2) (rest := []) (w := (fun q9 : RS × RS × RS => wF G (ad 6) (ad 8) (ad 9) q9 ++ w5 G (ad 0) z.1)) (wr := [((a 0), .inr (6, [.ref ((ad 0) 0), .ref (ad 1 0), .ref (ad 2 0), .ref (ad 3 0), .int (zt.1 4), .ref (ad 5 0), .ref ((ad 6) 0), .ref (a 8)])), ((a 8), .inl (G.2.2.2, 4, .inr (.inr (.inr (.inr (fun j => some (ad (10 + j) 0)))))))]) (wn := (fun u9 => wO G a ad zt ++ w5 G (ad 0) (((((((z.1, u9.1, z.2.2.1, z.2.2.2)).1, ((z.1, u9.1, z.2.2.1, z.2.2.2)).2.1, u9.2.1, ((z.1, u9.1, z.2.2.1, z.2.2.2)).2.2.2)).1, ((((z.1, u9.1, z.2.2.1, z.2.2.2)).1, ((z.1, u9.1, z.2.2.1, z.2.2.2)).2.1, u9.2.1, ((z.1, u9.1, z.2.2.1, z.2.2.2)).2.2.2)).2.1, ((((z.1, u9.1, z.2.2.1, z.2.2.2)).1, ((z.1, u9.1, z.2.2.1, z.2.2.2)).2.1, u9.2.1, ((z.1, u9.1, z.2.2.1, z.2.2.2)).2.2.2)).2.2.1, u9.2.2))).1 ++ wFo G ad (((((((z.1, u9.1, z.2.2.1, z.2.2.2)).1, ((z.1, u9.1, z.2.2.1, z.2.2.2)).2.1, u9.2.1, ((z.1, u9.1, z.2.2.1, z.2.2.2)).2.2.2)).1, ((((z.1, u9.1, z.2.2.1, z.2.2.2)).1, ((z.1, u9.1, z.2.2.1, z.2.2.2)).2.1, u9.2.1, ((z.1, u9.1, z.2.2.1, z.2.2.2)).2.2.2)).2.1, ((((z.1, u9.1, z.2.2.1, z.2.2.2)).1, ((z.1, u9.1, z.2.2.1, z.2.2.2)).2.1, u9.2.1, ((z.1, u9.1, z.2.2.1, z.2.2.2)).2.2.2)).2.2.1, u9.2.2))).2.1 ++ w5 G (ad 8) (((((((z.1, u9.1, z.2.2.1, z.2.2.2)).1, ((z.1, u9.1, z.2.2.1, z.2.2.2)).2.1, u9.2.1, ((z.1, u9.1, z.2.2.1, z.2.2.2)).2.2.2)).1, ((((z.1, u9.1, z.2.2.1, z.2.2.2)).1, ((z.1, u9.1, z.2.2.1, z.2.2.2)).2.1, u9.2.1, ((z.1, u9.1, z.2.2.1, z.2.2.2)).2.2.2)).2.1, ((((z.1, u9.1, z.2.2.1, z.2.2.2)).1, ((z.1, u9.1, z.2.2.1, z.2.2.2)).2.1, u9.2.1, ((z.1, u9.1, z.2.2.1, z.2.2.2)).2.2.2)).2.2.1, u9.2.2))).2.2.1 ++ w0 G (ad 9) (((((((z.1, u9.1, z.2.2.1, z.2.2.2)).1, ((z.1, u9.1, z.2.2.1, z.2.2.2)).2.1, u9.2.1, ((z.1, u9.1, z.2.2.1, z.2.2.2)).2.2.2)).1, ((((z.1, u9.1, z.2.2.1, z.2.2.2)).1, ((z.1, u9.1, z.2.2.1, z.2.2.2)).2.1, u9.2.1, ((z.1, u9.1, z.2.2.1, z.2.2.2)).2.2.2)).2.1, ((((z.1, u9.1, z.2.2.1, z.2.2.2)).1, ((z.1, u9.1, z.2.2.1, z.2.2.2)).2.1, u9.2.1, ((z.1, u9.1, z.2.2.1, z.2.2.2)).2.2.2)).2.2.1, u9.2.2))).2.2.2)) X hml hl.1 (c2_begin l G (ad 6) (ad 8) (ad 9) (ad 0) z.1 z.2) ok2_begin wm_X7_173 ⟨Nat.le_of_ble_eq_true rfl, Nat.le_of_ble_eq_true rfl⟩ ⟨Nat.le_refl _, Nat.le_refl _⟩ w [10, 11, 12, 13, 14, 15, 16, 17, 18, 19, 20, 21, 22, 23, 24, 25, 26, 27, 28, 29, 30, 31, 2, 3, 4, 5, 6, 7, 8, 9] [0, 1] [0, 1, 24, 25, 26, 27, 28, 29, 30, 31, 2, 3, 4, 5, 6, 7, 8, 9, 10, 11, 12, 13, 14, 15, 16, 17, 18, 19, 20, 21, 22, 23] rfl (by decide) rfl (by decide) (by decide) (fun _ => rfl) (by decide) rfl rfl rfl (Nat.le_of_ble_eq_true rfl) dX7_late_30 (fun u_30 H locs hr_30 w => ?_)
      obtain ⟨z_30, ez_30⟩ : ∃ q9 : RS × RS × RS × RS, q9 = (((((z.1, u_30.1, z.2.2.1, z.2.2.2)).1, ((z.1, u_30.1, z.2.2.1, z.2.2.2)).2.1, u_30.2.1, ((z.1, u_30.1, z.2.2.1, z.2.2.2)).2.2.2)).1, ((((z.1, u_30.1, z.2.2.1, z.2.2.2)).1, ((z.1, u_30.1, z.2.2.1, z.2.2.2)).2.1, u_30.2.1, ((z.1, u_30.1, z.2.2.1, z.2.2.2)).2.2.2)).2.1, ((((z.1, u_30.1, z.2.2.1, z.2.2.2)).1, ((z.1, u_30.1, z.2.2.1, z.2.2.2)).2.1, u_30.2.1, ((z.1, u_30.1, z.2.2.1, z.2.2.2)).2.2.2)).2.2.1, u_30.2.2) := ⟨_, rfl⟩
      have w : cW G A s (wO G a ad zt ++ w5 G (ad 0) z_30.1 ++ wFo G ad z_30.2.1 ++ w5 G (ad 8) z_30.2.2.1 ++ w0 G (ad 9) z_30.2.2.2) H locs := by rw [ez_30]; exact w
      have eu_30_fo : z_30.2.1 = u_30.1 := by rw [ez_30]
      try rw [← eu_30_fo] at hr_30
      have eu_30_tr : z_30.2.2.1 = u_30.2.1 := by rw [ez_30]
      try rw [← eu_30_tr] at hr_30
      have eu_30_ch : z_30.2.2.2 = u_30.2.2 := by rw [ez_30]
      try rw [← eu_30_ch] at hr_30
      have ek_30_sc : z_30.1 = z.1 := by rw [ez_30]
      have hT_30 : cSc z_30.1 S := by rw [ek_30_sc]; exact hT
      have hF_30 : cSc z_30.2.2.1 S := cEq_c hr_30.1 o2 o3 hT
      have hM_30 : chM S z_30.2.2.2 := chM_0 hr_30.2.1
      have hk_30 : z_30.1 = z.1 := ek_30_sc
      refine lv_aload_n hx hb dX7_late_33 rfl (lv_at hl 0 rfl) ?_
      refine ag_XF_X7_39_this X w.1 dX7_late_34 ?_
      refine lv_bipush (v := (nI 61)) hx hb dX7_late_37 (by decide) ?_
      refine gc_i (C := RX2) (ci := 2) (rest := []) (w := (fun q9 : RS × RS × RS => wF G (ad 6) (ad 8) (ad 9) q9)) (wr := [((a 0), .inr (6, [.ref ((ad 0) 0), .ref (ad 1 0), .ref (ad 2 0), .ref (ad 3 0), .int (zt.1 4), .ref (ad 5 0), .ref ((ad 6) 0), .ref (a 8)])), ((a 8), .inl (G.2.2.2, 4, .inr (.inr (.inr (.inr (fun j => some (ad (10 + j) 0))))))), (((ad 0) 0), .inr (4, [.int (z_30.1.1 0), .ref ((ad 0) 2), .ref ((ad 0) 3), .int (z_30.1.1 3), .ref ((ad 0) 5), .ref ((ad 0) 6), .ref ((ad 0) 7), .ref ((ad 0) 8), .int (z_30.1.1 8), .int (z_30.1.1 9), .int (z_30.1.1 10), .ref ((ad 0) 12), .int (z_30.1.1 12)])), (((ad 0) 2), .inl (G.2.1, 40, .inl (z_30.1.2.1 1))), (((ad 0) 3), .inl (G.2.1, 40, .inl (z_30.1.2.1 2))), (((ad 0) 5), .inl (G.2.1, 5, .inl (z_30.1.2.1 4))), (((ad 0) 6), .inl (G.2.1, 5, .inl (z_30.1.2.1 5))), (((ad 0) 7), .inl (G.2.1, 5, .inl (z_30.1.2.1 6))), (((ad 0) 8), .inl (G.2.1, 5, .inl (z_30.1.2.1 7))), (((ad 0) 12), .inl (G.2.1, 5, .inl (z_30.1.2.1 11)))]) (wn := (fun u9 => wO G a ad zt ++ w5 G (ad 0) (((((((z_30.1, u9.1, z_30.2.2.1, z_30.2.2.2)).1, ((z_30.1, u9.1, z_30.2.2.1, z_30.2.2.2)).2.1, u9.2.1, ((z_30.1, u9.1, z_30.2.2.1, z_30.2.2.2)).2.2.2)).1, ((((z_30.1, u9.1, z_30.2.2.1, z_30.2.2.2)).1, ((z_30.1, u9.1, z_30.2.2.1, z_30.2.2.2)).2.1, u9.2.1, ((z_30.1, u9.1, z_30.2.2.1, z_30.2.2.2)).2.2.2)).2.1, ((((z_30.1, u9.1, z_30.2.2.1, z_30.2.2.2)).1, ((z_30.1, u9.1, z_30.2.2.1, z_30.2.2.2)).2.1, u9.2.1, ((z_30.1, u9.1, z_30.2.2.1, z_30.2.2.2)).2.2.2)).2.2.1, u9.2.2))).1 ++ wFo G ad (((((((z_30.1, u9.1, z_30.2.2.1, z_30.2.2.2)).1, ((z_30.1, u9.1, z_30.2.2.1, z_30.2.2.2)).2.1, u9.2.1, ((z_30.1, u9.1, z_30.2.2.1, z_30.2.2.2)).2.2.2)).1, ((((z_30.1, u9.1, z_30.2.2.1, z_30.2.2.2)).1, ((z_30.1, u9.1, z_30.2.2.1, z_30.2.2.2)).2.1, u9.2.1, ((z_30.1, u9.1, z_30.2.2.1, z_30.2.2.2)).2.2.2)).2.1, ((((z_30.1, u9.1, z_30.2.2.1, z_30.2.2.2)).1, ((z_30.1, u9.1, z_30.2.2.1, z_30.2.2.2)).2.1, u9.2.1, ((z_30.1, u9.1, z_30.2.2.1, z_30.2.2.2)).2.2.2)).2.2.1, u9.2.2))).2.1 ++ w5 G (ad 8) (((((((z_30.1, u9.1, z_30.2.2.1, z_30.2.2.2)).1, ((z_30.1, u9.1, z_30.2.2.1, z_30.2.2.2)).2.1, u9.2.1, ((z_30.1, u9.1, z_30.2.2.1, z_30.2.2.2)).2.2.2)).1, ((((z_30.1, u9.1, z_30.2.2.1, z_30.2.2.2)).1, ((z_30.1, u9.1, z_30.2.2.1, z_30.2.2.2)).2.1, u9.2.1, ((z_30.1, u9.1, z_30.2.2.1, z_30.2.2.2)).2.2.2)).2.1, ((((z_30.1, u9.1, z_30.2.2.1, z_30.2.2.2)).1, ((z_30.1, u9.1, z_30.2.2.1, z_30.2.2.2)).2.1, u9.2.1, ((z_30.1, u9.1, z_30.2.2.1, z_30.2.2.2)).2.2.2)).2.2.1, u9.2.2))).2.2.1 ++ w0 G (ad 9) (((((((z_30.1, u9.1, z_30.2.2.1, z_30.2.2.2)).1, ((z_30.1, u9.1, z_30.2.2.1, z_30.2.2.2)).2.1, u9.2.1, ((z_30.1, u9.1, z_30.2.2.1, z_30.2.2.2)).2.2.2)).1, ((((z_30.1, u9.1, z_30.2.2.1, z_30.2.2.2)).1, ((z_30.1, u9.1, z_30.2.2.1, z_30.2.2.2)).2.1, u9.2.1, ((z_30.1, u9.1, z_30.2.2.1, z_30.2.2.2)).2.2.2)).2.1, ((((z_30.1, u9.1, z_30.2.2.1, z_30.2.2.2)).1, ((z_30.1, u9.1, z_30.2.2.1, z_30.2.2.2)).2.1, u9.2.1, ((z_30.1, u9.1, z_30.2.2.1, z_30.2.2.2)).2.2.2)).2.2.1, u9.2.2))).2.2.2)) X hml hl.1 (c2_foresee l G (ad 6) (ad 8) (ad 9) z_30.2 61 S hF_30 ho hM_30 hov.1 hov.2 hnt (by omega) (by omega)) ok2_foresee wm_X7_179 ⟨Nat.le_of_ble_eq_true rfl, Nat.le_of_ble_eq_true rfl⟩ ⟨Nat.le_refl _, Nat.le_refl _⟩ w [10, 11, 12, 13, 14, 15, 16, 17, 18, 19, 20, 21, 22, 23, 24, 25, 26, 27, 28, 29, 30, 31] [0, 1, 2, 3, 4, 5, 6, 7, 8, 9] [0, 1, 2, 3, 4, 5, 6, 7, 8, 9, 10, 11, 12, 13, 14, 15, 16, 17, 18, 19, 20, 21, 22, 23, 24, 25, 26, 27, 28, 29, 30, 31] rfl (by decide) rfl (by decide) (by decide) (fun _ => rfl) (by decide) rfl rfl rfl (Nat.le_of_ble_eq_true rfl) dX7_late_39 (fun r_39 u_39 H locs hr_39 w => ?_)
      obtain ⟨z_39, ez_39⟩ : ∃ q9 : RS × RS × RS × RS, q9 = (((((z_30.1, u_39.1, z_30.2.2.1, z_30.2.2.2)).1, ((z_30.1, u_39.1, z_30.2.2.1, z_30.2.2.2)).2.1, u_39.2.1, ((z_30.1, u_39.1, z_30.2.2.1, z_30.2.2.2)).2.2.2)).1, ((((z_30.1, u_39.1, z_30.2.2.1, z_30.2.2.2)).1, ((z_30.1, u_39.1, z_30.2.2.1, z_30.2.2.2)).2.1, u_39.2.1, ((z_30.1, u_39.1, z_30.2.2.1, z_30.2.2.2)).2.2.2)).2.1, ((((z_30.1, u_39.1, z_30.2.2.1, z_30.2.2.2)).1, ((z_30.1, u_39.1, z_30.2.2.1, z_30.2.2.2)).2.1, u_39.2.1, ((z_30.1, u_39.1, z_30.2.2.1, z_30.2.2.2)).2.2.2)).2.2.1, u_39.2.2) := ⟨_, rfl⟩
      have w : cW G A s (wO G a ad zt ++ w5 G (ad 0) z_39.1 ++ wFo G ad z_39.2.1 ++ w5 G (ad 8) z_39.2.2.1 ++ w0 G (ad 9) z_39.2.2.2) H locs := by rw [ez_39]; exact w
      have eu_39_fo : z_39.2.1 = u_39.1 := by rw [ez_39]
      try rw [← eu_39_fo] at hr_39
      have eu_39_tr : z_39.2.2.1 = u_39.2.1 := by rw [ez_39]
      try rw [← eu_39_tr] at hr_39
      have eu_39_ch : z_39.2.2.2 = u_39.2.2 := by rw [ez_39]
      try rw [← eu_39_ch] at hr_39
      have ek_39_sc : z_39.1 = z_30.1 := by rw [ez_39]
      obtain ⟨hr_39, hrow, htr, hM_39⟩ := hr_39
      subst hr_39
      have hT_39 : cSc z_39.1 S := by rw [ek_39_sc]; exact hT_30
      have hF_39 : cSc z_39.2.2.1 S := by rw [htr]; exact hF_30
      have hk_39 : z_39.1 = z.1 := by rw [ek_39_sc]; exact hk_30
      have d_39 := mq_le S 0 61
      refine lv_pop hx hb dX7_late_42 rfl ?_
      refine lv_aload_n hx hb dX7_late_43 rfl (lv_at hl 0 rfl) ?_
      refine ag_XF_X7_39_this X w.1 dX7_late_44 ?_
      refine lv_iload_n hx hb dX7_late_47 rfl (lv_at hl 1 rfl) ?_
      refine gc_p (C := RX2) (ci := 2) (rest := []) X hml hl.1 (c2_lastWith l G (ad 6) (ad 8) (ad 9) z_39.2 k S hF_39 ho (by omega) (by omega) hrow) ok2_lastWith wm_X7_186 ⟨Nat.le_of_ble_eq_true rfl, Nat.le_of_ble_eq_true rfl⟩ ⟨Nat.le_refl _, Nat.le_refl _⟩ w.1 [10, 11, 12, 13, 14, 15, 16, 17, 18, 19, 20, 21, 22, 23, 24, 25, 26, 27, 28, 29, 30, 31] rfl rfl rfl rfl (Nat.le_of_ble_eq_true rfl) dX7_late_48 (fun r_48 hr_48 => ?_)
      exact ce_i (w := (fun q9 : RS × RS × RS × RS => wO G a ad zt ++ w5 G (ad 0) q9.1 ++ wFo G ad q9.2.1 ++ w5 G (ad 8) q9.2.2.1 ++ w0 G (ad 9) q9.2.2.2)) (z := z_39) X hr hk w (⟨by rw [hr_48]; unfold an_late; rw [if_pos (by omega), if_pos (by omega), show wa9.toInt.toNat = k by omega], hk_39⟩) dX7_late_51
    · skip
      refine lv_bipush (v := (iZ (-2))) hx hb dX7_late_19 (by decide) ?_
      exact ce_i (w := (fun q9 : RS × RS × RS × RS => wO G a ad zt ++ w5 G (ad 0) q9.1 ++ wFo G ad q9.2.1 ++ w5 G (ad 8) q9.2.2.1 ++ w0 G (ad 9) q9.2.2.2)) (z := z) X hr hk w (⟨by unfold an_late; rw [if_pos (by omega), if_neg (by omega)], rfl⟩) dX7_late_21
  · skip
    refine lv_iconst (v := (iZ (-1))) hx hb dX7_late_10 (by decide) ?_
    exact ce_i (w := (fun q9 : RS × RS × RS × RS => wO G a ad zt ++ w5 G (ad 0) q9.1 ++ wFo G ad q9.2.1 ++ w5 G (ad 8) q9.2.2.1 ++ w0 G (ad 9) q9.2.2.2)) (z := z) X hr hk w (⟨by unfold an_late; rw [if_neg (by omega)], rfl⟩) dX7_late_11

theorem ok7_together : cOk RX7 yX7_together cX7_together 4 (some .int) 2 := ⟨wc_X7_together, wi_X7_together, ws_X7_together, wn_X7, rfl, by decide, by decide, by decide +kernel⟩
set_option maxHeartbeats 4000000 in
set_option maxRecDepth 100000 in
theorem c7_together (l : Launch) (G : CG) (a : Nat → Nat) (ad : Nat → Nat → Nat) (zt : RS) (z : RS × RS × RS × RS) (ta9 : Int32) (wa9 : Int32) (S : Sc) (hT : cSc z.1 S) (ho : oSc S) (hm : S.1 3 ≤ 400)  : cMi G l yX7_together cX7_together 4 (some .int) 6 163 [.ref (a 0), .int ta9, .int wa9] (fun q9 : RS × RS × RS × RS => wO G a ad zt ++ w5 G (ad 0) q9.1 ++ wFo G ad q9.2.1 ++ w5 G (ad 8) q9.2.2.1 ++ w0 G (ad 9) q9.2.2.2) z (fun r z9 => r = an_tog S ta9 wa9 ∧ z9.1 = z.1) := by
  refine cMi_in (by decide) rfl (Nat.le_of_ble_eq_true rfl) ?_
  intro p e s m args below meth c A ls X hml hr hk hl w
  have hx := X.1
  have hb := X.2.1
  have hts := X.2.2.1
  have hown := X.2.2.2.1
  have hl : lv_has ls 4 [(0, .ref (a 0)), (1, .int ta9), (2, .int wa9)] := hl
  obtain ⟨o1, o2, o3, o4, o5, o6, oso, oki, osr, opa, ohu, oco⟩ := id ho
  refine lv_iload_n hx hb dX7_together_0 rfl (lv_at hl 1 rfl) ?_
  refine lv_iconst (v := (nI 0)) hx hb dX7_together_1 (by decide) ?_
  refine lv_sipush (v := (nI 400)) hx hb dX7_together_2 (by decide) ?_
  refine gc_s (C := RX7) (rest := []) ⟨X.1, X.2.1, X.2.2.1, X.2.2.2.1⟩ hml hl.1 (c7_within l ta9 (nI 0) (nI 400)) ok7_within wm_X7_50 ⟨Nat.le_of_ble_eq_true rfl, Nat.le_of_ble_eq_true rfl⟩ ⟨Nat.le_refl _, Nat.le_refl _⟩ rfl (Nat.le_of_ble_eq_true rfl) dX7_together_5 (fun r_5 hr_5 => ?_) rfl
  subst hr_5
  refine tp_i (congrArg nI (w3_I rfl (by decide) (by decide) : _ = pc_inI ta9.toInt ((0 : Int)) ((400 : Int)))) ?_
  have d_5 := pc_inI_ok ta9.toInt ((0 : Int)) ((400 : Int))
  refine n_if_eq (tgt := 20) hx hb dX7_together_8 (by decide) (by omega) (fun c_8_1 => ?_) (fun c_8_1 => ?_)
  · skip
    refine lv_iconst (v := (iZ (-1))) hx hb dX7_together_20 (by decide) ?_
    exact ce_i (w := (fun q9 : RS × RS × RS × RS => wO G a ad zt ++ w5 G (ad 0) q9.1 ++ wFo G ad q9.2.1 ++ w5 G (ad 8) q9.2.2.1 ++ w0 G (ad 9) q9.2.2.2)) (z := z) X hr hk w (⟨by unfold an_tog; rw [if_neg (by omega)], rfl⟩) dX7_together_21
  · skip
    refine lv_iload_n hx hb dX7_together_11 rfl (lv_at hl 2 rfl) ?_
    refine lv_iconst (v := (nI 0)) hx hb dX7_together_12 (by decide) ?_
    refine lv_iconst (v := (nI 2)) hx hb dX7_together_13 (by decide) ?_
    refine gc_s (C := RX7) (rest := []) ⟨X.1, X.2.1, X.2.2.1, X.2.2.2.1⟩ hml hl.1 (c7_within l wa9 (nI 0) (nI 2)) ok7_within wm_X7_50 ⟨Nat.le_of_ble_eq_true rfl, Nat.le_of_ble_eq_true rfl⟩ ⟨Nat.le_refl _, Nat.le_refl _⟩ rfl (Nat.le_of_ble_eq_true rfl) dX7_together_14 (fun r_14 hr_14 => ?_) rfl
    subst hr_14
    refine tp_i (congrArg nI (w3_I rfl (by decide) (by decide) : _ = pc_inI wa9.toInt ((0 : Int)) ((2 : Int)))) ?_
    have d_14 := pc_inI_ok wa9.toInt ((0 : Int)) ((2 : Int))
    refine n_if_ne (tgt := 22) hx hb dX7_together_17 (by decide) (by omega) (fun c_17_2 => ?_) (fun c_17_2 => ?_)
    · skip
      refine lv_aload_n hx hb dX7_together_22 rfl (lv_at hl 0 rfl) ?_
      refine gc_p (C := RX7) (ci := 6) (rest := []) X hml hl.1 (c7_mayTurn l G a ad zt z.1 S hT ho) ok7_mayTurn wm_X7_163 ⟨Nat.le_of_ble_eq_true rfl, Nat.le_of_ble_eq_true rfl⟩ ⟨Nat.le_refl _, Nat.le_refl _⟩ w.1 [0, 1, 2, 3, 4, 5, 6, 7, 8, 9] rfl rfl rfl rfl (Nat.le_of_ble_eq_true rfl) dX7_together_23 (fun r_23 hr_23 => ?_)
      subst hr_23
      have d_23 := may_ok S
      refine n_if_ne (tgt := 32) hx hb dX7_together_26 (by decide) (by omega) (fun c_26_3 => ?_) (fun c_26_3 => ?_)
      · skip
        have hov := ov_0 (show sp_over S = 0 by omega)
        have hnt : S.1 4 = 0 := by omega
        obtain ⟨k, hk_k, ek_k⟩ := iv_n (x := wa9) (by omega)
        have hl : lv_has ls 4 [(0, .ref (a 0)), (1, .int ta9), (2, .int (nI k))] := by rw [← ek_k]; exact hl
        have q9 := sp_c_le (sc_one S)
        have q8 := sp_mo_le S 0
        refine lv_aload_n hx hb dX7_together_32 rfl (lv_at hl 0 rfl) ?_
        refine ag_XF_X7_39_this X w.1 dX7_together_33 ?_
        refine lv_aload_n hx hb dX7_together_36 rfl (lv_at hl 0 rfl) ?_
        refine ag_XF_X7_10_this X w.1 dX7_together_37 ?_
        refine gc_v (C := RX2) (ci := 2) (rest := []) (w := (fun q9 : RS × RS × RS => wF G (ad 6) (ad 8) (ad 9) q9 ++ w5 G (ad 0) z.1)) (wr := [((a 0), .inr (6, [.ref ((ad 0) 0), .ref (ad 1 0), .ref (ad 2 0), .ref (ad 3 0), .int (zt.1 4), .ref (ad 5 0), .ref ((ad 6) 0), .ref (a 8)])), ((a 8), .inl (G.2.2.2, 4, .inr (.inr (.inr (.inr (fun j => some (ad (10 + j) 0)))))))]) (wn := (fun u9 => wO G a ad zt ++ w5 G (ad 0) (((((((z.1, u9.1, z.2.2.1, z.2.2.2)).1, ((z.1, u9.1, z.2.2.1, z.2.2.2)).2.1, u9.2.1, ((z.1, u9.1, z.2.2.1, z.2.2.2)).2.2.2)).1, ((((z.1, u9.1, z.2.2.1, z.2.2.2)).1, ((z.1, u9.1, z.2.2.1, z.2.2.2)).2.1, u9.2.1, ((z.1, u9.1, z.2.2.1, z.2.2.2)).2.2.2)).2.1, ((((z.1, u9.1, z.2.2.1, z.2.2.2)).1, ((z.1, u9.1, z.2.2.1, z.2.2.2)).2.1, u9.2.1, ((z.1, u9.1, z.2.2.1, z.2.2.2)).2.2.2)).2.2.1, u9.2.2))).1 ++ wFo G ad (((((((z.1, u9.1, z.2.2.1, z.2.2.2)).1, ((z.1, u9.1, z.2.2.1, z.2.2.2)).2.1, u9.2.1, ((z.1, u9.1, z.2.2.1, z.2.2.2)).2.2.2)).1, ((((z.1, u9.1, z.2.2.1, z.2.2.2)).1, ((z.1, u9.1, z.2.2.1, z.2.2.2)).2.1, u9.2.1, ((z.1, u9.1, z.2.2.1, z.2.2.2)).2.2.2)).2.1, ((((z.1, u9.1, z.2.2.1, z.2.2.2)).1, ((z.1, u9.1, z.2.2.1, z.2.2.2)).2.1, u9.2.1, ((z.1, u9.1, z.2.2.1, z.2.2.2)).2.2.2)).2.2.1, u9.2.2))).2.1 ++ w5 G (ad 8) (((((((z.1, u9.1, z.2.2.1, z.2.2.2)).1, ((z.1, u9.1, z.2.2.1, z.2.2.2)).2.1, u9.2.1, ((z.1, u9.1, z.2.2.1, z.2.2.2)).2.2.2)).1, ((((z.1, u9.1, z.2.2.1, z.2.2.2)).1, ((z.1, u9.1, z.2.2.1, z.2.2.2)).2.1, u9.2.1, ((z.1, u9.1, z.2.2.1, z.2.2.2)).2.2.2)).2.1, ((((z.1, u9.1, z.2.2.1, z.2.2.2)).1, ((z.1, u9.1, z.2.2.1, z.2.2.2)).2.1, u9.2.1, ((z.1, u9.1, z.2.2.1, z.2.2.2)).2.2.2)).2.2.1, u9.2.2))).2.2.1 ++ w0 G (ad 9) (((((((z.1, u9.1, z.2.2.1, z.2.2.2)).1, ((z.1, u9.1, z.2.2.1, z.2.2.2)).2.1, u9.2.1, ((z.1, u9.1, z.2.2.1, z.2.2.2)).2.2.2)).1, ((((z.1, u9.1, z.2.2.1, z.2.2.2)).1, ((z.1, u9.1, z.2.2.1, z.2.2.2)).2.1, u9.2.1, ((z.1, u9.1, z.2.2.1, z.2.2.2)).2.2.2)).2.1, ((((z.1, u9.1, z.2.2.1, z.2.2.2)).1, ((z.1, u9.1, z.2.2.1, z.2.2.2)).2.1, u9.2.1, ((z.1, u9.1, z.2.2.1, z.2.2.2)).2.2.2)).2.2.1, u9.2.2))).2.2.2)) X hml hl.1 (c2_begin l G (ad 6) (ad 8) (ad 9) (ad 0) z.1 z.2) ok2_begin wm_X7_173 ⟨Nat.le_of_ble_eq_true rfl, Nat.le_of_ble_eq_true rfl⟩ ⟨Nat.le_refl _, Nat.le_refl _⟩ w [10, 11, 12, 13, 14, 15, 16, 17, 18, 19, 20, 21, 22, 23, 24, 25, 26, 27, 28, 29, 30, 31, 2, 3, 4, 5, 6, 7, 8, 9] [0, 1] [0, 1, 24, 25, 26, 27, 28, 29, 30, 31, 2, 3, 4, 5, 6, 7, 8, 9, 10, 11, 12, 13, 14, 15, 16, 17, 18, 19, 20, 21, 22, 23] rfl (by decide) rfl (by decide) (by decide) (fun _ => rfl) (by decide) rfl rfl rfl (Nat.le_of_ble_eq_true rfl) dX7_together_40 (fun u_40 H locs hr_40 w => ?_)
        obtain ⟨z_40, ez_40⟩ : ∃ q9 : RS × RS × RS × RS, q9 = (((((z.1, u_40.1, z.2.2.1, z.2.2.2)).1, ((z.1, u_40.1, z.2.2.1, z.2.2.2)).2.1, u_40.2.1, ((z.1, u_40.1, z.2.2.1, z.2.2.2)).2.2.2)).1, ((((z.1, u_40.1, z.2.2.1, z.2.2.2)).1, ((z.1, u_40.1, z.2.2.1, z.2.2.2)).2.1, u_40.2.1, ((z.1, u_40.1, z.2.2.1, z.2.2.2)).2.2.2)).2.1, ((((z.1, u_40.1, z.2.2.1, z.2.2.2)).1, ((z.1, u_40.1, z.2.2.1, z.2.2.2)).2.1, u_40.2.1, ((z.1, u_40.1, z.2.2.1, z.2.2.2)).2.2.2)).2.2.1, u_40.2.2) := ⟨_, rfl⟩
        have w : cW G A s (wO G a ad zt ++ w5 G (ad 0) z_40.1 ++ wFo G ad z_40.2.1 ++ w5 G (ad 8) z_40.2.2.1 ++ w0 G (ad 9) z_40.2.2.2) H locs := by rw [ez_40]; exact w
        have eu_40_fo : z_40.2.1 = u_40.1 := by rw [ez_40]
        try rw [← eu_40_fo] at hr_40
        have eu_40_tr : z_40.2.2.1 = u_40.2.1 := by rw [ez_40]
        try rw [← eu_40_tr] at hr_40
        have eu_40_ch : z_40.2.2.2 = u_40.2.2 := by rw [ez_40]
        try rw [← eu_40_ch] at hr_40
        have ek_40_sc : z_40.1 = z.1 := by rw [ez_40]
        have hT_40 : cSc z_40.1 S := by rw [ek_40_sc]; exact hT
        have hF_40 : cSc z_40.2.2.1 S := cEq_c hr_40.1 o2 o3 hT
        have hM_40 : chM S z_40.2.2.2 := chM_0 hr_40.2.1
        have hk_40 : z_40.1 = z.1 := ek_40_sc
        refine lv_aload_n hx hb dX7_together_43 rfl (lv_at hl 0 rfl) ?_
        refine ag_XF_X7_39_this X w.1 dX7_together_44 ?_
        refine gc_i (C := RX2) (ci := 2) (rest := []) (w := (fun q9 : RS × RS × RS => wF G (ad 6) (ad 8) (ad 9) q9)) (wr := [((a 0), .inr (6, [.ref ((ad 0) 0), .ref (ad 1 0), .ref (ad 2 0), .ref (ad 3 0), .int (zt.1 4), .ref (ad 5 0), .ref ((ad 6) 0), .ref (a 8)])), ((a 8), .inl (G.2.2.2, 4, .inr (.inr (.inr (.inr (fun j => some (ad (10 + j) 0))))))), (((ad 0) 0), .inr (4, [.int (z_40.1.1 0), .ref ((ad 0) 2), .ref ((ad 0) 3), .int (z_40.1.1 3), .ref ((ad 0) 5), .ref ((ad 0) 6), .ref ((ad 0) 7), .ref ((ad 0) 8), .int (z_40.1.1 8), .int (z_40.1.1 9), .int (z_40.1.1 10), .ref ((ad 0) 12), .int (z_40.1.1 12)])), (((ad 0) 2), .inl (G.2.1, 40, .inl (z_40.1.2.1 1))), (((ad 0) 3), .inl (G.2.1, 40, .inl (z_40.1.2.1 2))), (((ad 0) 5), .inl (G.2.1, 5, .inl (z_40.1.2.1 4))), (((ad 0) 6), .inl (G.2.1, 5, .inl (z_40.1.2.1 5))), (((ad 0) 7), .inl (G.2.1, 5, .inl (z_40.1.2.1 6))), (((ad 0) 8), .inl (G.2.1, 5, .inl (z_40.1.2.1 7))), (((ad 0) 12), .inl (G.2.1, 5, .inl (z_40.1.2.1 11)))]) (wn := (fun u9 => wO G a ad zt ++ w5 G (ad 0) (((((((z_40.1, u9.1, z_40.2.2.1, z_40.2.2.2)).1, ((z_40.1, u9.1, z_40.2.2.1, z_40.2.2.2)).2.1, u9.2.1, ((z_40.1, u9.1, z_40.2.2.1, z_40.2.2.2)).2.2.2)).1, ((((z_40.1, u9.1, z_40.2.2.1, z_40.2.2.2)).1, ((z_40.1, u9.1, z_40.2.2.1, z_40.2.2.2)).2.1, u9.2.1, ((z_40.1, u9.1, z_40.2.2.1, z_40.2.2.2)).2.2.2)).2.1, ((((z_40.1, u9.1, z_40.2.2.1, z_40.2.2.2)).1, ((z_40.1, u9.1, z_40.2.2.1, z_40.2.2.2)).2.1, u9.2.1, ((z_40.1, u9.1, z_40.2.2.1, z_40.2.2.2)).2.2.2)).2.2.1, u9.2.2))).1 ++ wFo G ad (((((((z_40.1, u9.1, z_40.2.2.1, z_40.2.2.2)).1, ((z_40.1, u9.1, z_40.2.2.1, z_40.2.2.2)).2.1, u9.2.1, ((z_40.1, u9.1, z_40.2.2.1, z_40.2.2.2)).2.2.2)).1, ((((z_40.1, u9.1, z_40.2.2.1, z_40.2.2.2)).1, ((z_40.1, u9.1, z_40.2.2.1, z_40.2.2.2)).2.1, u9.2.1, ((z_40.1, u9.1, z_40.2.2.1, z_40.2.2.2)).2.2.2)).2.1, ((((z_40.1, u9.1, z_40.2.2.1, z_40.2.2.2)).1, ((z_40.1, u9.1, z_40.2.2.1, z_40.2.2.2)).2.1, u9.2.1, ((z_40.1, u9.1, z_40.2.2.1, z_40.2.2.2)).2.2.2)).2.2.1, u9.2.2))).2.1 ++ w5 G (ad 8) (((((((z_40.1, u9.1, z_40.2.2.1, z_40.2.2.2)).1, ((z_40.1, u9.1, z_40.2.2.1, z_40.2.2.2)).2.1, u9.2.1, ((z_40.1, u9.1, z_40.2.2.1, z_40.2.2.2)).2.2.2)).1, ((((z_40.1, u9.1, z_40.2.2.1, z_40.2.2.2)).1, ((z_40.1, u9.1, z_40.2.2.1, z_40.2.2.2)).2.1, u9.2.1, ((z_40.1, u9.1, z_40.2.2.1, z_40.2.2.2)).2.2.2)).2.1, ((((z_40.1, u9.1, z_40.2.2.1, z_40.2.2.2)).1, ((z_40.1, u9.1, z_40.2.2.1, z_40.2.2.2)).2.1, u9.2.1, ((z_40.1, u9.1, z_40.2.2.1, z_40.2.2.2)).2.2.2)).2.2.1, u9.2.2))).2.2.1 ++ w0 G (ad 9) (((((((z_40.1, u9.1, z_40.2.2.1, z_40.2.2.2)).1, ((z_40.1, u9.1, z_40.2.2.1, z_40.2.2.2)).2.1, u9.2.1, ((z_40.1, u9.1, z_40.2.2.1, z_40.2.2.2)).2.2.2)).1, ((((z_40.1, u9.1, z_40.2.2.1, z_40.2.2.2)).1, ((z_40.1, u9.1, z_40.2.2.1, z_40.2.2.2)).2.1, u9.2.1, ((z_40.1, u9.1, z_40.2.2.1, z_40.2.2.2)).2.2.2)).2.1, ((((z_40.1, u9.1, z_40.2.2.1, z_40.2.2.2)).1, ((z_40.1, u9.1, z_40.2.2.1, z_40.2.2.2)).2.1, u9.2.1, ((z_40.1, u9.1, z_40.2.2.1, z_40.2.2.2)).2.2.2)).2.2.1, u9.2.2))).2.2.2)) X hml hl.1 (c2_chanceTogether l G (ad 6) (ad 8) (ad 9) z_40.2 S hF_40 ho hM_40 (by omega) (by omega)) ok2_chanceTogether wm_X7_189 ⟨Nat.le_of_ble_eq_true rfl, Nat.le_of_ble_eq_true rfl⟩ ⟨Nat.le_refl _, Nat.le_refl _⟩ w [10, 11, 12, 13, 14, 15, 16, 17, 18, 19, 20, 21, 22, 23, 24, 25, 26, 27, 28, 29, 30, 31] [0, 1, 2, 3, 4, 5, 6, 7, 8, 9] [0, 1, 2, 3, 4, 5, 6, 7, 8, 9, 10, 11, 12, 13, 14, 15, 16, 17, 18, 19, 20, 21, 22, 23, 24, 25, 26, 27, 28, 29, 30, 31] rfl (by decide) rfl (by decide) (by decide) (fun _ => rfl) (by decide) rfl rfl rfl (Nat.le_of_ble_eq_true rfl) dX7_together_47 (fun r_47 u_47 H locs hr_47 w => ?_)
        obtain ⟨z_47, ez_47⟩ : ∃ q9 : RS × RS × RS × RS, q9 = (((((z_40.1, u_47.1, z_40.2.2.1, z_40.2.2.2)).1, ((z_40.1, u_47.1, z_40.2.2.1, z_40.2.2.2)).2.1, u_47.2.1, ((z_40.1, u_47.1, z_40.2.2.1, z_40.2.2.2)).2.2.2)).1, ((((z_40.1, u_47.1, z_40.2.2.1, z_40.2.2.2)).1, ((z_40.1, u_47.1, z_40.2.2.1, z_40.2.2.2)).2.1, u_47.2.1, ((z_40.1, u_47.1, z_40.2.2.1, z_40.2.2.2)).2.2.2)).2.1, ((((z_40.1, u_47.1, z_40.2.2.1, z_40.2.2.2)).1, ((z_40.1, u_47.1, z_40.2.2.1, z_40.2.2.2)).2.1, u_47.2.1, ((z_40.1, u_47.1, z_40.2.2.1, z_40.2.2.2)).2.2.2)).2.2.1, u_47.2.2) := ⟨_, rfl⟩
        have w : cW G A s (wO G a ad zt ++ w5 G (ad 0) z_47.1 ++ wFo G ad z_47.2.1 ++ w5 G (ad 8) z_47.2.2.1 ++ w0 G (ad 9) z_47.2.2.2) H locs := by rw [ez_47]; exact w
        have eu_47_fo : z_47.2.1 = u_47.1 := by rw [ez_47]
        try rw [← eu_47_fo] at hr_47
        have eu_47_tr : z_47.2.2.1 = u_47.2.1 := by rw [ez_47]
        try rw [← eu_47_tr] at hr_47
        have eu_47_ch : z_47.2.2.2 = u_47.2.2 := by rw [ez_47]
        try rw [← eu_47_ch] at hr_47
        have ek_47_sc : z_47.1 = z_40.1 := by rw [ez_47]
        obtain ⟨hr_47, hfo, htr, hM_47⟩ := hr_47
        subst hr_47
        have hT_47 : cSc z_47.1 S := by rw [ek_47_sc]; exact hT_40
        have hF_47 : cSc z_47.2.2.1 S := by rw [htr]; exact hF_40
        have hk_47 : z_47.1 = z.1 := by rw [ek_47_sc]; exact hk_40
        refine lv_istore_n (lv' := [(3, .int (nI (sp_c (sc_one S)))), (0, .ref (a 0)), (1, .int ta9), (2, .int (nI k))]) hx hb dX7_together_50 rfl hl (by decide) rfl (fun ls hl => ?_)
        refine lv_iload_n hx hb dX7_together_51 rfl (lv_at hl 3 rfl) ?_
        refine lv_iconst (v := (nI 2)) hx hb dX7_together_52 (by decide) ?_
        refine n_icmp_ge (tgt := 58) hx hb dX7_together_53 (by decide) (by omega) (by omega) (fun c_53_4 => ?_) (fun c_53_4 => ?_)
        · skip
          refine lv_iload_n hx hb dX7_together_58 rfl (lv_at hl 0 rfl) ?_
          refine lv_aload_n hx hb dX7_together_59 rfl (lv_at hl 1 rfl) ?_
          refine ag_XF_X7_39_this X w.1 dX7_together_60 ?_
          refine lv_bipush (v := (nI 61)) hx hb dX7_together_63 (by decide) ?_
          refine gc_i (C := RX2) (ci := 2) (rest := [.int (nI (sp_c (sc_one S)))]) (w := (fun q9 : RS × RS × RS => wF G (ad 6) (ad 8) (ad 9) q9)) (wr := [((a 0), .inr (6, [.ref ((ad 0) 0), .ref (ad 1 0), .ref (ad 2 0), .ref (ad 3 0), .int (zt.1 4), .ref (ad 5 0), .ref ((ad 6) 0), .ref (a 8)])), ((a 8), .inl (G.2.2.2, 4, .inr (.inr (.inr (.inr (fun j => some (ad (10 + j) 0))))))), (((ad 0) 0), .inr (4, [.int (z_47.1.1 0), .ref ((ad 0) 2), .ref ((ad 0) 3), .int (z_47.1.1 3), .ref ((ad 0) 5), .ref ((ad 0) 6), .ref ((ad 0) 7), .ref ((ad 0) 8), .int (z_47.1.1 8), .int (z_47.1.1 9), .int (z_47.1.1 10), .ref ((ad 0) 12), .int (z_47.1.1 12)])), (((ad 0) 2), .inl (G.2.1, 40, .inl (z_47.1.2.1 1))), (((ad 0) 3), .inl (G.2.1, 40, .inl (z_47.1.2.1 2))), (((ad 0) 5), .inl (G.2.1, 5, .inl (z_47.1.2.1 4))), (((ad 0) 6), .inl (G.2.1, 5, .inl (z_47.1.2.1 5))), (((ad 0) 7), .inl (G.2.1, 5, .inl (z_47.1.2.1 6))), (((ad 0) 8), .inl (G.2.1, 5, .inl (z_47.1.2.1 7))), (((ad 0) 12), .inl (G.2.1, 5, .inl (z_47.1.2.1 11)))]) (wn := (fun u9 => wO G a ad zt ++ w5 G (ad 0) (((((((z_47.1, u9.1, z_47.2.2.1, z_47.2.2.2)).1, ((z_47.1, u9.1, z_47.2.2.1, z_47.2.2.2)).2.1, u9.2.1, ((z_47.1, u9.1, z_47.2.2.1, z_47.2.2.2)).2.2.2)).1, ((((z_47.1, u9.1, z_47.2.2.1, z_47.2.2.2)).1, ((z_47.1, u9.1, z_47.2.2.1, z_47.2.2.2)).2.1, u9.2.1, ((z_47.1, u9.1, z_47.2.2.1, z_47.2.2.2)).2.2.2)).2.1, ((((z_47.1, u9.1, z_47.2.2.1, z_47.2.2.2)).1, ((z_47.1, u9.1, z_47.2.2.1, z_47.2.2.2)).2.1, u9.2.1, ((z_47.1, u9.1, z_47.2.2.1, z_47.2.2.2)).2.2.2)).2.2.1, u9.2.2))).1 ++ wFo G ad (((((((z_47.1, u9.1, z_47.2.2.1, z_47.2.2.2)).1, ((z_47.1, u9.1, z_47.2.2.1, z_47.2.2.2)).2.1, u9.2.1, ((z_47.1, u9.1, z_47.2.2.1, z_47.2.2.2)).2.2.2)).1, ((((z_47.1, u9.1, z_47.2.2.1, z_47.2.2.2)).1, ((z_47.1, u9.1, z_47.2.2.1, z_47.2.2.2)).2.1, u9.2.1, ((z_47.1, u9.1, z_47.2.2.1, z_47.2.2.2)).2.2.2)).2.1, ((((z_47.1, u9.1, z_47.2.2.1, z_47.2.2.2)).1, ((z_47.1, u9.1, z_47.2.2.1, z_47.2.2.2)).2.1, u9.2.1, ((z_47.1, u9.1, z_47.2.2.1, z_47.2.2.2)).2.2.2)).2.2.1, u9.2.2))).2.1 ++ w5 G (ad 8) (((((((z_47.1, u9.1, z_47.2.2.1, z_47.2.2.2)).1, ((z_47.1, u9.1, z_47.2.2.1, z_47.2.2.2)).2.1, u9.2.1, ((z_47.1, u9.1, z_47.2.2.1, z_47.2.2.2)).2.2.2)).1, ((((z_47.1, u9.1, z_47.2.2.1, z_47.2.2.2)).1, ((z_47.1, u9.1, z_47.2.2.1, z_47.2.2.2)).2.1, u9.2.1, ((z_47.1, u9.1, z_47.2.2.1, z_47.2.2.2)).2.2.2)).2.1, ((((z_47.1, u9.1, z_47.2.2.1, z_47.2.2.2)).1, ((z_47.1, u9.1, z_47.2.2.1, z_47.2.2.2)).2.1, u9.2.1, ((z_47.1, u9.1, z_47.2.2.1, z_47.2.2.2)).2.2.2)).2.2.1, u9.2.2))).2.2.1 ++ w0 G (ad 9) (((((((z_47.1, u9.1, z_47.2.2.1, z_47.2.2.2)).1, ((z_47.1, u9.1, z_47.2.2.1, z_47.2.2.2)).2.1, u9.2.1, ((z_47.1, u9.1, z_47.2.2.1, z_47.2.2.2)).2.2.2)).1, ((((z_47.1, u9.1, z_47.2.2.1, z_47.2.2.2)).1, ((z_47.1, u9.1, z_47.2.2.1, z_47.2.2.2)).2.1, u9.2.1, ((z_47.1, u9.1, z_47.2.2.1, z_47.2.2.2)).2.2.2)).2.1, ((((z_47.1, u9.1, z_47.2.2.1, z_47.2.2.2)).1, ((z_47.1, u9.1, z_47.2.2.1, z_47.2.2.2)).2.1, u9.2.1, ((z_47.1, u9.1, z_47.2.2.1, z_47.2.2.2)).2.2.2)).2.2.1, u9.2.2))).2.2.2)) X hml hl.1 (c2_foresee l G (ad 6) (ad 8) (ad 9) z_47.2 61 S hF_47 ho hM_47 hov.1 hov.2 hnt (by omega) (by omega)) ok2_foresee wm_X7_179 ⟨Nat.le_of_ble_eq_true rfl, Nat.le_of_ble_eq_true rfl⟩ ⟨Nat.le_refl _, Nat.le_refl _⟩ w [10, 11, 12, 13, 14, 15, 16, 17, 18, 19, 20, 21, 22, 23, 24, 25, 26, 27, 28, 29, 30, 31] [0, 1, 2, 3, 4, 5, 6, 7, 8, 9] [0, 1, 2, 3, 4, 5, 6, 7, 8, 9, 10, 11, 12, 13, 14, 15, 16, 17, 18, 19, 20, 21, 22, 23, 24, 25, 26, 27, 28, 29, 30, 31] rfl (by decide) rfl (by decide) (by decide) (fun _ => rfl) (by decide) rfl rfl rfl (Nat.le_of_ble_eq_true rfl) dX7_together_65 (fun r_65 u_65 H locs hr_65 w => ?_)
          obtain ⟨z_65, ez_65⟩ : ∃ q9 : RS × RS × RS × RS, q9 = (((((z_47.1, u_65.1, z_47.2.2.1, z_47.2.2.2)).1, ((z_47.1, u_65.1, z_47.2.2.1, z_47.2.2.2)).2.1, u_65.2.1, ((z_47.1, u_65.1, z_47.2.2.1, z_47.2.2.2)).2.2.2)).1, ((((z_47.1, u_65.1, z_47.2.2.1, z_47.2.2.2)).1, ((z_47.1, u_65.1, z_47.2.2.1, z_47.2.2.2)).2.1, u_65.2.1, ((z_47.1, u_65.1, z_47.2.2.1, z_47.2.2.2)).2.2.2)).2.1, ((((z_47.1, u_65.1, z_47.2.2.1, z_47.2.2.2)).1, ((z_47.1, u_65.1, z_47.2.2.1, z_47.2.2.2)).2.1, u_65.2.1, ((z_47.1, u_65.1, z_47.2.2.1, z_47.2.2.2)).2.2.2)).2.2.1, u_65.2.2) := ⟨_, rfl⟩
          have w : cW G A s (wO G a ad zt ++ w5 G (ad 0) z_65.1 ++ wFo G ad z_65.2.1 ++ w5 G (ad 8) z_65.2.2.1 ++ w0 G (ad 9) z_65.2.2.2) H locs := by rw [ez_65]; exact w
          have eu_65_fo : z_65.2.1 = u_65.1 := by rw [ez_65]
          try rw [← eu_65_fo] at hr_65
          have eu_65_tr : z_65.2.2.1 = u_65.2.1 := by rw [ez_65]
          try rw [← eu_65_tr] at hr_65
          have eu_65_ch : z_65.2.2.2 = u_65.2.2 := by rw [ez_65]
          try rw [← eu_65_ch] at hr_65
          have ek_65_sc : z_65.1 = z_47.1 := by rw [ez_65]
          obtain ⟨hr_65, hrow, htr, hM_65⟩ := hr_65
          subst hr_65
          have hT_65 : cSc z_65.1 S := by rw [ek_65_sc]; exact hT_47
          have hF_65 : cSc z_65.2.2.1 S := by rw [htr]; exact hF_47
          have hk_65 : z_65.1 = z.1 := by rw [ek_65_sc]; exact hk_47
          have d_65 := mq_le S 0 61
          refine n_icmp_ge (tgt := 75) hx hb dX7_together_68 (by decide) (by omega) (by omega) (fun c_68_5 => ?_) (fun c_68_5 => ?_)
          · skip
            refine lv_iconst (v := (nI 0)) hx hb dX7_together_75 (by decide) ?_
            exact ce_i (w := (fun q9 : RS × RS × RS × RS => wO G a ad zt ++ w5 G (ad 0) q9.1 ++ wFo G ad q9.2.1 ++ w5 G (ad 8) q9.2.2.1 ++ w0 G (ad 9) q9.2.2.2)) (z := z_65) X hr hk w (⟨by unfold an_tog; rw [if_pos (by omega), if_pos (by omega), if_neg (by omega), if_neg (by omega), mo_one ho hnt]; refine congrArg nI ?_; have e5 : sp_mo S 0 = sp_mq S 0 61 - 1 := rfl; first | (rw [if_pos (by omega)]; done) | (rw [if_neg (by omega)]; done), hk_65⟩) dX7_together_76
          · skip
            refine lv_iconst (v := (nI 1)) hx hb dX7_together_71 (by decide) ?_
            refine lv_goto (tgt := 76) hx hb dX7_together_72 (by decide) ?_
            exact ce_i (w := (fun q9 : RS × RS × RS × RS => wO G a ad zt ++ w5 G (ad 0) q9.1 ++ wFo G ad q9.2.1 ++ w5 G (ad 8) q9.2.2.1 ++ w0 G (ad 9) q9.2.2.2)) (z := z_65) X hr hk w (⟨by unfold an_tog; rw [if_pos (by omega), if_pos (by omega), if_neg (by omega), if_neg (by omega), mo_one ho hnt]; refine congrArg nI ?_; have e5 : sp_mo S 0 = sp_mq S 0 61 - 1 := rfl; first | (rw [if_pos (by omega)]; done) | (rw [if_neg (by omega)]; done), hk_65⟩) dX7_together_76
        · skip
          refine lv_iload_n hx hb dX7_together_56 rfl (lv_at hl 0 rfl) ?_
          exact ce_i (w := (fun q9 : RS × RS × RS × RS => wO G a ad zt ++ w5 G (ad 0) q9.1 ++ wFo G ad q9.2.1 ++ w5 G (ad 8) q9.2.2.1 ++ w0 G (ad 9) q9.2.2.2)) (z := z_47) X hr hk w (⟨by unfold an_tog; rw [if_pos (by omega), if_pos (by omega)]; by_cases g0 : wa9.toInt = 0; rw [if_pos g0, rch_one ho hnt]; rw [if_neg g0, if_pos (by omega), mo_one ho hnt], hk_47⟩) dX7_together_57
      · skip
        refine lv_bipush (v := (iZ (-2))) hx hb dX7_together_29 (by decide) ?_
        exact ce_i (w := (fun q9 : RS × RS × RS × RS => wO G a ad zt ++ w5 G (ad 0) q9.1 ++ wFo G ad q9.2.1 ++ w5 G (ad 8) q9.2.2.1 ++ w0 G (ad 9) q9.2.2.2)) (z := z) X hr hk w (⟨by unfold an_tog; rw [if_pos (by omega), if_neg (by omega)], rfl⟩) dX7_together_31
    · skip
      refine lv_iconst (v := (iZ (-1))) hx hb dX7_together_20 (by decide) ?_
      exact ce_i (w := (fun q9 : RS × RS × RS × RS => wO G a ad zt ++ w5 G (ad 0) q9.1 ++ wFo G ad q9.2.1 ++ w5 G (ad 8) q9.2.2.1 ++ w0 G (ad 9) q9.2.2.2)) (z := z) X hr hk w (⟨by unfold an_tog; rw [if_neg (by omega)], rfl⟩) dX7_together_21

section Lm_c7_ditched
variable {p : Program} {l : Launch} {e : Env} {R : Room} {s : State} {m : MethodId} {args : Array Value} {below : List Frame} {meth : Method} {c : Code} {H : Heap} {locs : List Loc} {cells slots : Nat} {Q : State → Prop}
variable {cc : ByteArray} {pc : Nat} {ls : Array Slot} {rest : List Value} {G : CG} {A : Nat → Prop}
theorem ag_XF_X7_131_sc {a : Nat → Nat} {ad : Nat → Nat → Nat} {zt : RS} {z : RS × RS × RS × RS} (X : cX RX7 G A p c cc s args m) (w : va_P G.1 vwCl (wO G a ad zt ++ w5 G (ad 0) z.1 ++ wFo G ad z.2.1 ++ w5 G (ad 8) z.2.2.1 ++ w0 G (ad 9) z.2.2.2) H) (hdg : decode cc pc = .ok (.getfield 131, 3)) (kk : W p l e R s m args below meth c H locs cells slots Q (F0 m (pc + 3) ls (.int (z.1.1 0) :: rest))) : W p l e R s m args below meth c H locs cells slots Q (F0 m pc ls (.ref ((ad 0) 0) :: rest)) :=
  va_getN (own := RX7) (ref := RX5) (host := "RunningThree") (D := G.1) (ci := 4) (v := .int (z.1.1 0)) (C := RX5) (T := TX5) (N := 13) X.1 X.2.1 X.2.2.1 gX5 X.2.2.2.1 X.2.2.2.2.1.1 w 2 rfl rfl 0 (by decide) (va_Nw.use rfl (X.2.2.2.2.1.2 _ wq_X7_131)) (fun _ h9 => h9) rfl hdg kk
theorem ag_XF_X7_105_sc {a : Nat → Nat} {ad : Nat → Nat → Nat} {zt : RS} {z : RS × RS × RS × RS} (X : cX RX7 G A p c cc s args m) (w : va_P G.1 vwCl (wO G a ad zt ++ w5 G (ad 0) z.1 ++ wFo G ad z.2.1 ++ w5 G (ad 8) z.2.2.1 ++ w0 G (ad 9) z.2.2.2) H) (hdg : decode cc pc = .ok (.getfield 105, 3)) (kk : W p l e R s m args below meth c H locs cells slots Q (F0 m (pc + 3) ls (.ref ((ad 0) 2) :: rest))) : W p l e R s m args below meth c H locs cells slots Q (F0 m pc ls (.ref ((ad 0) 0) :: rest)) :=
  va_getN (own := RX7) (ref := RX5) (host := "RunningThree") (D := G.1) (ci := 4) (v := .ref ((ad 0) 2)) (C := RX5) (T := TX5) (N := 13) X.1 X.2.1 X.2.2.1 gX5 X.2.2.2.1 X.2.2.2.2.1.1 w 2 rfl rfl 1 (by decide) (va_Nw.use rfl (X.2.2.2.2.1.2 _ wq_X7_105)) (fun _ h9 => h9) rfl hdg kk
theorem an_XF_sc_1 {own : String} {a : Nat → Nat} {ad : Nat → Nat → Nat} {zt : RS} {z : RS × RS × RS × RS} {j : Nat} (X : cX own G A p c cc s args m) (w : va_P G.1 vwCl (wO G a ad zt ++ w5 G (ad 0) z.1 ++ wFo G ad z.2.1 ++ w5 G (ad 8) z.2.2.1 ++ w0 G (ad 9) z.2.2.2) H) (hj : j < 40) (hdg : decode cc pc = .ok (.iaload, 1)) (kk : W p l e R s m args below meth c H locs cells slots Q (F0 m (pc + 1) ls (.int (z.1.2.1 1 j) :: rest))) : W p l e R s m args below meth c H locs cells slots Q (F0 m pc ls (.int (nI j) :: .ref ((ad 0) 2) :: rest)) :=
  va_iald X.1 X.2.1 X.2.2.2.2.1.1 w 3 0 rfl rfl (vp_in_nI hj (by decide)) hdg (by rw [nI_clamp (by omega)]; exact kk)
end Lm_c7_ditched
theorem ok7_ditched : cOk RX7 yX7_ditched cX7_ditched 5 (some .int) 0 := ⟨wc_X7_ditched, wi_X7_ditched, ws_X7_ditched, wn_X7, rfl, by decide, by decide, by decide +kernel⟩
set_option maxHeartbeats 4000000 in
set_option maxRecDepth 100000 in
theorem c7_ditched (l : Launch) (G : CG) (a : Nat → Nat) (ad : Nat → Nat → Nat) (zt : RS) (z : RS × RS × RS × RS)  (S : Sc) (hT : cSc z.1 S) (ho : oSc S) (hm : S.1 3 ≤ 400)  : cMi G l yX7_ditched cX7_ditched 5 (some .int) 6 163 [.ref (a 0)] (fun q9 : RS × RS × RS × RS => wO G a ad zt ++ w5 G (ad 0) q9.1 ++ wFo G ad q9.2.1 ++ w5 G (ad 8) q9.2.2.1 ++ w0 G (ad 9) q9.2.2.2) z (fun r z9 => r = an_dit S ∧ z9.1 = z.1) := by
  refine cMi_in (by decide) rfl (Nat.le_of_ble_eq_true rfl) ?_
  intro p e s m args below meth c A ls X hml hr hk hl w
  have hx := X.1
  have hb := X.2.1
  have hts := X.2.2.1
  have hown := X.2.2.2.1
  have hl : lv_has ls 5 [(0, .ref (a 0))] := hl
  obtain ⟨o1, o2, o3, o4, o5, o6, oso, oki, osr, opa, ohu, oco⟩ := id ho
  refine lv_aload_n hx hb dX7_ditched_0 rfl (lv_at hl 0 rfl) ?_
  refine gc_p (C := RX7) (ci := 6) (rest := []) X hml hl.1 (c7_mayTurn l G a ad zt z.1 S hT ho) ok7_mayTurn wm_X7_163 ⟨Nat.le_of_ble_eq_true rfl, Nat.le_of_ble_eq_true rfl⟩ ⟨Nat.le_refl _, Nat.le_refl _⟩ w.1 [0, 1, 2, 3, 4, 5, 6, 7, 8, 9] rfl rfl rfl rfl (Nat.le_of_ble_eq_true rfl) dX7_ditched_1 (fun r_1 hr_1 => ?_)
  subst hr_1
  have d_1 := may_ok S
  refine n_if_ne (tgt := 10) hx hb dX7_ditched_4 (by decide) (by omega) (fun c_4_1 => ?_) (fun c_4_1 => ?_)
  · skip
    have hov := ov_0 (show sp_over S = 0 by omega)
    have hnt : S.1 4 = 0 := by omega
    have hn1 := ov_ou (show sp_over S = 0 by omega)
    refine lv_aload_n hx hb dX7_ditched_10 rfl (lv_at hl 0 rfl) ?_
    refine ag_XF_X7_39_this X w.1 dX7_ditched_11 ?_
    refine lv_aload_n hx hb dX7_ditched_14 rfl (lv_at hl 0 rfl) ?_
    refine ag_XF_X7_10_this X w.1 dX7_ditched_15 ?_
    refine gc_v (C := RX2) (ci := 2) (rest := []) (w := (fun q9 : RS × RS × RS => wF G (ad 6) (ad 8) (ad 9) q9 ++ w5 G (ad 0) z.1)) (wr := [((a 0), .inr (6, [.ref ((ad 0) 0), .ref (ad 1 0), .ref (ad 2 0), .ref (ad 3 0), .int (zt.1 4), .ref (ad 5 0), .ref ((ad 6) 0), .ref (a 8)])), ((a 8), .inl (G.2.2.2, 4, .inr (.inr (.inr (.inr (fun j => some (ad (10 + j) 0)))))))]) (wn := (fun u9 => wO G a ad zt ++ w5 G (ad 0) (((((((z.1, u9.1, z.2.2.1, z.2.2.2)).1, ((z.1, u9.1, z.2.2.1, z.2.2.2)).2.1, u9.2.1, ((z.1, u9.1, z.2.2.1, z.2.2.2)).2.2.2)).1, ((((z.1, u9.1, z.2.2.1, z.2.2.2)).1, ((z.1, u9.1, z.2.2.1, z.2.2.2)).2.1, u9.2.1, ((z.1, u9.1, z.2.2.1, z.2.2.2)).2.2.2)).2.1, ((((z.1, u9.1, z.2.2.1, z.2.2.2)).1, ((z.1, u9.1, z.2.2.1, z.2.2.2)).2.1, u9.2.1, ((z.1, u9.1, z.2.2.1, z.2.2.2)).2.2.2)).2.2.1, u9.2.2))).1 ++ wFo G ad (((((((z.1, u9.1, z.2.2.1, z.2.2.2)).1, ((z.1, u9.1, z.2.2.1, z.2.2.2)).2.1, u9.2.1, ((z.1, u9.1, z.2.2.1, z.2.2.2)).2.2.2)).1, ((((z.1, u9.1, z.2.2.1, z.2.2.2)).1, ((z.1, u9.1, z.2.2.1, z.2.2.2)).2.1, u9.2.1, ((z.1, u9.1, z.2.2.1, z.2.2.2)).2.2.2)).2.1, ((((z.1, u9.1, z.2.2.1, z.2.2.2)).1, ((z.1, u9.1, z.2.2.1, z.2.2.2)).2.1, u9.2.1, ((z.1, u9.1, z.2.2.1, z.2.2.2)).2.2.2)).2.2.1, u9.2.2))).2.1 ++ w5 G (ad 8) (((((((z.1, u9.1, z.2.2.1, z.2.2.2)).1, ((z.1, u9.1, z.2.2.1, z.2.2.2)).2.1, u9.2.1, ((z.1, u9.1, z.2.2.1, z.2.2.2)).2.2.2)).1, ((((z.1, u9.1, z.2.2.1, z.2.2.2)).1, ((z.1, u9.1, z.2.2.1, z.2.2.2)).2.1, u9.2.1, ((z.1, u9.1, z.2.2.1, z.2.2.2)).2.2.2)).2.1, ((((z.1, u9.1, z.2.2.1, z.2.2.2)).1, ((z.1, u9.1, z.2.2.1, z.2.2.2)).2.1, u9.2.1, ((z.1, u9.1, z.2.2.1, z.2.2.2)).2.2.2)).2.2.1, u9.2.2))).2.2.1 ++ w0 G (ad 9) (((((((z.1, u9.1, z.2.2.1, z.2.2.2)).1, ((z.1, u9.1, z.2.2.1, z.2.2.2)).2.1, u9.2.1, ((z.1, u9.1, z.2.2.1, z.2.2.2)).2.2.2)).1, ((((z.1, u9.1, z.2.2.1, z.2.2.2)).1, ((z.1, u9.1, z.2.2.1, z.2.2.2)).2.1, u9.2.1, ((z.1, u9.1, z.2.2.1, z.2.2.2)).2.2.2)).2.1, ((((z.1, u9.1, z.2.2.1, z.2.2.2)).1, ((z.1, u9.1, z.2.2.1, z.2.2.2)).2.1, u9.2.1, ((z.1, u9.1, z.2.2.1, z.2.2.2)).2.2.2)).2.2.1, u9.2.2))).2.2.2)) X hml hl.1 (c2_begin l G (ad 6) (ad 8) (ad 9) (ad 0) z.1 z.2) ok2_begin wm_X7_173 ⟨Nat.le_of_ble_eq_true rfl, Nat.le_of_ble_eq_true rfl⟩ ⟨Nat.le_refl _, Nat.le_refl _⟩ w [10, 11, 12, 13, 14, 15, 16, 17, 18, 19, 20, 21, 22, 23, 24, 25, 26, 27, 28, 29, 30, 31, 2, 3, 4, 5, 6, 7, 8, 9] [0, 1] [0, 1, 24, 25, 26, 27, 28, 29, 30, 31, 2, 3, 4, 5, 6, 7, 8, 9, 10, 11, 12, 13, 14, 15, 16, 17, 18, 19, 20, 21, 22, 23] rfl (by decide) rfl (by decide) (by decide) (fun _ => rfl) (by decide) rfl rfl rfl (Nat.le_of_ble_eq_true rfl) dX7_ditched_18 (fun u_18 H locs hr_18 w => ?_)
    obtain ⟨z_18, ez_18⟩ : ∃ q9 : RS × RS × RS × RS, q9 = (((((z.1, u_18.1, z.2.2.1, z.2.2.2)).1, ((z.1, u_18.1, z.2.2.1, z.2.2.2)).2.1, u_18.2.1, ((z.1, u_18.1, z.2.2.1, z.2.2.2)).2.2.2)).1, ((((z.1, u_18.1, z.2.2.1, z.2.2.2)).1, ((z.1, u_18.1, z.2.2.1, z.2.2.2)).2.1, u_18.2.1, ((z.1, u_18.1, z.2.2.1, z.2.2.2)).2.2.2)).2.1, ((((z.1, u_18.1, z.2.2.1, z.2.2.2)).1, ((z.1, u_18.1, z.2.2.1, z.2.2.2)).2.1, u_18.2.1, ((z.1, u_18.1, z.2.2.1, z.2.2.2)).2.2.2)).2.2.1, u_18.2.2) := ⟨_, rfl⟩
    have w : cW G A s (wO G a ad zt ++ w5 G (ad 0) z_18.1 ++ wFo G ad z_18.2.1 ++ w5 G (ad 8) z_18.2.2.1 ++ w0 G (ad 9) z_18.2.2.2) H locs := by rw [ez_18]; exact w
    have eu_18_fo : z_18.2.1 = u_18.1 := by rw [ez_18]
    try rw [← eu_18_fo] at hr_18
    have eu_18_tr : z_18.2.2.1 = u_18.2.1 := by rw [ez_18]
    try rw [← eu_18_tr] at hr_18
    have eu_18_ch : z_18.2.2.2 = u_18.2.2 := by rw [ez_18]
    try rw [← eu_18_ch] at hr_18
    have ek_18_sc : z_18.1 = z.1 := by rw [ez_18]
    have hT_18 : cSc z_18.1 S := by rw [ek_18_sc]; exact hT
    have hF_18 : cSc z_18.2.2.1 S := cEq_c hr_18.1 o2 o3 hT
    have hM_18 : chM S z_18.2.2.2 := chM_0 hr_18.2.1
    have hk_18 : z_18.1 = z.1 := ek_18_sc
    refine lv_aload_n hx hb dX7_ditched_21 rfl (lv_at hl 0 rfl) ?_
    refine ag_XF_X7_39_this X w.1 dX7_ditched_22 ?_
    refine lv_bipush (v := (nI 61)) hx hb dX7_ditched_25 (by decide) ?_
    refine gc_i (C := RX2) (ci := 2) (rest := []) (w := (fun q9 : RS × RS × RS => wF G (ad 6) (ad 8) (ad 9) q9)) (wr := [((a 0), .inr (6, [.ref ((ad 0) 0), .ref (ad 1 0), .ref (ad 2 0), .ref (ad 3 0), .int (zt.1 4), .ref (ad 5 0), .ref ((ad 6) 0), .ref (a 8)])), ((a 8), .inl (G.2.2.2, 4, .inr (.inr (.inr (.inr (fun j => some (ad (10 + j) 0))))))), (((ad 0) 0), .inr (4, [.int (z_18.1.1 0), .ref ((ad 0) 2), .ref ((ad 0) 3), .int (z_18.1.1 3), .ref ((ad 0) 5), .ref ((ad 0) 6), .ref ((ad 0) 7), .ref ((ad 0) 8), .int (z_18.1.1 8), .int (z_18.1.1 9), .int (z_18.1.1 10), .ref ((ad 0) 12), .int (z_18.1.1 12)])), (((ad 0) 2), .inl (G.2.1, 40, .inl (z_18.1.2.1 1))), (((ad 0) 3), .inl (G.2.1, 40, .inl (z_18.1.2.1 2))), (((ad 0) 5), .inl (G.2.1, 5, .inl (z_18.1.2.1 4))), (((ad 0) 6), .inl (G.2.1, 5, .inl (z_18.1.2.1 5))), (((ad 0) 7), .inl (G.2.1, 5, .inl (z_18.1.2.1 6))), (((ad 0) 8), .inl (G.2.1, 5, .inl (z_18.1.2.1 7))), (((ad 0) 12), .inl (G.2.1, 5, .inl (z_18.1.2.1 11)))]) (wn := (fun u9 => wO G a ad zt ++ w5 G (ad 0) (((((((z_18.1, u9.1, z_18.2.2.1, z_18.2.2.2)).1, ((z_18.1, u9.1, z_18.2.2.1, z_18.2.2.2)).2.1, u9.2.1, ((z_18.1, u9.1, z_18.2.2.1, z_18.2.2.2)).2.2.2)).1, ((((z_18.1, u9.1, z_18.2.2.1, z_18.2.2.2)).1, ((z_18.1, u9.1, z_18.2.2.1, z_18.2.2.2)).2.1, u9.2.1, ((z_18.1, u9.1, z_18.2.2.1, z_18.2.2.2)).2.2.2)).2.1, ((((z_18.1, u9.1, z_18.2.2.1, z_18.2.2.2)).1, ((z_18.1, u9.1, z_18.2.2.1, z_18.2.2.2)).2.1, u9.2.1, ((z_18.1, u9.1, z_18.2.2.1, z_18.2.2.2)).2.2.2)).2.2.1, u9.2.2))).1 ++ wFo G ad (((((((z_18.1, u9.1, z_18.2.2.1, z_18.2.2.2)).1, ((z_18.1, u9.1, z_18.2.2.1, z_18.2.2.2)).2.1, u9.2.1, ((z_18.1, u9.1, z_18.2.2.1, z_18.2.2.2)).2.2.2)).1, ((((z_18.1, u9.1, z_18.2.2.1, z_18.2.2.2)).1, ((z_18.1, u9.1, z_18.2.2.1, z_18.2.2.2)).2.1, u9.2.1, ((z_18.1, u9.1, z_18.2.2.1, z_18.2.2.2)).2.2.2)).2.1, ((((z_18.1, u9.1, z_18.2.2.1, z_18.2.2.2)).1, ((z_18.1, u9.1, z_18.2.2.1, z_18.2.2.2)).2.1, u9.2.1, ((z_18.1, u9.1, z_18.2.2.1, z_18.2.2.2)).2.2.2)).2.2.1, u9.2.2))).2.1 ++ w5 G (ad 8) (((((((z_18.1, u9.1, z_18.2.2.1, z_18.2.2.2)).1, ((z_18.1, u9.1, z_18.2.2.1, z_18.2.2.2)).2.1, u9.2.1, ((z_18.1, u9.1, z_18.2.2.1, z_18.2.2.2)).2.2.2)).1, ((((z_18.1, u9.1, z_18.2.2.1, z_18.2.2.2)).1, ((z_18.1, u9.1, z_18.2.2.1, z_18.2.2.2)).2.1, u9.2.1, ((z_18.1, u9.1, z_18.2.2.1, z_18.2.2.2)).2.2.2)).2.1, ((((z_18.1, u9.1, z_18.2.2.1, z_18.2.2.2)).1, ((z_18.1, u9.1, z_18.2.2.1, z_18.2.2.2)).2.1, u9.2.1, ((z_18.1, u9.1, z_18.2.2.1, z_18.2.2.2)).2.2.2)).2.2.1, u9.2.2))).2.2.1 ++ w0 G (ad 9) (((((((z_18.1, u9.1, z_18.2.2.1, z_18.2.2.2)).1, ((z_18.1, u9.1, z_18.2.2.1, z_18.2.2.2)).2.1, u9.2.1, ((z_18.1, u9.1, z_18.2.2.1, z_18.2.2.2)).2.2.2)).1, ((((z_18.1, u9.1, z_18.2.2.1, z_18.2.2.2)).1, ((z_18.1, u9.1, z_18.2.2.1, z_18.2.2.2)).2.1, u9.2.1, ((z_18.1, u9.1, z_18.2.2.1, z_18.2.2.2)).2.2.2)).2.1, ((((z_18.1, u9.1, z_18.2.2.1, z_18.2.2.2)).1, ((z_18.1, u9.1, z_18.2.2.1, z_18.2.2.2)).2.1, u9.2.1, ((z_18.1, u9.1, z_18.2.2.1, z_18.2.2.2)).2.2.2)).2.2.1, u9.2.2))).2.2.2)) X hml hl.1 (c2_foresee l G (ad 6) (ad 8) (ad 9) z_18.2 61 S hF_18 ho hM_18 hov.1 hov.2 hnt (by omega) (by omega)) ok2_foresee wm_X7_179 ⟨Nat.le_of_ble_eq_true rfl, Nat.le_of_ble_eq_true rfl⟩ ⟨Nat.le_refl _, Nat.le_refl _⟩ w [10, 11, 12, 13, 14, 15, 16, 17, 18, 19, 20, 21, 22, 23, 24, 25, 26, 27, 28, 29, 30, 31] [0, 1, 2, 3, 4, 5, 6, 7, 8, 9] [0, 1, 2, 3, 4, 5, 6, 7, 8, 9, 10, 11, 12, 13, 14, 15, 16, 17, 18, 19, 20, 21, 22, 23, 24, 25, 26, 27, 28, 29, 30, 31] rfl (by decide) rfl (by decide) (by decide) (fun _ => rfl) (by decide) rfl rfl rfl (Nat.le_of_ble_eq_true rfl) dX7_ditched_27 (fun r_27 u_27 H locs hr_27 w => ?_)
    obtain ⟨z_27, ez_27⟩ : ∃ q9 : RS × RS × RS × RS, q9 = (((((z_18.1, u_27.1, z_18.2.2.1, z_18.2.2.2)).1, ((z_18.1, u_27.1, z_18.2.2.1, z_18.2.2.2)).2.1, u_27.2.1, ((z_18.1, u_27.1, z_18.2.2.1, z_18.2.2.2)).2.2.2)).1, ((((z_18.1, u_27.1, z_18.2.2.1, z_18.2.2.2)).1, ((z_18.1, u_27.1, z_18.2.2.1, z_18.2.2.2)).2.1, u_27.2.1, ((z_18.1, u_27.1, z_18.2.2.1, z_18.2.2.2)).2.2.2)).2.1, ((((z_18.1, u_27.1, z_18.2.2.1, z_18.2.2.2)).1, ((z_18.1, u_27.1, z_18.2.2.1, z_18.2.2.2)).2.1, u_27.2.1, ((z_18.1, u_27.1, z_18.2.2.1, z_18.2.2.2)).2.2.2)).2.2.1, u_27.2.2) := ⟨_, rfl⟩
    have w : cW G A s (wO G a ad zt ++ w5 G (ad 0) z_27.1 ++ wFo G ad z_27.2.1 ++ w5 G (ad 8) z_27.2.2.1 ++ w0 G (ad 9) z_27.2.2.2) H locs := by rw [ez_27]; exact w
    have eu_27_fo : z_27.2.1 = u_27.1 := by rw [ez_27]
    try rw [← eu_27_fo] at hr_27
    have eu_27_tr : z_27.2.2.1 = u_27.2.1 := by rw [ez_27]
    try rw [← eu_27_tr] at hr_27
    have eu_27_ch : z_27.2.2.2 = u_27.2.2 := by rw [ez_27]
    try rw [← eu_27_ch] at hr_27
    have ek_27_sc : z_27.1 = z_18.1 := by rw [ez_27]
    obtain ⟨hr_27, hrow, htr, hM_27⟩ := hr_27
    subst hr_27
    have hT_27 : cSc z_27.1 S := by rw [ek_27_sc]; exact hT_18
    have hF_27 : cSc z_27.2.2.1 S := by rw [htr]; exact hF_18
    have hk_27 : z_27.1 = z.1 := by rw [ek_27_sc]; exact hk_18
    have d_27 := mq_le S 0 61
    refine lv_istore_n (lv' := [(1, .int (nI (sp_mq S 0 61 - 1))), (0, .ref (a 0))]) hx hb dX7_ditched_30 rfl hl (by decide) rfl (fun ls hl => ?_)
    refine lv_bipush (v := (iZ (-4))) hx hb dX7_ditched_31 (by decide) ?_
    refine lv_istore_n (lv' := [(2, .int (iZ (-4))), (1, .int (nI (sp_mq S 0 61 - 1))), (0, .ref (a 0))]) hx hb dX7_ditched_33 rfl hl (by decide) rfl (fun ls hl => ?_)
    refine lv_iconst (v := (nI 1)) hx hb dX7_ditched_34 (by decide) ?_
    refine lv_istore_n (lv' := [(3, .int (nI 1)), (2, .int (iZ (-4))), (1, .int (nI (sp_mq S 0 61 - 1))), (0, .ref (a 0))]) hx hb dX7_ditched_35 rfl hl (by decide) rfl (fun ls hl => ?_)
    have hl : lv_has ls 5 [(3, .int (nI 1)), (2, .int (pc_fd (sp_dt S 0).2)), (1, .int (nI (sp_mq S 0 61 - 1))), (0, .ref (a 0))] := by rw [show (pc_fd (sp_dt S 0).2) = (iZ (-4)) from rfl]; exact hl
    have lp_36 : ∀ (n_36 : Nat) (i : Nat) (hi : i ≤ S.1 0 - 1) (hm_36 : S.1 0 - i < n_36) (ls : Array Slot) (zz : RS × RS × RS × RS) (H : Heap) (locs : List Loc) (w : cW G A s (wO G a ad zt ++ w5 G (ad 0) zz.1 ++ wFo G ad zz.2.1 ++ w5 G (ad 8) zz.2.2.1 ++ w0 G (ad 9) zz.2.2.2) H locs) (hFz : cSc zz.2.2.1 S) (hMz : chM S zz.2.2.2) (hqk : zz.1 = z.1), lv_has ls 5 [(0, .ref (a 0)), (1, .int (nI ((sp_dt S i).1))), (2, .int (pc_fd (sp_dt S i).2)), (3, .int (nI (i + 1)))] → W p l e (ro_m 6 163) s m args below meth c H locs 0 0 (MQ below (va_Qi (fun r z9 => r = an_dit S ∧ z9.1 = z.1) (cB G (fun q9 : RS × RS × RS × RS => wO G a ad zt ++ w5 G (ad 0) q9.1 ++ wFo G ad q9.2.1 ++ w5 G (ad 8) q9.2.2.1 ++ w0 G (ad 9) q9.2.2.2) A) A) args s 0 0 A) (F0 m 36 ls []) := by
      intro n_36
      induction n_36 with
      | zero => intro i hi hm; exact absurd hm (Nat.not_lt_zero _)
      | succ n_36 ih_36 =>
        intro i hi hm_36 ls zz H locs w hFz hMz hqk hl
        have q1 := dt_le S i
        have q5 := oso (i + 1)
        have hTz : cSc zz.1 S := by rw [hqk]; exact hT
        refine lv_iload_n hx hb dX7_ditched_36 rfl (lv_at hl 3 rfl) ?_
        refine lv_aload_n hx hb dX7_ditched_37 rfl (lv_at hl 0 rfl) ?_
        refine ag_XF_X7_10_this X w.1 dX7_ditched_38 ?_
        refine ag_XF_X7_131_sc X w.1 dX7_ditched_41 ?_
        refine tp_i (show zz.1.1 0 = (nI (S.1 0)) from (cs_ce hTz.1)) ?_
        refine n_icmp_ge (tgt := 105) hx hb dX7_ditched_44 (by decide) (by omega) (by omega) (fun c_44_2 => ?_) (fun c_44_2 => ?_)
        · skip
          refine lv_iload_n hx hb dX7_ditched_105 rfl (lv_at hl 2 rfl) ?_
          exact ce_i (w := (fun q9 : RS × RS × RS × RS => wO G a ad zt ++ w5 G (ad 0) q9.1 ++ wFo G ad q9.2.1 ++ w5 G (ad 8) q9.2.2.1 ++ w0 G (ad 9) q9.2.2.2)) (z := zz) X hr hk w (⟨by unfold an_dit; rw [if_pos (by omega), show S.1 0 - 1 = i by omega], hqk⟩) dX7_ditched_106
        · skip
          refine lv_aload_n hx hb dX7_ditched_47 rfl (lv_at hl 0 rfl) ?_
          refine ag_XF_X7_10_this X w.1 dX7_ditched_48 ?_
          refine ag_XF_X7_105_sc X w.1 dX7_ditched_51 ?_
          refine lv_iload_n hx hb dX7_ditched_54 rfl (lv_at hl 3 rfl) ?_
          refine an_XF_sc_1 X w.1 (by omega) dX7_ditched_55 ?_
          refine tp_i (show zz.1.2.1 1 (i + 1) = (nI (S.2.1 0 (i + 1))) from (cs_so hTz.1 (i + 1) (by omega))) ?_
          refine n_if_ne (tgt := 99) hx hb dX7_ditched_56 (by decide) (by omega) (fun c_56_3 => ?_) (fun c_56_3 => ?_)
          · skip
            have hl : lv_has ls 5 [(0, .ref (a 0)), (1, .int (nI ((sp_dt S i).1))), (2, .int (pc_fd (sp_dt S (i + 1)).2)), (3, .int (nI (i + 1)))] := by rw [show (pc_fd (sp_dt S (i + 1)).2) = (pc_fd (sp_dt S i).2) from (by first | (rw [dt_n (by omega)]; done) | (exact (dt_y hso (x := pc_fd (sp_dt S i).2) (y := (sp_dt S i).1) (if_pos (by omega)).symm (if_pos (by omega)).symm).1.symm))]; exact hl
            have hl : lv_has ls 5 [(0, .ref (a 0)), (1, .int (nI ((sp_dt S (i + 1)).1))), (2, .int (pc_fd (sp_dt S (i + 1)).2)), (3, .int (nI (i + 1)))] := by rw [show (nI ((sp_dt S (i + 1)).1)) = (nI ((sp_dt S i).1)) from (by first | (rw [dt_n (by omega)]; done) | (exact congrArg nI (dt_y hso (x := pc_fd (sp_dt S i).2) (y := (sp_dt S i).1) (if_pos (by omega)).symm (if_pos (by omega)).symm).2.symm))]; exact hl
            refine lv_iinc (v := (nI (i + 1 + 1))) (lv' := [(3, .int (nI (i + 1 + 1))), (0, .ref (a 0)), (1, .int (nI ((sp_dt S (i + 1)).1))), (2, .int (pc_fd (sp_dt S (i + 1)).2))]) hx hb dX7_ditched_99 hl (k := 3) rfl (by first | exact nI_1 _ | (rw [show Int32.ofInt 1 = nI 1 from by decide, nI_add])) (by decide) rfl (fun ls hl => ?_)
            refine lv_goto (tgt := 36) hx hb dX7_ditched_102 (by decide) ?_
            exact ih_36 (i + 1) (by omega) (by omega) ls zz _ _ w hFz hMz hqk (lv_sub hl [1, 2, 3, 0] rfl)
          · skip
            have hso : S.2.1 0 (i + 1) = 0 := by omega
            refine lv_aload_n hx hb dX7_ditched_59 rfl (lv_at hl 0 rfl) ?_
            refine ag_XF_X7_39_this X w.1 dX7_ditched_60 ?_
            refine lv_iload_n hx hb dX7_ditched_63 rfl (lv_at hl 3 rfl) ?_
            refine lv_iconst (v := (nI 2)) hx hb dX7_ditched_64 (by decide) ?_
            refine gc_v (C := RX2) (ci := 2) (rest := []) (w := (fun q9 : RS × RS × RS => wF G (ad 6) (ad 8) (ad 9) q9)) (wr := [((a 0), .inr (6, [.ref ((ad 0) 0), .ref (ad 1 0), .ref (ad 2 0), .ref (ad 3 0), .int (zt.1 4), .ref (ad 5 0), .ref ((ad 6) 0), .ref (a 8)])), ((a 8), .inl (G.2.2.2, 4, .inr (.inr (.inr (.inr (fun j => some (ad (10 + j) 0))))))), (((ad 0) 0), .inr (4, [.int (zz.1.1 0), .ref ((ad 0) 2), .ref ((ad 0) 3), .int (zz.1.1 3), .ref ((ad 0) 5), .ref ((ad 0) 6), .ref ((ad 0) 7), .ref ((ad 0) 8), .int (zz.1.1 8), .int (zz.1.1 9), .int (zz.1.1 10), .ref ((ad 0) 12), .int (zz.1.1 12)])), (((ad 0) 2), .inl (G.2.1, 40, .inl (zz.1.2.1 1))), (((ad 0) 3), .inl (G.2.1, 40, .inl (zz.1.2.1 2))), (((ad 0) 5), .inl (G.2.1, 5, .inl (zz.1.2.1 4))), (((ad 0) 6), .inl (G.2.1, 5, .inl (zz.1.2.1 5))), (((ad 0) 7), .inl (G.2.1, 5, .inl (zz.1.2.1 6))), (((ad 0) 8), .inl (G.2.1, 5, .inl (zz.1.2.1 7))), (((ad 0) 12), .inl (G.2.1, 5, .inl (zz.1.2.1 11)))]) (wn := (fun u9 => wO G a ad zt ++ w5 G (ad 0) (((((((zz.1, u9.1, zz.2.2.1, zz.2.2.2)).1, ((zz.1, u9.1, zz.2.2.1, zz.2.2.2)).2.1, u9.2.1, ((zz.1, u9.1, zz.2.2.1, zz.2.2.2)).2.2.2)).1, ((((zz.1, u9.1, zz.2.2.1, zz.2.2.2)).1, ((zz.1, u9.1, zz.2.2.1, zz.2.2.2)).2.1, u9.2.1, ((zz.1, u9.1, zz.2.2.1, zz.2.2.2)).2.2.2)).2.1, ((((zz.1, u9.1, zz.2.2.1, zz.2.2.2)).1, ((zz.1, u9.1, zz.2.2.1, zz.2.2.2)).2.1, u9.2.1, ((zz.1, u9.1, zz.2.2.1, zz.2.2.2)).2.2.2)).2.2.1, u9.2.2))).1 ++ wFo G ad (((((((zz.1, u9.1, zz.2.2.1, zz.2.2.2)).1, ((zz.1, u9.1, zz.2.2.1, zz.2.2.2)).2.1, u9.2.1, ((zz.1, u9.1, zz.2.2.1, zz.2.2.2)).2.2.2)).1, ((((zz.1, u9.1, zz.2.2.1, zz.2.2.2)).1, ((zz.1, u9.1, zz.2.2.1, zz.2.2.2)).2.1, u9.2.1, ((zz.1, u9.1, zz.2.2.1, zz.2.2.2)).2.2.2)).2.1, ((((zz.1, u9.1, zz.2.2.1, zz.2.2.2)).1, ((zz.1, u9.1, zz.2.2.1, zz.2.2.2)).2.1, u9.2.1, ((zz.1, u9.1, zz.2.2.1, zz.2.2.2)).2.2.2)).2.2.1, u9.2.2))).2.1 ++ w5 G (ad 8) (((((((zz.1, u9.1, zz.2.2.1, zz.2.2.2)).1, ((zz.1, u9.1, zz.2.2.1, zz.2.2.2)).2.1, u9.2.1, ((zz.1, u9.1, zz.2.2.1, zz.2.2.2)).2.2.2)).1, ((((zz.1, u9.1, zz.2.2.1, zz.2.2.2)).1, ((zz.1, u9.1, zz.2.2.1, zz.2.2.2)).2.1, u9.2.1, ((zz.1, u9.1, zz.2.2.1, zz.2.2.2)).2.2.2)).2.1, ((((zz.1, u9.1, zz.2.2.1, zz.2.2.2)).1, ((zz.1, u9.1, zz.2.2.1, zz.2.2.2)).2.1, u9.2.1, ((zz.1, u9.1, zz.2.2.1, zz.2.2.2)).2.2.2)).2.2.1, u9.2.2))).2.2.1 ++ w0 G (ad 9) (((((((zz.1, u9.1, zz.2.2.1, zz.2.2.2)).1, ((zz.1, u9.1, zz.2.2.1, zz.2.2.2)).2.1, u9.2.1, ((zz.1, u9.1, zz.2.2.1, zz.2.2.2)).2.2.2)).1, ((((zz.1, u9.1, zz.2.2.1, zz.2.2.2)).1, ((zz.1, u9.1, zz.2.2.1, zz.2.2.2)).2.1, u9.2.1, ((zz.1, u9.1, zz.2.2.1, zz.2.2.2)).2.2.2)).2.1, ((((zz.1, u9.1, zz.2.2.1, zz.2.2.2)).1, ((zz.1, u9.1, zz.2.2.1, zz.2.2.2)).2.1, u9.2.1, ((zz.1, u9.1, zz.2.2.1, zz.2.2.2)).2.2.2)).2.2.1, u9.2.2))).2.2.2)) X hml hl.1 (c2_suppose l G (ad 6) (ad 8) (ad 9) zz.2 (i + 1) 2 S hFz ho (by omega) (by omega) (by omega)) ok2_suppose wm_X7_192 ⟨Nat.le_of_ble_eq_true rfl, Nat.le_of_ble_eq_true rfl⟩ ⟨Nat.le_refl _, Nat.le_refl _⟩ w [10, 11, 12, 13, 14, 15, 16, 17, 18, 19, 20, 21, 22, 23, 24, 25, 26, 27, 28, 29, 30, 31] [0, 1, 2, 3, 4, 5, 6, 7, 8, 9] [0, 1, 2, 3, 4, 5, 6, 7, 8, 9, 10, 11, 12, 13, 14, 15, 16, 17, 18, 19, 20, 21, 22, 23, 24, 25, 26, 27, 28, 29, 30, 31] rfl (by decide) rfl (by decide) (by decide) (fun _ => rfl) (by decide) rfl rfl rfl (Nat.le_of_ble_eq_true rfl) dX7_ditched_65 (fun u_65 H locs hr_65 w => ?_)
            obtain ⟨z_65, ez_65⟩ : ∃ q9 : RS × RS × RS × RS, q9 = (((((zz.1, u_65.1, zz.2.2.1, zz.2.2.2)).1, ((zz.1, u_65.1, zz.2.2.1, zz.2.2.2)).2.1, u_65.2.1, ((zz.1, u_65.1, zz.2.2.1, zz.2.2.2)).2.2.2)).1, ((((zz.1, u_65.1, zz.2.2.1, zz.2.2.2)).1, ((zz.1, u_65.1, zz.2.2.1, zz.2.2.2)).2.1, u_65.2.1, ((zz.1, u_65.1, zz.2.2.1, zz.2.2.2)).2.2.2)).2.1, ((((zz.1, u_65.1, zz.2.2.1, zz.2.2.2)).1, ((zz.1, u_65.1, zz.2.2.1, zz.2.2.2)).2.1, u_65.2.1, ((zz.1, u_65.1, zz.2.2.1, zz.2.2.2)).2.2.2)).2.2.1, u_65.2.2) := ⟨_, rfl⟩
            have w : cW G A s (wO G a ad zt ++ w5 G (ad 0) z_65.1 ++ wFo G ad z_65.2.1 ++ w5 G (ad 8) z_65.2.2.1 ++ w0 G (ad 9) z_65.2.2.2) H locs := by rw [ez_65]; exact w
            have eu_65_fo : z_65.2.1 = u_65.1 := by rw [ez_65]
            try rw [← eu_65_fo] at hr_65
            have eu_65_tr : z_65.2.2.1 = u_65.2.1 := by rw [ez_65]
            try rw [← eu_65_tr] at hr_65
            have eu_65_ch : z_65.2.2.2 = u_65.2.2 := by rw [ez_65]
            try rw [← eu_65_ch] at hr_65
            have ek_65_sc : z_65.1 = zz.1 := by rw [ez_65]
            refine lv_aload_n hx hb dX7_ditched_68 rfl (lv_at hl 0 rfl) ?_
            refine ag_XF_X7_39_this X w.1 dX7_ditched_69 ?_
            refine lv_bipush (v := (nI 61)) hx hb dX7_ditched_72 (by decide) ?_
            refine gc_i (C := RX2) (ci := 2) (rest := []) (w := (fun q9 : RS × RS × RS => wF G (ad 6) (ad 8) (ad 9) q9)) (wr := [((a 0), .inr (6, [.ref ((ad 0) 0), .ref (ad 1 0), .ref (ad 2 0), .ref (ad 3 0), .int (zt.1 4), .ref (ad 5 0), .ref ((ad 6) 0), .ref (a 8)])), ((a 8), .inl (G.2.2.2, 4, .inr (.inr (.inr (.inr (fun j => some (ad (10 + j) 0))))))), (((ad 0) 0), .inr (4, [.int (z_65.1.1 0), .ref ((ad 0) 2), .ref ((ad 0) 3), .int (z_65.1.1 3), .ref ((ad 0) 5), .ref ((ad 0) 6), .ref ((ad 0) 7), .ref ((ad 0) 8), .int (z_65.1.1 8), .int (z_65.1.1 9), .int (z_65.1.1 10), .ref ((ad 0) 12), .int (z_65.1.1 12)])), (((ad 0) 2), .inl (G.2.1, 40, .inl (z_65.1.2.1 1))), (((ad 0) 3), .inl (G.2.1, 40, .inl (z_65.1.2.1 2))), (((ad 0) 5), .inl (G.2.1, 5, .inl (z_65.1.2.1 4))), (((ad 0) 6), .inl (G.2.1, 5, .inl (z_65.1.2.1 5))), (((ad 0) 7), .inl (G.2.1, 5, .inl (z_65.1.2.1 6))), (((ad 0) 8), .inl (G.2.1, 5, .inl (z_65.1.2.1 7))), (((ad 0) 12), .inl (G.2.1, 5, .inl (z_65.1.2.1 11)))]) (wn := (fun u9 => wO G a ad zt ++ w5 G (ad 0) (((((((z_65.1, u9.1, z_65.2.2.1, z_65.2.2.2)).1, ((z_65.1, u9.1, z_65.2.2.1, z_65.2.2.2)).2.1, u9.2.1, ((z_65.1, u9.1, z_65.2.2.1, z_65.2.2.2)).2.2.2)).1, ((((z_65.1, u9.1, z_65.2.2.1, z_65.2.2.2)).1, ((z_65.1, u9.1, z_65.2.2.1, z_65.2.2.2)).2.1, u9.2.1, ((z_65.1, u9.1, z_65.2.2.1, z_65.2.2.2)).2.2.2)).2.1, ((((z_65.1, u9.1, z_65.2.2.1, z_65.2.2.2)).1, ((z_65.1, u9.1, z_65.2.2.1, z_65.2.2.2)).2.1, u9.2.1, ((z_65.1, u9.1, z_65.2.2.1, z_65.2.2.2)).2.2.2)).2.2.1, u9.2.2))).1 ++ wFo G ad (((((((z_65.1, u9.1, z_65.2.2.1, z_65.2.2.2)).1, ((z_65.1, u9.1, z_65.2.2.1, z_65.2.2.2)).2.1, u9.2.1, ((z_65.1, u9.1, z_65.2.2.1, z_65.2.2.2)).2.2.2)).1, ((((z_65.1, u9.1, z_65.2.2.1, z_65.2.2.2)).1, ((z_65.1, u9.1, z_65.2.2.1, z_65.2.2.2)).2.1, u9.2.1, ((z_65.1, u9.1, z_65.2.2.1, z_65.2.2.2)).2.2.2)).2.1, ((((z_65.1, u9.1, z_65.2.2.1, z_65.2.2.2)).1, ((z_65.1, u9.1, z_65.2.2.1, z_65.2.2.2)).2.1, u9.2.1, ((z_65.1, u9.1, z_65.2.2.1, z_65.2.2.2)).2.2.2)).2.2.1, u9.2.2))).2.1 ++ w5 G (ad 8) (((((((z_65.1, u9.1, z_65.2.2.1, z_65.2.2.2)).1, ((z_65.1, u9.1, z_65.2.2.1, z_65.2.2.2)).2.1, u9.2.1, ((z_65.1, u9.1, z_65.2.2.1, z_65.2.2.2)).2.2.2)).1, ((((z_65.1, u9.1, z_65.2.2.1, z_65.2.2.2)).1, ((z_65.1, u9.1, z_65.2.2.1, z_65.2.2.2)).2.1, u9.2.1, ((z_65.1, u9.1, z_65.2.2.1, z_65.2.2.2)).2.2.2)).2.1, ((((z_65.1, u9.1, z_65.2.2.1, z_65.2.2.2)).1, ((z_65.1, u9.1, z_65.2.2.1, z_65.2.2.2)).2.1, u9.2.1, ((z_65.1, u9.1, z_65.2.2.1, z_65.2.2.2)).2.2.2)).2.2.1, u9.2.2))).2.2.1 ++ w0 G (ad 9) (((((((z_65.1, u9.1, z_65.2.2.1, z_65.2.2.2)).1, ((z_65.1, u9.1, z_65.2.2.1, z_65.2.2.2)).2.1, u9.2.1, ((z_65.1, u9.1, z_65.2.2.1, z_65.2.2.2)).2.2.2)).1, ((((z_65.1, u9.1, z_65.2.2.1, z_65.2.2.2)).1, ((z_65.1, u9.1, z_65.2.2.1, z_65.2.2.2)).2.1, u9.2.1, ((z_65.1, u9.1, z_65.2.2.1, z_65.2.2.2)).2.2.2)).2.1, ((((z_65.1, u9.1, z_65.2.2.1, z_65.2.2.2)).1, ((z_65.1, u9.1, z_65.2.2.1, z_65.2.2.2)).2.1, u9.2.1, ((z_65.1, u9.1, z_65.2.2.1, z_65.2.2.2)).2.2.2)).2.2.1, u9.2.2))).2.2.2)) X hml hl.1 (c2_foresee l G (ad 6) (ad 8) (ad 9) z_65.2 61 (sR S 0 (i + 1) 2) hr_65.1 (oSc_so ho (by omega)) (chM_cg (S9 := (sR S 0 (i + 1) 2)) (S := S) (by rw [hr_65.2.2]; exact hMz) rfl rfl rfl rfl hn1) hov.1 hov.2 hnt (by omega) (by show S.1 3 ≤ 400; omega)) ok2_foresee wm_X7_179 ⟨Nat.le_of_ble_eq_true rfl, Nat.le_of_ble_eq_true rfl⟩ ⟨Nat.le_refl _, Nat.le_refl _⟩ w [10, 11, 12, 13, 14, 15, 16, 17, 18, 19, 20, 21, 22, 23, 24, 25, 26, 27, 28, 29, 30, 31] [0, 1, 2, 3, 4, 5, 6, 7, 8, 9] [0, 1, 2, 3, 4, 5, 6, 7, 8, 9, 10, 11, 12, 13, 14, 15, 16, 17, 18, 19, 20, 21, 22, 23, 24, 25, 26, 27, 28, 29, 30, 31] rfl (by decide) rfl (by decide) (by decide) (fun _ => rfl) (by decide) rfl rfl rfl (Nat.le_of_ble_eq_true rfl) dX7_ditched_74 (fun r_74 u_74 H locs hr_74 w => ?_)
            obtain ⟨z_74, ez_74⟩ : ∃ q9 : RS × RS × RS × RS, q9 = (((((z_65.1, u_74.1, z_65.2.2.1, z_65.2.2.2)).1, ((z_65.1, u_74.1, z_65.2.2.1, z_65.2.2.2)).2.1, u_74.2.1, ((z_65.1, u_74.1, z_65.2.2.1, z_65.2.2.2)).2.2.2)).1, ((((z_65.1, u_74.1, z_65.2.2.1, z_65.2.2.2)).1, ((z_65.1, u_74.1, z_65.2.2.1, z_65.2.2.2)).2.1, u_74.2.1, ((z_65.1, u_74.1, z_65.2.2.1, z_65.2.2.2)).2.2.2)).2.1, ((((z_65.1, u_74.1, z_65.2.2.1, z_65.2.2.2)).1, ((z_65.1, u_74.1, z_65.2.2.1, z_65.2.2.2)).2.1, u_74.2.1, ((z_65.1, u_74.1, z_65.2.2.1, z_65.2.2.2)).2.2.2)).2.2.1, u_74.2.2) := ⟨_, rfl⟩
            have w : cW G A s (wO G a ad zt ++ w5 G (ad 0) z_74.1 ++ wFo G ad z_74.2.1 ++ w5 G (ad 8) z_74.2.2.1 ++ w0 G (ad 9) z_74.2.2.2) H locs := by rw [ez_74]; exact w
            have eu_74_fo : z_74.2.1 = u_74.1 := by rw [ez_74]
            try rw [← eu_74_fo] at hr_74
            have eu_74_tr : z_74.2.2.1 = u_74.2.1 := by rw [ez_74]
            try rw [← eu_74_tr] at hr_74
            have eu_74_ch : z_74.2.2.2 = u_74.2.2 := by rw [ez_74]
            try rw [← eu_74_ch] at hr_74
            have ek_74_sc : z_74.1 = z_65.1 := by rw [ez_74]
            obtain ⟨hr_74, hrow, htr, hM_74⟩ := hr_74
            subst hr_74
            have d74 := mq_le (sR S 0 (i + 1) 2) 0 61
            have e74 : sp_mo (sR S 0 (i + 1) 2) 0 = sp_mq (sR S 0 (i + 1) 2) 0 61 - 1 := rfl
            refine lv_istore (lv' := [(4, .int (nI (sp_mq (sR S 0 (i + 1) 2) 0 61 - 1))), (0, .ref (a 0)), (1, .int (nI ((sp_dt S i).1))), (2, .int (pc_fd (sp_dt S i).2)), (3, .int (nI (i + 1)))]) hx hb dX7_ditched_77 hl (by decide) rfl (fun ls hl => ?_)
            refine lv_aload_n hx hb dX7_ditched_79 rfl (lv_at hl 1 rfl) ?_
            refine ag_XF_X7_39_this X w.1 dX7_ditched_80 ?_
            refine lv_iload_n hx hb dX7_ditched_83 rfl (lv_at hl 4 rfl) ?_
            refine lv_iconst (v := (nI 0)) hx hb dX7_ditched_84 (by decide) ?_
            refine gc_v (C := RX2) (ci := 2) (rest := []) (w := (fun q9 : RS × RS × RS => wF G (ad 6) (ad 8) (ad 9) q9)) (wr := [((a 0), .inr (6, [.ref ((ad 0) 0), .ref (ad 1 0), .ref (ad 2 0), .ref (ad 3 0), .int (zt.1 4), .ref (ad 5 0), .ref ((ad 6) 0), .ref (a 8)])), ((a 8), .inl (G.2.2.2, 4, .inr (.inr (.inr (.inr (fun j => some (ad (10 + j) 0))))))), (((ad 0) 0), .inr (4, [.int (z_74.1.1 0), .ref ((ad 0) 2), .ref ((ad 0) 3), .int (z_74.1.1 3), .ref ((ad 0) 5), .ref ((ad 0) 6), .ref ((ad 0) 7), .ref ((ad 0) 8), .int (z_74.1.1 8), .int (z_74.1.1 9), .int (z_74.1.1 10), .ref ((ad 0) 12), .int (z_74.1.1 12)])), (((ad 0) 2), .inl (G.2.1, 40, .inl (z_74.1.2.1 1))), (((ad 0) 3), .inl (G.2.1, 40, .inl (z_74.1.2.1 2))), (((ad 0) 5), .inl (G.2.1, 5, .inl (z_74.1.2.1 4))), (((ad 0) 6), .inl (G.2.1, 5, .inl (z_74.1.2.1 5))), (((ad 0) 7), .inl (G.2.1, 5, .inl (z_74.1.2.1 6))), (((ad 0) 8), .inl (G.2.1, 5, .inl (z_74.1.2.1 7))), (((ad 0) 12), .inl (G.2.1, 5, .inl (z_74.1.2.1 11)))]) (wn := (fun u9 => wO G a ad zt ++ w5 G (ad 0) (((((((z_74.1, u9.1, z_74.2.2.1, z_74.2.2.2)).1, ((z_74.1, u9.1, z_74.2.2.1, z_74.2.2.2)).2.1, u9.2.1, ((z_74.1, u9.1, z_74.2.2.1, z_74.2.2.2)).2.2.2)).1, ((((z_74.1, u9.1, z_74.2.2.1, z_74.2.2.2)).1, ((z_74.1, u9.1, z_74.2.2.1, z_74.2.2.2)).2.1, u9.2.1, ((z_74.1, u9.1, z_74.2.2.1, z_74.2.2.2)).2.2.2)).2.1, ((((z_74.1, u9.1, z_74.2.2.1, z_74.2.2.2)).1, ((z_74.1, u9.1, z_74.2.2.1, z_74.2.2.2)).2.1, u9.2.1, ((z_74.1, u9.1, z_74.2.2.1, z_74.2.2.2)).2.2.2)).2.2.1, u9.2.2))).1 ++ wFo G ad (((((((z_74.1, u9.1, z_74.2.2.1, z_74.2.2.2)).1, ((z_74.1, u9.1, z_74.2.2.1, z_74.2.2.2)).2.1, u9.2.1, ((z_74.1, u9.1, z_74.2.2.1, z_74.2.2.2)).2.2.2)).1, ((((z_74.1, u9.1, z_74.2.2.1, z_74.2.2.2)).1, ((z_74.1, u9.1, z_74.2.2.1, z_74.2.2.2)).2.1, u9.2.1, ((z_74.1, u9.1, z_74.2.2.1, z_74.2.2.2)).2.2.2)).2.1, ((((z_74.1, u9.1, z_74.2.2.1, z_74.2.2.2)).1, ((z_74.1, u9.1, z_74.2.2.1, z_74.2.2.2)).2.1, u9.2.1, ((z_74.1, u9.1, z_74.2.2.1, z_74.2.2.2)).2.2.2)).2.2.1, u9.2.2))).2.1 ++ w5 G (ad 8) (((((((z_74.1, u9.1, z_74.2.2.1, z_74.2.2.2)).1, ((z_74.1, u9.1, z_74.2.2.1, z_74.2.2.2)).2.1, u9.2.1, ((z_74.1, u9.1, z_74.2.2.1, z_74.2.2.2)).2.2.2)).1, ((((z_74.1, u9.1, z_74.2.2.1, z_74.2.2.2)).1, ((z_74.1, u9.1, z_74.2.2.1, z_74.2.2.2)).2.1, u9.2.1, ((z_74.1, u9.1, z_74.2.2.1, z_74.2.2.2)).2.2.2)).2.1, ((((z_74.1, u9.1, z_74.2.2.1, z_74.2.2.2)).1, ((z_74.1, u9.1, z_74.2.2.1, z_74.2.2.2)).2.1, u9.2.1, ((z_74.1, u9.1, z_74.2.2.1, z_74.2.2.2)).2.2.2)).2.2.1, u9.2.2))).2.2.1 ++ w0 G (ad 9) (((((((z_74.1, u9.1, z_74.2.2.1, z_74.2.2.2)).1, ((z_74.1, u9.1, z_74.2.2.1, z_74.2.2.2)).2.1, u9.2.1, ((z_74.1, u9.1, z_74.2.2.1, z_74.2.2.2)).2.2.2)).1, ((((z_74.1, u9.1, z_74.2.2.1, z_74.2.2.2)).1, ((z_74.1, u9.1, z_74.2.2.1, z_74.2.2.2)).2.1, u9.2.1, ((z_74.1, u9.1, z_74.2.2.1, z_74.2.2.2)).2.2.2)).2.1, ((((z_74.1, u9.1, z_74.2.2.1, z_74.2.2.2)).1, ((z_74.1, u9.1, z_74.2.2.1, z_74.2.2.2)).2.1, u9.2.1, ((z_74.1, u9.1, z_74.2.2.1, z_74.2.2.2)).2.2.2)).2.2.1, u9.2.2))).2.2.2)) X hml hl.1 (c2_suppose l G (ad 6) (ad 8) (ad 9) z_74.2 (i + 1) 0 (sR S 0 (i + 1) 2) (by rw [htr]; exact hr_65.1) (oSc_so ho (by omega)) (by omega) (show i + 1 < S.1 0 by omega) (by omega)) ok2_suppose wm_X7_192 ⟨Nat.le_of_ble_eq_true rfl, Nat.le_of_ble_eq_true rfl⟩ ⟨Nat.le_refl _, Nat.le_refl _⟩ w [10, 11, 12, 13, 14, 15, 16, 17, 18, 19, 20, 21, 22, 23, 24, 25, 26, 27, 28, 29, 30, 31] [0, 1, 2, 3, 4, 5, 6, 7, 8, 9] [0, 1, 2, 3, 4, 5, 6, 7, 8, 9, 10, 11, 12, 13, 14, 15, 16, 17, 18, 19, 20, 21, 22, 23, 24, 25, 26, 27, 28, 29, 30, 31] rfl (by decide) rfl (by decide) (by decide) (fun _ => rfl) (by decide) rfl rfl rfl (Nat.le_of_ble_eq_true rfl) dX7_ditched_85 (fun u_85 H locs hr_85 w => ?_)
            obtain ⟨z_85, ez_85⟩ : ∃ q9 : RS × RS × RS × RS, q9 = (((((z_74.1, u_85.1, z_74.2.2.1, z_74.2.2.2)).1, ((z_74.1, u_85.1, z_74.2.2.1, z_74.2.2.2)).2.1, u_85.2.1, ((z_74.1, u_85.1, z_74.2.2.1, z_74.2.2.2)).2.2.2)).1, ((((z_74.1, u_85.1, z_74.2.2.1, z_74.2.2.2)).1, ((z_74.1, u_85.1, z_74.2.2.1, z_74.2.2.2)).2.1, u_85.2.1, ((z_74.1, u_85.1, z_74.2.2.1, z_74.2.2.2)).2.2.2)).2.1, ((((z_74.1, u_85.1, z_74.2.2.1, z_74.2.2.2)).1, ((z_74.1, u_85.1, z_74.2.2.1, z_74.2.2.2)).2.1, u_85.2.1, ((z_74.1, u_85.1, z_74.2.2.1, z_74.2.2.2)).2.2.2)).2.2.1, u_85.2.2) := ⟨_, rfl⟩
            have w : cW G A s (wO G a ad zt ++ w5 G (ad 0) z_85.1 ++ wFo G ad z_85.2.1 ++ w5 G (ad 8) z_85.2.2.1 ++ w0 G (ad 9) z_85.2.2.2) H locs := by rw [ez_85]; exact w
            have eu_85_fo : z_85.2.1 = u_85.1 := by rw [ez_85]
            try rw [← eu_85_fo] at hr_85
            have eu_85_tr : z_85.2.2.1 = u_85.2.1 := by rw [ez_85]
            try rw [← eu_85_tr] at hr_85
            have eu_85_ch : z_85.2.2.2 = u_85.2.2 := by rw [ez_85]
            try rw [← eu_85_ch] at hr_85
            have ek_85_sc : z_85.1 = z_74.1 := by rw [ez_85]
            rw [sR_bk hso] at hr_85
            have hM85 : chM S z_85.2.2.2 := by rw [hr_85.2.2]; exact chM_cg (S9 := S) (S := (sR S 0 (i + 1) 2)) hM_74 rfl rfl rfl rfl (by rw [ou_cg (S9 := (sR S 0 (i + 1) 2)) (S := S) rfl]; exact hn1)
            have hk85 : z_85.1 = z.1 := by rw [ek_85_sc, ek_74_sc, ek_65_sc]; exact hqk
            refine lv_iload hx hb dX7_ditched_88 (lv_at hl 0 rfl) ?_
            refine lv_iload_n hx hb dX7_ditched_90 rfl (lv_at hl 2 rfl) ?_
            refine n_icmp_le (tgt := 99) hx hb dX7_ditched_91 (by decide) (by omega) (by omega) (fun c_91_4 => ?_) (fun c_91_4 => ?_)
            · skip
              have hl : lv_has ls 5 [(4, .int (nI (sp_mq (sR S 0 (i + 1) 2) 0 61 - 1))), (0, .ref (a 0)), (1, .int (nI ((sp_dt S i).1))), (2, .int (pc_fd (sp_dt S (i + 1)).2)), (3, .int (nI (i + 1)))] := by rw [show (pc_fd (sp_dt S (i + 1)).2) = (pc_fd (sp_dt S i).2) from (by first | (rw [dt_n (by omega)]; done) | (exact (dt_y hso (x := pc_fd (sp_dt S i).2) (y := (sp_dt S i).1) (if_pos (by omega)).symm (if_pos (by omega)).symm).1.symm))]; exact hl
              have hl : lv_has ls 5 [(4, .int (nI (sp_mq (sR S 0 (i + 1) 2) 0 61 - 1))), (0, .ref (a 0)), (1, .int (nI ((sp_dt S (i + 1)).1))), (2, .int (pc_fd (sp_dt S (i + 1)).2)), (3, .int (nI (i + 1)))] := by rw [show (nI ((sp_dt S (i + 1)).1)) = (nI ((sp_dt S i).1)) from (by first | (rw [dt_n (by omega)]; done) | (exact congrArg nI (dt_y hso (x := pc_fd (sp_dt S i).2) (y := (sp_dt S i).1) (if_pos (by omega)).symm (if_pos (by omega)).symm).2.symm))]; exact hl
              refine lv_iinc (v := (nI (i + 1 + 1))) (lv' := [(3, .int (nI (i + 1 + 1))), (4, .int (nI (sp_mq (sR S 0 (i + 1) 2) 0 61 - 1))), (0, .ref (a 0)), (1, .int (nI ((sp_dt S (i + 1)).1))), (2, .int (pc_fd (sp_dt S (i + 1)).2))]) hx hb dX7_ditched_99 hl (k := 4) rfl (by first | exact nI_1 _ | (rw [show Int32.ofInt 1 = nI 1 from by decide, nI_add])) (by decide) rfl (fun ls hl => ?_)
              refine lv_goto (tgt := 36) hx hb dX7_ditched_102 (by decide) ?_
              exact ih_36 (i + 1) (by omega) (by omega) ls z_85 _ _ w hr_85.1 hM85 hk85 (lv_sub hl [2, 3, 4, 0] rfl)
            · skip
              refine lv_iload hx hb dX7_ditched_94 (lv_at hl 0 rfl) ?_
              refine lv_istore_n (lv' := [(1, .int (nI (sp_mq (sR S 0 (i + 1) 2) 0 61 - 1))), (4, .int (nI (sp_mq (sR S 0 (i + 1) 2) 0 61 - 1))), (0, .ref (a 0)), (2, .int (pc_fd (sp_dt S i).2)), (3, .int (nI (i + 1)))]) hx hb dX7_ditched_96 rfl hl (by decide) rfl (fun ls hl => ?_)
              refine lv_iload_n hx hb dX7_ditched_97 rfl (lv_at hl 4 rfl) ?_
              refine lv_istore_n (lv' := [(2, .int (nI (i + 1))), (1, .int (nI (sp_mq (sR S 0 (i + 1) 2) 0 61 - 1))), (4, .int (nI (sp_mq (sR S 0 (i + 1) 2) 0 61 - 1))), (0, .ref (a 0)), (3, .int (nI (i + 1)))]) hx hb dX7_ditched_98 rfl hl (by decide) rfl (fun ls hl => ?_)
              have hl : lv_has ls 5 [(2, .int (pc_fd (sp_dt S (i + 1)).2)), (1, .int (nI (sp_mq (sR S 0 (i + 1) 2) 0 61 - 1))), (4, .int (nI (sp_mq (sR S 0 (i + 1) 2) 0 61 - 1))), (0, .ref (a 0)), (3, .int (nI (i + 1)))] := by rw [show (pc_fd (sp_dt S (i + 1)).2) = (nI (i + 1)) from (by exact (dt_y hso (x := nI (i + 1)) (y := sp_mq (sR S 0 (i + 1) 2) 0 61 - 1) (if_neg (by omega)).symm (if_neg (by omega)).symm).1.symm)]; exact hl
              have hl : lv_has ls 5 [(2, .int (pc_fd (sp_dt S (i + 1)).2)), (1, .int (nI ((sp_dt S (i + 1)).1))), (4, .int (nI (sp_mq (sR S 0 (i + 1) 2) 0 61 - 1))), (0, .ref (a 0)), (3, .int (nI (i + 1)))] := by rw [show (nI ((sp_dt S (i + 1)).1)) = (nI (sp_mq (sR S 0 (i + 1) 2) 0 61 - 1)) from (by exact congrArg nI (dt_y hso (x := nI (i + 1)) (y := sp_mq (sR S 0 (i + 1) 2) 0 61 - 1) (if_neg (by omega)).symm (if_neg (by omega)).symm).2.symm)]; exact hl
              refine lv_iinc (v := (nI (i + 1 + 1))) (lv' := [(3, .int (nI (i + 1 + 1))), (2, .int (pc_fd (sp_dt S (i + 1)).2)), (1, .int (nI ((sp_dt S (i + 1)).1))), (4, .int (nI (sp_mq (sR S 0 (i + 1) 2) 0 61 - 1))), (0, .ref (a 0))]) hx hb dX7_ditched_99 hl (k := 4) rfl (by first | exact nI_1 _ | (rw [show Int32.ofInt 1 = nI 1 from by decide, nI_add])) (by decide) rfl (fun ls hl => ?_)
              refine lv_goto (tgt := 36) hx hb dX7_ditched_102 (by decide) ?_
              exact ih_36 (i + 1) (by omega) (by omega) ls z_85 _ _ w hr_85.1 hM85 hk85 (lv_sub hl [4, 2, 1, 0] rfl)
    exact lp_36 _ 0 (Nat.zero_le _) (Nat.lt_succ_self _) ls z_27 _ _ w hF_27 hM_27 hk_27 (lv_sub hl [3, 2, 1, 0] rfl)
  · skip
    refine lv_bipush (v := (iZ (-2))) hx hb dX7_ditched_7 (by decide) ?_
    exact ce_i (w := (fun q9 : RS × RS × RS × RS => wO G a ad zt ++ w5 G (ad 0) q9.1 ++ wFo G ad q9.2.1 ++ w5 G (ad 8) q9.2.2.1 ++ w0 G (ad 9) q9.2.2.2)) (z := z) X hr hk w (⟨by unfold an_dit; rw [if_neg (by omega)], rfl⟩) dX7_ditched_9

section Lm_c7_ahead
variable {p : Program} {l : Launch} {e : Env} {R : Room} {s : State} {m : MethodId} {args : Array Value} {below : List Frame} {meth : Method} {c : Code} {H : Heap} {locs : List Loc} {cells slots : Nat} {Q : State → Prop}
variable {cc : ByteArray} {pc : Nat} {ls : Array Slot} {rest : List Value} {G : CG} {A : Nat → Prop}
theorem ag_XF_X7_58_sc {a : Nat → Nat} {ad : Nat → Nat → Nat} {zt : RS} {z : RS × RS × RS × RS} (X : cX RX7 G A p c cc s args m) (w : va_P G.1 vwCl (wO G a ad zt ++ w5 G (ad 0) z.1 ++ wFo G ad z.2.1 ++ w5 G (ad 8) z.2.2.1 ++ w0 G (ad 9) z.2.2.2) H) (hdg : decode cc pc = .ok (.getfield 58, 3)) (kk : W p l e R s m args below meth c H locs cells slots Q (F0 m (pc + 3) ls (.int (z.1.1 3) :: rest))) : W p l e R s m args below meth c H locs cells slots Q (F0 m pc ls (.ref ((ad 0) 0) :: rest)) :=
  va_getN (own := RX7) (ref := RX5) (host := "RunningThree") (D := G.1) (ci := 4) (v := .int (z.1.1 3)) (C := RX5) (T := TX5) (N := 13) X.1 X.2.1 X.2.2.1 gX5 X.2.2.2.1 X.2.2.2.2.1.1 w 2 rfl rfl 3 (by decide) (va_Nw.use rfl (X.2.2.2.2.1.2 _ wq_X7_58)) (fun _ h9 => h9) rfl hdg kk
theorem ag_XF_X7_83_sc {a : Nat → Nat} {ad : Nat → Nat → Nat} {zt : RS} {z : RS × RS × RS × RS} (X : cX RX7 G A p c cc s args m) (w : va_P G.1 vwCl (wO G a ad zt ++ w5 G (ad 0) z.1 ++ wFo G ad z.2.1 ++ w5 G (ad 8) z.2.2.1 ++ w0 G (ad 9) z.2.2.2) H) (hdg : decode cc pc = .ok (.getfield 83, 3)) (kk : W p l e R s m args below meth c H locs cells slots Q (F0 m (pc + 3) ls (.ref ((ad 0) 8) :: rest))) : W p l e R s m args below meth c H locs cells slots Q (F0 m pc ls (.ref ((ad 0) 0) :: rest)) :=
  va_getN (own := RX7) (ref := RX5) (host := "RunningThree") (D := G.1) (ci := 4) (v := .ref ((ad 0) 8)) (C := RX5) (T := TX5) (N := 13) X.1 X.2.1 X.2.2.1 gX5 X.2.2.2.1 X.2.2.2.2.1.1 w 2 rfl rfl 7 (by decide) (va_Nw.use rfl (X.2.2.2.2.1.2 _ wq_X7_83)) (fun _ h9 => h9) rfl hdg kk
theorem an_XF_sc_7 {own : String} {a : Nat → Nat} {ad : Nat → Nat → Nat} {zt : RS} {z : RS × RS × RS × RS} {j : Nat} (X : cX own G A p c cc s args m) (w : va_P G.1 vwCl (wO G a ad zt ++ w5 G (ad 0) z.1 ++ wFo G ad z.2.1 ++ w5 G (ad 8) z.2.2.1 ++ w0 G (ad 9) z.2.2.2) H) (hj : j < 5) (hdg : decode cc pc = .ok (.iaload, 1)) (kk : W p l e R s m args below meth c H locs cells slots Q (F0 m (pc + 1) ls (.int (z.1.2.1 7 j) :: rest))) : W p l e R s m args below meth c H locs cells slots Q (F0 m pc ls (.int (nI j) :: .ref ((ad 0) 8) :: rest)) :=
  va_iald X.1 X.2.1 X.2.2.2.2.1.1 w 8 0 rfl rfl (vp_in_nI hj (by decide)) hdg (by rw [nI_clamp (by omega)]; exact kk)
end Lm_c7_ahead
theorem ok7_ahead : cOk RX7 yX7_ahead cX7_ahead 6 (some .int) 1 := ⟨wc_X7_ahead, wi_X7_ahead, ws_X7_ahead, wn_X7, rfl, by decide, by decide, by decide +kernel⟩
set_option maxHeartbeats 4000000 in
set_option maxRecDepth 100000 in
theorem c7_ahead (l : Launch) (G : CG) (a : Nat → Nat) (ad : Nat → Nat → Nat) (zt : RS) (z : RS × RS × RS × RS) (wa9 : Int32) (S : Sc) (hT : cSc z.1 S) (ho : oSc S) (hm : S.1 3 ≤ 400)  : cMi G l yX7_ahead cX7_ahead 6 (some .int) 6 163 [.ref (a 0), .int wa9] (fun q9 : RS × RS × RS × RS => wO G a ad zt ++ w5 G (ad 0) q9.1 ++ wFo G ad q9.2.1 ++ w5 G (ad 8) q9.2.2.1 ++ w0 G (ad 9) q9.2.2.2) z (fun r z9 => r = an_ahead S wa9 ∧ z9.1 = z.1) := by
  refine cMi_in (by decide) rfl (Nat.le_of_ble_eq_true rfl) ?_
  intro p e s m args below meth c A ls X hml hr hk hl w
  have hx := X.1
  have hb := X.2.1
  have hts := X.2.2.1
  have hown := X.2.2.2.1
  have hl : lv_has ls 6 [(0, .ref (a 0)), (1, .int wa9)] := hl
  obtain ⟨o1, o2, o3, o4, o5, o6, oso, oki, osr, opa, ohu, oco⟩ := id ho
  refine lv_iload_n hx hb dX7_ahead_0 rfl (lv_at hl 1 rfl) ?_
  refine lv_iconst (v := (nI 0)) hx hb dX7_ahead_1 (by decide) ?_
  refine lv_iconst (v := (nI 1)) hx hb dX7_ahead_2 (by decide) ?_
  refine gc_s (C := RX7) (rest := []) ⟨X.1, X.2.1, X.2.2.1, X.2.2.2.1⟩ hml hl.1 (c7_within l wa9 (nI 0) (nI 1)) ok7_within wm_X7_50 ⟨Nat.le_of_ble_eq_true rfl, Nat.le_of_ble_eq_true rfl⟩ ⟨Nat.le_refl _, Nat.le_refl _⟩ rfl (Nat.le_of_ble_eq_true rfl) dX7_ahead_3 (fun r_3 hr_3 => ?_) rfl
  subst hr_3
  refine tp_i (congrArg nI (w3_I rfl (by decide) (by decide) : _ = pc_inI wa9.toInt ((0 : Int)) ((1 : Int)))) ?_
  have d_3 := pc_inI_ok wa9.toInt ((0 : Int)) ((1 : Int))
  refine n_if_ne (tgt := 11) hx hb dX7_ahead_6 (by decide) (by omega) (fun c_6_1 => ?_) (fun c_6_1 => ?_)
  · skip
    refine lv_aload_n hx hb dX7_ahead_11 rfl (lv_at hl 0 rfl) ?_
    refine gc_p (C := RX7) (ci := 6) (rest := []) X hml hl.1 (c7_mayTurn l G a ad zt z.1 S hT ho) ok7_mayTurn wm_X7_163 ⟨Nat.le_of_ble_eq_true rfl, Nat.le_of_ble_eq_true rfl⟩ ⟨Nat.le_refl _, Nat.le_refl _⟩ w.1 [0, 1, 2, 3, 4, 5, 6, 7, 8, 9] rfl rfl rfl rfl (Nat.le_of_ble_eq_true rfl) dX7_ahead_12 (fun r_12 hr_12 => ?_)
    subst hr_12
    have d_12 := may_ok S
    refine n_if_ne (tgt := 21) hx hb dX7_ahead_15 (by decide) (by omega) (fun c_15_2 => ?_) (fun c_15_2 => ?_)
    · skip
      have hov := ov_0 (show sp_over S = 0 by omega)
      have hnt : S.1 4 = 0 := by omega
      obtain ⟨k, hk_k, ek_k⟩ := iv_n (x := wa9) (by omega)
      have hl : lv_has ls 6 [(0, .ref (a 0)), (1, .int (nI k))] := by rw [← ek_k]; exact hl
      refine lv_aload_n hx hb dX7_ahead_21 rfl (lv_at hl 0 rfl) ?_
      refine ag_XF_X7_39_this X w.1 dX7_ahead_22 ?_
      refine lv_aload_n hx hb dX7_ahead_25 rfl (lv_at hl 0 rfl) ?_
      refine ag_XF_X7_10_this X w.1 dX7_ahead_26 ?_
      refine gc_v (C := RX2) (ci := 2) (rest := []) (w := (fun q9 : RS × RS × RS => wF G (ad 6) (ad 8) (ad 9) q9 ++ w5 G (ad 0) z.1)) (wr := [((a 0), .inr (6, [.ref ((ad 0) 0), .ref (ad 1 0), .ref (ad 2 0), .ref (ad 3 0), .int (zt.1 4), .ref (ad 5 0), .ref ((ad 6) 0), .ref (a 8)])), ((a 8), .inl (G.2.2.2, 4, .inr (.inr (.inr (.inr (fun j => some (ad (10 + j) 0)))))))]) (wn := (fun u9 => wO G a ad zt ++ w5 G (ad 0) (((((((z.1, u9.1, z.2.2.1, z.2.2.2)).1, ((z.1, u9.1, z.2.2.1, z.2.2.2)).2.1, u9.2.1, ((z.1, u9.1, z.2.2.1, z.2.2.2)).2.2.2)).1, ((((z.1, u9.1, z.2.2.1, z.2.2.2)).1, ((z.1, u9.1, z.2.2.1, z.2.2.2)).2.1, u9.2.1, ((z.1, u9.1, z.2.2.1, z.2.2.2)).2.2.2)).2.1, ((((z.1, u9.1, z.2.2.1, z.2.2.2)).1, ((z.1, u9.1, z.2.2.1, z.2.2.2)).2.1, u9.2.1, ((z.1, u9.1, z.2.2.1, z.2.2.2)).2.2.2)).2.2.1, u9.2.2))).1 ++ wFo G ad (((((((z.1, u9.1, z.2.2.1, z.2.2.2)).1, ((z.1, u9.1, z.2.2.1, z.2.2.2)).2.1, u9.2.1, ((z.1, u9.1, z.2.2.1, z.2.2.2)).2.2.2)).1, ((((z.1, u9.1, z.2.2.1, z.2.2.2)).1, ((z.1, u9.1, z.2.2.1, z.2.2.2)).2.1, u9.2.1, ((z.1, u9.1, z.2.2.1, z.2.2.2)).2.2.2)).2.1, ((((z.1, u9.1, z.2.2.1, z.2.2.2)).1, ((z.1, u9.1, z.2.2.1, z.2.2.2)).2.1, u9.2.1, ((z.1, u9.1, z.2.2.1, z.2.2.2)).2.2.2)).2.2.1, u9.2.2))).2.1 ++ w5 G (ad 8) (((((((z.1, u9.1, z.2.2.1, z.2.2.2)).1, ((z.1, u9.1, z.2.2.1, z.2.2.2)).2.1, u9.2.1, ((z.1, u9.1, z.2.2.1, z.2.2.2)).2.2.2)).1, ((((z.1, u9.1, z.2.2.1, z.2.2.2)).1, ((z.1, u9.1, z.2.2.1, z.2.2.2)).2.1, u9.2.1, ((z.1, u9.1, z.2.2.1, z.2.2.2)).2.2.2)).2.1, ((((z.1, u9.1, z.2.2.1, z.2.2.2)).1, ((z.1, u9.1, z.2.2.1, z.2.2.2)).2.1, u9.2.1, ((z.1, u9.1, z.2.2.1, z.2.2.2)).2.2.2)).2.2.1, u9.2.2))).2.2.1 ++ w0 G (ad 9) (((((((z.1, u9.1, z.2.2.1, z.2.2.2)).1, ((z.1, u9.1, z.2.2.1, z.2.2.2)).2.1, u9.2.1, ((z.1, u9.1, z.2.2.1, z.2.2.2)).2.2.2)).1, ((((z.1, u9.1, z.2.2.1, z.2.2.2)).1, ((z.1, u9.1, z.2.2.1, z.2.2.2)).2.1, u9.2.1, ((z.1, u9.1, z.2.2.1, z.2.2.2)).2.2.2)).2.1, ((((z.1, u9.1, z.2.2.1, z.2.2.2)).1, ((z.1, u9.1, z.2.2.1, z.2.2.2)).2.1, u9.2.1, ((z.1, u9.1, z.2.2.1, z.2.2.2)).2.2.2)).2.2.1, u9.2.2))).2.2.2)) X hml hl.1 (c2_begin l G (ad 6) (ad 8) (ad 9) (ad 0) z.1 z.2) ok2_begin wm_X7_173 ⟨Nat.le_of_ble_eq_true rfl, Nat.le_of_ble_eq_true rfl⟩ ⟨Nat.le_refl _, Nat.le_refl _⟩ w [10, 11, 12, 13, 14, 15, 16, 17, 18, 19, 20, 21, 22, 23, 24, 25, 26, 27, 28, 29, 30, 31, 2, 3, 4, 5, 6, 7, 8, 9] [0, 1] [0, 1, 24, 25, 26, 27, 28, 29, 30, 31, 2, 3, 4, 5, 6, 7, 8, 9, 10, 11, 12, 13, 14, 15, 16, 17, 18, 19, 20, 21, 22, 23] rfl (by decide) rfl (by decide) (by decide) (fun _ => rfl) (by decide) rfl rfl rfl (Nat.le_of_ble_eq_true rfl) dX7_ahead_29 (fun u_29 H locs hr_29 w => ?_)
      obtain ⟨z_29, ez_29⟩ : ∃ q9 : RS × RS × RS × RS, q9 = (((((z.1, u_29.1, z.2.2.1, z.2.2.2)).1, ((z.1, u_29.1, z.2.2.1, z.2.2.2)).2.1, u_29.2.1, ((z.1, u_29.1, z.2.2.1, z.2.2.2)).2.2.2)).1, ((((z.1, u_29.1, z.2.2.1, z.2.2.2)).1, ((z.1, u_29.1, z.2.2.1, z.2.2.2)).2.1, u_29.2.1, ((z.1, u_29.1, z.2.2.1, z.2.2.2)).2.2.2)).2.1, ((((z.1, u_29.1, z.2.2.1, z.2.2.2)).1, ((z.1, u_29.1, z.2.2.1, z.2.2.2)).2.1, u_29.2.1, ((z.1, u_29.1, z.2.2.1, z.2.2.2)).2.2.2)).2.2.1, u_29.2.2) := ⟨_, rfl⟩
      have w : cW G A s (wO G a ad zt ++ w5 G (ad 0) z_29.1 ++ wFo G ad z_29.2.1 ++ w5 G (ad 8) z_29.2.2.1 ++ w0 G (ad 9) z_29.2.2.2) H locs := by rw [ez_29]; exact w
      have eu_29_fo : z_29.2.1 = u_29.1 := by rw [ez_29]
      try rw [← eu_29_fo] at hr_29
      have eu_29_tr : z_29.2.2.1 = u_29.2.1 := by rw [ez_29]
      try rw [← eu_29_tr] at hr_29
      have eu_29_ch : z_29.2.2.2 = u_29.2.2 := by rw [ez_29]
      try rw [← eu_29_ch] at hr_29
      have ek_29_sc : z_29.1 = z.1 := by rw [ez_29]
      have hT_29 : cSc z_29.1 S := by rw [ek_29_sc]; exact hT
      have hF_29 : cSc z_29.2.2.1 S := cEq_c hr_29.1 o2 o3 hT
      have hM_29 : chM S z_29.2.2.2 := chM_0 hr_29.2.1
      have hk_29 : z_29.1 = z.1 := ek_29_sc
      refine lv_iconst (v := (iZ (-1))) hx hb dX7_ahead_32 (by decide) ?_
      refine lv_istore_n (lv' := [(2, .int (iZ (-1))), (0, .ref (a 0)), (1, .int (nI k))]) hx hb dX7_ahead_33 rfl hl (by decide) rfl (fun ls hl => ?_)
      refine lv_bipush (v := (iZ (-4))) hx hb dX7_ahead_34 (by decide) ?_
      refine lv_istore_n (lv' := [(3, .int (iZ (-4))), (2, .int (iZ (-1))), (0, .ref (a 0)), (1, .int (nI k))]) hx hb dX7_ahead_36 rfl hl (by decide) rfl (fun ls hl => ?_)
      refine lv_iconst (v := (nI 1)) hx hb dX7_ahead_37 (by decide) ?_
      refine lv_istore (lv' := [(4, .int (nI 1)), (3, .int (iZ (-4))), (2, .int (iZ (-1))), (0, .ref (a 0)), (1, .int (nI k))]) hx hb dX7_ahead_38 hl (by decide) rfl (fun ls hl => ?_)
      have hl : lv_has ls 6 [(4, .int (nI 1)), (3, .int (iZ (-4))), (2, .int (iZ ((((sp_ad S 0).1 : Nat) : Int) - (1 : Int)))), (0, .ref (a 0)), (1, .int (nI k))] := by rw [show (iZ ((((sp_ad S 0).1 : Nat) : Int) - (1 : Int))) = (iZ (-1)) from rfl]; exact hl
      have hl : lv_has ls 6 [(4, .int (nI 1)), (3, .int (pc_fd (sp_ad S 0).2)), (2, .int (iZ ((((sp_ad S 0).1 : Nat) : Int) - (1 : Int)))), (0, .ref (a 0)), (1, .int (nI k))] := by rw [show (pc_fd (sp_ad S 0).2) = (iZ (-4)) from rfl]; exact hl
      have lp_40 : ∀ (n_40 : Nat) (i : Nat) (hi : i ≤ S.1 1 - 1) (hm_40 : S.1 1 - i < n_40) (ls : Array Slot) (zz : RS × RS × RS × RS) (H : Heap) (locs : List Loc) (w : cW G A s (wO G a ad zt ++ w5 G (ad 0) zz.1 ++ wFo G ad zz.2.1 ++ w5 G (ad 8) zz.2.2.1 ++ w0 G (ad 9) zz.2.2.2) H locs) (hFz : cSc zz.2.2.1 S) (hqk : zz.1 = z.1), lv_has ls 6 [(0, .ref (a 0)), (1, .int (nI k)), (2, .int (iZ ((((sp_ad S i).1 : Nat) : Int) - (1 : Int)))), (3, .int (pc_fd (sp_ad S i).2)), (4, .int (nI (i + 1)))] → W p l e (ro_m 6 163) s m args below meth c H locs 0 0 (MQ below (va_Qi (fun r z9 => r = an_ahead S wa9 ∧ z9.1 = z.1) (cB G (fun q9 : RS × RS × RS × RS => wO G a ad zt ++ w5 G (ad 0) q9.1 ++ wFo G ad q9.2.1 ++ w5 G (ad 8) q9.2.2.1 ++ w0 G (ad 9) q9.2.2.2) A) A) args s 0 0 A) (F0 m 40 ls []) := by
        intro n_40
        induction n_40 with
        | zero => intro i hi hm; exact absurd hm (Nat.not_lt_zero _)
        | succ n_40 ih_40 =>
          intro i hi hm_40 ls zz H locs w hFz hqk hl
          have q1 := ad_le S i
          have hTz : cSc zz.1 S := by rw [hqk]; exact hT
          refine lv_iload hx hb dX7_ahead_40 (lv_at hl 4 rfl) ?_
          refine lv_aload_n hx hb dX7_ahead_42 rfl (lv_at hl 0 rfl) ?_
          refine ag_XF_X7_10_this X w.1 dX7_ahead_43 ?_
          refine ag_XF_X7_58_sc X w.1 dX7_ahead_46 ?_
          refine tp_i (show zz.1.1 3 = (nI (S.1 1)) from (cs_nf hTz.1)) ?_
          refine n_icmp_ge (tgt := 133) hx hb dX7_ahead_49 (by decide) (by omega) (by omega) (fun c_49_3 => ?_) (fun c_49_3 => ?_)
          · skip
            refine lv_iload_n hx hb dX7_ahead_133 rfl (lv_at hl 1 rfl) ?_
            refine n_if_ne (tgt := 141) hx hb dX7_ahead_134 (by decide) (by omega) (fun c_134_4 => ?_) (fun c_134_4 => ?_)
            · skip
              refine lv_iload_n hx hb dX7_ahead_141 rfl (lv_at hl 2 rfl) ?_
              exact ce_i (w := (fun q9 : RS × RS × RS × RS => wO G a ad zt ++ w5 G (ad 0) q9.1 ++ wFo G ad q9.2.1 ++ w5 G (ad 8) q9.2.2.1 ++ w0 G (ad 9) q9.2.2.2)) (z := zz) X hr hk w (⟨by unfold an_ahead; rw [if_pos (by omega), if_pos (by omega), if_neg (by omega), show S.1 1 - 1 = i by omega], hqk⟩) dX7_ahead_142
            · skip
              refine lv_iload_n hx hb dX7_ahead_137 rfl (lv_at hl 3 rfl) ?_
              refine lv_goto (tgt := 142) hx hb dX7_ahead_138 (by decide) ?_
              exact ce_i (w := (fun q9 : RS × RS × RS × RS => wO G a ad zt ++ w5 G (ad 0) q9.1 ++ wFo G ad q9.2.1 ++ w5 G (ad 8) q9.2.2.1 ++ w0 G (ad 9) q9.2.2.2)) (z := zz) X hr hk w (⟨by unfold an_ahead; rw [if_pos (by omega), if_pos (by omega), if_pos (by omega), show S.1 1 - 1 = i by omega], hqk⟩) dX7_ahead_142
          · skip
            refine lv_aload_n hx hb dX7_ahead_52 rfl (lv_at hl 0 rfl) ?_
            refine ag_XF_X7_10_this X w.1 dX7_ahead_53 ?_
            refine lv_iload hx hb dX7_ahead_56 (lv_at hl 4 rfl) ?_
            refine gc_p (C := RX5) (ci := 4) (rest := []) X hml hl.1 (c5_isUp l G (ad 0) zz.1 (i + 1) S hTz.1 ho (by omega)) ok5_isUp wm_X7_196 ⟨Nat.le_of_ble_eq_true rfl, Nat.le_of_ble_eq_true rfl⟩ ⟨Nat.le_refl _, Nat.le_refl _⟩ w.1 [2, 3, 4, 5, 6, 7, 8, 9] rfl rfl rfl rfl (Nat.le_of_ble_eq_true rfl) dX7_ahead_58 (fun r_58 hr_58 => ?_)
            subst hr_58
            have d_58 := pc_dn01 S (i + 1)
            refine n_if_eq (tgt := 127) hx hb dX7_ahead_61 (by decide) (by omega) (fun c_61_5 => ?_) (fun c_61_5 => ?_)
            · skip
              have hl : lv_has ls 6 [(0, .ref (a 0)), (1, .int (nI k)), (2, .int (iZ ((((sp_ad S i).1 : Nat) : Int) - (1 : Int)))), (3, .int (pc_fd (sp_ad S (i + 1)).2)), (4, .int (nI (i + 1)))] := by rw [show (pc_fd (sp_ad S (i + 1)).2) = (pc_fd (sp_ad S i).2) from (by first | (rw [ad_n (by omega)]; done) | (exact (ad_y hup9 (x := pc_fd (sp_ad S i).2) (y := (((sp_ad S i).1 : Nat) : Int) - (1 : Int)) (if_pos (by omega)).symm (if_pos (by omega)).symm).1.symm))]; exact hl
              have hl : lv_has ls 6 [(0, .ref (a 0)), (1, .int (nI k)), (2, .int (iZ ((((sp_ad S (i + 1)).1 : Nat) : Int) - (1 : Int)))), (3, .int (pc_fd (sp_ad S (i + 1)).2)), (4, .int (nI (i + 1)))] := by rw [show (iZ ((((sp_ad S (i + 1)).1 : Nat) : Int) - (1 : Int))) = (iZ ((((sp_ad S i).1 : Nat) : Int) - (1 : Int))) from (by first | (rw [ad_n (by omega)]; done) | (exact congrArg iZ (ad_y hup9 (x := pc_fd (sp_ad S i).2) (y := (((sp_ad S i).1 : Nat) : Int) - (1 : Int)) (if_pos (by omega)).symm (if_pos (by omega)).symm).2.symm))]; exact hl
              refine lv_iinc (v := (nI (i + 1 + 1))) (lv' := [(4, .int (nI (i + 1 + 1))), (0, .ref (a 0)), (1, .int (nI k)), (2, .int (iZ ((((sp_ad S (i + 1)).1 : Nat) : Int) - (1 : Int)))), (3, .int (pc_fd (sp_ad S (i + 1)).2))]) hx hb dX7_ahead_127 hl (k := 4) rfl (by first | exact nI_1 _ | (rw [show Int32.ofInt 1 = nI 1 from by decide, nI_add])) (by decide) rfl (fun ls hl => ?_)
              refine lv_goto (tgt := 40) hx hb dX7_ahead_130 (by decide) ?_
              exact ih_40 (i + 1) (by omega) (by omega) ls zz _ _ w hFz hqk (lv_sub hl [1, 2, 3, 4, 0] rfl)
            · skip
              have hup9 : pc_dn S (i + 1) = 0 := by omega
              have hu5 := dn_5 ho hup9
              refine lv_aload_n hx hb dX7_ahead_64 rfl (lv_at hl 0 rfl) ?_
              refine ag_XF_X7_39_this X w.1 dX7_ahead_65 ?_
              refine lv_iload hx hb dX7_ahead_68 (lv_at hl 4 rfl) ?_
              refine lv_aload_n hx hb dX7_ahead_70 rfl (lv_at hl 0 rfl) ?_
              refine ag_XF_X7_10_this X w.1 dX7_ahead_71 ?_
              refine ag_XF_X7_83_sc X w.1 dX7_ahead_74 ?_
              refine lv_iload hx hb dX7_ahead_77 (lv_at hl 4 rfl) ?_
              refine an_XF_sc_7 X w.1 (by omega) dX7_ahead_79 ?_
              refine tp_i (show zz.1.2.1 7 (i + 1) = (nI (S.2.1 4 (i + 1))) from (cs_hu hTz.1 (i + 1) (by omega))) ?_
              refine lv_iconst (v := (nI 1)) hx hb dX7_ahead_80 (by decide) ?_
              refine n_iadd hx hb dX7_ahead_81 ?_
              refine gc_v (C := RX2) (ci := 2) (rest := []) (w := (fun q9 : RS × RS × RS => wF G (ad 6) (ad 8) (ad 9) q9)) (wr := [((a 0), .inr (6, [.ref ((ad 0) 0), .ref (ad 1 0), .ref (ad 2 0), .ref (ad 3 0), .int (zt.1 4), .ref (ad 5 0), .ref ((ad 6) 0), .ref (a 8)])), ((a 8), .inl (G.2.2.2, 4, .inr (.inr (.inr (.inr (fun j => some (ad (10 + j) 0))))))), (((ad 0) 0), .inr (4, [.int (zz.1.1 0), .ref ((ad 0) 2), .ref ((ad 0) 3), .int (zz.1.1 3), .ref ((ad 0) 5), .ref ((ad 0) 6), .ref ((ad 0) 7), .ref ((ad 0) 8), .int (zz.1.1 8), .int (zz.1.1 9), .int (zz.1.1 10), .ref ((ad 0) 12), .int (zz.1.1 12)])), (((ad 0) 2), .inl (G.2.1, 40, .inl (zz.1.2.1 1))), (((ad 0) 3), .inl (G.2.1, 40, .inl (zz.1.2.1 2))), (((ad 0) 5), .inl (G.2.1, 5, .inl (zz.1.2.1 4))), (((ad 0) 6), .inl (G.2.1, 5, .inl (zz.1.2.1 5))), (((ad 0) 7), .inl (G.2.1, 5, .inl (zz.1.2.1 6))), (((ad 0) 8), .inl (G.2.1, 5, .inl (zz.1.2.1 7))), (((ad 0) 12), .inl (G.2.1, 5, .inl (zz.1.2.1 11)))]) (wn := (fun u9 => wO G a ad zt ++ w5 G (ad 0) (((((((zz.1, u9.1, zz.2.2.1, zz.2.2.2)).1, ((zz.1, u9.1, zz.2.2.1, zz.2.2.2)).2.1, u9.2.1, ((zz.1, u9.1, zz.2.2.1, zz.2.2.2)).2.2.2)).1, ((((zz.1, u9.1, zz.2.2.1, zz.2.2.2)).1, ((zz.1, u9.1, zz.2.2.1, zz.2.2.2)).2.1, u9.2.1, ((zz.1, u9.1, zz.2.2.1, zz.2.2.2)).2.2.2)).2.1, ((((zz.1, u9.1, zz.2.2.1, zz.2.2.2)).1, ((zz.1, u9.1, zz.2.2.1, zz.2.2.2)).2.1, u9.2.1, ((zz.1, u9.1, zz.2.2.1, zz.2.2.2)).2.2.2)).2.2.1, u9.2.2))).1 ++ wFo G ad (((((((zz.1, u9.1, zz.2.2.1, zz.2.2.2)).1, ((zz.1, u9.1, zz.2.2.1, zz.2.2.2)).2.1, u9.2.1, ((zz.1, u9.1, zz.2.2.1, zz.2.2.2)).2.2.2)).1, ((((zz.1, u9.1, zz.2.2.1, zz.2.2.2)).1, ((zz.1, u9.1, zz.2.2.1, zz.2.2.2)).2.1, u9.2.1, ((zz.1, u9.1, zz.2.2.1, zz.2.2.2)).2.2.2)).2.1, ((((zz.1, u9.1, zz.2.2.1, zz.2.2.2)).1, ((zz.1, u9.1, zz.2.2.1, zz.2.2.2)).2.1, u9.2.1, ((zz.1, u9.1, zz.2.2.1, zz.2.2.2)).2.2.2)).2.2.1, u9.2.2))).2.1 ++ w5 G (ad 8) (((((((zz.1, u9.1, zz.2.2.1, zz.2.2.2)).1, ((zz.1, u9.1, zz.2.2.1, zz.2.2.2)).2.1, u9.2.1, ((zz.1, u9.1, zz.2.2.1, zz.2.2.2)).2.2.2)).1, ((((zz.1, u9.1, zz.2.2.1, zz.2.2.2)).1, ((zz.1, u9.1, zz.2.2.1, zz.2.2.2)).2.1, u9.2.1, ((zz.1, u9.1, zz.2.2.1, zz.2.2.2)).2.2.2)).2.1, ((((zz.1, u9.1, zz.2.2.1, zz.2.2.2)).1, ((zz.1, u9.1, zz.2.2.1, zz.2.2.2)).2.1, u9.2.1, ((zz.1, u9.1, zz.2.2.1, zz.2.2.2)).2.2.2)).2.2.1, u9.2.2))).2.2.1 ++ w0 G (ad 9) (((((((zz.1, u9.1, zz.2.2.1, zz.2.2.2)).1, ((zz.1, u9.1, zz.2.2.1, zz.2.2.2)).2.1, u9.2.1, ((zz.1, u9.1, zz.2.2.1, zz.2.2.2)).2.2.2)).1, ((((zz.1, u9.1, zz.2.2.1, zz.2.2.2)).1, ((zz.1, u9.1, zz.2.2.1, zz.2.2.2)).2.1, u9.2.1, ((zz.1, u9.1, zz.2.2.1, zz.2.2.2)).2.2.2)).2.1, ((((zz.1, u9.1, zz.2.2.1, zz.2.2.2)).1, ((zz.1, u9.1, zz.2.2.1, zz.2.2.2)).2.1, u9.2.1, ((zz.1, u9.1, zz.2.2.1, zz.2.2.2)).2.2.2)).2.2.1, u9.2.2))).2.2.2)) X hml hl.1 (c2_supposeHurt l G (ad 6) (ad 8) (ad 9) zz.2 (i + 1) (S.2.1 4 (i + 1) + 1) S hFz ho (by omega)) ok2_supposeHurt wm_X7_199 ⟨Nat.le_of_ble_eq_true rfl, Nat.le_of_ble_eq_true rfl⟩ ⟨Nat.le_refl _, Nat.le_refl _⟩ w [10, 11, 12, 13, 14, 15, 16, 17, 18, 19, 20, 21, 22, 23, 24, 25, 26, 27, 28, 29, 30, 31] [0, 1, 2, 3, 4, 5, 6, 7, 8, 9] [0, 1, 2, 3, 4, 5, 6, 7, 8, 9, 10, 11, 12, 13, 14, 15, 16, 17, 18, 19, 20, 21, 22, 23, 24, 25, 26, 27, 28, 29, 30, 31] rfl (by decide) rfl (by decide) (by decide) (fun _ => rfl) (by decide) rfl rfl rfl (Nat.le_of_ble_eq_true rfl) dX7_ahead_82 (fun u_82 H locs hr_82 w => ?_)
              obtain ⟨z_82, ez_82⟩ : ∃ q9 : RS × RS × RS × RS, q9 = (((((zz.1, u_82.1, zz.2.2.1, zz.2.2.2)).1, ((zz.1, u_82.1, zz.2.2.1, zz.2.2.2)).2.1, u_82.2.1, ((zz.1, u_82.1, zz.2.2.1, zz.2.2.2)).2.2.2)).1, ((((zz.1, u_82.1, zz.2.2.1, zz.2.2.2)).1, ((zz.1, u_82.1, zz.2.2.1, zz.2.2.2)).2.1, u_82.2.1, ((zz.1, u_82.1, zz.2.2.1, zz.2.2.2)).2.2.2)).2.1, ((((zz.1, u_82.1, zz.2.2.1, zz.2.2.2)).1, ((zz.1, u_82.1, zz.2.2.1, zz.2.2.2)).2.1, u_82.2.1, ((zz.1, u_82.1, zz.2.2.1, zz.2.2.2)).2.2.2)).2.2.1, u_82.2.2) := ⟨_, rfl⟩
              have w : cW G A s (wO G a ad zt ++ w5 G (ad 0) z_82.1 ++ wFo G ad z_82.2.1 ++ w5 G (ad 8) z_82.2.2.1 ++ w0 G (ad 9) z_82.2.2.2) H locs := by rw [ez_82]; exact w
              have eu_82_fo : z_82.2.1 = u_82.1 := by rw [ez_82]
              try rw [← eu_82_fo] at hr_82
              have eu_82_tr : z_82.2.2.1 = u_82.2.1 := by rw [ez_82]
              try rw [← eu_82_tr] at hr_82
              have eu_82_ch : z_82.2.2.2 = u_82.2.2 := by rw [ez_82]
              try rw [← eu_82_ch] at hr_82
              have ek_82_sc : z_82.1 = zz.1 := by rw [ez_82]
              refine lv_aload_n hx hb dX7_ahead_85 rfl (lv_at hl 0 rfl) ?_
              refine ag_XF_X7_39_this X w.1 dX7_ahead_86 ?_
              refine lv_bipush (v := (nI 61)) hx hb dX7_ahead_89 (by decide) ?_
              refine gc_i (C := RX2) (ci := 2) (rest := []) (w := (fun q9 : RS × RS × RS => wF G (ad 6) (ad 8) (ad 9) q9)) (wr := [((a 0), .inr (6, [.ref ((ad 0) 0), .ref (ad 1 0), .ref (ad 2 0), .ref (ad 3 0), .int (zt.1 4), .ref (ad 5 0), .ref ((ad 6) 0), .ref (a 8)])), ((a 8), .inl (G.2.2.2, 4, .inr (.inr (.inr (.inr (fun j => some (ad (10 + j) 0))))))), (((ad 0) 0), .inr (4, [.int (z_82.1.1 0), .ref ((ad 0) 2), .ref ((ad 0) 3), .int (z_82.1.1 3), .ref ((ad 0) 5), .ref ((ad 0) 6), .ref ((ad 0) 7), .ref ((ad 0) 8), .int (z_82.1.1 8), .int (z_82.1.1 9), .int (z_82.1.1 10), .ref ((ad 0) 12), .int (z_82.1.1 12)])), (((ad 0) 2), .inl (G.2.1, 40, .inl (z_82.1.2.1 1))), (((ad 0) 3), .inl (G.2.1, 40, .inl (z_82.1.2.1 2))), (((ad 0) 5), .inl (G.2.1, 5, .inl (z_82.1.2.1 4))), (((ad 0) 6), .inl (G.2.1, 5, .inl (z_82.1.2.1 5))), (((ad 0) 7), .inl (G.2.1, 5, .inl (z_82.1.2.1 6))), (((ad 0) 8), .inl (G.2.1, 5, .inl (z_82.1.2.1 7))), (((ad 0) 12), .inl (G.2.1, 5, .inl (z_82.1.2.1 11)))]) (wn := (fun u9 => wO G a ad zt ++ w5 G (ad 0) (((((((z_82.1, u9.1, z_82.2.2.1, z_82.2.2.2)).1, ((z_82.1, u9.1, z_82.2.2.1, z_82.2.2.2)).2.1, u9.2.1, ((z_82.1, u9.1, z_82.2.2.1, z_82.2.2.2)).2.2.2)).1, ((((z_82.1, u9.1, z_82.2.2.1, z_82.2.2.2)).1, ((z_82.1, u9.1, z_82.2.2.1, z_82.2.2.2)).2.1, u9.2.1, ((z_82.1, u9.1, z_82.2.2.1, z_82.2.2.2)).2.2.2)).2.1, ((((z_82.1, u9.1, z_82.2.2.1, z_82.2.2.2)).1, ((z_82.1, u9.1, z_82.2.2.1, z_82.2.2.2)).2.1, u9.2.1, ((z_82.1, u9.1, z_82.2.2.1, z_82.2.2.2)).2.2.2)).2.2.1, u9.2.2))).1 ++ wFo G ad (((((((z_82.1, u9.1, z_82.2.2.1, z_82.2.2.2)).1, ((z_82.1, u9.1, z_82.2.2.1, z_82.2.2.2)).2.1, u9.2.1, ((z_82.1, u9.1, z_82.2.2.1, z_82.2.2.2)).2.2.2)).1, ((((z_82.1, u9.1, z_82.2.2.1, z_82.2.2.2)).1, ((z_82.1, u9.1, z_82.2.2.1, z_82.2.2.2)).2.1, u9.2.1, ((z_82.1, u9.1, z_82.2.2.1, z_82.2.2.2)).2.2.2)).2.1, ((((z_82.1, u9.1, z_82.2.2.1, z_82.2.2.2)).1, ((z_82.1, u9.1, z_82.2.2.1, z_82.2.2.2)).2.1, u9.2.1, ((z_82.1, u9.1, z_82.2.2.1, z_82.2.2.2)).2.2.2)).2.2.1, u9.2.2))).2.1 ++ w5 G (ad 8) (((((((z_82.1, u9.1, z_82.2.2.1, z_82.2.2.2)).1, ((z_82.1, u9.1, z_82.2.2.1, z_82.2.2.2)).2.1, u9.2.1, ((z_82.1, u9.1, z_82.2.2.1, z_82.2.2.2)).2.2.2)).1, ((((z_82.1, u9.1, z_82.2.2.1, z_82.2.2.2)).1, ((z_82.1, u9.1, z_82.2.2.1, z_82.2.2.2)).2.1, u9.2.1, ((z_82.1, u9.1, z_82.2.2.1, z_82.2.2.2)).2.2.2)).2.1, ((((z_82.1, u9.1, z_82.2.2.1, z_82.2.2.2)).1, ((z_82.1, u9.1, z_82.2.2.1, z_82.2.2.2)).2.1, u9.2.1, ((z_82.1, u9.1, z_82.2.2.1, z_82.2.2.2)).2.2.2)).2.2.1, u9.2.2))).2.2.1 ++ w0 G (ad 9) (((((((z_82.1, u9.1, z_82.2.2.1, z_82.2.2.2)).1, ((z_82.1, u9.1, z_82.2.2.1, z_82.2.2.2)).2.1, u9.2.1, ((z_82.1, u9.1, z_82.2.2.1, z_82.2.2.2)).2.2.2)).1, ((((z_82.1, u9.1, z_82.2.2.1, z_82.2.2.2)).1, ((z_82.1, u9.1, z_82.2.2.1, z_82.2.2.2)).2.1, u9.2.1, ((z_82.1, u9.1, z_82.2.2.1, z_82.2.2.2)).2.2.2)).2.1, ((((z_82.1, u9.1, z_82.2.2.1, z_82.2.2.2)).1, ((z_82.1, u9.1, z_82.2.2.1, z_82.2.2.2)).2.1, u9.2.1, ((z_82.1, u9.1, z_82.2.2.1, z_82.2.2.2)).2.2.2)).2.2.1, u9.2.2))).2.2.2)) X hml hl.1 (c2_foresee l G (ad 6) (ad 8) (ad 9) z_82.2 61 (sR S 4 (i + 1) (S.2.1 4 (i + 1) + 1)) hr_82.1 (oSc_hu ho (by omega)) (chM_0 hr_82.2.2) hov.1 (dn_o (by omega) hov.2) hnt (by omega) (by show S.1 3 ≤ 400; omega)) ok2_foresee wm_X7_179 ⟨Nat.le_of_ble_eq_true rfl, Nat.le_of_ble_eq_true rfl⟩ ⟨Nat.le_refl _, Nat.le_refl _⟩ w [10, 11, 12, 13, 14, 15, 16, 17, 18, 19, 20, 21, 22, 23, 24, 25, 26, 27, 28, 29, 30, 31] [0, 1, 2, 3, 4, 5, 6, 7, 8, 9] [0, 1, 2, 3, 4, 5, 6, 7, 8, 9, 10, 11, 12, 13, 14, 15, 16, 17, 18, 19, 20, 21, 22, 23, 24, 25, 26, 27, 28, 29, 30, 31] rfl (by decide) rfl (by decide) (by decide) (fun _ => rfl) (by decide) rfl rfl rfl (Nat.le_of_ble_eq_true rfl) dX7_ahead_91 (fun r_91 u_91 H locs hr_91 w => ?_)
              obtain ⟨z_91, ez_91⟩ : ∃ q9 : RS × RS × RS × RS, q9 = (((((z_82.1, u_91.1, z_82.2.2.1, z_82.2.2.2)).1, ((z_82.1, u_91.1, z_82.2.2.1, z_82.2.2.2)).2.1, u_91.2.1, ((z_82.1, u_91.1, z_82.2.2.1, z_82.2.2.2)).2.2.2)).1, ((((z_82.1, u_91.1, z_82.2.2.1, z_82.2.2.2)).1, ((z_82.1, u_91.1, z_82.2.2.1, z_82.2.2.2)).2.1, u_91.2.1, ((z_82.1, u_91.1, z_82.2.2.1, z_82.2.2.2)).2.2.2)).2.1, ((((z_82.1, u_91.1, z_82.2.2.1, z_82.2.2.2)).1, ((z_82.1, u_91.1, z_82.2.2.1, z_82.2.2.2)).2.1, u_91.2.1, ((z_82.1, u_91.1, z_82.2.2.1, z_82.2.2.2)).2.2.2)).2.2.1, u_91.2.2) := ⟨_, rfl⟩
              have w : cW G A s (wO G a ad zt ++ w5 G (ad 0) z_91.1 ++ wFo G ad z_91.2.1 ++ w5 G (ad 8) z_91.2.2.1 ++ w0 G (ad 9) z_91.2.2.2) H locs := by rw [ez_91]; exact w
              have eu_91_fo : z_91.2.1 = u_91.1 := by rw [ez_91]
              try rw [← eu_91_fo] at hr_91
              have eu_91_tr : z_91.2.2.1 = u_91.2.1 := by rw [ez_91]
              try rw [← eu_91_tr] at hr_91
              have eu_91_ch : z_91.2.2.2 = u_91.2.2 := by rw [ez_91]
              try rw [← eu_91_ch] at hr_91
              have ek_91_sc : z_91.1 = z_82.1 := by rw [ez_91]
              obtain ⟨hr_91, hrow, htr, hM_91⟩ := hr_91
              subst hr_91
              refine tp_i (show nI (sp_mq (sR S 4 (i + 1) (S.2.1 4 (i + 1) + 1)) 0 61 - 1) = nI (sp_av S (i + 1)) from congrArg nI (av_mo hov.1 hov.2 hnt (by omega)).symm) ?_
              have d91 := av_le S (i + 1)
              have hT_91 : cSc z_91.1 S := by rw [ek_91_sc, ek_82_sc]; exact hTz
              refine lv_istore (lv' := [(5, .int (nI (sp_av S (i + 1)))), (0, .ref (a 0)), (1, .int (nI k)), (2, .int (iZ ((((sp_ad S i).1 : Nat) : Int) - (1 : Int)))), (3, .int (pc_fd (sp_ad S i).2)), (4, .int (nI (i + 1)))]) hx hb dX7_ahead_94 hl (by decide) rfl (fun ls hl => ?_)
              refine lv_aload_n hx hb dX7_ahead_96 rfl (lv_at hl 1 rfl) ?_
              refine ag_XF_X7_39_this X w.1 dX7_ahead_97 ?_
              refine lv_iload hx hb dX7_ahead_100 (lv_at hl 5 rfl) ?_
              refine lv_aload_n hx hb dX7_ahead_102 rfl (lv_at hl 1 rfl) ?_
              refine ag_XF_X7_10_this X w.1 dX7_ahead_103 ?_
              refine ag_XF_X7_83_sc X w.1 dX7_ahead_106 ?_
              refine lv_iload hx hb dX7_ahead_109 (lv_at hl 5 rfl) ?_
              refine an_XF_sc_7 X w.1 (by omega) dX7_ahead_111 ?_
              refine tp_i (show z_91.1.2.1 7 (i + 1) = (nI (S.2.1 4 (i + 1))) from (cs_hu hT_91.1 (i + 1) (by omega))) ?_
              refine gc_v (C := RX2) (ci := 2) (rest := []) (w := (fun q9 : RS × RS × RS => wF G (ad 6) (ad 8) (ad 9) q9)) (wr := [((a 0), .inr (6, [.ref ((ad 0) 0), .ref (ad 1 0), .ref (ad 2 0), .ref (ad 3 0), .int (zt.1 4), .ref (ad 5 0), .ref ((ad 6) 0), .ref (a 8)])), ((a 8), .inl (G.2.2.2, 4, .inr (.inr (.inr (.inr (fun j => some (ad (10 + j) 0))))))), (((ad 0) 0), .inr (4, [.int (z_91.1.1 0), .ref ((ad 0) 2), .ref ((ad 0) 3), .int (z_91.1.1 3), .ref ((ad 0) 5), .ref ((ad 0) 6), .ref ((ad 0) 7), .ref ((ad 0) 8), .int (z_91.1.1 8), .int (z_91.1.1 9), .int (z_91.1.1 10), .ref ((ad 0) 12), .int (z_91.1.1 12)])), (((ad 0) 2), .inl (G.2.1, 40, .inl (z_91.1.2.1 1))), (((ad 0) 3), .inl (G.2.1, 40, .inl (z_91.1.2.1 2))), (((ad 0) 5), .inl (G.2.1, 5, .inl (z_91.1.2.1 4))), (((ad 0) 6), .inl (G.2.1, 5, .inl (z_91.1.2.1 5))), (((ad 0) 7), .inl (G.2.1, 5, .inl (z_91.1.2.1 6))), (((ad 0) 8), .inl (G.2.1, 5, .inl (z_91.1.2.1 7))), (((ad 0) 12), .inl (G.2.1, 5, .inl (z_91.1.2.1 11)))]) (wn := (fun u9 => wO G a ad zt ++ w5 G (ad 0) (((((((z_91.1, u9.1, z_91.2.2.1, z_91.2.2.2)).1, ((z_91.1, u9.1, z_91.2.2.1, z_91.2.2.2)).2.1, u9.2.1, ((z_91.1, u9.1, z_91.2.2.1, z_91.2.2.2)).2.2.2)).1, ((((z_91.1, u9.1, z_91.2.2.1, z_91.2.2.2)).1, ((z_91.1, u9.1, z_91.2.2.1, z_91.2.2.2)).2.1, u9.2.1, ((z_91.1, u9.1, z_91.2.2.1, z_91.2.2.2)).2.2.2)).2.1, ((((z_91.1, u9.1, z_91.2.2.1, z_91.2.2.2)).1, ((z_91.1, u9.1, z_91.2.2.1, z_91.2.2.2)).2.1, u9.2.1, ((z_91.1, u9.1, z_91.2.2.1, z_91.2.2.2)).2.2.2)).2.2.1, u9.2.2))).1 ++ wFo G ad (((((((z_91.1, u9.1, z_91.2.2.1, z_91.2.2.2)).1, ((z_91.1, u9.1, z_91.2.2.1, z_91.2.2.2)).2.1, u9.2.1, ((z_91.1, u9.1, z_91.2.2.1, z_91.2.2.2)).2.2.2)).1, ((((z_91.1, u9.1, z_91.2.2.1, z_91.2.2.2)).1, ((z_91.1, u9.1, z_91.2.2.1, z_91.2.2.2)).2.1, u9.2.1, ((z_91.1, u9.1, z_91.2.2.1, z_91.2.2.2)).2.2.2)).2.1, ((((z_91.1, u9.1, z_91.2.2.1, z_91.2.2.2)).1, ((z_91.1, u9.1, z_91.2.2.1, z_91.2.2.2)).2.1, u9.2.1, ((z_91.1, u9.1, z_91.2.2.1, z_91.2.2.2)).2.2.2)).2.2.1, u9.2.2))).2.1 ++ w5 G (ad 8) (((((((z_91.1, u9.1, z_91.2.2.1, z_91.2.2.2)).1, ((z_91.1, u9.1, z_91.2.2.1, z_91.2.2.2)).2.1, u9.2.1, ((z_91.1, u9.1, z_91.2.2.1, z_91.2.2.2)).2.2.2)).1, ((((z_91.1, u9.1, z_91.2.2.1, z_91.2.2.2)).1, ((z_91.1, u9.1, z_91.2.2.1, z_91.2.2.2)).2.1, u9.2.1, ((z_91.1, u9.1, z_91.2.2.1, z_91.2.2.2)).2.2.2)).2.1, ((((z_91.1, u9.1, z_91.2.2.1, z_91.2.2.2)).1, ((z_91.1, u9.1, z_91.2.2.1, z_91.2.2.2)).2.1, u9.2.1, ((z_91.1, u9.1, z_91.2.2.1, z_91.2.2.2)).2.2.2)).2.2.1, u9.2.2))).2.2.1 ++ w0 G (ad 9) (((((((z_91.1, u9.1, z_91.2.2.1, z_91.2.2.2)).1, ((z_91.1, u9.1, z_91.2.2.1, z_91.2.2.2)).2.1, u9.2.1, ((z_91.1, u9.1, z_91.2.2.1, z_91.2.2.2)).2.2.2)).1, ((((z_91.1, u9.1, z_91.2.2.1, z_91.2.2.2)).1, ((z_91.1, u9.1, z_91.2.2.1, z_91.2.2.2)).2.1, u9.2.1, ((z_91.1, u9.1, z_91.2.2.1, z_91.2.2.2)).2.2.2)).2.1, ((((z_91.1, u9.1, z_91.2.2.1, z_91.2.2.2)).1, ((z_91.1, u9.1, z_91.2.2.1, z_91.2.2.2)).2.1, u9.2.1, ((z_91.1, u9.1, z_91.2.2.1, z_91.2.2.2)).2.2.2)).2.2.1, u9.2.2))).2.2.2)) X hml hl.1 (c2_supposeHurt l G (ad 6) (ad 8) (ad 9) z_91.2 (i + 1) (S.2.1 4 (i + 1)) (sR S 4 (i + 1) (S.2.1 4 (i + 1) + 1)) (by rw [htr]; exact hr_82.1) (oSc_hu ho (by omega)) (show i + 1 < S.1 1 by omega)) ok2_supposeHurt wm_X7_199 ⟨Nat.le_of_ble_eq_true rfl, Nat.le_of_ble_eq_true rfl⟩ ⟨Nat.le_refl _, Nat.le_refl _⟩ w [10, 11, 12, 13, 14, 15, 16, 17, 18, 19, 20, 21, 22, 23, 24, 25, 26, 27, 28, 29, 30, 31] [0, 1, 2, 3, 4, 5, 6, 7, 8, 9] [0, 1, 2, 3, 4, 5, 6, 7, 8, 9, 10, 11, 12, 13, 14, 15, 16, 17, 18, 19, 20, 21, 22, 23, 24, 25, 26, 27, 28, 29, 30, 31] rfl (by decide) rfl (by decide) (by decide) (fun _ => rfl) (by decide) rfl rfl rfl (Nat.le_of_ble_eq_true rfl) dX7_ahead_112 (fun u_112 H locs hr_112 w => ?_)
              obtain ⟨z_112, ez_112⟩ : ∃ q9 : RS × RS × RS × RS, q9 = (((((z_91.1, u_112.1, z_91.2.2.1, z_91.2.2.2)).1, ((z_91.1, u_112.1, z_91.2.2.1, z_91.2.2.2)).2.1, u_112.2.1, ((z_91.1, u_112.1, z_91.2.2.1, z_91.2.2.2)).2.2.2)).1, ((((z_91.1, u_112.1, z_91.2.2.1, z_91.2.2.2)).1, ((z_91.1, u_112.1, z_91.2.2.1, z_91.2.2.2)).2.1, u_112.2.1, ((z_91.1, u_112.1, z_91.2.2.1, z_91.2.2.2)).2.2.2)).2.1, ((((z_91.1, u_112.1, z_91.2.2.1, z_91.2.2.2)).1, ((z_91.1, u_112.1, z_91.2.2.1, z_91.2.2.2)).2.1, u_112.2.1, ((z_91.1, u_112.1, z_91.2.2.1, z_91.2.2.2)).2.2.2)).2.2.1, u_112.2.2) := ⟨_, rfl⟩
              have w : cW G A s (wO G a ad zt ++ w5 G (ad 0) z_112.1 ++ wFo G ad z_112.2.1 ++ w5 G (ad 8) z_112.2.2.1 ++ w0 G (ad 9) z_112.2.2.2) H locs := by rw [ez_112]; exact w
              have eu_112_fo : z_112.2.1 = u_112.1 := by rw [ez_112]
              try rw [← eu_112_fo] at hr_112
              have eu_112_tr : z_112.2.2.1 = u_112.2.1 := by rw [ez_112]
              try rw [← eu_112_tr] at hr_112
              have eu_112_ch : z_112.2.2.2 = u_112.2.2 := by rw [ez_112]
              try rw [← eu_112_ch] at hr_112
              have ek_112_sc : z_112.1 = z_91.1 := by rw [ez_112]
              rw [sR_bk2] at hr_112
              have hk112 : z_112.1 = z.1 := by rw [ek_112_sc, ek_91_sc, ek_82_sc]; exact hqk
              refine lv_iload hx hb dX7_ahead_115 (lv_at hl 0 rfl) ?_
              refine lv_iload_n hx hb dX7_ahead_117 rfl (lv_at hl 3 rfl) ?_
              refine tp_i2 (iZ_n (sp_av S (i + 1))).symm ?_
              refine z_icmp_le (tgt := 127) hx hb dX7_ahead_118 (by decide) (by omega) (by omega) (by omega) (by omega) (fun c_118_6 => ?_) (fun c_118_6 => ?_)
              · skip
                have hl : lv_has ls 6 [(5, .int (nI (sp_av S (i + 1)))), (0, .ref (a 0)), (1, .int (nI k)), (2, .int (iZ ((((sp_ad S i).1 : Nat) : Int) - (1 : Int)))), (3, .int (pc_fd (sp_ad S (i + 1)).2)), (4, .int (nI (i + 1)))] := by rw [show (pc_fd (sp_ad S (i + 1)).2) = (pc_fd (sp_ad S i).2) from (by first | (rw [ad_n (by omega)]; done) | (exact (ad_y hup9 (x := pc_fd (sp_ad S i).2) (y := (((sp_ad S i).1 : Nat) : Int) - (1 : Int)) (if_pos (by omega)).symm (if_pos (by omega)).symm).1.symm))]; exact hl
                have hl : lv_has ls 6 [(5, .int (nI (sp_av S (i + 1)))), (0, .ref (a 0)), (1, .int (nI k)), (2, .int (iZ ((((sp_ad S (i + 1)).1 : Nat) : Int) - (1 : Int)))), (3, .int (pc_fd (sp_ad S (i + 1)).2)), (4, .int (nI (i + 1)))] := by rw [show (iZ ((((sp_ad S (i + 1)).1 : Nat) : Int) - (1 : Int))) = (iZ ((((sp_ad S i).1 : Nat) : Int) - (1 : Int))) from (by first | (rw [ad_n (by omega)]; done) | (exact congrArg iZ (ad_y hup9 (x := pc_fd (sp_ad S i).2) (y := (((sp_ad S i).1 : Nat) : Int) - (1 : Int)) (if_pos (by omega)).symm (if_pos (by omega)).symm).2.symm))]; exact hl
                refine lv_iinc (v := (nI (i + 1 + 1))) (lv' := [(4, .int (nI (i + 1 + 1))), (5, .int (nI (sp_av S (i + 1)))), (0, .ref (a 0)), (1, .int (nI k)), (2, .int (iZ ((((sp_ad S (i + 1)).1 : Nat) : Int) - (1 : Int)))), (3, .int (pc_fd (sp_ad S (i + 1)).2))]) hx hb dX7_ahead_127 hl (k := 5) rfl (by first | exact nI_1 _ | (rw [show Int32.ofInt 1 = nI 1 from by decide, nI_add])) (by decide) rfl (fun ls hl => ?_)
                refine lv_goto (tgt := 40) hx hb dX7_ahead_130 (by decide) ?_
                exact ih_40 (i + 1) (by omega) (by omega) ls z_112 _ _ w hr_112.1 hk112 (lv_sub hl [2, 3, 4, 5, 0] rfl)
              · skip
                refine lv_iload hx hb dX7_ahead_121 (lv_at hl 0 rfl) ?_
                refine lv_istore_n (lv' := [(2, .int (nI (sp_av S (i + 1)))), (5, .int (nI (sp_av S (i + 1)))), (0, .ref (a 0)), (1, .int (nI k)), (3, .int (pc_fd (sp_ad S i).2)), (4, .int (nI (i + 1)))]) hx hb dX7_ahead_123 rfl hl (by decide) rfl (fun ls hl => ?_)
                refine lv_iload hx hb dX7_ahead_124 (lv_at hl 5 rfl) ?_
                refine lv_istore_n (lv' := [(3, .int (nI (i + 1))), (2, .int (nI (sp_av S (i + 1)))), (5, .int (nI (sp_av S (i + 1)))), (0, .ref (a 0)), (1, .int (nI k)), (4, .int (nI (i + 1)))]) hx hb dX7_ahead_126 rfl hl (by decide) rfl (fun ls hl => ?_)
                have hl : lv_has ls 6 [(3, .int (pc_fd (sp_ad S (i + 1)).2)), (2, .int (nI (sp_av S (i + 1)))), (5, .int (nI (sp_av S (i + 1)))), (0, .ref (a 0)), (1, .int (nI k)), (4, .int (nI (i + 1)))] := by rw [show (pc_fd (sp_ad S (i + 1)).2) = (nI (i + 1)) from ((ad_y hup9 (x := nI (i + 1)) (y := ((sp_av S (i + 1) : Nat) : Int)) (if_neg (by omega)).symm (if_neg (by omega)).symm).1.symm)]; exact hl
                have hl : lv_has ls 6 [(3, .int (pc_fd (sp_ad S (i + 1)).2)), (2, .int (iZ ((((sp_ad S (i + 1)).1 : Nat) : Int) - (1 : Int)))), (5, .int (nI (sp_av S (i + 1)))), (0, .ref (a 0)), (1, .int (nI k)), (4, .int (nI (i + 1)))] := by rw [show (iZ ((((sp_ad S (i + 1)).1 : Nat) : Int) - (1 : Int))) = (nI (sp_av S (i + 1))) from (by rw [← iZ_n]; exact congrArg iZ (ad_y hup9 (x := nI (i + 1)) (y := ((sp_av S (i + 1) : Nat) : Int)) (if_neg (by omega)).symm (if_neg (by omega)).symm).2.symm)]; exact hl
                refine lv_iinc (v := (nI (i + 1 + 1))) (lv' := [(4, .int (nI (i + 1 + 1))), (3, .int (pc_fd (sp_ad S (i + 1)).2)), (2, .int (iZ ((((sp_ad S (i + 1)).1 : Nat) : Int) - (1 : Int)))), (5, .int (nI (sp_av S (i + 1)))), (0, .ref (a 0)), (1, .int (nI k))]) hx hb dX7_ahead_127 hl (k := 5) rfl (by first | exact nI_1 _ | (rw [show Int32.ofInt 1 = nI 1 from by decide, nI_add])) (by decide) rfl (fun ls hl => ?_)
                refine lv_goto (tgt := 40) hx hb dX7_ahead_130 (by decide) ?_
                exact ih_40 (i + 1) (by omega) (by omega) ls z_112 _ _ w hr_112.1 hk112 (lv_sub hl [4, 5, 2, 1, 0] rfl)
      exact lp_40 _ 0 (Nat.zero_le _) (Nat.lt_succ_self _) ls z_29 _ _ w hF_29 hk_29 (lv_sub hl [3, 4, 2, 1, 0] rfl)
    · skip
      refine lv_bipush (v := (iZ (-2))) hx hb dX7_ahead_18 (by decide) ?_
      exact ce_i (w := (fun q9 : RS × RS × RS × RS => wO G a ad zt ++ w5 G (ad 0) q9.1 ++ wFo G ad q9.2.1 ++ w5 G (ad 8) q9.2.2.1 ++ w0 G (ad 9) q9.2.2.2)) (z := z) X hr hk w (⟨by unfold an_ahead; rw [if_pos (by omega), if_neg (by omega)], rfl⟩) dX7_ahead_20
  · skip
    refine lv_iconst (v := (iZ (-1))) hx hb dX7_ahead_9 (by decide) ?_
    exact ce_i (w := (fun q9 : RS × RS × RS × RS => wO G a ad zt ++ w5 G (ad 0) q9.1 ++ wFo G ad q9.2.1 ++ w5 G (ad 8) q9.2.2.1 ++ w0 G (ad 9) q9.2.2.2)) (z := z) X hr hk w (⟨by unfold an_ahead; rw [if_neg (by omega)], rfl⟩) dX7_ahead_10

theorem ok7_fields : cOk RX7 yX7_fields cX7_fields 3 (some .int) 2 := ⟨wc_X7_fields, wi_X7_fields, ws_X7_fields, wn_X7, rfl, by decide, by decide, by decide +kernel⟩
set_option maxHeartbeats 4000000 in
set_option maxRecDepth 100000 in
theorem c7_fields (l : Launch) (G : CG) (a : Nat → Nat) (ad : Nat → Nat → Nat) (zt : RS) (z : RS × RS × RS × RS) (ta9 : Int32) (na9 : Int32) (S : Sc) (hT : cSc z.1 S) (ho : oSc S) (hm : S.1 3 ≤ 400) (hc : ¬ S.1 4 = 0 → sp_cm420 S) : cMi G l yX7_fields cX7_fields 3 (some .int) 7 163 [.ref (a 0), .int ta9, .int na9] (fun q9 : RS × RS × RS × RS => wO G a ad zt ++ w5 G (ad 0) q9.1 ++ wFo G ad q9.2.1 ++ w5 G (ad 8) q9.2.2.1 ++ w0 G (ad 9) q9.2.2.2) z (fun r z9 => r = an_flds S ta9 na9 ∧ cSc z9.1 (nx_flds S ta9 na9)) := by
  refine cMi_in (by decide) rfl (Nat.le_of_ble_eq_true rfl) ?_
  intro p e s m args below meth c A ls X hml hr hk hl w
  have hx := X.1
  have hb := X.2.1
  have hts := X.2.2.1
  have hown := X.2.2.2.1
  have hl : lv_has ls 3 [(0, .ref (a 0)), (1, .int ta9), (2, .int na9)] := hl
  obtain ⟨o1, o2, o3, o4, o5, o6, oso, oki, osr, opa, ohu, oco⟩ := id ho
  refine lv_iload_n hx hb dX7_fields_0 rfl (lv_at hl 1 rfl) ?_
  refine lv_iconst (v := (nI 0)) hx hb dX7_fields_1 (by decide) ?_
  refine lv_sipush (v := (nI 400)) hx hb dX7_fields_2 (by decide) ?_
  refine gc_s (C := RX7) (rest := []) ⟨X.1, X.2.1, X.2.2.1, X.2.2.2.1⟩ hml hl.1 (c7_within l ta9 (nI 0) (nI 400)) ok7_within wm_X7_50 ⟨Nat.le_of_ble_eq_true rfl, Nat.le_of_ble_eq_true rfl⟩ ⟨Nat.le_refl _, Nat.le_refl _⟩ rfl (Nat.le_of_ble_eq_true rfl) dX7_fields_5 (fun r_5 hr_5 => ?_) rfl
  subst hr_5
  refine tp_i (congrArg nI (w3_I rfl (by decide) (by decide) : _ = pc_inI ta9.toInt ((0 : Int)) ((400 : Int)))) ?_
  have d_5 := pc_inI_ok ta9.toInt ((0 : Int)) ((400 : Int))
  refine n_if_eq (tgt := 21) hx hb dX7_fields_8 (by decide) (by omega) (fun c_8_1 => ?_) (fun c_8_1 => ?_)
  · skip
    refine lv_iconst (v := (iZ (-1))) hx hb dX7_fields_21 (by decide) ?_
    exact ce_i (w := (fun q9 : RS × RS × RS × RS => wO G a ad zt ++ w5 G (ad 0) q9.1 ++ wFo G ad q9.2.1 ++ w5 G (ad 8) q9.2.2.1 ++ w0 G (ad 9) q9.2.2.2)) (z := z) X hr hk w (⟨by unfold an_flds; rw [if_neg (by omega)], by unfold nx_flds; rw [if_neg (by omega)]; exact hT⟩) dX7_fields_22
  · skip
    refine lv_iload_n hx hb dX7_fields_11 rfl (lv_at hl 2 rfl) ?_
    refine lv_iconst (v := (nI 1)) hx hb dX7_fields_12 (by decide) ?_
    refine lv_bipush (v := (nI 90)) hx hb dX7_fields_13 (by decide) ?_
    refine gc_s (C := RX7) (rest := []) ⟨X.1, X.2.1, X.2.2.1, X.2.2.2.1⟩ hml hl.1 (c7_within l na9 (nI 1) (nI 90)) ok7_within wm_X7_50 ⟨Nat.le_of_ble_eq_true rfl, Nat.le_of_ble_eq_true rfl⟩ ⟨Nat.le_refl _, Nat.le_refl _⟩ rfl (Nat.le_of_ble_eq_true rfl) dX7_fields_15 (fun r_15 hr_15 => ?_) rfl
    subst hr_15
    refine tp_i (congrArg nI (w3_I rfl (by decide) (by decide) : _ = pc_inI na9.toInt ((1 : Int)) ((90 : Int)))) ?_
    have d_15 := pc_inI_ok na9.toInt ((1 : Int)) ((90 : Int))
    refine n_if_ne (tgt := 23) hx hb dX7_fields_18 (by decide) (by omega) (fun c_18_2 => ?_) (fun c_18_2 => ?_)
    · skip
      refine lv_aload_n hx hb dX7_fields_23 rfl (lv_at hl 0 rfl) ?_
      refine ag_XF_X7_10_this X w.1 dX7_fields_24 ?_
      refine gc_p (C := RX5) (ci := 4) (rest := []) X hml hl.1 (c5_outcome l G (ad 0) z.1  S hT.1 ho ) ok5_outcome wm_X7_144 ⟨Nat.le_of_ble_eq_true rfl, Nat.le_of_ble_eq_true rfl⟩ ⟨Nat.le_refl _, Nat.le_refl _⟩ w.1 [2, 3, 4, 5, 6, 7, 8, 9] rfl rfl rfl rfl (Nat.le_of_ble_eq_true rfl) dX7_fields_27 (fun r_27 hr_27 => ?_)
      subst hr_27
      have d_27 := sp_over_le S
      refine n_if_eq (tgt := 36) hx hb dX7_fields_30 (by decide) (by omega) (fun c_30_3 => ?_) (fun c_30_3 => ?_)
      · skip
        obtain ⟨k, hk_k, ek_k⟩ := iv_n (x := ta9) (by omega)
        have hl : lv_has ls 3 [(0, .ref (a 0)), (1, .int (nI k)), (2, .int na9)] := by rw [← ek_k]; exact hl
        obtain ⟨j, hk_j, ek_j⟩ := iv_n (x := na9) (by omega)
        have hl : lv_has ls 3 [(0, .ref (a 0)), (1, .int (nI k)), (2, .int (nI j))] := by rw [← ek_j]; exact hl
        refine lv_aload_n hx hb dX7_fields_36 rfl (lv_at hl 0 rfl) ?_
        refine ag_XF_X7_39_this X w.1 dX7_fields_37 ?_
        refine lv_aload_n hx hb dX7_fields_40 rfl (lv_at hl 0 rfl) ?_
        refine ag_XF_X7_10_this X w.1 dX7_fields_41 ?_
        refine gc_v (C := RX2) (ci := 2) (rest := []) (w := (fun q9 : RS × RS × RS => wF G (ad 6) (ad 8) (ad 9) q9 ++ w5 G (ad 0) z.1)) (wr := [((a 0), .inr (6, [.ref ((ad 0) 0), .ref (ad 1 0), .ref (ad 2 0), .ref (ad 3 0), .int (zt.1 4), .ref (ad 5 0), .ref ((ad 6) 0), .ref (a 8)])), ((a 8), .inl (G.2.2.2, 4, .inr (.inr (.inr (.inr (fun j => some (ad (10 + j) 0)))))))]) (wn := (fun u9 => wO G a ad zt ++ w5 G (ad 0) (((((((z.1, u9.1, z.2.2.1, z.2.2.2)).1, ((z.1, u9.1, z.2.2.1, z.2.2.2)).2.1, u9.2.1, ((z.1, u9.1, z.2.2.1, z.2.2.2)).2.2.2)).1, ((((z.1, u9.1, z.2.2.1, z.2.2.2)).1, ((z.1, u9.1, z.2.2.1, z.2.2.2)).2.1, u9.2.1, ((z.1, u9.1, z.2.2.1, z.2.2.2)).2.2.2)).2.1, ((((z.1, u9.1, z.2.2.1, z.2.2.2)).1, ((z.1, u9.1, z.2.2.1, z.2.2.2)).2.1, u9.2.1, ((z.1, u9.1, z.2.2.1, z.2.2.2)).2.2.2)).2.2.1, u9.2.2))).1 ++ wFo G ad (((((((z.1, u9.1, z.2.2.1, z.2.2.2)).1, ((z.1, u9.1, z.2.2.1, z.2.2.2)).2.1, u9.2.1, ((z.1, u9.1, z.2.2.1, z.2.2.2)).2.2.2)).1, ((((z.1, u9.1, z.2.2.1, z.2.2.2)).1, ((z.1, u9.1, z.2.2.1, z.2.2.2)).2.1, u9.2.1, ((z.1, u9.1, z.2.2.1, z.2.2.2)).2.2.2)).2.1, ((((z.1, u9.1, z.2.2.1, z.2.2.2)).1, ((z.1, u9.1, z.2.2.1, z.2.2.2)).2.1, u9.2.1, ((z.1, u9.1, z.2.2.1, z.2.2.2)).2.2.2)).2.2.1, u9.2.2))).2.1 ++ w5 G (ad 8) (((((((z.1, u9.1, z.2.2.1, z.2.2.2)).1, ((z.1, u9.1, z.2.2.1, z.2.2.2)).2.1, u9.2.1, ((z.1, u9.1, z.2.2.1, z.2.2.2)).2.2.2)).1, ((((z.1, u9.1, z.2.2.1, z.2.2.2)).1, ((z.1, u9.1, z.2.2.1, z.2.2.2)).2.1, u9.2.1, ((z.1, u9.1, z.2.2.1, z.2.2.2)).2.2.2)).2.1, ((((z.1, u9.1, z.2.2.1, z.2.2.2)).1, ((z.1, u9.1, z.2.2.1, z.2.2.2)).2.1, u9.2.1, ((z.1, u9.1, z.2.2.1, z.2.2.2)).2.2.2)).2.2.1, u9.2.2))).2.2.1 ++ w0 G (ad 9) (((((((z.1, u9.1, z.2.2.1, z.2.2.2)).1, ((z.1, u9.1, z.2.2.1, z.2.2.2)).2.1, u9.2.1, ((z.1, u9.1, z.2.2.1, z.2.2.2)).2.2.2)).1, ((((z.1, u9.1, z.2.2.1, z.2.2.2)).1, ((z.1, u9.1, z.2.2.1, z.2.2.2)).2.1, u9.2.1, ((z.1, u9.1, z.2.2.1, z.2.2.2)).2.2.2)).2.1, ((((z.1, u9.1, z.2.2.1, z.2.2.2)).1, ((z.1, u9.1, z.2.2.1, z.2.2.2)).2.1, u9.2.1, ((z.1, u9.1, z.2.2.1, z.2.2.2)).2.2.2)).2.2.1, u9.2.2))).2.2.2)) X hml hl.1 (c2_begin l G (ad 6) (ad 8) (ad 9) (ad 0) z.1 z.2) ok2_begin wm_X7_173 ⟨Nat.le_of_ble_eq_true rfl, Nat.le_of_ble_eq_true rfl⟩ ⟨Nat.le_refl _, Nat.le_refl _⟩ w [10, 11, 12, 13, 14, 15, 16, 17, 18, 19, 20, 21, 22, 23, 24, 25, 26, 27, 28, 29, 30, 31, 2, 3, 4, 5, 6, 7, 8, 9] [0, 1] [0, 1, 24, 25, 26, 27, 28, 29, 30, 31, 2, 3, 4, 5, 6, 7, 8, 9, 10, 11, 12, 13, 14, 15, 16, 17, 18, 19, 20, 21, 22, 23] rfl (by decide) rfl (by decide) (by decide) (fun _ => rfl) (by decide) rfl rfl rfl (Nat.le_of_ble_eq_true rfl) dX7_fields_44 (fun u_44 H locs hr_44 w => ?_)
        obtain ⟨z_44, ez_44⟩ : ∃ q9 : RS × RS × RS × RS, q9 = (((((z.1, u_44.1, z.2.2.1, z.2.2.2)).1, ((z.1, u_44.1, z.2.2.1, z.2.2.2)).2.1, u_44.2.1, ((z.1, u_44.1, z.2.2.1, z.2.2.2)).2.2.2)).1, ((((z.1, u_44.1, z.2.2.1, z.2.2.2)).1, ((z.1, u_44.1, z.2.2.1, z.2.2.2)).2.1, u_44.2.1, ((z.1, u_44.1, z.2.2.1, z.2.2.2)).2.2.2)).2.1, ((((z.1, u_44.1, z.2.2.1, z.2.2.2)).1, ((z.1, u_44.1, z.2.2.1, z.2.2.2)).2.1, u_44.2.1, ((z.1, u_44.1, z.2.2.1, z.2.2.2)).2.2.2)).2.2.1, u_44.2.2) := ⟨_, rfl⟩
        have w : cW G A s (wO G a ad zt ++ w5 G (ad 0) z_44.1 ++ wFo G ad z_44.2.1 ++ w5 G (ad 8) z_44.2.2.1 ++ w0 G (ad 9) z_44.2.2.2) H locs := by rw [ez_44]; exact w
        have eu_44_fo : z_44.2.1 = u_44.1 := by rw [ez_44]
        try rw [← eu_44_fo] at hr_44
        have eu_44_tr : z_44.2.2.1 = u_44.2.1 := by rw [ez_44]
        try rw [← eu_44_tr] at hr_44
        have eu_44_ch : z_44.2.2.2 = u_44.2.2 := by rw [ez_44]
        try rw [← eu_44_ch] at hr_44
        have ek_44_sc : z_44.1 = z.1 := by rw [ez_44]
        have hT_44 : cSc z_44.1 S := by rw [ek_44_sc]; exact hT
        have hF_44 : cSc z_44.2.2.1 S := cEq_c hr_44.1 o2 o3 hT
        have hM_44 : chM S z_44.2.2.2 := chM_0 hr_44.2.1
        have hk_44 : z_44.1 = z.1 := ek_44_sc
        refine lv_aload_n hx hb dX7_fields_47 rfl (lv_at hl 0 rfl) ?_
        refine ag_XF_X7_39_this X w.1 dX7_fields_48 ?_
        refine lv_aload_n hx hb dX7_fields_51 rfl (lv_at hl 0 rfl) ?_
        refine ag_XF_X7_10_this X w.1 dX7_fields_52 ?_
        refine lv_iload_n hx hb dX7_fields_55 rfl (lv_at hl 1 rfl) ?_
        refine lv_iload_n hx hb dX7_fields_56 rfl (lv_at hl 2 rfl) ?_
        refine gc_i (C := RX2) (ci := 2) (rest := []) (w := (fun q9 : (RS × RS × RS) × RS => wF G (ad 6) (ad 8) (ad 9) q9.1 ++ w5 G (ad 0) q9.2)) (wr := [((a 0), .inr (6, [.ref ((ad 0) 0), .ref (ad 1 0), .ref (ad 2 0), .ref (ad 3 0), .int (zt.1 4), .ref (ad 5 0), .ref ((ad 6) 0), .ref (a 8)])), ((a 8), .inl (G.2.2.2, 4, .inr (.inr (.inr (.inr (fun j => some (ad (10 + j) 0)))))))]) (wn := (fun u9 => wO G a ad zt ++ w5 G (ad 0) (((u9.2, ((((((z_44.1, u9.1.1, z_44.2.2.1, z_44.2.2.2)).1, ((z_44.1, u9.1.1, z_44.2.2.1, z_44.2.2.2)).2.1, u9.1.2.1, ((z_44.1, u9.1.1, z_44.2.2.1, z_44.2.2.2)).2.2.2)).1, ((((z_44.1, u9.1.1, z_44.2.2.1, z_44.2.2.2)).1, ((z_44.1, u9.1.1, z_44.2.2.1, z_44.2.2.2)).2.1, u9.1.2.1, ((z_44.1, u9.1.1, z_44.2.2.1, z_44.2.2.2)).2.2.2)).2.1, ((((z_44.1, u9.1.1, z_44.2.2.1, z_44.2.2.2)).1, ((z_44.1, u9.1.1, z_44.2.2.1, z_44.2.2.2)).2.1, u9.1.2.1, ((z_44.1, u9.1.1, z_44.2.2.1, z_44.2.2.2)).2.2.2)).2.2.1, u9.1.2.2)).2.1, ((((((z_44.1, u9.1.1, z_44.2.2.1, z_44.2.2.2)).1, ((z_44.1, u9.1.1, z_44.2.2.1, z_44.2.2.2)).2.1, u9.1.2.1, ((z_44.1, u9.1.1, z_44.2.2.1, z_44.2.2.2)).2.2.2)).1, ((((z_44.1, u9.1.1, z_44.2.2.1, z_44.2.2.2)).1, ((z_44.1, u9.1.1, z_44.2.2.1, z_44.2.2.2)).2.1, u9.1.2.1, ((z_44.1, u9.1.1, z_44.2.2.1, z_44.2.2.2)).2.2.2)).2.1, ((((z_44.1, u9.1.1, z_44.2.2.1, z_44.2.2.2)).1, ((z_44.1, u9.1.1, z_44.2.2.1, z_44.2.2.2)).2.1, u9.1.2.1, ((z_44.1, u9.1.1, z_44.2.2.1, z_44.2.2.2)).2.2.2)).2.2.1, u9.1.2.2)).2.2.1, ((((((z_44.1, u9.1.1, z_44.2.2.1, z_44.2.2.2)).1, ((z_44.1, u9.1.1, z_44.2.2.1, z_44.2.2.2)).2.1, u9.1.2.1, ((z_44.1, u9.1.1, z_44.2.2.1, z_44.2.2.2)).2.2.2)).1, ((((z_44.1, u9.1.1, z_44.2.2.1, z_44.2.2.2)).1, ((z_44.1, u9.1.1, z_44.2.2.1, z_44.2.2.2)).2.1, u9.1.2.1, ((z_44.1, u9.1.1, z_44.2.2.1, z_44.2.2.2)).2.2.2)).2.1, ((((z_44.1, u9.1.1, z_44.2.2.1, z_44.2.2.2)).1, ((z_44.1, u9.1.1, z_44.2.2.1, z_44.2.2.2)).2.1, u9.1.2.1, ((z_44.1, u9.1.1, z_44.2.2.1, z_44.2.2.2)).2.2.2)).2.2.1, u9.1.2.2)).2.2.2))).1 ++ wFo G ad (((u9.2, ((((((z_44.1, u9.1.1, z_44.2.2.1, z_44.2.2.2)).1, ((z_44.1, u9.1.1, z_44.2.2.1, z_44.2.2.2)).2.1, u9.1.2.1, ((z_44.1, u9.1.1, z_44.2.2.1, z_44.2.2.2)).2.2.2)).1, ((((z_44.1, u9.1.1, z_44.2.2.1, z_44.2.2.2)).1, ((z_44.1, u9.1.1, z_44.2.2.1, z_44.2.2.2)).2.1, u9.1.2.1, ((z_44.1, u9.1.1, z_44.2.2.1, z_44.2.2.2)).2.2.2)).2.1, ((((z_44.1, u9.1.1, z_44.2.2.1, z_44.2.2.2)).1, ((z_44.1, u9.1.1, z_44.2.2.1, z_44.2.2.2)).2.1, u9.1.2.1, ((z_44.1, u9.1.1, z_44.2.2.1, z_44.2.2.2)).2.2.2)).2.2.1, u9.1.2.2)).2.1, ((((((z_44.1, u9.1.1, z_44.2.2.1, z_44.2.2.2)).1, ((z_44.1, u9.1.1, z_44.2.2.1, z_44.2.2.2)).2.1, u9.1.2.1, ((z_44.1, u9.1.1, z_44.2.2.1, z_44.2.2.2)).2.2.2)).1, ((((z_44.1, u9.1.1, z_44.2.2.1, z_44.2.2.2)).1, ((z_44.1, u9.1.1, z_44.2.2.1, z_44.2.2.2)).2.1, u9.1.2.1, ((z_44.1, u9.1.1, z_44.2.2.1, z_44.2.2.2)).2.2.2)).2.1, ((((z_44.1, u9.1.1, z_44.2.2.1, z_44.2.2.2)).1, ((z_44.1, u9.1.1, z_44.2.2.1, z_44.2.2.2)).2.1, u9.1.2.1, ((z_44.1, u9.1.1, z_44.2.2.1, z_44.2.2.2)).2.2.2)).2.2.1, u9.1.2.2)).2.2.1, ((((((z_44.1, u9.1.1, z_44.2.2.1, z_44.2.2.2)).1, ((z_44.1, u9.1.1, z_44.2.2.1, z_44.2.2.2)).2.1, u9.1.2.1, ((z_44.1, u9.1.1, z_44.2.2.1, z_44.2.2.2)).2.2.2)).1, ((((z_44.1, u9.1.1, z_44.2.2.1, z_44.2.2.2)).1, ((z_44.1, u9.1.1, z_44.2.2.1, z_44.2.2.2)).2.1, u9.1.2.1, ((z_44.1, u9.1.1, z_44.2.2.1, z_44.2.2.2)).2.2.2)).2.1, ((((z_44.1, u9.1.1, z_44.2.2.1, z_44.2.2.2)).1, ((z_44.1, u9.1.1, z_44.2.2.1, z_44.2.2.2)).2.1, u9.1.2.1, ((z_44.1, u9.1.1, z_44.2.2.1, z_44.2.2.2)).2.2.2)).2.2.1, u9.1.2.2)).2.2.2))).2.1 ++ w5 G (ad 8) (((u9.2, ((((((z_44.1, u9.1.1, z_44.2.2.1, z_44.2.2.2)).1, ((z_44.1, u9.1.1, z_44.2.2.1, z_44.2.2.2)).2.1, u9.1.2.1, ((z_44.1, u9.1.1, z_44.2.2.1, z_44.2.2.2)).2.2.2)).1, ((((z_44.1, u9.1.1, z_44.2.2.1, z_44.2.2.2)).1, ((z_44.1, u9.1.1, z_44.2.2.1, z_44.2.2.2)).2.1, u9.1.2.1, ((z_44.1, u9.1.1, z_44.2.2.1, z_44.2.2.2)).2.2.2)).2.1, ((((z_44.1, u9.1.1, z_44.2.2.1, z_44.2.2.2)).1, ((z_44.1, u9.1.1, z_44.2.2.1, z_44.2.2.2)).2.1, u9.1.2.1, ((z_44.1, u9.1.1, z_44.2.2.1, z_44.2.2.2)).2.2.2)).2.2.1, u9.1.2.2)).2.1, ((((((z_44.1, u9.1.1, z_44.2.2.1, z_44.2.2.2)).1, ((z_44.1, u9.1.1, z_44.2.2.1, z_44.2.2.2)).2.1, u9.1.2.1, ((z_44.1, u9.1.1, z_44.2.2.1, z_44.2.2.2)).2.2.2)).1, ((((z_44.1, u9.1.1, z_44.2.2.1, z_44.2.2.2)).1, ((z_44.1, u9.1.1, z_44.2.2.1, z_44.2.2.2)).2.1, u9.1.2.1, ((z_44.1, u9.1.1, z_44.2.2.1, z_44.2.2.2)).2.2.2)).2.1, ((((z_44.1, u9.1.1, z_44.2.2.1, z_44.2.2.2)).1, ((z_44.1, u9.1.1, z_44.2.2.1, z_44.2.2.2)).2.1, u9.1.2.1, ((z_44.1, u9.1.1, z_44.2.2.1, z_44.2.2.2)).2.2.2)).2.2.1, u9.1.2.2)).2.2.1, ((((((z_44.1, u9.1.1, z_44.2.2.1, z_44.2.2.2)).1, ((z_44.1, u9.1.1, z_44.2.2.1, z_44.2.2.2)).2.1, u9.1.2.1, ((z_44.1, u9.1.1, z_44.2.2.1, z_44.2.2.2)).2.2.2)).1, ((((z_44.1, u9.1.1, z_44.2.2.1, z_44.2.2.2)).1, ((z_44.1, u9.1.1, z_44.2.2.1, z_44.2.2.2)).2.1, u9.1.2.1, ((z_44.1, u9.1.1, z_44.2.2.1, z_44.2.2.2)).2.2.2)).2.1, ((((z_44.1, u9.1.1, z_44.2.2.1, z_44.2.2.2)).1, ((z_44.1, u9.1.1, z_44.2.2.1, z_44.2.2.2)).2.1, u9.1.2.1, ((z_44.1, u9.1.1, z_44.2.2.1, z_44.2.2.2)).2.2.2)).2.2.1, u9.1.2.2)).2.2.2))).2.2.1 ++ w0 G (ad 9) (((u9.2, ((((((z_44.1, u9.1.1, z_44.2.2.1, z_44.2.2.2)).1, ((z_44.1, u9.1.1, z_44.2.2.1, z_44.2.2.2)).2.1, u9.1.2.1, ((z_44.1, u9.1.1, z_44.2.2.1, z_44.2.2.2)).2.2.2)).1, ((((z_44.1, u9.1.1, z_44.2.2.1, z_44.2.2.2)).1, ((z_44.1, u9.1.1, z_44.2.2.1, z_44.2.2.2)).2.1, u9.1.2.1, ((z_44.1, u9.1.1, z_44.2.2.1, z_44.2.2.2)).2.2.2)).2.1, ((((z_44.1, u9.1.1, z_44.2.2.1, z_44.2.2.2)).1, ((z_44.1, u9.1.1, z_44.2.2.1, z_44.2.2.2)).2.1, u9.1.2.1, ((z_44.1, u9.1.1, z_44.2.2.1, z_44.2.2.2)).2.2.2)).2.2.1, u9.1.2.2)).2.1, ((((((z_44.1, u9.1.1, z_44.2.2.1, z_44.2.2.2)).1, ((z_44.1, u9.1.1, z_44.2.2.1, z_44.2.2.2)).2.1, u9.1.2.1, ((z_44.1, u9.1.1, z_44.2.2.1, z_44.2.2.2)).2.2.2)).1, ((((z_44.1, u9.1.1, z_44.2.2.1, z_44.2.2.2)).1, ((z_44.1, u9.1.1, z_44.2.2.1, z_44.2.2.2)).2.1, u9.1.2.1, ((z_44.1, u9.1.1, z_44.2.2.1, z_44.2.2.2)).2.2.2)).2.1, ((((z_44.1, u9.1.1, z_44.2.2.1, z_44.2.2.2)).1, ((z_44.1, u9.1.1, z_44.2.2.1, z_44.2.2.2)).2.1, u9.1.2.1, ((z_44.1, u9.1.1, z_44.2.2.1, z_44.2.2.2)).2.2.2)).2.2.1, u9.1.2.2)).2.2.1, ((((((z_44.1, u9.1.1, z_44.2.2.1, z_44.2.2.2)).1, ((z_44.1, u9.1.1, z_44.2.2.1, z_44.2.2.2)).2.1, u9.1.2.1, ((z_44.1, u9.1.1, z_44.2.2.1, z_44.2.2.2)).2.2.2)).1, ((((z_44.1, u9.1.1, z_44.2.2.1, z_44.2.2.2)).1, ((z_44.1, u9.1.1, z_44.2.2.1, z_44.2.2.2)).2.1, u9.1.2.1, ((z_44.1, u9.1.1, z_44.2.2.1, z_44.2.2.2)).2.2.2)).2.1, ((((z_44.1, u9.1.1, z_44.2.2.1, z_44.2.2.2)).1, ((z_44.1, u9.1.1, z_44.2.2.1, z_44.2.2.2)).2.1, u9.1.2.1, ((z_44.1, u9.1.1, z_44.2.2.1, z_44.2.2.2)).2.2.2)).2.2.1, u9.1.2.2)).2.2.2))).2.2.2)) X hml hl.1 (c2_winsOf l G (ad 6) (ad 8) (ad 9) (ad 0) (z_44.2, z_44.1) k j S hF_44 hT_44 ho (by omega) hc (by omega) (by omega) (by omega)) ok2_winsOf wm_X7_202 ⟨Nat.le_of_ble_eq_true rfl, Nat.le_of_ble_eq_true rfl⟩ ⟨Nat.le_refl _, Nat.le_refl _⟩ w [10, 11, 12, 13, 14, 15, 16, 17, 18, 19, 20, 21, 22, 23, 24, 25, 26, 27, 28, 29, 30, 31, 2, 3, 4, 5, 6, 7, 8, 9] [0, 1] [0, 1, 24, 25, 26, 27, 28, 29, 30, 31, 2, 3, 4, 5, 6, 7, 8, 9, 10, 11, 12, 13, 14, 15, 16, 17, 18, 19, 20, 21, 22, 23] rfl (by decide) rfl (by decide) (by decide) (fun _ => rfl) (by decide) rfl rfl rfl (Nat.le_of_ble_eq_true rfl) dX7_fields_57 (fun r_57 u_57 H locs hr_57 w => ?_)
        obtain ⟨z_57, ez_57⟩ : ∃ q9 : RS × RS × RS × RS, q9 = (u_57.2, ((((((z_44.1, u_57.1.1, z_44.2.2.1, z_44.2.2.2)).1, ((z_44.1, u_57.1.1, z_44.2.2.1, z_44.2.2.2)).2.1, u_57.1.2.1, ((z_44.1, u_57.1.1, z_44.2.2.1, z_44.2.2.2)).2.2.2)).1, ((((z_44.1, u_57.1.1, z_44.2.2.1, z_44.2.2.2)).1, ((z_44.1, u_57.1.1, z_44.2.2.1, z_44.2.2.2)).2.1, u_57.1.2.1, ((z_44.1, u_57.1.1, z_44.2.2.1, z_44.2.2.2)).2.2.2)).2.1, ((((z_44.1, u_57.1.1, z_44.2.2.1, z_44.2.2.2)).1, ((z_44.1, u_57.1.1, z_44.2.2.1, z_44.2.2.2)).2.1, u_57.1.2.1, ((z_44.1, u_57.1.1, z_44.2.2.1, z_44.2.2.2)).2.2.2)).2.2.1, u_57.1.2.2)).2.1, ((((((z_44.1, u_57.1.1, z_44.2.2.1, z_44.2.2.2)).1, ((z_44.1, u_57.1.1, z_44.2.2.1, z_44.2.2.2)).2.1, u_57.1.2.1, ((z_44.1, u_57.1.1, z_44.2.2.1, z_44.2.2.2)).2.2.2)).1, ((((z_44.1, u_57.1.1, z_44.2.2.1, z_44.2.2.2)).1, ((z_44.1, u_57.1.1, z_44.2.2.1, z_44.2.2.2)).2.1, u_57.1.2.1, ((z_44.1, u_57.1.1, z_44.2.2.1, z_44.2.2.2)).2.2.2)).2.1, ((((z_44.1, u_57.1.1, z_44.2.2.1, z_44.2.2.2)).1, ((z_44.1, u_57.1.1, z_44.2.2.1, z_44.2.2.2)).2.1, u_57.1.2.1, ((z_44.1, u_57.1.1, z_44.2.2.1, z_44.2.2.2)).2.2.2)).2.2.1, u_57.1.2.2)).2.2.1, ((((((z_44.1, u_57.1.1, z_44.2.2.1, z_44.2.2.2)).1, ((z_44.1, u_57.1.1, z_44.2.2.1, z_44.2.2.2)).2.1, u_57.1.2.1, ((z_44.1, u_57.1.1, z_44.2.2.1, z_44.2.2.2)).2.2.2)).1, ((((z_44.1, u_57.1.1, z_44.2.2.1, z_44.2.2.2)).1, ((z_44.1, u_57.1.1, z_44.2.2.1, z_44.2.2.2)).2.1, u_57.1.2.1, ((z_44.1, u_57.1.1, z_44.2.2.1, z_44.2.2.2)).2.2.2)).2.1, ((((z_44.1, u_57.1.1, z_44.2.2.1, z_44.2.2.2)).1, ((z_44.1, u_57.1.1, z_44.2.2.1, z_44.2.2.2)).2.1, u_57.1.2.1, ((z_44.1, u_57.1.1, z_44.2.2.1, z_44.2.2.2)).2.2.2)).2.2.1, u_57.1.2.2)).2.2.2) := ⟨_, rfl⟩
        have w : cW G A s (wO G a ad zt ++ w5 G (ad 0) z_57.1 ++ wFo G ad z_57.2.1 ++ w5 G (ad 8) z_57.2.2.1 ++ w0 G (ad 9) z_57.2.2.2) H locs := by rw [ez_57]; exact w
        have eu_57_fo : z_57.2.1 = u_57.1.1 := by rw [ez_57]
        try rw [← eu_57_fo] at hr_57
        have eu_57_tr : z_57.2.2.1 = u_57.1.2.1 := by rw [ez_57]
        try rw [← eu_57_tr] at hr_57
        have eu_57_ch : z_57.2.2.2 = u_57.1.2.2 := by rw [ez_57]
        try rw [← eu_57_ch] at hr_57
        have eu_57_sc : z_57.1 = u_57.2 := by rw [ez_57]
        try rw [← eu_57_sc] at hr_57
        exact ce_i (w := (fun q9 : RS × RS × RS × RS => wO G a ad zt ++ w5 G (ad 0) q9.1 ++ wFo G ad q9.2.1 ++ w5 G (ad 8) q9.2.2.1 ++ w0 G (ad 9) q9.2.2.2)) (z := z_57) X hr hk w (⟨by rw [hr_57.1]; unfold an_flds; rw [if_pos (by omega), if_pos (by omega), show ta9.toInt.toNat = k by omega, show na9.toInt.toNat = j by omega], by unfold nx_flds; rw [if_pos (by omega), show ta9.toInt.toNat = k by omega, show na9.toInt.toNat = j by omega]; exact hr_57.2⟩) dX7_fields_60
      · skip
        refine lv_bipush (v := (iZ (-2))) hx hb dX7_fields_33 (by decide) ?_
        exact ce_i (w := (fun q9 : RS × RS × RS × RS => wO G a ad zt ++ w5 G (ad 0) q9.1 ++ wFo G ad q9.2.1 ++ w5 G (ad 8) q9.2.2.1 ++ w0 G (ad 9) q9.2.2.2)) (z := z) X hr hk w (⟨by unfold an_flds; rw [if_pos (by omega), if_neg (by omega)], by unfold nx_flds; rw [if_neg (by omega)]; exact hT⟩) dX7_fields_35
    · skip
      refine lv_iconst (v := (iZ (-1))) hx hb dX7_fields_21 (by decide) ?_
      exact ce_i (w := (fun q9 : RS × RS × RS × RS => wO G a ad zt ++ w5 G (ad 0) q9.1 ++ wFo G ad q9.2.1 ++ w5 G (ad 8) q9.2.2.1 ++ w0 G (ad 9) q9.2.2.2)) (z := z) X hr hk w (⟨by unfold an_flds; rw [if_neg (by omega)], by unfold nx_flds; rw [if_neg (by omega)]; exact hT⟩) dX7_fields_22

section Lm_c7_image
variable {p : Program} {l : Launch} {e : Env} {R : Room} {s : State} {m : MethodId} {args : Array Value} {below : List Frame} {meth : Method} {c : Code} {H : Heap} {locs : List Loc} {cells slots : Nat} {Q : State → Prop}
variable {cc : ByteArray} {pc : Nat} {ls : Array Slot} {rest : List Value} {G : CG} {A : Nat → Prop}
theorem ag_XI_X7_23_this {a : Nat → Nat} {ad : Nat → Nat → Nat} {z : RS × RS × RS × RS × RS} (X : cX RX7 G A p c cc s args m) (w : va_P G.1 vwCl (wO G a ad z.1 ++ w5 G (ad 0) z.2.1 ++ w4 G (ad 1) z.2.2.1 ++ w5 G (ad 2) z.2.2.2.1 ++ w4 G (ad 3) z.2.2.2.2) H) (hdg : decode cc pc = .ok (.getfield 23, 3)) (kk : W p l e R s m args below meth c H locs cells slots Q (F0 m (pc + 3) ls (.ref ((ad 2) 0) :: rest))) : W p l e R s m args below meth c H locs cells slots Q (F0 m pc ls (.ref (a 0) :: rest)) :=
  va_get (D := G.1) (ci := 6) (v := .ref ((ad 2) 0)) (C := RX7) (T := TX7) (N := 8) X.1 X.2.1 X.2.2.1 gX7 X.2.2.2.1 X.2.2.2.2.1.1 w 0 rfl rfl 2 (by decide) (X.2.2.1 _ wf_X7_23) (fun _ h9 => h9) rfl hdg kk
theorem ag_XI_X7_10_this {a : Nat → Nat} {ad : Nat → Nat → Nat} {z : RS × RS × RS × RS × RS} (X : cX RX7 G A p c cc s args m) (w : va_P G.1 vwCl (wO G a ad z.1 ++ w5 G (ad 0) z.2.1 ++ w4 G (ad 1) z.2.2.1 ++ w5 G (ad 2) z.2.2.2.1 ++ w4 G (ad 3) z.2.2.2.2) H) (hdg : decode cc pc = .ok (.getfield 10, 3)) (kk : W p l e R s m args below meth c H locs cells slots Q (F0 m (pc + 3) ls (.ref ((ad 0) 0) :: rest))) : W p l e R s m args below meth c H locs cells slots Q (F0 m pc ls (.ref (a 0) :: rest)) :=
  va_get (D := G.1) (ci := 6) (v := .ref ((ad 0) 0)) (C := RX7) (T := TX7) (N := 8) X.1 X.2.1 X.2.2.1 gX7 X.2.2.2.1 X.2.2.2.2.1.1 w 0 rfl rfl 0 (by decide) (X.2.2.1 _ wf_X7_10) (fun _ h9 => h9) rfl hdg kk
theorem ag_XI_X7_26_this {a : Nat → Nat} {ad : Nat → Nat → Nat} {z : RS × RS × RS × RS × RS} (X : cX RX7 G A p c cc s args m) (w : va_P G.1 vwCl (wO G a ad z.1 ++ w5 G (ad 0) z.2.1 ++ w4 G (ad 1) z.2.2.1 ++ w5 G (ad 2) z.2.2.2.1 ++ w4 G (ad 3) z.2.2.2.2) H) (hdg : decode cc pc = .ok (.getfield 26, 3)) (kk : W p l e R s m args below meth c H locs cells slots Q (F0 m (pc + 3) ls (.ref ((ad 3) 0) :: rest))) : W p l e R s m args below meth c H locs cells slots Q (F0 m pc ls (.ref (a 0) :: rest)) :=
  va_get (D := G.1) (ci := 6) (v := .ref ((ad 3) 0)) (C := RX7) (T := TX7) (N := 8) X.1 X.2.1 X.2.2.1 gX7 X.2.2.2.1 X.2.2.2.2.1.1 w 0 rfl rfl 3 (by decide) (X.2.2.1 _ wf_X7_26) (fun _ h9 => h9) rfl hdg kk
theorem ag_XI_X7_19_this {a : Nat → Nat} {ad : Nat → Nat → Nat} {z : RS × RS × RS × RS × RS} (X : cX RX7 G A p c cc s args m) (w : va_P G.1 vwCl (wO G a ad z.1 ++ w5 G (ad 0) z.2.1 ++ w4 G (ad 1) z.2.2.1 ++ w5 G (ad 2) z.2.2.2.1 ++ w4 G (ad 3) z.2.2.2.2) H) (hdg : decode cc pc = .ok (.getfield 19, 3)) (kk : W p l e R s m args below meth c H locs cells slots Q (F0 m (pc + 3) ls (.ref ((ad 1) 0) :: rest))) : W p l e R s m args below meth c H locs cells slots Q (F0 m pc ls (.ref (a 0) :: rest)) :=
  va_get (D := G.1) (ci := 6) (v := .ref ((ad 1) 0)) (C := RX7) (T := TX7) (N := 8) X.1 X.2.1 X.2.2.1 gX7 X.2.2.2.1 X.2.2.2.2.1.1 w 0 rfl rfl 1 (by decide) (X.2.2.1 _ wf_X7_19) (fun _ h9 => h9) rfl hdg kk
theorem ap_XI_X7_212_this {a : Nat → Nat} {ad : Nat → Nat → Nat} {z : RS × RS × RS × RS × RS} {v : Int32} (X : cX RX7 G A p c cc s args m) (w : cW G A s (wO G a ad z.1 ++ w5 G (ad 0) z.2.1 ++ w4 G (ad 1) z.2.2.1 ++ w5 G (ad 2) z.2.2.2.1 ++ w4 G (ad 3) z.2.2.2.2) H locs) (h01 : v = 0 ∨ v = 1) (hdg : decode cc pc = .ok (.putfield 212, 3)) (kk : ∀ (z1 : RS × RS × RS × RS × RS) (H : Heap) (locs : List Loc), z1 = ((sI z.1 4 v), z.2.1, z.2.2.1, z.2.2.2.1, z.2.2.2.2) → cW G A s (wO G a ad z1.1 ++ w5 G (ad 0) z1.2.1 ++ w4 G (ad 1) z1.2.2.1 ++ w5 G (ad 2) z1.2.2.2.1 ++ w4 G (ad 3) z1.2.2.2.2) H locs → W p l e R s m args below meth c H locs cells slots Q (F0 m (pc + 3) ls rest)) : W p l e R s m args below meth c H locs cells slots Q (F0 m pc ls (.int v :: .ref (a 0) :: rest)) :=
  va_put (D := G.1) (ci := 6) (v := .int v) (ty := .boolean) (C := RX7) (T := TX7) (N := 8) X.1 X.2.1 X.2.2.1 gX7 tyX7 tyX7_ok nmX7 X.2.2.2.1 X.2.2.2.2.1.1 w.1 w.2.1 w.2.2 0 rfl rfl 4 (by decide) (X.2.2.1 _ wf_X7_212) (fun _ h9 => h9) rfl (by decide +kernel) (by rcases h01 with rfl | rfl <;> rfl) (by rcases h01 with rfl | rfl <;> rfl) (Nat.le_of_ble_eq_true rfl) hdg (fun H1 locs1 hP hD hS => kk _ H1 locs1 rfl ⟨hP, hD, hS⟩)
end Lm_c7_image
theorem ok7_image : cOk RX7 yX7_image cX7_image 1 (some .int) 0 := ⟨wc_X7_image, wi_X7_image, ws_X7_image, wn_X7, rfl, by decide, by decide, by decide +kernel⟩
set_option maxHeartbeats 4000000 in
set_option maxRecDepth 100000 in
theorem c7_image (l : Launch) (G : CG) (a : Nat → Nat) (ad : Nat → Nat → Nat) (z : RS × RS × RS × RS × RS)   : cMi G l yX7_image cX7_image 1 (some .int) 3 142 [.ref (a 0)] (fun q9 : RS × RS × RS × RS × RS => wO G a ad q9.1 ++ w5 G (ad 0) q9.2.1 ++ w4 G (ad 1) q9.2.2.1 ++ w5 G (ad 2) q9.2.2.2.1 ++ w4 G (ad 3) q9.2.2.2.2) z (fun r z9 => r = nI 1 ∧ cEq z9.2.2.2.1 z.2.1 ∧ pEq z9.2.2.2.2 z.2.2.1 ∧ z9.1.1 4 = nI 1 ∧ z9.2.1 = z.2.1 ∧ z9.2.2.1 = z.2.2.1) := by
  refine cMi_in (by decide) rfl (Nat.le_of_ble_eq_true rfl) ?_
  intro p e s m args below meth c A ls X hml hr hk hl w
  have hx := X.1
  have hb := X.2.1
  have hts := X.2.2.1
  have hown := X.2.2.2.1
  have hl : lv_has ls 1 [(0, .ref (a 0))] := hl
  refine lv_aload_n hx hb dX7_image_0 rfl (lv_at hl 0 rfl) ?_
  refine ag_XI_X7_23_this X w.1 dX7_image_1 ?_
  refine lv_aload_n hx hb dX7_image_4 rfl (lv_at hl 0 rfl) ?_
  refine ag_XI_X7_10_this X w.1 dX7_image_5 ?_
  refine gc_v (C := RX5) (ci := 4) (rest := []) (w := (fun q9 : RS => w5 G (ad 2) q9 ++ w5 G (ad 0) z.2.1)) (wr := [((a 0), .inr (6, [.ref ((ad 0) 0), .ref ((ad 1) 0), .ref ((ad 2) 0), .ref ((ad 3) 0), .int (z.1.1 4), .ref (ad 5 0), .ref (ad 6 0), .ref (a 8)])), ((a 8), .inl (G.2.2.2, 4, .inr (.inr (.inr (.inr (fun j => some (ad (10 + j) 0))))))), (((ad 1) 0), .inr (3, [.int (z.2.2.1.1 0), .int (z.2.2.1.1 1), .ref ((ad 1) 3), .ref ((ad 1) 4), .ref ((ad 1) 5), .ref ((ad 1) 6)])), (((ad 1) 3), .inl (G.2.1, 40, .inl (z.2.2.1.2.1 2))), (((ad 1) 4), .inl (G.2.1, 8, .inl (z.2.2.1.2.1 3))), (((ad 1) 5), .inl (G.2.1, 8, .inl (z.2.2.1.2.1 4))), (((ad 1) 6), .inl (G.2.1, 8, .inl (z.2.2.1.2.1 5))), (((ad 3) 0), .inr (3, [.int (z.2.2.2.2.1 0), .int (z.2.2.2.2.1 1), .ref ((ad 3) 3), .ref ((ad 3) 4), .ref ((ad 3) 5), .ref ((ad 3) 6)])), (((ad 3) 3), .inl (G.2.1, 40, .inl (z.2.2.2.2.2.1 2))), (((ad 3) 4), .inl (G.2.1, 8, .inl (z.2.2.2.2.2.1 3))), (((ad 3) 5), .inl (G.2.1, 8, .inl (z.2.2.2.2.2.1 4))), (((ad 3) 6), .inl (G.2.1, 8, .inl (z.2.2.2.2.2.1 5)))]) (wn := (fun u9 => wO G a ad (((z.1, z.2.1, z.2.2.1, u9, z.2.2.2.2))).1 ++ w5 G (ad 0) (((z.1, z.2.1, z.2.2.1, u9, z.2.2.2.2))).2.1 ++ w4 G (ad 1) (((z.1, z.2.1, z.2.2.1, u9, z.2.2.2.2))).2.2.1 ++ w5 G (ad 2) (((z.1, z.2.1, z.2.2.1, u9, z.2.2.2.2))).2.2.2.1 ++ w4 G (ad 3) (((z.1, z.2.1, z.2.2.1, u9, z.2.2.2.2))).2.2.2.2)) X hml hl.1 (c5_takeFrom l G (ad 2) (ad 0) z.2.1 z.2.2.2.1) ok5_takeFrom wm_X7_206 ⟨Nat.le_of_ble_eq_true rfl, Nat.le_of_ble_eq_true rfl⟩ ⟨Nat.le_refl _, Nat.le_refl _⟩ w [15, 16, 17, 18, 19, 20, 21, 22, 2, 3, 4, 5, 6, 7, 8, 9] [0, 1, 10, 11, 12, 13, 14, 23, 24, 25, 26, 27] [0, 1, 20, 21, 22, 23, 24, 25, 26, 27, 2, 3, 4, 5, 6, 12, 13, 14, 15, 16, 17, 18, 19, 7, 8, 9, 10, 11] rfl (by decide) rfl (by decide) (by decide) (fun _ => rfl) (by decide) rfl rfl rfl (Nat.le_of_ble_eq_true rfl) dX7_image_8 (fun u_8 H locs hr_8 w => ?_)
  obtain ⟨z_8, ez_8⟩ : ∃ q9 : RS × RS × RS × RS × RS, q9 = (z.1, z.2.1, z.2.2.1, u_8, z.2.2.2.2) := ⟨_, rfl⟩
  have w : cW G A s (wO G a ad z_8.1 ++ w5 G (ad 0) z_8.2.1 ++ w4 G (ad 1) z_8.2.2.1 ++ w5 G (ad 2) z_8.2.2.2.1 ++ w4 G (ad 3) z_8.2.2.2.2) H locs := by rw [ez_8]; exact w
  have eu_8_ks : z_8.2.2.2.1 = u_8 := by rw [ez_8]
  rw [← eu_8_ks] at hr_8
  have ek_8_this : z_8.1 = z.1 := by rw [ez_8]
  have ek_8_sc : z_8.2.1 = z.2.1 := by rw [ez_8]
  have ek_8_pa : z_8.2.2.1 = z.2.2.1 := by rw [ez_8]
  have ek_8_kp : z_8.2.2.2.2 = z.2.2.2.2 := by rw [ez_8]
  refine lv_aload_n hx hb dX7_image_11 rfl (lv_at hl 0 rfl) ?_
  refine ag_XI_X7_26_this X w.1 dX7_image_12 ?_
  refine lv_aload_n hx hb dX7_image_15 rfl (lv_at hl 0 rfl) ?_
  refine ag_XI_X7_19_this X w.1 dX7_image_16 ?_
  refine gc_v (C := RX4) (ci := 3) (rest := []) (w := (fun q9 : RS => w4 G (ad 3) q9 ++ w4 G (ad 1) z_8.2.2.1)) (wr := [((a 0), .inr (6, [.ref ((ad 0) 0), .ref ((ad 1) 0), .ref ((ad 2) 0), .ref ((ad 3) 0), .int (z_8.1.1 4), .ref (ad 5 0), .ref (ad 6 0), .ref (a 8)])), ((a 8), .inl (G.2.2.2, 4, .inr (.inr (.inr (.inr (fun j => some (ad (10 + j) 0))))))), (((ad 0) 0), .inr (4, [.int (z_8.2.1.1 0), .ref ((ad 0) 2), .ref ((ad 0) 3), .int (z_8.2.1.1 3), .ref ((ad 0) 5), .ref ((ad 0) 6), .ref ((ad 0) 7), .ref ((ad 0) 8), .int (z_8.2.1.1 8), .int (z_8.2.1.1 9), .int (z_8.2.1.1 10), .ref ((ad 0) 12), .int (z_8.2.1.1 12)])), (((ad 0) 2), .inl (G.2.1, 40, .inl (z_8.2.1.2.1 1))), (((ad 0) 3), .inl (G.2.1, 40, .inl (z_8.2.1.2.1 2))), (((ad 0) 5), .inl (G.2.1, 5, .inl (z_8.2.1.2.1 4))), (((ad 0) 6), .inl (G.2.1, 5, .inl (z_8.2.1.2.1 5))), (((ad 0) 7), .inl (G.2.1, 5, .inl (z_8.2.1.2.1 6))), (((ad 0) 8), .inl (G.2.1, 5, .inl (z_8.2.1.2.1 7))), (((ad 0) 12), .inl (G.2.1, 5, .inl (z_8.2.1.2.1 11))), (((ad 2) 0), .inr (4, [.int (z_8.2.2.2.1.1 0), .ref ((ad 2) 2), .ref ((ad 2) 3), .int (z_8.2.2.2.1.1 3), .ref ((ad 2) 5), .ref ((ad 2) 6), .ref ((ad 2) 7), .ref ((ad 2) 8), .int (z_8.2.2.2.1.1 8), .int (z_8.2.2.2.1.1 9), .int (z_8.2.2.2.1.1 10), .ref ((ad 2) 12), .int (z_8.2.2.2.1.1 12)])), (((ad 2) 2), .inl (G.2.1, 40, .inl (z_8.2.2.2.1.2.1 1))), (((ad 2) 3), .inl (G.2.1, 40, .inl (z_8.2.2.2.1.2.1 2))), (((ad 2) 5), .inl (G.2.1, 5, .inl (z_8.2.2.2.1.2.1 4))), (((ad 2) 6), .inl (G.2.1, 5, .inl (z_8.2.2.2.1.2.1 5))), (((ad 2) 7), .inl (G.2.1, 5, .inl (z_8.2.2.2.1.2.1 6))), (((ad 2) 8), .inl (G.2.1, 5, .inl (z_8.2.2.2.1.2.1 7))), (((ad 2) 12), .inl (G.2.1, 5, .inl (z_8.2.2.2.1.2.1 11)))]) (wn := (fun u9 => wO G a ad (((z_8.1, z_8.2.1, z_8.2.2.1, z_8.2.2.2.1, u9))).1 ++ w5 G (ad 0) (((z_8.1, z_8.2.1, z_8.2.2.1, z_8.2.2.2.1, u9))).2.1 ++ w4 G (ad 1) (((z_8.1, z_8.2.1, z_8.2.2.1, z_8.2.2.2.1, u9))).2.2.1 ++ w5 G (ad 2) (((z_8.1, z_8.2.1, z_8.2.2.1, z_8.2.2.2.1, u9))).2.2.2.1 ++ w4 G (ad 3) (((z_8.1, z_8.2.1, z_8.2.2.1, z_8.2.2.2.1, u9))).2.2.2.2)) X hml hl.1 (c4_takeFrom l G (ad 3) (ad 1) z_8.2.2.1 z_8.2.2.2.2) ok4_takeFrom wm_X7_209 ⟨Nat.le_of_ble_eq_true rfl, Nat.le_of_ble_eq_true rfl⟩ ⟨Nat.le_refl _, Nat.le_refl _⟩ w [23, 24, 25, 26, 27, 10, 11, 12, 13, 14] [0, 1, 2, 3, 4, 5, 6, 7, 8, 9, 15, 16, 17, 18, 19, 20, 21, 22] [0, 1, 2, 3, 4, 5, 6, 7, 8, 9, 23, 24, 25, 26, 27, 10, 11, 12, 13, 14, 15, 16, 17, 18, 19, 20, 21, 22] rfl (by decide) rfl (by decide) (by decide) (fun _ => rfl) (by decide) rfl rfl rfl (Nat.le_of_ble_eq_true rfl) dX7_image_19 (fun u_19 H locs hr_19 w => ?_)
  obtain ⟨z_19, ez_19⟩ : ∃ q9 : RS × RS × RS × RS × RS, q9 = (z_8.1, z_8.2.1, z_8.2.2.1, z_8.2.2.2.1, u_19) := ⟨_, rfl⟩
  have w : cW G A s (wO G a ad z_19.1 ++ w5 G (ad 0) z_19.2.1 ++ w4 G (ad 1) z_19.2.2.1 ++ w5 G (ad 2) z_19.2.2.2.1 ++ w4 G (ad 3) z_19.2.2.2.2) H locs := by rw [ez_19]; exact w
  have eu_19_kp : z_19.2.2.2.2 = u_19 := by rw [ez_19]
  rw [← eu_19_kp] at hr_19
  have ek_19_this : z_19.1 = z_8.1 := by rw [ez_19]
  have ek_19_sc : z_19.2.1 = z_8.2.1 := by rw [ez_19]
  have ek_19_pa : z_19.2.2.1 = z_8.2.2.1 := by rw [ez_19]
  have ek_19_ks : z_19.2.2.2.1 = z_8.2.2.2.1 := by rw [ez_19]
  refine lv_aload_n hx hb dX7_image_22 rfl (lv_at hl 0 rfl) ?_
  refine lv_iconst (v := (nI 1)) hx hb dX7_image_23 (by decide) ?_
  refine ap_XI_X7_212_this X w (by first | exact Or.inl rfl | exact Or.inr rfl) dX7_image_24 (fun z_24 H locs ez_24 w => ?_)
  refine lv_iconst (v := (nI 1)) hx hb dX7_image_27 (by decide) ?_
  exact ce_i (w := (fun q9 : RS × RS × RS × RS × RS => wO G a ad q9.1 ++ w5 G (ad 0) q9.2.1 ++ w4 G (ad 1) q9.2.2.1 ++ w5 G (ad 2) q9.2.2.2.1 ++ w4 G (ad 3) q9.2.2.2.2)) (z := z_24) X hr hk w (⟨rfl, by rw [ez_24, ek_19_ks]; exact hr_8, by rw [ez_24, ← ek_8_pa]; exact hr_19, by rw [ez_24]; rfl, by rw [ez_24, ek_19_sc, ek_8_sc], by rw [ez_24, ek_19_pa, ek_8_pa]⟩) dX7_image_28

section Lm_c7_restore
variable {p : Program} {l : Launch} {e : Env} {R : Room} {s : State} {m : MethodId} {args : Array Value} {below : List Frame} {meth : Method} {c : Code} {H : Heap} {locs : List Loc} {cells slots : Nat} {Q : State → Prop}
variable {cc : ByteArray} {pc : Nat} {ls : Array Slot} {rest : List Value} {G : CG} {A : Nat → Prop}
theorem ag_XI_X7_212_this {a : Nat → Nat} {ad : Nat → Nat → Nat} {z : RS × RS × RS × RS × RS} (X : cX RX7 G A p c cc s args m) (w : va_P G.1 vwCl (wO G a ad z.1 ++ w5 G (ad 0) z.2.1 ++ w4 G (ad 1) z.2.2.1 ++ w5 G (ad 2) z.2.2.2.1 ++ w4 G (ad 3) z.2.2.2.2) H) (hdg : decode cc pc = .ok (.getfield 212, 3)) (kk : W p l e R s m args below meth c H locs cells slots Q (F0 m (pc + 3) ls (.int (z.1.1 4) :: rest))) : W p l e R s m args below meth c H locs cells slots Q (F0 m pc ls (.ref (a 0) :: rest)) :=
  va_get (D := G.1) (ci := 6) (v := .int (z.1.1 4)) (C := RX7) (T := TX7) (N := 8) X.1 X.2.1 X.2.2.1 gX7 X.2.2.2.1 X.2.2.2.2.1.1 w 0 rfl rfl 4 (by decide) (X.2.2.1 _ wf_X7_212) (fun _ h9 => h9) rfl hdg kk
end Lm_c7_restore
theorem ok7_restore : cOk RX7 yX7_restore cX7_restore 1 (some .int) 0 := ⟨wc_X7_restore, wi_X7_restore, ws_X7_restore, wn_X7, rfl, by decide, by decide, by decide +kernel⟩
set_option maxHeartbeats 4000000 in
set_option maxRecDepth 100000 in
theorem c7_restore (l : Launch) (G : CG) (a : Nat → Nat) (ad : Nat → Nat → Nat) (z : RS × RS × RS × RS × RS)  (b9 : Nat) (hb9 : z.1.1 4 = nI b9) (hb1 : b9 ≤ 1) : cMi G l yX7_restore cX7_restore 1 (some .int) 3 142 [.ref (a 0)] (fun q9 : RS × RS × RS × RS × RS => wO G a ad q9.1 ++ w5 G (ad 0) q9.2.1 ++ w4 G (ad 1) q9.2.2.1 ++ w5 G (ad 2) q9.2.2.2.1 ++ w4 G (ad 3) q9.2.2.2.2) z (fun r z9 => (b9 = 0 → r = iZ (-4) ∧ z9 = z) ∧ (¬ b9 = 0 → r = nI 1 ∧ cEq z9.2.1 z.2.2.2.1 ∧ pEq z9.2.2.1 z.2.2.2.2 ∧ z9.1 = z.1 ∧ z9.2.2.2.1 = z.2.2.2.1 ∧ z9.2.2.2.2 = z.2.2.2.2)) := by
  refine cMi_in (by decide) rfl (Nat.le_of_ble_eq_true rfl) ?_
  intro p e s m args below meth c A ls X hml hr hk hl w
  have hx := X.1
  have hb := X.2.1
  have hts := X.2.2.1
  have hown := X.2.2.2.1
  have hl : lv_has ls 1 [(0, .ref (a 0))] := hl
  refine lv_aload_n hx hb dX7_restore_0 rfl (lv_at hl 0 rfl) ?_
  refine ag_XI_X7_212_this X w.1 dX7_restore_1 ?_
  refine tp_i (show z.1.1 4 = (nI b9) from hb9) ?_
  refine n_if_ne (tgt := 10) hx hb dX7_restore_4 (by decide) (by omega) (fun c_4_1 => ?_) (fun c_4_1 => ?_)
  · skip
    refine lv_aload_n hx hb dX7_restore_10 rfl (lv_at hl 0 rfl) ?_
    refine ag_XI_X7_10_this X w.1 dX7_restore_11 ?_
    refine lv_aload_n hx hb dX7_restore_14 rfl (lv_at hl 0 rfl) ?_
    refine ag_XI_X7_23_this X w.1 dX7_restore_15 ?_
    refine gc_v (C := RX5) (ci := 4) (rest := []) (w := (fun q9 : RS => w5 G (ad 0) q9 ++ w5 G (ad 2) z.2.2.2.1)) (wr := [((a 0), .inr (6, [.ref ((ad 0) 0), .ref ((ad 1) 0), .ref ((ad 2) 0), .ref ((ad 3) 0), .int (z.1.1 4), .ref (ad 5 0), .ref (ad 6 0), .ref (a 8)])), ((a 8), .inl (G.2.2.2, 4, .inr (.inr (.inr (.inr (fun j => some (ad (10 + j) 0))))))), (((ad 1) 0), .inr (3, [.int (z.2.2.1.1 0), .int (z.2.2.1.1 1), .ref ((ad 1) 3), .ref ((ad 1) 4), .ref ((ad 1) 5), .ref ((ad 1) 6)])), (((ad 1) 3), .inl (G.2.1, 40, .inl (z.2.2.1.2.1 2))), (((ad 1) 4), .inl (G.2.1, 8, .inl (z.2.2.1.2.1 3))), (((ad 1) 5), .inl (G.2.1, 8, .inl (z.2.2.1.2.1 4))), (((ad 1) 6), .inl (G.2.1, 8, .inl (z.2.2.1.2.1 5))), (((ad 3) 0), .inr (3, [.int (z.2.2.2.2.1 0), .int (z.2.2.2.2.1 1), .ref ((ad 3) 3), .ref ((ad 3) 4), .ref ((ad 3) 5), .ref ((ad 3) 6)])), (((ad 3) 3), .inl (G.2.1, 40, .inl (z.2.2.2.2.2.1 2))), (((ad 3) 4), .inl (G.2.1, 8, .inl (z.2.2.2.2.2.1 3))), (((ad 3) 5), .inl (G.2.1, 8, .inl (z.2.2.2.2.2.1 4))), (((ad 3) 6), .inl (G.2.1, 8, .inl (z.2.2.2.2.2.1 5)))]) (wn := (fun u9 => wO G a ad (((z.1, u9, z.2.2.1, z.2.2.2.1, z.2.2.2.2))).1 ++ w5 G (ad 0) (((z.1, u9, z.2.2.1, z.2.2.2.1, z.2.2.2.2))).2.1 ++ w4 G (ad 1) (((z.1, u9, z.2.2.1, z.2.2.2.1, z.2.2.2.2))).2.2.1 ++ w5 G (ad 2) (((z.1, u9, z.2.2.1, z.2.2.2.1, z.2.2.2.2))).2.2.2.1 ++ w4 G (ad 3) (((z.1, u9, z.2.2.1, z.2.2.2.1, z.2.2.2.2))).2.2.2.2)) X hml hl.1 (c5_takeFrom l G (ad 0) (ad 2) z.2.2.2.1 z.2.1) ok5_takeFrom wm_X7_206 ⟨Nat.le_of_ble_eq_true rfl, Nat.le_of_ble_eq_true rfl⟩ ⟨Nat.le_refl _, Nat.le_refl _⟩ w [2, 3, 4, 5, 6, 7, 8, 9, 15, 16, 17, 18, 19, 20, 21, 22] [0, 1, 10, 11, 12, 13, 14, 23, 24, 25, 26, 27] [0, 1, 12, 13, 14, 15, 16, 17, 18, 19, 2, 3, 4, 5, 6, 20, 21, 22, 23, 24, 25, 26, 27, 7, 8, 9, 10, 11] rfl (by decide) rfl (by decide) (by decide) (fun _ => rfl) (by decide) rfl rfl rfl (Nat.le_of_ble_eq_true rfl) dX7_restore_18 (fun u_18 H locs hr_18 w => ?_)
    obtain ⟨z_18, ez_18⟩ : ∃ q9 : RS × RS × RS × RS × RS, q9 = (z.1, u_18, z.2.2.1, z.2.2.2.1, z.2.2.2.2) := ⟨_, rfl⟩
    have w : cW G A s (wO G a ad z_18.1 ++ w5 G (ad 0) z_18.2.1 ++ w4 G (ad 1) z_18.2.2.1 ++ w5 G (ad 2) z_18.2.2.2.1 ++ w4 G (ad 3) z_18.2.2.2.2) H locs := by rw [ez_18]; exact w
    have eu_18_sc : z_18.2.1 = u_18 := by rw [ez_18]
    rw [← eu_18_sc] at hr_18
    have ek_18_this : z_18.1 = z.1 := by rw [ez_18]
    have ek_18_pa : z_18.2.2.1 = z.2.2.1 := by rw [ez_18]
    have ek_18_ks : z_18.2.2.2.1 = z.2.2.2.1 := by rw [ez_18]
    have ek_18_kp : z_18.2.2.2.2 = z.2.2.2.2 := by rw [ez_18]
    refine lv_aload_n hx hb dX7_restore_21 rfl (lv_at hl 0 rfl) ?_
    refine ag_XI_X7_19_this X w.1 dX7_restore_22 ?_
    refine lv_aload_n hx hb dX7_restore_25 rfl (lv_at hl 0 rfl) ?_
    refine ag_XI_X7_26_this X w.1 dX7_restore_26 ?_
    refine gc_v (C := RX4) (ci := 3) (rest := []) (w := (fun q9 : RS => w4 G (ad 1) q9 ++ w4 G (ad 3) z_18.2.2.2.2)) (wr := [((a 0), .inr (6, [.ref ((ad 0) 0), .ref ((ad 1) 0), .ref ((ad 2) 0), .ref ((ad 3) 0), .int (z_18.1.1 4), .ref (ad 5 0), .ref (ad 6 0), .ref (a 8)])), ((a 8), .inl (G.2.2.2, 4, .inr (.inr (.inr (.inr (fun j => some (ad (10 + j) 0))))))), (((ad 0) 0), .inr (4, [.int (z_18.2.1.1 0), .ref ((ad 0) 2), .ref ((ad 0) 3), .int (z_18.2.1.1 3), .ref ((ad 0) 5), .ref ((ad 0) 6), .ref ((ad 0) 7), .ref ((ad 0) 8), .int (z_18.2.1.1 8), .int (z_18.2.1.1 9), .int (z_18.2.1.1 10), .ref ((ad 0) 12), .int (z_18.2.1.1 12)])), (((ad 0) 2), .inl (G.2.1, 40, .inl (z_18.2.1.2.1 1))), (((ad 0) 3), .inl (G.2.1, 40, .inl (z_18.2.1.2.1 2))), (((ad 0) 5), .inl (G.2.1, 5, .inl (z_18.2.1.2.1 4))), (((ad 0) 6), .inl (G.2.1, 5, .inl (z_18.2.1.2.1 5))), (((ad 0) 7), .inl (G.2.1, 5, .inl (z_18.2.1.2.1 6))), (((ad 0) 8), .inl (G.2.1, 5, .inl (z_18.2.1.2.1 7))), (((ad 0) 12), .inl (G.2.1, 5, .inl (z_18.2.1.2.1 11))), (((ad 2) 0), .inr (4, [.int (z_18.2.2.2.1.1 0), .ref ((ad 2) 2), .ref ((ad 2) 3), .int (z_18.2.2.2.1.1 3), .ref ((ad 2) 5), .ref ((ad 2) 6), .ref ((ad 2) 7), .ref ((ad 2) 8), .int (z_18.2.2.2.1.1 8), .int (z_18.2.2.2.1.1 9), .int (z_18.2.2.2.1.1 10), .ref ((ad 2) 12), .int (z_18.2.2.2.1.1 12)])), (((ad 2) 2), .inl (G.2.1, 40, .inl (z_18.2.2.2.1.2.1 1))), (((ad 2) 3), .inl (G.2.1, 40, .inl (z_18.2.2.2.1.2.1 2))), (((ad 2) 5), .inl (G.2.1, 5, .inl (z_18.2.2.2.1.2.1 4))), (((ad 2) 6), .inl (G.2.1, 5, .inl (z_18.2.2.2.1.2.1 5))), (((ad 2) 7), .inl (G.2.1, 5, .inl (z_18.2.2.2.1.2.1 6))), (((ad 2) 8), .inl (G.2.1, 5, .inl (z_18.2.2.2.1.2.1 7))), (((ad 2) 12), .inl (G.2.1, 5, .inl (z_18.2.2.2.1.2.1 11)))]) (wn := (fun u9 => wO G a ad (((z_18.1, z_18.2.1, u9, z_18.2.2.2.1, z_18.2.2.2.2))).1 ++ w5 G (ad 0) (((z_18.1, z_18.2.1, u9, z_18.2.2.2.1, z_18.2.2.2.2))).2.1 ++ w4 G (ad 1) (((z_18.1, z_18.2.1, u9, z_18.2.2.2.1, z_18.2.2.2.2))).2.2.1 ++ w5 G (ad 2) (((z_18.1, z_18.2.1, u9, z_18.2.2.2.1, z_18.2.2.2.2))).2.2.2.1 ++ w4 G (ad 3) (((z_18.1, z_18.2.1, u9, z_18.2.2.2.1, z_18.2.2.2.2))).2.2.2.2)) X hml hl.1 (c4_takeFrom l G (ad 1) (ad 3) z_18.2.2.2.2 z_18.2.2.1) ok4_takeFrom wm_X7_209 ⟨Nat.le_of_ble_eq_true rfl, Nat.le_of_ble_eq_true rfl⟩ ⟨Nat.le_refl _, Nat.le_refl _⟩ w [10, 11, 12, 13, 14, 23, 24, 25, 26, 27] [0, 1, 2, 3, 4, 5, 6, 7, 8, 9, 15, 16, 17, 18, 19, 20, 21, 22] [0, 1, 2, 3, 4, 5, 6, 7, 8, 9, 18, 19, 20, 21, 22, 10, 11, 12, 13, 14, 15, 16, 17, 23, 24, 25, 26, 27] rfl (by decide) rfl (by decide) (by decide) (fun _ => rfl) (by decide) rfl rfl rfl (Nat.le_of_ble_eq_true rfl) dX7_restore_29 (fun u_29 H locs hr_29 w => ?_)
    obtain ⟨z_29, ez_29⟩ : ∃ q9 : RS × RS × RS × RS × RS, q9 = (z_18.1, z_18.2.1, u_29, z_18.2.2.2.1, z_18.2.2.2.2) := ⟨_, rfl⟩
    have w : cW G A s (wO G a ad z_29.1 ++ w5 G (ad 0) z_29.2.1 ++ w4 G (ad 1) z_29.2.2.1 ++ w5 G (ad 2) z_29.2.2.2.1 ++ w4 G (ad 3) z_29.2.2.2.2) H locs := by rw [ez_29]; exact w
    have eu_29_pa : z_29.2.2.1 = u_29 := by rw [ez_29]
    rw [← eu_29_pa] at hr_29
    have ek_29_this : z_29.1 = z_18.1 := by rw [ez_29]
    have ek_29_sc : z_29.2.1 = z_18.2.1 := by rw [ez_29]
    have ek_29_ks : z_29.2.2.2.1 = z_18.2.2.2.1 := by rw [ez_29]
    have ek_29_kp : z_29.2.2.2.2 = z_18.2.2.2.2 := by rw [ez_29]
    refine lv_iconst (v := (nI 1)) hx hb dX7_restore_32 (by decide) ?_
    exact ce_i (w := (fun q9 : RS × RS × RS × RS × RS => wO G a ad q9.1 ++ w5 G (ad 0) q9.2.1 ++ w4 G (ad 1) q9.2.2.1 ++ w5 G (ad 2) q9.2.2.2.1 ++ w4 G (ad 3) q9.2.2.2.2)) (z := z_29) X hr hk w (⟨fun g0 => absurd g0 (by omega), fun _ => ⟨rfl, by rw [ek_29_sc]; exact hr_18, by rw [← ek_18_kp]; exact hr_29, by rw [ek_29_this, ek_18_this], by rw [ek_29_ks, ek_18_ks], by rw [ek_29_kp, ek_18_kp]⟩⟩) dX7_restore_33
  · skip
    refine lv_bipush (v := (iZ (-4))) hx hb dX7_restore_7 (by decide) ?_
    exact ce_i (w := (fun q9 : RS × RS × RS × RS × RS => wO G a ad q9.1 ++ w5 G (ad 0) q9.2.1 ++ w4 G (ad 1) q9.2.2.1 ++ w5 G (ad 2) q9.2.2.2.1 ++ w4 G (ad 3) q9.2.2.2.2)) (z := z) X hr hk w (⟨fun _ => ⟨rfl, rfl⟩, fun g0 => absurd (by omega) g0⟩) dX7_restore_9
