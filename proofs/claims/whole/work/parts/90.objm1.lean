theorem ok7_isSheet : cOkS RX7 yX7_isSheet cX7_isSheet 1 (some .boolean) 1 := ⟨wc_X7_isSheet, wt_X7_isSheet, wn_X7, rfl, by decide, by decide, by decide +kernel⟩
set_option maxHeartbeats 4000000 in
set_option maxRecDepth 100000 in
theorem c7_isSheet (l : Launch) (xa9 : Int32)  : rMs l yX7_isSheet cX7_isSheet 1 (some .boolean) 1 22 [.int xa9] (fun r => r = nI (pc_inI xa9.toInt 0 3)) := by
  refine cMs_in (by decide) rfl (Nat.le_of_ble_eq_true rfl) ?_
  intro p e s m args below meth c ls X hml hr hk hl
  have hx := X.1
  have hb := X.2.1
  have hts := X.2.2.1
  have hown := X.2.2.2
  have hl : lv_has ls 1 [(0, .int xa9)] := hl
  refine lv_iload_n hx hb dX7_isSheet_0 rfl (lv_at hl 0 rfl) ?_
  refine lv_iconst (v := (nI 0)) hx hb dX7_isSheet_1 (by decide) ?_
  refine lv_iconst (v := (nI 3)) hx hb dX7_isSheet_2 (by decide) ?_
  refine gc_s (C := RX7) (rest := []) X hml hl.1 (c7_within l xa9 (nI 0) (nI 3)) ok7_within wm_X7_50 ⟨Nat.le_of_ble_eq_true rfl, Nat.le_of_ble_eq_true rfl⟩ ⟨Nat.le_refl _, Nat.le_refl _⟩ rfl (Nat.le_of_ble_eq_true rfl) dX7_isSheet_3 (fun r_3 hr_3 => ?_) rfl
  subst hr_3
  refine tp_i (congrArg nI (w3_I rfl (by decide) (by decide) : _ = pc_inI xa9.toInt ((0 : Int)) ((3 : Int)))) ?_
  have d_3 := pc_inI_ok xa9.toInt ((0 : Int)) ((3 : Int))
  exact re_pz hx hb hr hk (inI_01 _ _ _) (rfl) dX7_isSheet_6

theorem ok7_isLane : cOkS RX7 yX7_isLane cX7_isLane 1 (some .boolean) 1 := ⟨wc_X7_isLane, wt_X7_isLane, wn_X7, rfl, by decide, by decide, by decide +kernel⟩
set_option maxHeartbeats 4000000 in
set_option maxRecDepth 100000 in
theorem c7_isLane (l : Launch) (xa9 : Int32)  : rMs l yX7_isLane cX7_isLane 1 (some .boolean) 1 22 [.int xa9] (fun r => r = nI (pc_inI xa9.toInt 0 3)) := by
  refine cMs_in (by decide) rfl (Nat.le_of_ble_eq_true rfl) ?_
  intro p e s m args below meth c ls X hml hr hk hl
  have hx := X.1
  have hb := X.2.1
  have hts := X.2.2.1
  have hown := X.2.2.2
  have hl : lv_has ls 1 [(0, .int xa9)] := hl
  refine lv_iload_n hx hb dX7_isLane_0 rfl (lv_at hl 0 rfl) ?_
  refine lv_iconst (v := (nI 0)) hx hb dX7_isLane_1 (by decide) ?_
  refine lv_iconst (v := (nI 3)) hx hb dX7_isLane_2 (by decide) ?_
  refine gc_s (C := RX7) (rest := []) X hml hl.1 (c7_within l xa9 (nI 0) (nI 3)) ok7_within wm_X7_50 ⟨Nat.le_of_ble_eq_true rfl, Nat.le_of_ble_eq_true rfl⟩ ⟨Nat.le_refl _, Nat.le_refl _⟩ rfl (Nat.le_of_ble_eq_true rfl) dX7_isLane_3 (fun r_3 hr_3 => ?_) rfl
  subst hr_3
  refine tp_i (congrArg nI (w3_I rfl (by decide) (by decide) : _ = pc_inI xa9.toInt ((0 : Int)) ((3 : Int)))) ?_
  have d_3 := pc_inI_ok xa9.toInt ((0 : Int)) ((3 : Int))
  exact re_pz hx hb hr hk (inI_01 _ _ _) (rfl) dX7_isLane_6

section Lm_c7_mayTurn
variable {p : Program} {l : Launch} {e : Env} {R : Room} {s : State} {m : MethodId} {args : Array Value} {below : List Frame} {meth : Method} {c : Code} {H : Heap} {locs : List Loc} {cells slots : Nat} {Q : State → Prop}
variable {cc : ByteArray} {pc : Nat} {ls : Array Slot} {rest : List Value} {G : CG} {A : Nat → Prop}
theorem ag_XS_X7_10_this {a : Nat → Nat} {ad : Nat → Nat → Nat} {zt : RS} {z : RS} (X : cX RX7 G A p c cc s args m) (w : va_P G.1 vwCl (wO G a ad zt ++ w5 G (ad 0) z) H) (hdg : decode cc pc = .ok (.getfield 10, 3)) (kk : W p l e R s m args below meth c H locs cells slots Q (F0 m (pc + 3) ls (.ref ((ad 0) 0) :: rest))) : W p l e R s m args below meth c H locs cells slots Q (F0 m pc ls (.ref (a 0) :: rest)) :=
  va_get (D := G.1) (ci := 6) (v := .ref ((ad 0) 0)) (C := RX7) (T := TX7) (N := 8) X.1 X.2.1 X.2.2.1 gX7 X.2.2.2.1 X.2.2.2.2.1.1 w 0 rfl rfl 0 (by decide) (X.2.2.1 _ wf_X7_10) (fun _ h9 => h9) rfl hdg kk
end Lm_c7_mayTurn
theorem ok7_mayTurn : cOk RX7 yX7_mayTurn cX7_mayTurn 1 (some .boolean) 0 := ⟨wc_X7_mayTurn, wi_X7_mayTurn, ws_X7_mayTurn, wn_X7, rfl, by decide, by decide, by decide +kernel⟩
set_option maxHeartbeats 4000000 in
set_option maxRecDepth 100000 in
theorem c7_mayTurn (l : Launch) (G : CG) (a : Nat → Nat) (ad : Nat → Nat → Nat) (zt : RS) (z : RS)  (S : Sc) (hT : cSc z S) (ho : oSc S)  : cMp G l yX7_mayTurn cX7_mayTurn 1 (some .boolean) 3 63 [.ref (a 0)] (wO G a ad zt ++ w5 G (ad 0) z) (fun r => r = nI (pc_may S)) := by
  refine cMp_in (by decide) rfl (Nat.le_of_ble_eq_true rfl) ?_
  intro p e s m args below meth c ls X hml hr hk hl w
  have hx := X.1
  have hb := X.2.1
  have hts := X.2.2.1
  have hown := X.2.2.2.1
  have hl : lv_has ls 1 [(0, .ref (a 0))] := hl
  obtain ⟨o1, o2, o3, o4, o5, o6, oso, oki, osr, opa, ohu, oco⟩ := id ho
  refine lv_aload_n hx hb dX7_mayTurn_0 rfl (lv_at hl 0 rfl) ?_
  refine ag_XS_X7_10_this X w dX7_mayTurn_1 ?_
  refine gc_p (C := RX5) (ci := 4) (rest := []) X hml hl.1 (c5_outcome l G (ad 0) z  S hT.1 ho ) ok5_outcome wm_X7_144 ⟨Nat.le_of_ble_eq_true rfl, Nat.le_of_ble_eq_true rfl⟩ ⟨Nat.le_refl _, Nat.le_refl _⟩ w [2, 3, 4, 5, 6, 7, 8, 9] rfl rfl rfl rfl (Nat.le_of_ble_eq_true rfl) dX7_mayTurn_4 (fun r_4 hr_4 => ?_)
  subst hr_4
  have d_4 := sp_over_le S
  refine jn (tgt := 25) (rest := []) (fun v9 => ∃ x9 : Nat, x9 = (if (sp_over S) = 0 then (if (pc_td S) = 0 then 1 else 0) else 0) ∧ v9 = nI x9) (fun v_ hv_ => ?_) (fun k_25 => ?_)
  · obtain ⟨x_25, ex_25, rfl⟩ := hv_
    exact re_pz hx hb hr hk (by rw [ex_25]; split; split; exact Or.inr rfl; exact Or.inl rfl; exact Or.inl rfl) (by rw [ex_25]; rfl) dX7_mayTurn_25
  · skip
    refine n_if_ne (tgt := 24) hx hb dX7_mayTurn_7 (by decide) (by omega) (fun c_7_2 => ?_) (fun c_7_2 => ?_)
    · skip
      refine lv_iconst (v := (nI 0)) hx hb dX7_mayTurn_24 (by decide) ?_
      exact k_25 _ ⟨_, by simp only [if_neg c_7_2], rfl⟩
    · skip
      refine lv_aload_n hx hb dX7_mayTurn_10 rfl (lv_at hl 0 rfl) ?_
      refine ag_XS_X7_10_this X w dX7_mayTurn_11 ?_
      refine gc_p (C := RX5) (ci := 4) (rest := []) X hml hl.1 (c5_hasTurned l G (ad 0) z  S hT.1 ho ) ok5_hasTurned wm_X7_54 ⟨Nat.le_of_ble_eq_true rfl, Nat.le_of_ble_eq_true rfl⟩ ⟨Nat.le_refl _, Nat.le_refl _⟩ w [2, 3, 4, 5, 6, 7, 8, 9] rfl rfl rfl rfl (Nat.le_of_ble_eq_true rfl) dX7_mayTurn_14 (fun r_14 hr_14 => ?_)
      subst hr_14
      have d_14 := pc_td_ok S
      refine n_if_ne (tgt := 24) hx hb dX7_mayTurn_17 (by decide) (by omega) (fun c_17_3 => ?_) (fun c_17_3 => ?_)
      · skip
        refine lv_iconst (v := (nI 0)) hx hb dX7_mayTurn_24 (by decide) ?_
        exact k_25 _ ⟨_, by simp only [if_pos c_7_2, if_neg c_17_3], rfl⟩
      · skip
        refine lv_iconst (v := (nI 1)) hx hb dX7_mayTurn_20 (by decide) ?_
        refine lv_goto (tgt := 25) hx hb dX7_mayTurn_21 (by decide) ?_
        exact k_25 _ ⟨_, by simp only [if_pos c_7_2, if_pos c_17_3], rfl⟩

section Lm_c7_of
variable {p : Program} {l : Launch} {e : Env} {R : Room} {s : State} {m : MethodId} {args : Array Value} {below : List Frame} {meth : Method} {c : Code} {H : Heap} {locs : List Loc} {cells slots : Nat} {Q : State → Prop}
variable {cc : ByteArray} {pc : Nat} {ls : Array Slot} {rest : List Value} {G : CG} {A : Nat → Prop}
theorem ag_XS_X7_73_sc {a : Nat → Nat} {ad : Nat → Nat → Nat} {zt : RS} {z : RS} (X : cX RX7 G A p c cc s args m) (w : va_P G.1 vwCl (wO G a ad zt ++ w5 G (ad 0) z) H) (hdg : decode cc pc = .ok (.getfield 73, 3)) (kk : W p l e R s m args below meth c H locs cells slots Q (F0 m (pc + 3) ls (.ref ((ad 0) 5) :: rest))) : W p l e R s m args below meth c H locs cells slots Q (F0 m pc ls (.ref ((ad 0) 0) :: rest)) :=
  va_getN (own := RX7) (ref := RX5) (host := "RunningThree") (D := G.1) (ci := 4) (v := .ref ((ad 0) 5)) (C := RX5) (T := TX5) (N := 13) X.1 X.2.1 X.2.2.1 gX5 X.2.2.2.1 X.2.2.2.2.1.1 w 2 rfl rfl 4 (by decide) (va_Nw.use rfl (X.2.2.2.2.1.2 _ wq_X7_73)) (fun _ h9 => h9) rfl hdg kk
theorem an_XS_sc_4 {own : String} {a : Nat → Nat} {ad : Nat → Nat → Nat} {zt : RS} {z : RS} {j : Nat} (X : cX own G A p c cc s args m) (w : va_P G.1 vwCl (wO G a ad zt ++ w5 G (ad 0) z) H) (hj : j < 5) (hdg : decode cc pc = .ok (.iaload, 1)) (kk : W p l e R s m args below meth c H locs cells slots Q (F0 m (pc + 1) ls (.int (z.2.1 4 j) :: rest))) : W p l e R s m args below meth c H locs cells slots Q (F0 m pc ls (.int (nI j) :: .ref ((ad 0) 5) :: rest)) :=
  va_iald X.1 X.2.1 X.2.2.2.2.1.1 w 5 0 rfl rfl (vp_in_nI hj (by decide)) hdg (by rw [nI_clamp (by omega)]; exact kk)
theorem ag_XS_X7_77_sc {a : Nat → Nat} {ad : Nat → Nat → Nat} {zt : RS} {z : RS} (X : cX RX7 G A p c cc s args m) (w : va_P G.1 vwCl (wO G a ad zt ++ w5 G (ad 0) z) H) (hdg : decode cc pc = .ok (.getfield 77, 3)) (kk : W p l e R s m args below meth c H locs cells slots Q (F0 m (pc + 3) ls (.ref ((ad 0) 6) :: rest))) : W p l e R s m args below meth c H locs cells slots Q (F0 m pc ls (.ref ((ad 0) 0) :: rest)) :=
  va_getN (own := RX7) (ref := RX5) (host := "RunningThree") (D := G.1) (ci := 4) (v := .ref ((ad 0) 6)) (C := RX5) (T := TX5) (N := 13) X.1 X.2.1 X.2.2.1 gX5 X.2.2.2.1 X.2.2.2.2.1.1 w 2 rfl rfl 5 (by decide) (va_Nw.use rfl (X.2.2.2.2.1.2 _ wq_X7_77)) (fun _ h9 => h9) rfl hdg kk
theorem an_XS_sc_5 {own : String} {a : Nat → Nat} {ad : Nat → Nat → Nat} {zt : RS} {z : RS} {j : Nat} (X : cX own G A p c cc s args m) (w : va_P G.1 vwCl (wO G a ad zt ++ w5 G (ad 0) z) H) (hj : j < 5) (hdg : decode cc pc = .ok (.iaload, 1)) (kk : W p l e R s m args below meth c H locs cells slots Q (F0 m (pc + 1) ls (.int (z.2.1 5 j) :: rest))) : W p l e R s m args below meth c H locs cells slots Q (F0 m pc ls (.int (nI j) :: .ref ((ad 0) 6) :: rest)) :=
  va_iald X.1 X.2.1 X.2.2.2.2.1.1 w 6 0 rfl rfl (vp_in_nI hj (by decide)) hdg (by rw [nI_clamp (by omega)]; exact kk)
theorem ag_XS_X7_80_sc {a : Nat → Nat} {ad : Nat → Nat → Nat} {zt : RS} {z : RS} (X : cX RX7 G A p c cc s args m) (w : va_P G.1 vwCl (wO G a ad zt ++ w5 G (ad 0) z) H) (hdg : decode cc pc = .ok (.getfield 80, 3)) (kk : W p l e R s m args below meth c H locs cells slots Q (F0 m (pc + 3) ls (.ref ((ad 0) 7) :: rest))) : W p l e R s m args below meth c H locs cells slots Q (F0 m pc ls (.ref ((ad 0) 0) :: rest)) :=
  va_getN (own := RX7) (ref := RX5) (host := "RunningThree") (D := G.1) (ci := 4) (v := .ref ((ad 0) 7)) (C := RX5) (T := TX5) (N := 13) X.1 X.2.1 X.2.2.1 gX5 X.2.2.2.1 X.2.2.2.2.1.1 w 2 rfl rfl 6 (by decide) (va_Nw.use rfl (X.2.2.2.2.1.2 _ wq_X7_80)) (fun _ h9 => h9) rfl hdg kk
theorem an_XS_sc_6 {own : String} {a : Nat → Nat} {ad : Nat → Nat → Nat} {zt : RS} {z : RS} {j : Nat} (X : cX own G A p c cc s args m) (w : va_P G.1 vwCl (wO G a ad zt ++ w5 G (ad 0) z) H) (hj : j < 5) (hdg : decode cc pc = .ok (.iaload, 1)) (kk : W p l e R s m args below meth c H locs cells slots Q (F0 m (pc + 1) ls (.int (z.2.1 6 j) :: rest))) : W p l e R s m args below meth c H locs cells slots Q (F0 m pc ls (.int (nI j) :: .ref ((ad 0) 7) :: rest)) :=
  va_iald X.1 X.2.1 X.2.2.2.2.1.1 w 7 0 rfl rfl (vp_in_nI hj (by decide)) hdg (by rw [nI_clamp (by omega)]; exact kk)
theorem ag_XS_X7_83_sc {a : Nat → Nat} {ad : Nat → Nat → Nat} {zt : RS} {z : RS} (X : cX RX7 G A p c cc s args m) (w : va_P G.1 vwCl (wO G a ad zt ++ w5 G (ad 0) z) H) (hdg : decode cc pc = .ok (.getfield 83, 3)) (kk : W p l e R s m args below meth c H locs cells slots Q (F0 m (pc + 3) ls (.ref ((ad 0) 8) :: rest))) : W p l e R s m args below meth c H locs cells slots Q (F0 m pc ls (.ref ((ad 0) 0) :: rest)) :=
  va_getN (own := RX7) (ref := RX5) (host := "RunningThree") (D := G.1) (ci := 4) (v := .ref ((ad 0) 8)) (C := RX5) (T := TX5) (N := 13) X.1 X.2.1 X.2.2.1 gX5 X.2.2.2.1 X.2.2.2.2.1.1 w 2 rfl rfl 7 (by decide) (va_Nw.use rfl (X.2.2.2.2.1.2 _ wq_X7_83)) (fun _ h9 => h9) rfl hdg kk
theorem an_XS_sc_7 {own : String} {a : Nat → Nat} {ad : Nat → Nat → Nat} {zt : RS} {z : RS} {j : Nat} (X : cX own G A p c cc s args m) (w : va_P G.1 vwCl (wO G a ad zt ++ w5 G (ad 0) z) H) (hj : j < 5) (hdg : decode cc pc = .ok (.iaload, 1)) (kk : W p l e R s m args below meth c H locs cells slots Q (F0 m (pc + 1) ls (.int (z.2.1 7 j) :: rest))) : W p l e R s m args below meth c H locs cells slots Q (F0 m pc ls (.int (nI j) :: .ref ((ad 0) 8) :: rest)) :=
  va_iald X.1 X.2.1 X.2.2.2.2.1.1 w 8 0 rfl rfl (vp_in_nI hj (by decide)) hdg (by rw [nI_clamp (by omega)]; exact kk)
end Lm_c7_of
theorem ok7_of : cOk RX7 yX7_of cX7_of 3 (some .int) 2 := ⟨wc_X7_of, wi_X7_of, ws_X7_of, wn_X7, rfl, by decide, by decide, by decide +kernel⟩
set_option maxHeartbeats 4000000 in
set_option maxRecDepth 100000 in
theorem c7_of (l : Launch) (G : CG) (a : Nat → Nat) (ad : Nat → Nat → Nat) (zt : RS) (z : RS) (fa9 : Int32) (wa9 : Int32) (S : Sc) (hT : cSc z S) (ho : oSc S) (hm : S.1 3 < 99999) (hI : tI S) : cMp G l yX7_of cX7_of 3 (some .int) 5 111 [.ref (a 0), .int fa9, .int wa9] (wO G a ad zt ++ w5 G (ad 0) z) (fun r => r = an_of S fa9 wa9) := by
  refine cMp_in (by decide) rfl (Nat.le_of_ble_eq_true rfl) ?_
  intro p e s m args below meth c ls X hml hr hk hl w
  have hx := X.1
  have hb := X.2.1
  have hts := X.2.2.1
  have hown := X.2.2.2.1
  have hl : lv_has ls 3 [(0, .ref (a 0)), (1, .int fa9), (2, .int wa9)] := hl
  obtain ⟨o1, o2, o3, o4, o5, o6, oso, oki, osr, opa, ohu, oco⟩ := id ho
  refine lv_aload_n hx hb dX7_of_0 rfl (lv_at hl 0 rfl) ?_
  refine ag_XS_X7_10_this X w dX7_of_1 ?_
  refine lv_iload_n hx hb dX7_of_4 rfl (lv_at hl 1 rfl) ?_
  refine gc_p (C := RX5) (ci := 4) (rest := []) X hml hl.1 (c5_exists l G (ad 0) z fa9 S hT.1 ho) ok5_exists wm_X7_69 ⟨Nat.le_of_ble_eq_true rfl, Nat.le_of_ble_eq_true rfl⟩ ⟨Nat.le_refl _, Nat.le_refl _⟩ w [2, 3, 4, 5, 6, 7, 8, 9] rfl rfl rfl rfl (Nat.le_of_ble_eq_true rfl) dX7_of_5 (fun r_5 hr_5 => ?_)
  subst hr_5
  have d_5 := pc_inI_ok fa9.toInt 0 (((S.1 1 : Nat) : Int) - 1)
  refine n_if_ne (tgt := 13) hx hb dX7_of_8 (by decide) (by omega) (fun c_8_1 => ?_) (fun c_8_1 => ?_)
  · skip
    obtain ⟨k, hk_k, ek_k⟩ := iv_n (x := fa9) (by omega)
    have hl : lv_has ls 3 [(0, .ref (a 0)), (1, .int (nI k)), (2, .int wa9)] := by rw [← ek_k]; exact hl
    refine lv_iload_n hx hb dX7_of_13 rfl (lv_at hl 2 rfl) ?_
    by_cases qlo : wa9.toInt < 0
    · skip
      refine lv_tableOut (tgt := 123) hx hb dX7_of_14 (Or.inl qlo) (by decide) ?_
      refine lv_iconst (v := (iZ (-1))) hx hb dX7_of_123 (by decide) ?_
      exact re_p hx hb hr hk (by unfold an_of; rw [if_neg (by omega)]) dX7_of_124
    by_cases qhi : (6 : Int) < wa9.toInt
    · skip
      refine lv_tableOut (tgt := 123) hx hb dX7_of_14 (Or.inr qhi) (by decide) ?_
      refine lv_iconst (v := (iZ (-1))) hx hb dX7_of_123 (by decide) ?_
      exact re_p hx hb hr hk (by unfold an_of; rw [if_neg (by omega)]) dX7_of_124
    rcases (show wa9.toInt = 0 ∨ wa9.toInt = 1 ∨ wa9.toInt = 2 ∨ wa9.toInt = 3 ∨ wa9.toInt = 4 ∨ wa9.toInt = 5 ∨ wa9.toInt = 6 by omega) with qsw | qsw | qsw | qsw | qsw | qsw | qsw
    · skip
      refine lv_tableIn (off := 42) (tgt := 56) hx hb dX7_of_14 qlo qhi (by rw [qsw]; rfl) (by decide) ?_
      refine lv_aload_n hx hb dX7_of_56 rfl (lv_at hl 0 rfl) ?_
      refine ag_XS_X7_10_this X w dX7_of_57 ?_
      refine ag_XS_X7_73_sc X w dX7_of_60 ?_
      refine lv_iload_n hx hb dX7_of_63 rfl (lv_at hl 1 rfl) ?_
      refine an_XS_sc_4 X w (by omega) dX7_of_64 ?_
      refine tp_i (show z.2.1 4 k = (nI (S.2.1 1 k)) from (cs_ki hT.1 k (by omega))) ?_
      exact re_p hx hb hr hk (of_k (j := 0) hk_k (by omega) (by omega) (by omega)) dX7_of_65
    · skip
      refine lv_tableIn (off := 52) (tgt := 66) hx hb dX7_of_14 qlo qhi (by rw [qsw]; rfl) (by decide) ?_
      refine lv_aload_n hx hb dX7_of_66 rfl (lv_at hl 0 rfl) ?_
      refine ag_XS_X7_10_this X w dX7_of_67 ?_
      refine ag_XS_X7_77_sc X w dX7_of_70 ?_
      refine lv_iload_n hx hb dX7_of_73 rfl (lv_at hl 1 rfl) ?_
      refine an_XS_sc_5 X w (by omega) dX7_of_74 ?_
      refine tp_i (show z.2.1 5 k = (nI (S.2.1 2 k)) from (cs_sr hT.1 k (by omega))) ?_
      exact re_p hx hb hr hk (of_k (j := 1) hk_k (by omega) (by omega) (by omega)) dX7_of_75
    · skip
      refine lv_tableIn (off := 62) (tgt := 76) hx hb dX7_of_14 qlo qhi (by rw [qsw]; rfl) (by decide) ?_
      refine lv_aload_n hx hb dX7_of_76 rfl (lv_at hl 0 rfl) ?_
      refine ag_XS_X7_10_this X w dX7_of_77 ?_
      refine ag_XS_X7_80_sc X w dX7_of_80 ?_
      refine lv_iload_n hx hb dX7_of_83 rfl (lv_at hl 1 rfl) ?_
      refine an_XS_sc_6 X w (by omega) dX7_of_84 ?_
      refine tp_i (show z.2.1 6 k = (nI (S.2.1 3 k)) from (cs_pa hT.1 k (by omega))) ?_
      exact re_p hx hb hr hk (of_k (j := 2) hk_k (by omega) (by omega) (by omega)) dX7_of_85
    · skip
      refine lv_tableIn (off := 72) (tgt := 86) hx hb dX7_of_14 qlo qhi (by rw [qsw]; rfl) (by decide) ?_
      refine lv_aload_n hx hb dX7_of_86 rfl (lv_at hl 0 rfl) ?_
      refine ag_XS_X7_10_this X w dX7_of_87 ?_
      refine ag_XS_X7_83_sc X w dX7_of_90 ?_
      refine lv_iload_n hx hb dX7_of_93 rfl (lv_at hl 1 rfl) ?_
      refine an_XS_sc_7 X w (by omega) dX7_of_94 ?_
      refine tp_i (show z.2.1 7 k = (nI (S.2.1 4 k)) from (cs_hu hT.1 k (by omega))) ?_
      exact re_p hx hb hr hk (by unfold an_of; rw [if_pos (by omega), if_pos (by omega), show fa9.toInt.toNat = k by omega]) dX7_of_95
    · skip
      refine lv_tableIn (off := 82) (tgt := 96) hx hb dX7_of_14 qlo qhi (by rw [qsw]; rfl) (by decide) ?_
      refine lv_aload_n hx hb dX7_of_96 rfl (lv_at hl 0 rfl) ?_
      refine ag_XS_X7_10_this X w dX7_of_97 ?_
      refine lv_iload_n hx hb dX7_of_100 rfl (lv_at hl 1 rfl) ?_
      refine gc_p (C := RX5) (ci := 4) (rest := []) X hml hl.1 (c5_forceOf l G (ad 0) z k S hT.1 ho (by omega)) ok5_forceOf wm_X7_86 ⟨Nat.le_of_ble_eq_true rfl, Nat.le_of_ble_eq_true rfl⟩ ⟨Nat.le_refl _, Nat.le_refl _⟩ w [2, 3, 4, 5, 6, 7, 8, 9] rfl rfl rfl rfl (Nat.le_of_ble_eq_true rfl) dX7_of_101 (fun r_101 hr_101 => ?_)
      subst hr_101
      have d_101 := sp_frc_le S ho k
      exact re_p hx hb hr hk (by unfold an_of; rw [if_pos (by omega), if_neg (by omega), if_pos (by omega), show fa9.toInt.toNat = k by omega]) dX7_of_104
    · skip
      refine lv_tableIn (off := 91) (tgt := 105) hx hb dX7_of_14 qlo qhi (by rw [qsw]; rfl) (by decide) ?_
      refine lv_aload_n hx hb dX7_of_105 rfl (lv_at hl 0 rfl) ?_
      refine ag_XS_X7_10_this X w dX7_of_106 ?_
      refine lv_iload_n hx hb dX7_of_109 rfl (lv_at hl 1 rfl) ?_
      refine gc_p (C := RX5) (ci := 4) (rest := []) X hml hl.1 (c5_cellNow l G (ad 0) z k S hT ho (by omega) (by omega) (by assumption)) ok5_cellNow wm_X7_90 ⟨Nat.le_of_ble_eq_true rfl, Nat.le_of_ble_eq_true rfl⟩ ⟨Nat.le_refl _, Nat.le_refl _⟩ w [2, 3, 4, 5, 6, 7, 8, 9] rfl rfl rfl rfl (Nat.le_of_ble_eq_true rfl) dX7_of_110 (fun r_110 hr_110 => ?_)
      subst hr_110
      exact re_p hx hb hr hk (by unfold an_of; rw [if_pos (by omega), if_neg (by omega), if_neg (by omega), if_pos (by omega), show fa9.toInt.toNat = k by omega]) dX7_of_113
    · skip
      refine lv_tableIn (off := 100) (tgt := 114) hx hb dX7_of_14 qlo qhi (by rw [qsw]; rfl) (by decide) ?_
      refine lv_aload_n hx hb dX7_of_114 rfl (lv_at hl 0 rfl) ?_
      refine ag_XS_X7_10_this X w dX7_of_115 ?_
      refine lv_iload_n hx hb dX7_of_118 rfl (lv_at hl 1 rfl) ?_
      refine gc_p (C := RX5) (ci := 4) (rest := []) X hml hl.1 (c5_comingOf l G (ad 0) z k S hT ho (by omega) (by assumption)) ok5_comingOf wm_X7_93 ⟨Nat.le_of_ble_eq_true rfl, Nat.le_of_ble_eq_true rfl⟩ ⟨Nat.le_refl _, Nat.le_refl _⟩ w [2, 3, 4, 5, 6, 7, 8, 9] rfl rfl rfl rfl (Nat.le_of_ble_eq_true rfl) dX7_of_119 (fun r_119 hr_119 => ?_)
      subst hr_119
      exact re_p hx hb hr hk (by unfold an_of; rw [if_pos (by omega), if_neg (by omega), if_neg (by omega), if_neg (by omega), if_pos (by omega), show fa9.toInt.toNat = k by omega]) dX7_of_122
  · skip
    refine lv_iconst (v := (iZ (-1))) hx hb dX7_of_11 (by decide) ?_
    exact re_p hx hb hr hk (by unfold an_of; rw [if_neg (by omega)]) dX7_of_12

section Lm_c7_hurt
variable {p : Program} {l : Launch} {e : Env} {R : Room} {s : State} {m : MethodId} {args : Array Value} {below : List Frame} {meth : Method} {c : Code} {H : Heap} {locs : List Loc} {cells slots : Nat} {Q : State → Prop}
variable {cc : ByteArray} {pc : Nat} {ls : Array Slot} {rest : List Value} {G : CG} {A : Nat → Prop}
theorem au_XS_sc_7 {own : String} {a : Nat → Nat} {ad : Nat → Nat → Nat} {zt : RS} {z : RS} {j : Nat} {v : Int32} (X : cX own G A p c cc s args m) (w : cW G A s (wO G a ad zt ++ w5 G (ad 0) z) H locs) (hj : j < 5) (hdg : decode cc pc = .ok (.iastore, 1)) (kk : ∀ (z1 : RS) (H : Heap) (locs : List Loc), z1 = (sA z 7 j v) → cW G A s (wO G a ad zt ++ w5 G (ad 0) z1) H locs → W p l e R s m args below meth c H locs cells slots Q (F0 m (pc + 1) ls rest)) : W p l e R s m args below meth c H locs cells slots Q (F0 m pc ls (.int v :: .int (nI j) :: .ref ((ad 0) 8) :: rest)) := by
  refine va_iast X.1 X.2.1 X.2.2.2.2.1.1 w.1 w.2.1 w.2.2 8 0 rfl rfl (vp_in_nI hj (by decide)) hdg ?_
  rw [nI_clamp (by omega)]
  exact fun H1 locs1 hP hD hS => kk _ H1 locs1 rfl ⟨hP, hD, hS⟩
end Lm_c7_hurt
theorem ok7_hurt : cOk RX7 yX7_hurt cX7_hurt 4 (some .int) 2 := ⟨wc_X7_hurt, wi_X7_hurt, ws_X7_hurt, wn_X7, rfl, by decide, by decide, by decide +kernel⟩
set_option maxHeartbeats 4000000 in
set_option maxRecDepth 100000 in
theorem c7_hurt (l : Launch) (G : CG) (a : Nat → Nat) (ad : Nat → Nat → Nat) (zt : RS) (z : RS) (fa9 : Int32) (va9 : Int32) (S : Sc) (hT : cSc z S) (ho : oSc S)  : cMi G l yX7_hurt cX7_hurt 4 (some .int) 2 43 [.ref (a 0), .int fa9, .int va9] (fun q9 : RS => wO G a ad zt ++ w5 G (ad 0) q9) z (fun r z9 => r = an_hurt S fa9 va9 ∧ cSc z9 (nx_hurt S fa9 va9)) := by
  refine cMi_in (by decide) rfl (Nat.le_of_ble_eq_true rfl) ?_
  intro p e s m args below meth c A ls X hml hr hk hl w
  have hx := X.1
  have hb := X.2.1
  have hts := X.2.2.1
  have hown := X.2.2.2.1
  have hl : lv_has ls 4 [(0, .ref (a 0)), (1, .int fa9), (2, .int va9)] := hl
  obtain ⟨o1, o2, o3, o4, o5, o6, oso, oki, osr, opa, ohu, oco⟩ := id ho
  refine lv_aload_n hx hb dX7_hurt_0 rfl (lv_at hl 0 rfl) ?_
  refine ag_XS_X7_10_this X w.1 dX7_hurt_1 ?_
  refine lv_iload_n hx hb dX7_hurt_4 rfl (lv_at hl 1 rfl) ?_
  refine gc_p (C := RX5) (ci := 4) (rest := []) X hml hl.1 (c5_exists l G (ad 0) z fa9 S hT.1 ho) ok5_exists wm_X7_69 ⟨Nat.le_of_ble_eq_true rfl, Nat.le_of_ble_eq_true rfl⟩ ⟨Nat.le_refl _, Nat.le_refl _⟩ w.1 [2, 3, 4, 5, 6, 7, 8, 9] rfl rfl rfl rfl (Nat.le_of_ble_eq_true rfl) dX7_hurt_5 (fun r_5 hr_5 => ?_)
  subst hr_5
  have d_5 := pc_inI_ok fa9.toInt 0 (((S.1 1 : Nat) : Int) - 1)
  refine n_if_eq (tgt := 21) hx hb dX7_hurt_8 (by decide) (by omega) (fun c_8_1 => ?_) (fun c_8_1 => ?_)
  · skip
    refine lv_iconst (v := (iZ (-1))) hx hb dX7_hurt_21 (by decide) ?_
    exact ce_i (w := (fun q9 : RS => wO G a ad zt ++ w5 G (ad 0) q9)) (z := z) X hr hk w (⟨by unfold an_hurt; rw [if_neg (by omega)], by unfold nx_hurt; rw [if_neg (by omega)]; exact hT⟩) dX7_hurt_22
  · skip
    refine lv_iload_n hx hb dX7_hurt_11 rfl (lv_at hl 2 rfl) ?_
    refine lv_iconst (v := (nI 0)) hx hb dX7_hurt_12 (by decide) ?_
    refine lv_bipush (v := (nI 6)) hx hb dX7_hurt_13 (by decide) ?_
    refine gc_s (C := RX7) (rest := []) ⟨X.1, X.2.1, X.2.2.1, X.2.2.2.1⟩ hml hl.1 (c7_within l va9 (nI 0) (nI 6)) ok7_within wm_X7_50 ⟨Nat.le_of_ble_eq_true rfl, Nat.le_of_ble_eq_true rfl⟩ ⟨Nat.le_refl _, Nat.le_refl _⟩ rfl (Nat.le_of_ble_eq_true rfl) dX7_hurt_15 (fun r_15 hr_15 => ?_) rfl
    subst hr_15
    refine tp_i (congrArg nI (w3_I rfl (by decide) (by decide) : _ = pc_inI va9.toInt ((0 : Int)) ((6 : Int)))) ?_
    have d_15 := pc_inI_ok va9.toInt ((0 : Int)) ((6 : Int))
    refine n_if_ne (tgt := 23) hx hb dX7_hurt_18 (by decide) (by omega) (fun c_18_2 => ?_) (fun c_18_2 => ?_)
    · skip
      refine lv_aload_n hx hb dX7_hurt_23 rfl (lv_at hl 0 rfl) ?_
      refine ag_XS_X7_10_this X w.1 dX7_hurt_24 ?_
      refine gc_p (C := RX5) (ci := 4) (rest := []) X hml hl.1 (c5_hasTurned l G (ad 0) z  S hT.1 ho ) ok5_hasTurned wm_X7_54 ⟨Nat.le_of_ble_eq_true rfl, Nat.le_of_ble_eq_true rfl⟩ ⟨Nat.le_refl _, Nat.le_refl _⟩ w.1 [2, 3, 4, 5, 6, 7, 8, 9] rfl rfl rfl rfl (Nat.le_of_ble_eq_true rfl) dX7_hurt_27 (fun r_27 hr_27 => ?_)
      subst hr_27
      have d_27 := pc_td_ok S
      refine n_if_eq (tgt := 36) hx hb dX7_hurt_30 (by decide) (by omega) (fun c_30_3 => ?_) (fun c_30_3 => ?_)
      · skip
        obtain ⟨k, hk_k, ek_k⟩ := iv_n (x := fa9) (by omega)
        have hl : lv_has ls 4 [(0, .ref (a 0)), (1, .int (nI k)), (2, .int va9)] := by rw [← ek_k]; exact hl
        obtain ⟨j, hk_j, ek_j⟩ := iv_n (x := va9) (by omega)
        have hl : lv_has ls 4 [(0, .ref (a 0)), (1, .int (nI k)), (2, .int (nI j))] := by rw [← ek_j]; exact hl
        refine lv_aload_n hx hb dX7_hurt_36 rfl (lv_at hl 0 rfl) ?_
        refine ag_XS_X7_10_this X w.1 dX7_hurt_37 ?_
        refine ag_XS_X7_83_sc X w.1 dX7_hurt_40 ?_
        refine lv_iload_n hx hb dX7_hurt_43 rfl (lv_at hl 1 rfl) ?_
        refine an_XS_sc_7 X w.1 (by omega) dX7_hurt_44 ?_
        refine tp_i (show z.2.1 7 k = (nI (S.2.1 4 k)) from (cs_hu hT.1 k (by omega))) ?_
        refine lv_istore_n (lv' := [(3, .int (nI (S.2.1 4 k))), (0, .ref (a 0)), (1, .int (nI k)), (2, .int (nI j))]) hx hb dX7_hurt_45 rfl hl (by decide) rfl (fun ls hl => ?_)
        refine lv_aload_n hx hb dX7_hurt_46 rfl (lv_at hl 1 rfl) ?_
        refine ag_XS_X7_10_this X w.1 dX7_hurt_47 ?_
        refine ag_XS_X7_83_sc X w.1 dX7_hurt_50 ?_
        refine lv_iload_n hx hb dX7_hurt_53 rfl (lv_at hl 2 rfl) ?_
        refine lv_iload_n hx hb dX7_hurt_54 rfl (lv_at hl 3 rfl) ?_
        refine au_XS_sc_7 X w (by omega) dX7_hurt_55 (fun z_55 H locs ez_55 w => ?_)
        refine lv_iload_n hx hb dX7_hurt_56 rfl (lv_at hl 0 rfl) ?_
        exact ce_i (w := (fun q9 : RS => wO G a ad zt ++ w5 G (ad 0) q9)) (z := z_55) X hr hk w (⟨by unfold an_hurt; rw [if_pos (by omega), if_pos (by omega), show fa9.toInt.toNat = k by omega], by unfold nx_hurt; rw [if_pos (by omega), if_pos (by omega), show fa9.toInt.toNat = k by omega, show va9.toInt.toNat = j by omega, ez_55]; exact cc_hu hT k j⟩) dX7_hurt_57
      · skip
        refine lv_bipush (v := (iZ (-2))) hx hb dX7_hurt_33 (by decide) ?_
        exact ce_i (w := (fun q9 : RS => wO G a ad zt ++ w5 G (ad 0) q9)) (z := z) X hr hk w (⟨by unfold an_hurt; rw [if_pos (by omega), if_neg (by omega)], by unfold nx_hurt; rw [if_pos (by omega), if_neg (by omega)]; exact hT⟩) dX7_hurt_35
    · skip
      refine lv_iconst (v := (iZ (-1))) hx hb dX7_hurt_21 (by decide) ?_
      exact ce_i (w := (fun q9 : RS => wO G a ad zt ++ w5 G (ad 0) q9)) (z := z) X hr hk w (⟨by unfold an_hurt; rw [if_neg (by omega)], by unfold nx_hurt; rw [if_neg (by omega)]; exact hT⟩) dX7_hurt_22

section Lm_c7_start
variable {p : Program} {l : Launch} {e : Env} {R : Room} {s : State} {m : MethodId} {args : Array Value} {below : List Frame} {meth : Method} {c : Code} {H : Heap} {locs : List Loc} {cells slots : Nat} {Q : State → Prop}
variable {cc : ByteArray} {pc : Nat} {ls : Array Slot} {rest : List Value} {G : CG} {A : Nat → Prop}
theorem ag_XS_X7_96_sc {a : Nat → Nat} {ad : Nat → Nat → Nat} {zt : RS} {z : RS} (X : cX RX7 G A p c cc s args m) (w : va_P G.1 vwCl (wO G a ad zt ++ w5 G (ad 0) z) H) (hdg : decode cc pc = .ok (.getfield 96, 3)) (kk : W p l e R s m args below meth c H locs cells slots Q (F0 m (pc + 3) ls (.int (z.1 9) :: rest))) : W p l e R s m args below meth c H locs cells slots Q (F0 m pc ls (.ref ((ad 0) 0) :: rest)) :=
  va_getN (own := RX7) (ref := RX5) (host := "RunningThree") (D := G.1) (ci := 4) (v := .int (z.1 9)) (C := RX5) (T := TX5) (N := 13) X.1 X.2.1 X.2.2.1 gX5 X.2.2.2.1 X.2.2.2.2.1.1 w 2 rfl rfl 9 (by decide) (va_Nw.use rfl (X.2.2.2.2.1.2 _ wq_X7_96)) (fun _ h9 => h9) rfl hdg kk
theorem ag_XS_X7_99_sc {a : Nat → Nat} {ad : Nat → Nat → Nat} {zt : RS} {z : RS} (X : cX RX7 G A p c cc s args m) (w : va_P G.1 vwCl (wO G a ad zt ++ w5 G (ad 0) z) H) (hdg : decode cc pc = .ok (.getfield 99, 3)) (kk : W p l e R s m args below meth c H locs cells slots Q (F0 m (pc + 3) ls (.int (z.1 8) :: rest))) : W p l e R s m args below meth c H locs cells slots Q (F0 m pc ls (.ref ((ad 0) 0) :: rest)) :=
  va_getN (own := RX7) (ref := RX5) (host := "RunningThree") (D := G.1) (ci := 4) (v := .int (z.1 8)) (C := RX5) (T := TX5) (N := 13) X.1 X.2.1 X.2.2.1 gX5 X.2.2.2.1 X.2.2.2.2.1.1 w 2 rfl rfl 8 (by decide) (va_Nw.use rfl (X.2.2.2.2.1.2 _ wq_X7_99)) (fun _ h9 => h9) rfl hdg kk
theorem ap_XS_X7_99_sc {a : Nat → Nat} {ad : Nat → Nat → Nat} {zt : RS} {z : RS} {v : Int32} (X : cX RX7 G A p c cc s args m) (w : cW G A s (wO G a ad zt ++ w5 G (ad 0) z) H locs) (hdg : decode cc pc = .ok (.putfield 99, 3)) (kk : ∀ (z1 : RS) (H : Heap) (locs : List Loc), z1 = (sI z 8 v) → cW G A s (wO G a ad zt ++ w5 G (ad 0) z1) H locs → W p l e R s m args below meth c H locs cells slots Q (F0 m (pc + 3) ls rest)) : W p l e R s m args below meth c H locs cells slots Q (F0 m pc ls (.int v :: .ref ((ad 0) 0) :: rest)) :=
  va_putN (own := RX7) (ref := RX5) (host := "RunningThree") (D := G.1) (ci := 4) (v := .int v) (ty := .int) (C := RX5) (T := TX5) (N := 13) X.1 X.2.1 X.2.2.1 gX5 tyX5 tyX5_ok nmX5 X.2.2.2.1 X.2.2.2.2.1.1 w.1 w.2.1 w.2.2 2 rfl rfl 8 (by decide) (va_Nw.use rfl (X.2.2.2.2.1.2 _ wq_X7_99)) (fun _ h9 => h9) rfl (by decide +kernel) rfl rfl (Nat.le_of_ble_eq_true rfl) hdg (fun H1 locs1 hP hD hS => kk _ H1 locs1 rfl ⟨hP, hD, hS⟩)
end Lm_c7_start
theorem ok7_start : cOk RX7 yX7_start cX7_start 3 (some .int) 1 := ⟨wc_X7_start, wi_X7_start, ws_X7_start, wn_X7, rfl, by decide, by decide, by decide +kernel⟩
set_option maxHeartbeats 4000000 in
set_option maxRecDepth 100000 in
theorem c7_start (l : Launch) (G : CG) (a : Nat → Nat) (ad : Nat → Nat → Nat) (zt : RS) (z : RS) (va9 : Int32) (S : Sc) (hT : cSc z S) (ho : oSc S)  : cMi G l yX7_start cX7_start 3 (some .int) 1 22 [.ref (a 0), .int va9] (fun q9 : RS => wO G a ad zt ++ w5 G (ad 0) q9) z (fun r z9 => r = an_start S va9 ∧ cSc z9 (nx_start S va9)) := by
  refine cMi_in (by decide) rfl (Nat.le_of_ble_eq_true rfl) ?_
  intro p e s m args below meth c A ls X hml hr hk hl w
  have hx := X.1
  have hb := X.2.1
  have hts := X.2.2.1
  have hown := X.2.2.2.1
  have hl : lv_has ls 3 [(0, .ref (a 0)), (1, .int va9)] := hl
  obtain ⟨o1, o2, o3, o4, o5, o6, oso, oki, osr, opa, ohu, oco⟩ := id ho
  refine lv_iload_n hx hb dX7_start_0 rfl (lv_at hl 1 rfl) ?_
  refine lv_iconst (v := (nI 0)) hx hb dX7_start_1 (by decide) ?_
  refine lv_bipush (v := (nI 20)) hx hb dX7_start_2 (by decide) ?_
  refine gc_s (C := RX7) (rest := []) ⟨X.1, X.2.1, X.2.2.1, X.2.2.2.1⟩ hml hl.1 (c7_within l va9 (nI 0) (nI 20)) ok7_within wm_X7_50 ⟨Nat.le_of_ble_eq_true rfl, Nat.le_of_ble_eq_true rfl⟩ ⟨Nat.le_refl _, Nat.le_refl _⟩ rfl (Nat.le_of_ble_eq_true rfl) dX7_start_4 (fun r_4 hr_4 => ?_) rfl
  subst hr_4
  refine tp_i (congrArg nI (w3_I rfl (by decide) (by decide) : _ = pc_inI va9.toInt ((0 : Int)) ((20 : Int)))) ?_
  have d_4 := pc_inI_ok va9.toInt ((0 : Int)) ((20 : Int))
  refine n_if_ne (tgt := 12) hx hb dX7_start_7 (by decide) (by omega) (fun c_7_1 => ?_) (fun c_7_1 => ?_)
  · skip
    refine lv_aload_n hx hb dX7_start_12 rfl (lv_at hl 0 rfl) ?_
    refine ag_XS_X7_10_this X w.1 dX7_start_13 ?_
    refine ag_XS_X7_96_sc X w.1 dX7_start_16 ?_
    refine tp_i (show z.1 9 = (nI (S.1 3)) from (cs_mo hT.1)) ?_
    refine n_if_eq (tgt := 25) hx hb dX7_start_19 (by decide) (by omega) (fun c_19_2 => ?_) (fun c_19_2 => ?_)
    · skip
      obtain ⟨j, hk_j, ek_j⟩ := iv_n (x := va9) (by omega)
      have hl : lv_has ls 3 [(0, .ref (a 0)), (1, .int (nI j))] := by rw [← ek_j]; exact hl
      refine lv_aload_n hx hb dX7_start_25 rfl (lv_at hl 0 rfl) ?_
      refine ag_XS_X7_10_this X w.1 dX7_start_26 ?_
      refine ag_XS_X7_99_sc X w.1 dX7_start_29 ?_
      refine tp_i (show z.1 8 = (nI (S.1 2)) from (cs_st hT.1)) ?_
      refine lv_istore_n (lv' := [(2, .int (nI (S.1 2))), (0, .ref (a 0)), (1, .int (nI j))]) hx hb dX7_start_32 rfl hl (by decide) rfl (fun ls hl => ?_)
      refine lv_aload_n hx hb dX7_start_33 rfl (lv_at hl 1 rfl) ?_
      refine ag_XS_X7_10_this X w.1 dX7_start_34 ?_
      refine lv_iload_n hx hb dX7_start_37 rfl (lv_at hl 2 rfl) ?_
      refine ap_XS_X7_99_sc X w dX7_start_38 (fun z_38 H locs ez_38 w => ?_)
      refine lv_iload_n hx hb dX7_start_41 rfl (lv_at hl 0 rfl) ?_
      exact ce_i (w := (fun q9 : RS => wO G a ad zt ++ w5 G (ad 0) q9)) (z := z_38) X hr hk w (⟨by unfold an_start; rw [if_pos (by omega), if_pos (by omega)], by unfold nx_start; rw [if_pos (by omega), if_pos (by omega), show va9.toInt.toNat = j by omega, ez_38]; exact cc_st hT j⟩) dX7_start_42
    · skip
      refine lv_bipush (v := (iZ (-2))) hx hb dX7_start_22 (by decide) ?_
      exact ce_i (w := (fun q9 : RS => wO G a ad zt ++ w5 G (ad 0) q9)) (z := z) X hr hk w (⟨by unfold an_start; rw [if_pos (by omega), if_neg (by omega)], by unfold nx_start; rw [if_pos (by omega), if_neg (by omega)]; exact hT⟩) dX7_start_24
  · skip
    refine lv_iconst (v := (iZ (-1))) hx hb dX7_start_10 (by decide) ?_
    exact ce_i (w := (fun q9 : RS => wO G a ad zt ++ w5 G (ad 0) q9)) (z := z) X hr hk w (⟨by unfold an_start; rw [if_neg (by omega)], by unfold nx_start; rw [if_neg (by omega)]; exact hT⟩) dX7_start_11

section Lm_c7_sort
variable {p : Program} {l : Launch} {e : Env} {R : Room} {s : State} {m : MethodId} {args : Array Value} {below : List Frame} {meth : Method} {c : Code} {H : Heap} {locs : List Loc} {cells slots : Nat} {Q : State → Prop}
variable {cc : ByteArray} {pc : Nat} {ls : Array Slot} {rest : List Value} {G : CG} {A : Nat → Prop}
theorem ag_XS_X7_105_sc {a : Nat → Nat} {ad : Nat → Nat → Nat} {zt : RS} {z : RS} (X : cX RX7 G A p c cc s args m) (w : va_P G.1 vwCl (wO G a ad zt ++ w5 G (ad 0) z) H) (hdg : decode cc pc = .ok (.getfield 105, 3)) (kk : W p l e R s m args below meth c H locs cells slots Q (F0 m (pc + 3) ls (.ref ((ad 0) 2) :: rest))) : W p l e R s m args below meth c H locs cells slots Q (F0 m pc ls (.ref ((ad 0) 0) :: rest)) :=
  va_getN (own := RX7) (ref := RX5) (host := "RunningThree") (D := G.1) (ci := 4) (v := .ref ((ad 0) 2)) (C := RX5) (T := TX5) (N := 13) X.1 X.2.1 X.2.2.1 gX5 X.2.2.2.1 X.2.2.2.2.1.1 w 2 rfl rfl 1 (by decide) (va_Nw.use rfl (X.2.2.2.2.1.2 _ wq_X7_105)) (fun _ h9 => h9) rfl hdg kk
theorem an_XS_sc_1 {own : String} {a : Nat → Nat} {ad : Nat → Nat → Nat} {zt : RS} {z : RS} {j : Nat} (X : cX own G A p c cc s args m) (w : va_P G.1 vwCl (wO G a ad zt ++ w5 G (ad 0) z) H) (hj : j < 40) (hdg : decode cc pc = .ok (.iaload, 1)) (kk : W p l e R s m args below meth c H locs cells slots Q (F0 m (pc + 1) ls (.int (z.2.1 1 j) :: rest))) : W p l e R s m args below meth c H locs cells slots Q (F0 m pc ls (.int (nI j) :: .ref ((ad 0) 2) :: rest)) :=
  va_iald X.1 X.2.1 X.2.2.2.2.1.1 w 3 0 rfl rfl (vp_in_nI hj (by decide)) hdg (by rw [nI_clamp (by omega)]; exact kk)
end Lm_c7_sort
theorem ok7_sort : cOk RX7 yX7_sort cX7_sort 2 (some .int) 1 := ⟨wc_X7_sort, wi_X7_sort, ws_X7_sort, wn_X7, rfl, by decide, by decide, by decide +kernel⟩
set_option maxHeartbeats 4000000 in
set_option maxRecDepth 100000 in
theorem c7_sort (l : Launch) (G : CG) (a : Nat → Nat) (ad : Nat → Nat → Nat) (zt : RS) (z : RS) (xa9 : Int32) (S : Sc) (hT : cSc z S) (ho : oSc S)  : cMp G l yX7_sort cX7_sort 2 (some .int) 2 43 [.ref (a 0), .int xa9] (wO G a ad zt ++ w5 G (ad 0) z) (fun r => r = an_sort S xa9) := by
  refine cMp_in (by decide) rfl (Nat.le_of_ble_eq_true rfl) ?_
  intro p e s m args below meth c ls X hml hr hk hl w
  have hx := X.1
  have hb := X.2.1
  have hts := X.2.2.1
  have hown := X.2.2.2.1
  have hl : lv_has ls 2 [(0, .ref (a 0)), (1, .int xa9)] := hl
  obtain ⟨o1, o2, o3, o4, o5, o6, oso, oki, osr, opa, ohu, oco⟩ := id ho
  refine lv_aload_n hx hb dX7_sort_0 rfl (lv_at hl 0 rfl) ?_
  refine ag_XS_X7_10_this X w dX7_sort_1 ?_
  refine lv_iload_n hx hb dX7_sort_4 rfl (lv_at hl 1 rfl) ?_
  refine gc_p (C := RX5) (ci := 4) (rest := []) X hml hl.1 (c5_hasCell l G (ad 0) z xa9 S hT.1 ho) ok5_hasCell wm_X7_102 ⟨Nat.le_of_ble_eq_true rfl, Nat.le_of_ble_eq_true rfl⟩ ⟨Nat.le_refl _, Nat.le_refl _⟩ w [2, 3, 4, 5, 6, 7, 8, 9] rfl rfl rfl rfl (Nat.le_of_ble_eq_true rfl) dX7_sort_5 (fun r_5 hr_5 => ?_)
  subst hr_5
  have d_5 := pc_inI_ok xa9.toInt 0 (((S.1 0 : Nat) : Int) - 1)
  refine n_if_eq (tgt := 23) hx hb dX7_sort_8 (by decide) (by omega) (fun c_8_1 => ?_) (fun c_8_1 => ?_)
  · skip
    refine lv_iconst (v := (iZ (-1))) hx hb dX7_sort_23 (by decide) ?_
    exact re_p hx hb hr hk (by unfold an_sort; first | (rw [if_neg (by omega)]; done) | rw [if_pos (by omega), show xa9.toInt.toNat = k by omega]) dX7_sort_24
  · skip
    obtain ⟨k, hk_k, ek_k⟩ := iv_n (x := xa9) (by omega)
    have hl : lv_has ls 2 [(0, .ref (a 0)), (1, .int (nI k))] := by rw [← ek_k]; exact hl
    refine lv_aload_n hx hb dX7_sort_11 rfl (lv_at hl 0 rfl) ?_
    refine ag_XS_X7_10_this X w dX7_sort_12 ?_
    refine ag_XS_X7_105_sc X w dX7_sort_15 ?_
    refine lv_iload_n hx hb dX7_sort_18 rfl (lv_at hl 1 rfl) ?_
    refine an_XS_sc_1 X w (by omega) dX7_sort_19 ?_
    refine tp_i (show z.2.1 1 k = (nI (S.2.1 0 k)) from (cs_so hT.1 k (by omega))) ?_
    refine lv_goto (tgt := 24) hx hb dX7_sort_20 (by decide) ?_
    exact re_p hx hb hr hk (by unfold an_sort; first | (rw [if_neg (by omega)]; done) | rw [if_pos (by omega), show xa9.toInt.toNat = k by omega]) dX7_sort_24

section Lm_c7_cost
variable {p : Program} {l : Launch} {e : Env} {R : Room} {s : State} {m : MethodId} {args : Array Value} {below : List Frame} {meth : Method} {c : Code} {H : Heap} {locs : List Loc} {cells slots : Nat} {Q : State → Prop}
variable {cc : ByteArray} {pc : Nat} {ls : Array Slot} {rest : List Value} {G : CG} {A : Nat → Prop}
theorem ag_XS_X7_108_sc {a : Nat → Nat} {ad : Nat → Nat → Nat} {zt : RS} {z : RS} (X : cX RX7 G A p c cc s args m) (w : va_P G.1 vwCl (wO G a ad zt ++ w5 G (ad 0) z) H) (hdg : decode cc pc = .ok (.getfield 108, 3)) (kk : W p l e R s m args below meth c H locs cells slots Q (F0 m (pc + 3) ls (.ref ((ad 0) 3) :: rest))) : W p l e R s m args below meth c H locs cells slots Q (F0 m pc ls (.ref ((ad 0) 0) :: rest)) :=
  va_getN (own := RX7) (ref := RX5) (host := "RunningThree") (D := G.1) (ci := 4) (v := .ref ((ad 0) 3)) (C := RX5) (T := TX5) (N := 13) X.1 X.2.1 X.2.2.1 gX5 X.2.2.2.1 X.2.2.2.2.1.1 w 2 rfl rfl 2 (by decide) (va_Nw.use rfl (X.2.2.2.2.1.2 _ wq_X7_108)) (fun _ h9 => h9) rfl hdg kk
theorem an_XS_sc_2 {own : String} {a : Nat → Nat} {ad : Nat → Nat → Nat} {zt : RS} {z : RS} {j : Nat} (X : cX own G A p c cc s args m) (w : va_P G.1 vwCl (wO G a ad zt ++ w5 G (ad 0) z) H) (hj : j < 40) (hdg : decode cc pc = .ok (.iaload, 1)) (kk : W p l e R s m args below meth c H locs cells slots Q (F0 m (pc + 1) ls (.int (z.2.1 2 j) :: rest))) : W p l e R s m args below meth c H locs cells slots Q (F0 m pc ls (.int (nI j) :: .ref ((ad 0) 3) :: rest)) :=
  va_iald X.1 X.2.1 X.2.2.2.2.1.1 w 4 0 rfl rfl (vp_in_nI hj (by decide)) hdg (by rw [nI_clamp (by omega)]; exact kk)
end Lm_c7_cost
theorem ok7_cost : cOk RX7 yX7_cost cX7_cost 2 (some .int) 1 := ⟨wc_X7_cost, wi_X7_cost, ws_X7_cost, wn_X7, rfl, by decide, by decide, by decide +kernel⟩
set_option maxHeartbeats 4000000 in
set_option maxRecDepth 100000 in
theorem c7_cost (l : Launch) (G : CG) (a : Nat → Nat) (ad : Nat → Nat → Nat) (zt : RS) (z : RS) (xa9 : Int32) (S : Sc) (hT : cSc z S) (ho : oSc S)  : cMp G l yX7_cost cX7_cost 2 (some .int) 2 43 [.ref (a 0), .int xa9] (wO G a ad zt ++ w5 G (ad 0) z) (fun r => r = an_cost S xa9) := by
  refine cMp_in (by decide) rfl (Nat.le_of_ble_eq_true rfl) ?_
  intro p e s m args below meth c ls X hml hr hk hl w
  have hx := X.1
  have hb := X.2.1
  have hts := X.2.2.1
  have hown := X.2.2.2.1
  have hl : lv_has ls 2 [(0, .ref (a 0)), (1, .int xa9)] := hl
  obtain ⟨o1, o2, o3, o4, o5, o6, oso, oki, osr, opa, ohu, oco⟩ := id ho
  refine lv_aload_n hx hb dX7_cost_0 rfl (lv_at hl 0 rfl) ?_
  refine ag_XS_X7_10_this X w dX7_cost_1 ?_
  refine lv_iload_n hx hb dX7_cost_4 rfl (lv_at hl 1 rfl) ?_
  refine gc_p (C := RX5) (ci := 4) (rest := []) X hml hl.1 (c5_hasCell l G (ad 0) z xa9 S hT.1 ho) ok5_hasCell wm_X7_102 ⟨Nat.le_of_ble_eq_true rfl, Nat.le_of_ble_eq_true rfl⟩ ⟨Nat.le_refl _, Nat.le_refl _⟩ w [2, 3, 4, 5, 6, 7, 8, 9] rfl rfl rfl rfl (Nat.le_of_ble_eq_true rfl) dX7_cost_5 (fun r_5 hr_5 => ?_)
  subst hr_5
  have d_5 := pc_inI_ok xa9.toInt 0 (((S.1 0 : Nat) : Int) - 1)
  refine n_if_eq (tgt := 23) hx hb dX7_cost_8 (by decide) (by omega) (fun c_8_1 => ?_) (fun c_8_1 => ?_)
  · skip
    refine lv_iconst (v := (iZ (-1))) hx hb dX7_cost_23 (by decide) ?_
    exact re_p hx hb hr hk (by unfold an_cost; first | (rw [if_neg (by omega)]; done) | rw [if_pos (by omega), show xa9.toInt.toNat = k by omega]) dX7_cost_24
  · skip
    obtain ⟨k, hk_k, ek_k⟩ := iv_n (x := xa9) (by omega)
    have hl : lv_has ls 2 [(0, .ref (a 0)), (1, .int (nI k))] := by rw [← ek_k]; exact hl
    refine lv_aload_n hx hb dX7_cost_11 rfl (lv_at hl 0 rfl) ?_
    refine ag_XS_X7_10_this X w dX7_cost_12 ?_
    refine ag_XS_X7_108_sc X w dX7_cost_15 ?_
    refine lv_iload_n hx hb dX7_cost_18 rfl (lv_at hl 1 rfl) ?_
    refine an_XS_sc_2 X w (by omega) dX7_cost_19 ?_
    refine tp_i (show z.2.1 2 k = (nI (pc_cost (S.2.1 0) k)) from (cs_cs hT.1 k (by omega))) ?_
    refine lv_goto (tgt := 24) hx hb dX7_cost_20 (by decide) ?_
    exact re_p hx hb hr hk (by unfold an_cost; first | (rw [if_neg (by omega)]; done) | rw [if_pos (by omega), show xa9.toInt.toNat = k by omega]) dX7_cost_24

theorem ok7_points : cOk RX7 yX7_points cX7_points 3 (some .int) 2 := ⟨wc_X7_points, wi_X7_points, ws_X7_points, wn_X7, rfl, by decide, by decide, by decide +kernel⟩
set_option maxHeartbeats 4000000 in
set_option maxRecDepth 100000 in
theorem c7_points (l : Launch) (G : CG) (a : Nat → Nat) (ad : Nat → Nat → Nat) (zt : RS) (z : RS) (fa9 : Int32) (ta9 : Int32) (S : Sc) (hT : cSc z S) (ho : oSc S)  : cMp G l yX7_points cX7_points 3 (some .int) 3 68 [.ref (a 0), .int fa9, .int ta9] (wO G a ad zt ++ w5 G (ad 0) z) (fun r => r = an_points S fa9 ta9) := by
  refine cMp_in (by decide) rfl (Nat.le_of_ble_eq_true rfl) ?_
  intro p e s m args below meth c ls X hml hr hk hl w
  have hx := X.1
  have hb := X.2.1
  have hts := X.2.2.1
  have hown := X.2.2.2.1
  have hl : lv_has ls 3 [(0, .ref (a 0)), (1, .int fa9), (2, .int ta9)] := hl
  obtain ⟨o1, o2, o3, o4, o5, o6, oso, oki, osr, opa, ohu, oco⟩ := id ho
  refine lv_aload_n hx hb dX7_points_0 rfl (lv_at hl 0 rfl) ?_
  refine ag_XS_X7_10_this X w dX7_points_1 ?_
  refine lv_iload_n hx hb dX7_points_4 rfl (lv_at hl 1 rfl) ?_
  refine gc_p (C := RX5) (ci := 4) (rest := []) X hml hl.1 (c5_exists l G (ad 0) z fa9 S hT.1 ho) ok5_exists wm_X7_69 ⟨Nat.le_of_ble_eq_true rfl, Nat.le_of_ble_eq_true rfl⟩ ⟨Nat.le_refl _, Nat.le_refl _⟩ w [2, 3, 4, 5, 6, 7, 8, 9] rfl rfl rfl rfl (Nat.le_of_ble_eq_true rfl) dX7_points_5 (fun r_5 hr_5 => ?_)
  subst hr_5
  have d_5 := pc_inI_ok fa9.toInt 0 (((S.1 1 : Nat) : Int) - 1)
  refine n_if_eq (tgt := 22) hx hb dX7_points_8 (by decide) (by omega) (fun c_8_1 => ?_) (fun c_8_1 => ?_)
  · skip
    refine lv_iconst (v := (iZ (-1))) hx hb dX7_points_22 (by decide) ?_
    exact re_p hx hb hr hk (by unfold an_points; rw [if_neg (by omega)]) dX7_points_23
  · skip
    refine lv_iload_n hx hb dX7_points_11 rfl (lv_at hl 2 rfl) ?_
    refine lv_iconst (v := (nI 0)) hx hb dX7_points_12 (by decide) ?_
    refine lv_sipush (v := (nI 400)) hx hb dX7_points_13 (by decide) ?_
    refine gc_s (C := RX7) (rest := []) ⟨X.1, X.2.1, X.2.2.1, X.2.2.2.1⟩ hml hl.1 (c7_within l ta9 (nI 0) (nI 400)) ok7_within wm_X7_50 ⟨Nat.le_of_ble_eq_true rfl, Nat.le_of_ble_eq_true rfl⟩ ⟨Nat.le_refl _, Nat.le_refl _⟩ rfl (Nat.le_of_ble_eq_true rfl) dX7_points_16 (fun r_16 hr_16 => ?_) rfl
    subst hr_16
    refine tp_i (congrArg nI (w3_I rfl (by decide) (by decide) : _ = pc_inI ta9.toInt ((0 : Int)) ((400 : Int)))) ?_
    have d_16 := pc_inI_ok ta9.toInt ((0 : Int)) ((400 : Int))
    refine n_if_ne (tgt := 24) hx hb dX7_points_19 (by decide) (by omega) (fun c_19_2 => ?_) (fun c_19_2 => ?_)
    · skip
      obtain ⟨k, hk_k, ek_k⟩ := iv_n (x := fa9) (by omega)
      have hl : lv_has ls 3 [(0, .ref (a 0)), (1, .int (nI k)), (2, .int ta9)] := by rw [← ek_k]; exact hl
      obtain ⟨j, hk_j, ek_j⟩ := iv_n (x := ta9) (by omega)
      have hl : lv_has ls 3 [(0, .ref (a 0)), (1, .int (nI k)), (2, .int (nI j))] := by rw [← ek_j]; exact hl
      have q9 := ohu k
      refine lv_aload_n hx hb dX7_points_24 rfl (lv_at hl 0 rfl) ?_
      refine ag_XS_X7_10_this X w dX7_points_25 ?_
      refine lv_iload_n hx hb dX7_points_28 rfl (lv_at hl 1 rfl) ?_
      refine lv_aload_n hx hb dX7_points_29 rfl (lv_at hl 0 rfl) ?_
      refine ag_XS_X7_10_this X w dX7_points_30 ?_
      refine ag_XS_X7_83_sc X w dX7_points_33 ?_
      refine lv_iload_n hx hb dX7_points_36 rfl (lv_at hl 1 rfl) ?_
      refine an_XS_sc_7 X w (by omega) dX7_points_37 ?_
      refine tp_i (show z.2.1 7 k = (nI (S.2.1 4 k)) from (cs_hu hT.1 k (by omega))) ?_
      refine lv_iload_n hx hb dX7_points_38 rfl (lv_at hl 2 rfl) ?_
      refine gc_p (C := RX5) (ci := 4) (rest := []) X hml hl.1 (c5_pointsOf l G (ad 0) z k (S.2.1 4 k) j S hT.1 ho (by omega) (by omega) (by omega)) ok5_pointsOf wm_X7_111 ⟨Nat.le_of_ble_eq_true rfl, Nat.le_of_ble_eq_true rfl⟩ ⟨Nat.le_refl _, Nat.le_refl _⟩ w [2, 3, 4, 5, 6, 7, 8, 9] rfl rfl rfl rfl (Nat.le_of_ble_eq_true rfl) dX7_points_39 (fun r_39 hr_39 => ?_)
      subst hr_39
      have d_39 := sp_pts_le S ho k (S.2.1 4 k) j
      exact re_p hx hb hr hk (by unfold an_points; rw [if_pos (by omega), show fa9.toInt.toNat = k by omega, show ta9.toInt.toNat = j by omega]) dX7_points_42
    · skip
      refine lv_iconst (v := (iZ (-1))) hx hb dX7_points_22 (by decide) ?_
      exact re_p hx hb hr hk (by unfold an_points; rw [if_neg (by omega)]) dX7_points_23

section Lm_c7_seed
variable {p : Program} {l : Launch} {e : Env} {R : Room} {s : State} {m : MethodId} {args : Array Value} {below : List Frame} {meth : Method} {c : Code} {H : Heap} {locs : List Loc} {cells slots : Nat} {Q : State → Prop}
variable {cc : ByteArray} {pc : Nat} {ls : Array Slot} {rest : List Value} {G : CG} {A : Nat → Prop}
theorem ag_XS_X7_170_sc {a : Nat → Nat} {ad : Nat → Nat → Nat} {zt : RS} {z : RS} (X : cX RX7 G A p c cc s args m) (w : va_P G.1 vwCl (wO G a ad zt ++ w5 G (ad 0) z) H) (hdg : decode cc pc = .ok (.getfield 170, 3)) (kk : W p l e R s m args below meth c H locs cells slots Q (F0 m (pc + 3) ls (.int (z.1 12) :: rest))) : W p l e R s m args below meth c H locs cells slots Q (F0 m pc ls (.ref ((ad 0) 0) :: rest)) :=
  va_getN (own := RX7) (ref := RX5) (host := "RunningThree") (D := G.1) (ci := 4) (v := .int (z.1 12)) (C := RX5) (T := TX5) (N := 13) X.1 X.2.1 X.2.2.1 gX5 X.2.2.2.1 X.2.2.2.2.1.1 w 2 rfl rfl 12 (by decide) (va_Nw.use rfl (X.2.2.2.2.1.2 _ wq_X7_170)) (fun _ h9 => h9) rfl hdg kk
theorem ap_XS_X7_170_sc {a : Nat → Nat} {ad : Nat → Nat → Nat} {zt : RS} {z : RS} {v : Int32} (X : cX RX7 G A p c cc s args m) (w : cW G A s (wO G a ad zt ++ w5 G (ad 0) z) H locs) (hdg : decode cc pc = .ok (.putfield 170, 3)) (kk : ∀ (z1 : RS) (H : Heap) (locs : List Loc), z1 = (sI z 12 v) → cW G A s (wO G a ad zt ++ w5 G (ad 0) z1) H locs → W p l e R s m args below meth c H locs cells slots Q (F0 m (pc + 3) ls rest)) : W p l e R s m args below meth c H locs cells slots Q (F0 m pc ls (.int v :: .ref ((ad 0) 0) :: rest)) :=
  va_putN (own := RX7) (ref := RX5) (host := "RunningThree") (D := G.1) (ci := 4) (v := .int v) (ty := .int) (C := RX5) (T := TX5) (N := 13) X.1 X.2.1 X.2.2.1 gX5 tyX5 tyX5_ok nmX5 X.2.2.2.1 X.2.2.2.2.1.1 w.1 w.2.1 w.2.2 2 rfl rfl 12 (by decide) (va_Nw.use rfl (X.2.2.2.2.1.2 _ wq_X7_170)) (fun _ h9 => h9) rfl (by decide +kernel) rfl rfl (Nat.le_of_ble_eq_true rfl) hdg (fun H1 locs1 hP hD hS => kk _ H1 locs1 rfl ⟨hP, hD, hS⟩)
end Lm_c7_seed
theorem ok7_seed : cOk RX7 yX7_seed cX7_seed 3 (some .int) 1 := ⟨wc_X7_seed, wi_X7_seed, ws_X7_seed, wn_X7, rfl, by decide, by decide, by decide +kernel⟩
set_option maxHeartbeats 4000000 in
set_option maxRecDepth 100000 in
theorem c7_seed (l : Launch) (G : CG) (a : Nat → Nat) (ad : Nat → Nat → Nat) (zt : RS) (z : RS) (va9 : Int32) (S : Sc) (hT : cSc z S) (ho : oSc S)  : cMi G l yX7_seed cX7_seed 3 (some .int) 0 0 [.ref (a 0), .int va9] (fun q9 : RS => wO G a ad zt ++ w5 G (ad 0) q9) z (fun r z9 => r = an_seed S va9 ∧ cSc z9 (nx_seed S va9)) := by
  refine cMi_in (by decide) rfl (Nat.le_of_ble_eq_true rfl) ?_
  intro p e s m args below meth c A ls X hml hr hk hl w
  have hx := X.1
  have hb := X.2.1
  have hts := X.2.2.1
  have hown := X.2.2.2.1
  have hl : lv_has ls 3 [(0, .ref (a 0)), (1, .int va9)] := hl
  obtain ⟨o1, o2, o3, o4, o5, o6, oso, oki, osr, opa, ohu, oco⟩ := id ho
  refine lv_iload_n hx hb dX7_seed_0 rfl (lv_at hl 1 rfl) ?_
  refine lv_if_ge (tgt := 6) hx hb dX7_seed_1 (by decide) (fun c_1_1 => ?_) (fun c_1_1 => ?_)
  · skip
    refine lv_aload_n hx hb dX7_seed_6 rfl (lv_at hl 0 rfl) ?_
    refine ag_XS_X7_10_this X w.1 dX7_seed_7 ?_
    refine ag_XS_X7_170_sc X w.1 dX7_seed_10 ?_
    refine tp_i (show z.1 12 = S.2.2 from (cs_dr hT.1)) ?_
    refine lv_istore_n (lv' := [(2, .int S.2.2), (0, .ref (a 0)), (1, .int va9)]) hx hb dX7_seed_13 rfl hl (by decide) rfl (fun ls hl => ?_)
    refine lv_aload_n hx hb dX7_seed_14 rfl (lv_at hl 1 rfl) ?_
    refine ag_XS_X7_10_this X w.1 dX7_seed_15 ?_
    refine lv_iload_n hx hb dX7_seed_18 rfl (lv_at hl 2 rfl) ?_
    refine ap_XS_X7_170_sc X w dX7_seed_19 (fun z_19 H locs ez_19 w => ?_)
    refine lv_iload_n hx hb dX7_seed_22 rfl (lv_at hl 0 rfl) ?_
    exact ce_i (w := (fun q9 : RS => wO G a ad zt ++ w5 G (ad 0) q9)) (z := z_19) X hr hk w (⟨by unfold an_seed; rw [if_neg (Int32.not_lt.mpr (by assumption))], by unfold nx_seed; rw [if_neg (Int32.not_lt.mpr (by assumption)), ez_19]; exact cc_dr hT va9⟩) dX7_seed_23
  · skip
    refine lv_iconst (v := (iZ (-1))) hx hb dX7_seed_4 (by decide) ?_
    exact ce_i (w := (fun q9 : RS => wO G a ad zt ++ w5 G (ad 0) q9)) (z := z) X hr hk w (⟨by unfold an_seed; rw [if_pos (Int32.not_le.mp (by assumption))], by unfold nx_seed; rw [if_pos (Int32.not_le.mp (by assumption))]; exact hT⟩) dX7_seed_5

section Lm_c7_turn
variable {p : Program} {l : Launch} {e : Env} {R : Room} {s : State} {m : MethodId} {args : Array Value} {below : List Frame} {meth : Method} {c : Code} {H : Heap} {locs : List Loc} {cells slots : Nat} {Q : State → Prop}
variable {cc : ByteArray} {pc : Nat} {ls : Array Slot} {rest : List Value} {G : CG} {A : Nat → Prop}
theorem ag_XS_X7_134_sc {a : Nat → Nat} {ad : Nat → Nat → Nat} {zt : RS} {z : RS} (X : cX RX7 G A p c cc s args m) (w : va_P G.1 vwCl (wO G a ad zt ++ w5 G (ad 0) z) H) (hdg : decode cc pc = .ok (.getfield 134, 3)) (kk : W p l e R s m args below meth c H locs cells slots Q (F0 m (pc + 3) ls (.int (z.1 10) :: rest))) : W p l e R s m args below meth c H locs cells slots Q (F0 m pc ls (.ref ((ad 0) 0) :: rest)) :=
  va_getN (own := RX7) (ref := RX5) (host := "RunningThree") (D := G.1) (ci := 4) (v := .int (z.1 10)) (C := RX5) (T := TX5) (N := 13) X.1 X.2.1 X.2.2.1 gX5 X.2.2.2.1 X.2.2.2.2.1.1 w 2 rfl rfl 10 (by decide) (va_Nw.use rfl (X.2.2.2.2.1.2 _ wq_X7_134)) (fun _ h9 => h9) rfl hdg kk
end Lm_c7_turn
theorem ok7_turn : cOk RX7 yX7_turn cX7_turn 1 (some .int) 0 := ⟨wc_X7_turn, wi_X7_turn, ws_X7_turn, wn_X7, rfl, by decide, by decide, by decide +kernel⟩
set_option maxHeartbeats 4000000 in
set_option maxRecDepth 100000 in
theorem c7_turn (l : Launch) (G : CG) (a : Nat → Nat) (ad : Nat → Nat → Nat) (zt : RS) (z : RS)  (S : Sc) (hT : cSc z S) (ho : oSc S)  : cMi G l yX7_turn cX7_turn 1 (some .int) 5 112 [.ref (a 0)] (fun q9 : RS => wO G a ad zt ++ w5 G (ad 0) q9) z (fun r z9 => r = an_turn S ∧ cSc z9 (nx_turn S)) := by
  refine cMi_in (by decide) rfl (Nat.le_of_ble_eq_true rfl) ?_
  intro p e s m args below meth c A ls X hml hr hk hl w
  have hx := X.1
  have hb := X.2.1
  have hts := X.2.2.1
  have hown := X.2.2.2.1
  have hl : lv_has ls 1 [(0, .ref (a 0))] := hl
  obtain ⟨o1, o2, o3, o4, o5, o6, oso, oki, osr, opa, ohu, oco⟩ := id ho
  refine lv_aload_n hx hb dX7_turn_0 rfl (lv_at hl 0 rfl) ?_
  refine gc_p (C := RX7) (ci := 6) (rest := []) X hml hl.1 (c7_mayTurn l G a ad zt z S hT ho) ok7_mayTurn wm_X7_163 ⟨Nat.le_of_ble_eq_true rfl, Nat.le_of_ble_eq_true rfl⟩ ⟨Nat.le_refl _, Nat.le_refl _⟩ w.1 [0, 1, 2, 3, 4, 5, 6, 7, 8, 9] rfl rfl rfl rfl (Nat.le_of_ble_eq_true rfl) dX7_turn_1 (fun r_1 hr_1 => ?_)
  subst hr_1
  have d_1 := may_ok S
  refine n_if_ne (tgt := 10) hx hb dX7_turn_4 (by decide) (by omega) (fun c_4_1 => ?_) (fun c_4_1 => ?_)
  · skip
    refine lv_aload_n hx hb dX7_turn_10 rfl (lv_at hl 0 rfl) ?_
    refine ag_XS_X7_10_this X w.1 dX7_turn_11 ?_
    refine lv_aload_n hx hb dX7_turn_14 rfl (lv_at hl 0 rfl) ?_
    refine ag_XS_X7_10_this X w.1 dX7_turn_15 ?_
    refine ag_XS_X7_96_sc X w.1 dX7_turn_18 ?_
    refine tp_i (show z.1 9 = (nI (S.1 3)) from (cs_mo hT.1)) ?_
    refine gc_v (C := RX5) (ci := 4) (rest := []) (w := (fun q9 : RS => w5 G (ad 0) q9)) (wr := [((a 0), .inr (6, [.ref ((ad 0) 0), .ref (ad 1 0), .ref (ad 2 0), .ref (ad 3 0), .int (zt.1 4), .ref (ad 5 0), .ref (ad 6 0), .ref (a 8)])), ((a 8), .inl (G.2.2.2, 4, .inr (.inr (.inr (.inr (fun j => some (ad (10 + j) 0)))))))]) (wn := (fun u9 => wO G a ad zt ++ w5 G (ad 0) ((u9)))) X hml hl.1 (c5_turnIn l G (ad 0) z (S.1 3) S hT.1 ho (by have e1 := (ov_0 (show sp_over S = 0 by omega)).1; omega) (by omega)) ok5_turnIn wm_X7_159 ⟨Nat.le_of_ble_eq_true rfl, Nat.le_of_ble_eq_true rfl⟩ ⟨Nat.le_refl _, Nat.le_refl _⟩ w [2, 3, 4, 5, 6, 7, 8, 9] [0, 1] [0, 1, 2, 3, 4, 5, 6, 7, 8, 9] rfl (by decide) rfl (by decide) (by decide) (fun _ => rfl) (by decide) rfl rfl rfl (Nat.le_of_ble_eq_true rfl) dX7_turn_21 (fun u_21 H locs hr_21 w => ?_)
    obtain ⟨z_21, ez_21⟩ : ∃ q9 : RS, q9 = u_21 := ⟨_, rfl⟩
    have w : cW G A s (wO G a ad zt ++ w5 G (ad 0) z_21) H locs := by rw [ez_21]; exact w
    rw [← ez_21] at hr_21
    refine lv_aload_n hx hb dX7_turn_24 rfl (lv_at hl 0 rfl) ?_
    refine ag_XS_X7_10_this X w.1 dX7_turn_25 ?_
    refine ag_XS_X7_134_sc X w.1 dX7_turn_28 ?_
    refine tp_i (show z_21.1 10 = (nI (sp_run S (S.1 3))) from (tn_sd hr_21.1)) ?_
    exact ce_i (w := (fun q9 : RS => wO G a ad zt ++ w5 G (ad 0) q9)) (z := z_21) X hr hk w (⟨by unfold an_turn; rw [if_pos (by omega)], by unfold nx_turn; rw [if_pos (by omega)]; exact hr_21⟩) dX7_turn_31
  · skip
    refine lv_bipush (v := (iZ (-2))) hx hb dX7_turn_7 (by decide) ?_
    exact ce_i (w := (fun q9 : RS => wO G a ad zt ++ w5 G (ad 0) q9)) (z := z) X hr hk w (⟨by unfold an_turn; rw [if_neg (by omega)], by unfold nx_turn; rw [if_neg (by omega)]; exact hT⟩) dX7_turn_9

theorem ok7_runOn : cOk RX7 yX7_runOn cX7_runOn 1 (some .int) 0 := ⟨wc_X7_runOn, wi_X7_runOn, ws_X7_runOn, wn_X7, rfl, by decide, by decide, by decide +kernel⟩
set_option maxHeartbeats 4000000 in
set_option maxRecDepth 100000 in
theorem c7_runOn (l : Launch) (G : CG) (a : Nat → Nat) (ad : Nat → Nat → Nat) (zt : RS) (z : RS)  (S : Sc) (hT : cSc z S) (ho : oSc S) (h1 : 1 ≤ S.1 1) (hnt : S.1 4 = 0) : cMi G l yX7_runOn cX7_runOn 1 (some .int) 5 114 [.ref (a 0)] (fun q9 : RS => wO G a ad zt ++ w5 G (ad 0) q9) z (fun r z9 => r = iZ (-4) ∧ cSc z9 (if sp_ct S 0 (S.1 3) = 0 then S else sp_turn S 0 (S.1 3))) := by
  refine cMi_in (by decide) rfl (Nat.le_of_ble_eq_true rfl) ?_
  intro p e s m args below meth c A ls X hml hr hk hl w
  have hx := X.1
  have hb := X.2.1
  have hts := X.2.2.1
  have hown := X.2.2.2.1
  have hl : lv_has ls 1 [(0, .ref (a 0))] := hl
  obtain ⟨o1, o2, o3, o4, o5, o6, oso, oki, osr, opa, ohu, oco⟩ := id ho
  refine lv_aload_n hx hb dX7_runOn_0 rfl (lv_at hl 0 rfl) ?_
  refine ag_XS_X7_10_this X w.1 dX7_runOn_1 ?_
  refine lv_aload_n hx hb dX7_runOn_4 rfl (lv_at hl 0 rfl) ?_
  refine ag_XS_X7_10_this X w.1 dX7_runOn_5 ?_
  refine ag_XS_X7_96_sc X w.1 dX7_runOn_8 ?_
  refine tp_i (show z.1 9 = (nI (S.1 3)) from (cs_mo hT.1)) ?_
  refine gc_p (C := RX5) (ci := 4) (rest := []) X hml hl.1 (c5_isCaughtIn l G (ad 0) z (S.1 3) S hT.1 ho (by omega) (by omega)) ok5_isCaughtIn wm_X7_156 ⟨Nat.le_of_ble_eq_true rfl, Nat.le_of_ble_eq_true rfl⟩ ⟨Nat.le_refl _, Nat.le_refl _⟩ w.1 [2, 3, 4, 5, 6, 7, 8, 9] rfl rfl rfl rfl (Nat.le_of_ble_eq_true rfl) dX7_runOn_11 (fun r_11 hr_11 => ?_)
  subst hr_11
  have d_11 := sp_ct01 S 0 (S.1 3)
  refine n_if_eq (tgt := 31) hx hb dX7_runOn_14 (by decide) (by omega) (fun c_14_1 => ?_) (fun c_14_1 => ?_)
  · skip
    refine lv_bipush (v := (iZ (-4))) hx hb dX7_runOn_31 (by decide) ?_
    exact ce_i (w := (fun q9 : RS => wO G a ad zt ++ w5 G (ad 0) q9)) (z := z) X hr hk w (⟨rfl, by rw [if_pos (by omega)]; exact hT⟩) dX7_runOn_33
  · skip
    refine lv_aload_n hx hb dX7_runOn_17 rfl (lv_at hl 0 rfl) ?_
    refine ag_XS_X7_10_this X w.1 dX7_runOn_18 ?_
    refine lv_aload_n hx hb dX7_runOn_21 rfl (lv_at hl 0 rfl) ?_
    refine ag_XS_X7_10_this X w.1 dX7_runOn_22 ?_
    refine ag_XS_X7_96_sc X w.1 dX7_runOn_25 ?_
    refine tp_i (show z.1 9 = (nI (S.1 3)) from (cs_mo hT.1)) ?_
    refine gc_v (C := RX5) (ci := 4) (rest := []) (w := (fun q9 : RS => w5 G (ad 0) q9)) (wr := [((a 0), .inr (6, [.ref ((ad 0) 0), .ref (ad 1 0), .ref (ad 2 0), .ref (ad 3 0), .int (zt.1 4), .ref (ad 5 0), .ref (ad 6 0), .ref (a 8)])), ((a 8), .inl (G.2.2.2, 4, .inr (.inr (.inr (.inr (fun j => some (ad (10 + j) 0)))))))]) (wn := (fun u9 => wO G a ad zt ++ w5 G (ad 0) ((u9)))) X hml hl.1 (c5_turnIn l G (ad 0) z (S.1 3) S hT.1 ho h1 (by omega)) ok5_turnIn wm_X7_159 ⟨Nat.le_of_ble_eq_true rfl, Nat.le_of_ble_eq_true rfl⟩ ⟨Nat.le_refl _, Nat.le_refl _⟩ w [2, 3, 4, 5, 6, 7, 8, 9] [0, 1] [0, 1, 2, 3, 4, 5, 6, 7, 8, 9] rfl (by decide) rfl (by decide) (by decide) (fun _ => rfl) (by decide) rfl rfl rfl (Nat.le_of_ble_eq_true rfl) dX7_runOn_28 (fun u_28 H locs hr_28 w => ?_)
    obtain ⟨z_28, ez_28⟩ : ∃ q9 : RS, q9 = u_28 := ⟨_, rfl⟩
    have w : cW G A s (wO G a ad zt ++ w5 G (ad 0) z_28) H locs := by rw [ez_28]; exact w
    rw [← ez_28] at hr_28
    refine lv_bipush (v := (iZ (-4))) hx hb dX7_runOn_31 (by decide) ?_
    exact ce_i (w := (fun q9 : RS => wO G a ad zt ++ w5 G (ad 0) q9)) (z := z_28) X hr hk w (⟨rfl, by rw [if_neg (by omega)]; exact hr_28⟩) dX7_runOn_33

section Lm_c7_count
variable {p : Program} {l : Launch} {e : Env} {R : Room} {s : State} {m : MethodId} {args : Array Value} {below : List Frame} {meth : Method} {c : Code} {H : Heap} {locs : List Loc} {cells slots : Nat} {Q : State → Prop}
variable {cc : ByteArray} {pc : Nat} {ls : Array Slot} {rest : List Value} {G : CG} {A : Nat → Prop}
theorem ag_XP_X7_10_this {a : Nat → Nat} {ad : Nat → Nat → Nat} {zt : RS} {z : RS × RS} (X : cX RX7 G A p c cc s args m) (w : va_P G.1 vwCl (wO G a ad zt ++ w5 G (ad 0) z.1 ++ w4 G (ad 1) z.2) H) (hdg : decode cc pc = .ok (.getfield 10, 3)) (kk : W p l e R s m args below meth c H locs cells slots Q (F0 m (pc + 3) ls (.ref ((ad 0) 0) :: rest))) : W p l e R s m args below meth c H locs cells slots Q (F0 m pc ls (.ref (a 0) :: rest)) :=
  va_get (D := G.1) (ci := 6) (v := .ref ((ad 0) 0)) (C := RX7) (T := TX7) (N := 8) X.1 X.2.1 X.2.2.1 gX7 X.2.2.2.1 X.2.2.2.2.1.1 w 0 rfl rfl 0 (by decide) (X.2.2.1 _ wf_X7_10) (fun _ h9 => h9) rfl hdg kk
theorem ag_XP_X7_131_sc {a : Nat → Nat} {ad : Nat → Nat → Nat} {zt : RS} {z : RS × RS} (X : cX RX7 G A p c cc s args m) (w : va_P G.1 vwCl (wO G a ad zt ++ w5 G (ad 0) z.1 ++ w4 G (ad 1) z.2) H) (hdg : decode cc pc = .ok (.getfield 131, 3)) (kk : W p l e R s m args below meth c H locs cells slots Q (F0 m (pc + 3) ls (.int (z.1.1 0) :: rest))) : W p l e R s m args below meth c H locs cells slots Q (F0 m pc ls (.ref ((ad 0) 0) :: rest)) :=
  va_getN (own := RX7) (ref := RX5) (host := "RunningThree") (D := G.1) (ci := 4) (v := .int (z.1.1 0)) (C := RX5) (T := TX5) (N := 13) X.1 X.2.1 X.2.2.1 gX5 X.2.2.2.1 X.2.2.2.2.1.1 w 2 rfl rfl 0 (by decide) (va_Nw.use rfl (X.2.2.2.2.1.2 _ wq_X7_131)) (fun _ h9 => h9) rfl hdg kk
theorem ag_XP_X7_58_sc {a : Nat → Nat} {ad : Nat → Nat → Nat} {zt : RS} {z : RS × RS} (X : cX RX7 G A p c cc s args m) (w : va_P G.1 vwCl (wO G a ad zt ++ w5 G (ad 0) z.1 ++ w4 G (ad 1) z.2) H) (hdg : decode cc pc = .ok (.getfield 58, 3)) (kk : W p l e R s m args below meth c H locs cells slots Q (F0 m (pc + 3) ls (.int (z.1.1 3) :: rest))) : W p l e R s m args below meth c H locs cells slots Q (F0 m pc ls (.ref ((ad 0) 0) :: rest)) :=
  va_getN (own := RX7) (ref := RX5) (host := "RunningThree") (D := G.1) (ci := 4) (v := .int (z.1.1 3)) (C := RX5) (T := TX5) (N := 13) X.1 X.2.1 X.2.2.1 gX5 X.2.2.2.1 X.2.2.2.2.1.1 w 2 rfl rfl 3 (by decide) (va_Nw.use rfl (X.2.2.2.2.1.2 _ wq_X7_58)) (fun _ h9 => h9) rfl hdg kk
theorem ag_XP_X7_96_sc {a : Nat → Nat} {ad : Nat → Nat → Nat} {zt : RS} {z : RS × RS} (X : cX RX7 G A p c cc s args m) (w : va_P G.1 vwCl (wO G a ad zt ++ w5 G (ad 0) z.1 ++ w4 G (ad 1) z.2) H) (hdg : decode cc pc = .ok (.getfield 96, 3)) (kk : W p l e R s m args below meth c H locs cells slots Q (F0 m (pc + 3) ls (.int (z.1.1 9) :: rest))) : W p l e R s m args below meth c H locs cells slots Q (F0 m pc ls (.ref ((ad 0) 0) :: rest)) :=
  va_getN (own := RX7) (ref := RX5) (host := "RunningThree") (D := G.1) (ci := 4) (v := .int (z.1.1 9)) (C := RX5) (T := TX5) (N := 13) X.1 X.2.1 X.2.2.1 gX5 X.2.2.2.1 X.2.2.2.2.1.1 w 2 rfl rfl 9 (by decide) (va_Nw.use rfl (X.2.2.2.2.1.2 _ wq_X7_96)) (fun _ h9 => h9) rfl hdg kk
theorem ag_XP_X7_134_sc {a : Nat → Nat} {ad : Nat → Nat → Nat} {zt : RS} {z : RS × RS} (X : cX RX7 G A p c cc s args m) (w : va_P G.1 vwCl (wO G a ad zt ++ w5 G (ad 0) z.1 ++ w4 G (ad 1) z.2) H) (hdg : decode cc pc = .ok (.getfield 134, 3)) (kk : W p l e R s m args below meth c H locs cells slots Q (F0 m (pc + 3) ls (.int (z.1.1 10) :: rest))) : W p l e R s m args below meth c H locs cells slots Q (F0 m pc ls (.ref ((ad 0) 0) :: rest)) :=
  va_getN (own := RX7) (ref := RX5) (host := "RunningThree") (D := G.1) (ci := 4) (v := .int (z.1.1 10)) (C := RX5) (T := TX5) (N := 13) X.1 X.2.1 X.2.2.1 gX5 X.2.2.2.1 X.2.2.2.2.1.1 w 2 rfl rfl 10 (by decide) (va_Nw.use rfl (X.2.2.2.2.1.2 _ wq_X7_134)) (fun _ h9 => h9) rfl hdg kk
theorem ag_XP_X7_19_this {a : Nat → Nat} {ad : Nat → Nat → Nat} {zt : RS} {z : RS × RS} (X : cX RX7 G A p c cc s args m) (w : va_P G.1 vwCl (wO G a ad zt ++ w5 G (ad 0) z.1 ++ w4 G (ad 1) z.2) H) (hdg : decode cc pc = .ok (.getfield 19, 3)) (kk : W p l e R s m args below meth c H locs cells slots Q (F0 m (pc + 3) ls (.ref ((ad 1) 0) :: rest))) : W p l e R s m args below meth c H locs cells slots Q (F0 m pc ls (.ref (a 0) :: rest)) :=
  va_get (D := G.1) (ci := 6) (v := .ref ((ad 1) 0)) (C := RX7) (T := TX7) (N := 8) X.1 X.2.1 X.2.2.1 gX7 X.2.2.2.1 X.2.2.2.2.1.1 w 0 rfl rfl 1 (by decide) (X.2.2.1 _ wf_X7_19) (fun _ h9 => h9) rfl hdg kk
theorem ag_XP_X7_137_pa {a : Nat → Nat} {ad : Nat → Nat → Nat} {zt : RS} {z : RS × RS} (X : cX RX7 G A p c cc s args m) (w : va_P G.1 vwCl (wO G a ad zt ++ w5 G (ad 0) z.1 ++ w4 G (ad 1) z.2) H) (hdg : decode cc pc = .ok (.getfield 137, 3)) (kk : W p l e R s m args below meth c H locs cells slots Q (F0 m (pc + 3) ls (.int (z.2.1 0) :: rest))) : W p l e R s m args below meth c H locs cells slots Q (F0 m pc ls (.ref ((ad 1) 0) :: rest)) :=
  va_getN (own := RX7) (ref := RX4) (host := "RunningThree") (D := G.1) (ci := 3) (v := .int (z.2.1 0)) (C := RX4) (T := TX4) (N := 6) X.1 X.2.1 X.2.2.1 gX4 X.2.2.2.1 X.2.2.2.2.1.1 w 10 rfl rfl 0 (by decide) (va_Nw.use rfl (X.2.2.2.2.1.2 _ wq_X7_137)) (fun _ h9 => h9) rfl hdg kk
end Lm_c7_count
theorem ok7_count : cOk RX7 yX7_count cX7_count 2 (some .int) 1 := ⟨wc_X7_count, wi_X7_count, ws_X7_count, wn_X7, rfl, by decide, by decide, by decide +kernel⟩
set_option maxHeartbeats 4000000 in
set_option maxRecDepth 100000 in
theorem c7_count (l : Launch) (G : CG) (a : Nat → Nat) (ad : Nat → Nat → Nat) (zt : RS) (z : RS × RS) (wa9 : Int32) (S : Sc) (hT : cSc z.1 S) (ho : oSc S) (u x : Nat) (P : Nat → Nat → Int32) (hp : cPa z.2 u x P (S.1 1))  : cMp G l yX7_count cX7_count 2 (some .int) 3 63 [.ref (a 0), .int wa9] (wO G a ad zt ++ w5 G (ad 0) z.1 ++ w4 G (ad 1) z.2) (fun r => r = an_cnt S u wa9) := by
  refine cMp_in (by decide) rfl (Nat.le_of_ble_eq_true rfl) ?_
  intro p e s m args below meth c ls X hml hr hk hl w
  have hx := X.1
  have hb := X.2.1
  have hts := X.2.2.1
  have hown := X.2.2.2.1
  have hl : lv_has ls 2 [(0, .ref (a 0)), (1, .int wa9)] := hl
  obtain ⟨o1, o2, o3, o4, o5, o6, oso, oki, osr, opa, ohu, oco⟩ := id ho
  have u8 := hp.2.1
  refine lv_iload_n hx hb dX7_count_0 rfl (lv_at hl 1 rfl) ?_
  by_cases qlo : wa9.toInt < 0
  · skip
    refine lv_tableOut (tgt := 120) hx hb dX7_count_1 (Or.inl qlo) (by decide) ?_
    refine lv_iconst (v := (iZ (-1))) hx hb dX7_count_120 (by decide) ?_
    exact re_p hx hb hr hk (by unfold an_cnt; rw [if_neg (by omega), if_neg (by omega), if_neg (by omega), if_neg (by omega), if_neg (by omega), if_neg (by omega), if_neg (by omega), if_neg (by omega)]) dX7_count_121
  by_cases qhi : (7 : Int) < wa9.toInt
  · skip
    refine lv_tableOut (tgt := 120) hx hb dX7_count_1 (Or.inr qhi) (by decide) ?_
    refine lv_iconst (v := (iZ (-1))) hx hb dX7_count_120 (by decide) ?_
    exact re_p hx hb hr hk (by unfold an_cnt; rw [if_neg (by omega), if_neg (by omega), if_neg (by omega), if_neg (by omega), if_neg (by omega), if_neg (by omega), if_neg (by omega), if_neg (by omega)]) dX7_count_121
  rcases (show wa9.toInt = 0 ∨ wa9.toInt = 1 ∨ wa9.toInt = 2 ∨ wa9.toInt = 3 ∨ wa9.toInt = 4 ∨ wa9.toInt = 5 ∨ wa9.toInt = 6 ∨ wa9.toInt = 7 by omega) with qsw | qsw | qsw | qsw | qsw | qsw | qsw | qsw
  · skip
    refine lv_tableIn (off := 47) (tgt := 48) hx hb dX7_count_1 qlo qhi (by rw [qsw]; rfl) (by decide) ?_
    refine lv_aload_n hx hb dX7_count_48 rfl (lv_at hl 0 rfl) ?_
    refine ag_XP_X7_10_this X w dX7_count_49 ?_
    refine ag_XP_X7_131_sc X w dX7_count_52 ?_
    refine tp_i (show z.1.1 0 = (nI (S.1 0)) from (cs_ce hT.1)) ?_
    exact re_p hx hb hr hk (by unfold an_cnt; rw [if_pos (by omega)]) dX7_count_55
  · skip
    refine lv_tableIn (off := 55) (tgt := 56) hx hb dX7_count_1 qlo qhi (by rw [qsw]; rfl) (by decide) ?_
    refine lv_aload_n hx hb dX7_count_56 rfl (lv_at hl 0 rfl) ?_
    refine ag_XP_X7_10_this X w dX7_count_57 ?_
    refine ag_XP_X7_58_sc X w dX7_count_60 ?_
    refine tp_i (show z.1.1 3 = (nI (S.1 1)) from (cs_nf hT.1)) ?_
    exact re_p hx hb hr hk (by unfold an_cnt; rw [if_neg (by omega), if_pos (by omega)]) dX7_count_63
  · skip
    refine lv_tableIn (off := 63) (tgt := 64) hx hb dX7_count_1 qlo qhi (by rw [qsw]; rfl) (by decide) ?_
    refine lv_aload_n hx hb dX7_count_64 rfl (lv_at hl 0 rfl) ?_
    refine ag_XP_X7_10_this X w dX7_count_65 ?_
    refine ag_XP_X7_96_sc X w dX7_count_68 ?_
    refine tp_i (show z.1.1 9 = (nI (S.1 3)) from (cs_mo hT.1)) ?_
    exact re_p hx hb hr hk (by unfold an_cnt; rw [if_neg (by omega), if_neg (by omega), if_pos (by omega)]) dX7_count_71
  · skip
    refine lv_tableIn (off := 71) (tgt := 72) hx hb dX7_count_1 qlo qhi (by rw [qsw]; rfl) (by decide) ?_
    refine lv_aload_n hx hb dX7_count_72 rfl (lv_at hl 0 rfl) ?_
    refine ag_XP_X7_10_this X w dX7_count_73 ?_
    refine gc_p (C := RX5) (ci := 4) (rest := []) X hml hl.1 (c5_hasTurned l G (ad 0) z.1  S hT.1 ho ) ok5_hasTurned wm_X7_54 ⟨Nat.le_of_ble_eq_true rfl, Nat.le_of_ble_eq_true rfl⟩ ⟨Nat.le_refl _, Nat.le_refl _⟩ w [2, 3, 4, 5, 6, 7, 8, 9] rfl rfl rfl rfl (Nat.le_of_ble_eq_true rfl) dX7_count_76 (fun r_76 hr_76 => ?_)
    subst hr_76
    have d_76 := pc_td_ok S
    refine n_if_eq (tgt := 86) hx hb dX7_count_79 (by decide) (by omega) (fun c_79_1 => ?_) (fun c_79_1 => ?_)
    · skip
      refine lv_iconst (v := (nI 0)) hx hb dX7_count_86 (by decide) ?_
      exact re_p hx hb hr hk (by unfold an_cnt; rw [if_neg (by omega), if_neg (by omega), if_neg (by omega), if_pos (by omega)]; exact congrArg nI (by omega)) dX7_count_87
    · skip
      refine lv_iconst (v := (nI 1)) hx hb dX7_count_82 (by decide) ?_
      refine lv_goto (tgt := 87) hx hb dX7_count_83 (by decide) ?_
      exact re_p hx hb hr hk (by unfold an_cnt; rw [if_neg (by omega), if_neg (by omega), if_neg (by omega), if_pos (by omega)]; exact congrArg nI (by omega)) dX7_count_87
  · skip
    refine lv_tableIn (off := 87) (tgt := 88) hx hb dX7_count_1 qlo qhi (by rw [qsw]; rfl) (by decide) ?_
    refine lv_aload_n hx hb dX7_count_88 rfl (lv_at hl 0 rfl) ?_
    refine ag_XP_X7_10_this X w dX7_count_89 ?_
    refine ag_XP_X7_134_sc X w dX7_count_92 ?_
    refine tp_i (show z.1.1 10 = (pc_sd (S.1 4)) from (cs_sd hT.1)) ?_
    exact re_p hx hb hr hk (by unfold an_cnt; rw [if_neg (by omega), if_neg (by omega), if_neg (by omega), if_neg (by omega), if_pos (by omega)]) dX7_count_95
  · skip
    refine lv_tableIn (off := 95) (tgt := 96) hx hb dX7_count_1 qlo qhi (by rw [qsw]; rfl) (by decide) ?_
    refine lv_aload_n hx hb dX7_count_96 rfl (lv_at hl 0 rfl) ?_
    refine ag_XP_X7_19_this X w dX7_count_97 ?_
    refine ag_XP_X7_137_pa X w dX7_count_100 ?_
    refine tp_i (show z.2.1 0 = (nI u) from hp.1) ?_
    exact re_p hx hb hr hk (by unfold an_cnt; rw [if_neg (by omega), if_neg (by omega), if_neg (by omega), if_neg (by omega), if_neg (by omega), if_pos (by omega)]) dX7_count_103
  · skip
    refine lv_tableIn (off := 103) (tgt := 104) hx hb dX7_count_1 qlo qhi (by rw [qsw]; rfl) (by decide) ?_
    refine lv_aload_n hx hb dX7_count_104 rfl (lv_at hl 0 rfl) ?_
    refine ag_XP_X7_10_this X w dX7_count_105 ?_
    refine gc_p (C := RX5) (ci := 4) (rest := []) X hml hl.1 (c5_thoseDown l G (ad 0) z.1  S hT.1 ho ) ok5_thoseDown wm_X7_140 ⟨Nat.le_of_ble_eq_true rfl, Nat.le_of_ble_eq_true rfl⟩ ⟨Nat.le_refl _, Nat.le_refl _⟩ w [2, 3, 4, 5, 6, 7, 8, 9] rfl rfl rfl rfl (Nat.le_of_ble_eq_true rfl) dX7_count_108 (fun r_108 hr_108 => ?_)
    subst hr_108
    exact re_p hx hb hr hk (by unfold an_cnt; rw [if_neg (by omega), if_neg (by omega), if_neg (by omega), if_neg (by omega), if_neg (by omega), if_neg (by omega), if_pos (by omega)]) dX7_count_111
  · skip
    refine lv_tableIn (off := 111) (tgt := 112) hx hb dX7_count_1 qlo qhi (by rw [qsw]; rfl) (by decide) ?_
    refine lv_aload_n hx hb dX7_count_112 rfl (lv_at hl 0 rfl) ?_
    refine ag_XP_X7_10_this X w dX7_count_113 ?_
    refine gc_p (C := RX5) (ci := 4) (rest := []) X hml hl.1 (c5_outcome l G (ad 0) z.1  S hT.1 ho ) ok5_outcome wm_X7_144 ⟨Nat.le_of_ble_eq_true rfl, Nat.le_of_ble_eq_true rfl⟩ ⟨Nat.le_refl _, Nat.le_refl _⟩ w [2, 3, 4, 5, 6, 7, 8, 9] rfl rfl rfl rfl (Nat.le_of_ble_eq_true rfl) dX7_count_116 (fun r_116 hr_116 => ?_)
    subst hr_116
    have d_116 := sp_over_le S
    exact re_p hx hb hr hk (by unfold an_cnt; rw [if_neg (by omega), if_neg (by omega), if_neg (by omega), if_neg (by omega), if_neg (by omega), if_neg (by omega), if_neg (by omega), if_pos (by omega)]) dX7_count_119

theorem ok7_fighter : cOk RX7 yX7_fighter cX7_fighter 4 (some .int) 3 := ⟨wc_X7_fighter, wi_X7_fighter, ws_X7_fighter, wn_X7, rfl, by decide, by decide, by decide +kernel⟩
set_option maxHeartbeats 4000000 in
set_option maxRecDepth 100000 in
theorem c7_fighter (l : Launch) (G : CG) (a : Nat → Nat) (ad : Nat → Nat → Nat) (zt : RS) (z : RS × RS) (ka9 : Int32) (sa9 : Int32) (pa9 : Int32) (S : Sc) (hT : cSc z.1 S) (ho : oSc S) (u x : Nat) (P : Nat → Nat → Int32) (hp : cPa z.2 u x P (S.1 1))  : cMi G l yX7_fighter cX7_fighter 4 (some .int) 1 25 [.ref (a 0), .int ka9, .int sa9, .int pa9] (fun q9 : RS × RS => wO G a ad zt ++ w5 G (ad 0) q9.1 ++ w4 G (ad 1) q9.2) z (fun r z9 => r = an_fig S ka9 sa9 pa9 ∧ cSc z9.1 (nx_fig S ka9 sa9 pa9) ∧ cPa z9.2 (nu_fig S u ka9 sa9 pa9) x P ((nx_fig S ka9 sa9 pa9).1 1)) := by
  refine cMi_in (by decide) rfl (Nat.le_of_ble_eq_true rfl) ?_
  intro p e s m args below meth c A ls X hml hr hk hl w
  have hx := X.1
  have hb := X.2.1
  have hts := X.2.2.1
  have hown := X.2.2.2.1
  have hl : lv_has ls 4 [(0, .ref (a 0)), (1, .int ka9), (2, .int sa9), (3, .int pa9)] := hl
  obtain ⟨o1, o2, o3, o4, o5, o6, oso, oki, osr, opa, ohu, oco⟩ := id ho
  refine lv_iload_n hx hb dX7_fighter_0 rfl (lv_at hl 1 rfl) ?_
  refine lv_iconst (v := (nI 0)) hx hb dX7_fighter_1 (by decide) ?_
  refine lv_iconst (v := (nI 3)) hx hb dX7_fighter_2 (by decide) ?_
  refine gc_s (C := RX7) (rest := []) ⟨X.1, X.2.1, X.2.2.1, X.2.2.2.1⟩ hml hl.1 (c7_within l ka9 (nI 0) (nI 3)) ok7_within wm_X7_50 ⟨Nat.le_of_ble_eq_true rfl, Nat.le_of_ble_eq_true rfl⟩ ⟨Nat.le_refl _, Nat.le_refl _⟩ rfl (Nat.le_of_ble_eq_true rfl) dX7_fighter_3 (fun r_3 hr_3 => ?_) rfl
  subst hr_3
  refine tp_i (congrArg nI (w3_I rfl (by decide) (by decide) : _ = pc_inI ka9.toInt ((0 : Int)) ((3 : Int)))) ?_
  have d_3 := pc_inI_ok ka9.toInt ((0 : Int)) ((3 : Int))
  refine n_if_eq (tgt := 29) hx hb dX7_fighter_6 (by decide) (by omega) (fun c_6_1 => ?_) (fun c_6_1 => ?_)
  · skip
    refine lv_iconst (v := (iZ (-1))) hx hb dX7_fighter_29 (by decide) ?_
    exact ce_i (w := (fun q9 : RS × RS => wO G a ad zt ++ w5 G (ad 0) q9.1 ++ w4 G (ad 1) q9.2)) (z := z) X hr hk w (⟨by unfold an_fig; rw [if_neg (by omega)], by unfold nx_fig; rw [if_neg (by omega)]; exact hT, by unfold nu_fig nx_fig; rw [if_neg (by omega), if_neg (by omega)]; exact hp⟩) dX7_fighter_30
  · skip
    refine lv_iload_n hx hb dX7_fighter_9 rfl (lv_at hl 2 rfl) ?_
    refine lv_iconst (v := (nI 1)) hx hb dX7_fighter_10 (by decide) ?_
    refine lv_bipush (v := (nI 9)) hx hb dX7_fighter_11 (by decide) ?_
    refine gc_s (C := RX7) (rest := []) ⟨X.1, X.2.1, X.2.2.1, X.2.2.2.1⟩ hml hl.1 (c7_within l sa9 (nI 1) (nI 9)) ok7_within wm_X7_50 ⟨Nat.le_of_ble_eq_true rfl, Nat.le_of_ble_eq_true rfl⟩ ⟨Nat.le_refl _, Nat.le_refl _⟩ rfl (Nat.le_of_ble_eq_true rfl) dX7_fighter_13 (fun r_13 hr_13 => ?_) rfl
    subst hr_13
    refine tp_i (congrArg nI (w3_I rfl (by decide) (by decide) : _ = pc_inI sa9.toInt ((1 : Int)) ((9 : Int)))) ?_
    have d_13 := pc_inI_ok sa9.toInt ((1 : Int)) ((9 : Int))
    refine n_if_eq (tgt := 29) hx hb dX7_fighter_16 (by decide) (by omega) (fun c_16_2 => ?_) (fun c_16_2 => ?_)
    · skip
      refine lv_iconst (v := (iZ (-1))) hx hb dX7_fighter_29 (by decide) ?_
      exact ce_i (w := (fun q9 : RS × RS => wO G a ad zt ++ w5 G (ad 0) q9.1 ++ w4 G (ad 1) q9.2)) (z := z) X hr hk w (⟨by unfold an_fig; rw [if_neg (by omega)], by unfold nx_fig; rw [if_neg (by omega)]; exact hT, by unfold nu_fig nx_fig; rw [if_neg (by omega), if_neg (by omega)]; exact hp⟩) dX7_fighter_30
    · skip
      refine lv_iload_n hx hb dX7_fighter_19 rfl (lv_at hl 3 rfl) ?_
      refine lv_iconst (v := (nI 1)) hx hb dX7_fighter_20 (by decide) ?_
      refine lv_bipush (v := (nI 6)) hx hb dX7_fighter_21 (by decide) ?_
      refine gc_s (C := RX7) (rest := []) ⟨X.1, X.2.1, X.2.2.1, X.2.2.2.1⟩ hml hl.1 (c7_within l pa9 (nI 1) (nI 6)) ok7_within wm_X7_50 ⟨Nat.le_of_ble_eq_true rfl, Nat.le_of_ble_eq_true rfl⟩ ⟨Nat.le_refl _, Nat.le_refl _⟩ rfl (Nat.le_of_ble_eq_true rfl) dX7_fighter_23 (fun r_23 hr_23 => ?_) rfl
      subst hr_23
      refine tp_i (congrArg nI (w3_I rfl (by decide) (by decide) : _ = pc_inI pa9.toInt ((1 : Int)) ((6 : Int)))) ?_
      have d_23 := pc_inI_ok pa9.toInt ((1 : Int)) ((6 : Int))
      refine n_if_ne (tgt := 31) hx hb dX7_fighter_26 (by decide) (by omega) (fun c_26_3 => ?_) (fun c_26_3 => ?_)
      · skip
        refine lv_aload_n hx hb dX7_fighter_31 rfl (lv_at hl 0 rfl) ?_
        refine ag_XP_X7_10_this X w.1 dX7_fighter_32 ?_
        refine gc_p (C := RX5) (ci := 4) (rest := []) X hml hl.1 (c5_hasTurned l G (ad 0) z.1  S hT.1 ho ) ok5_hasTurned wm_X7_54 ⟨Nat.le_of_ble_eq_true rfl, Nat.le_of_ble_eq_true rfl⟩ ⟨Nat.le_refl _, Nat.le_refl _⟩ w.1 [2, 3, 4, 5, 6, 7, 8, 9] rfl rfl rfl rfl (Nat.le_of_ble_eq_true rfl) dX7_fighter_35 (fun r_35 hr_35 => ?_)
        subst hr_35
        have d_35 := pc_td_ok S
        refine n_if_eq (tgt := 44) hx hb dX7_fighter_38 (by decide) (by omega) (fun c_38_4 => ?_) (fun c_38_4 => ?_)
        · skip
          refine lv_aload_n hx hb dX7_fighter_44 rfl (lv_at hl 0 rfl) ?_
          refine ag_XP_X7_10_this X w.1 dX7_fighter_45 ?_
          refine ag_XP_X7_58_sc X w.1 dX7_fighter_48 ?_
          refine tp_i (show z.1.1 3 = (nI (S.1 1)) from (cs_nf hT.1)) ?_
          refine lv_iconst (v := (nI 5)) hx hb dX7_fighter_51 (by decide) ?_
          refine n_icmp_lt (tgt := 58) hx hb dX7_fighter_52 (by decide) (by omega) (by omega) (fun c_52_5 => ?_) (fun c_52_5 => ?_)
          · skip
            obtain ⟨k, hk_k, ek_k⟩ := iv_n (x := ka9) (by omega)
            have hl : lv_has ls 4 [(0, .ref (a 0)), (1, .int (nI k)), (2, .int sa9), (3, .int pa9)] := by rw [← ek_k]; exact hl
            obtain ⟨j, hk_j, ek_j⟩ := iv_n (x := sa9) (by omega)
            have hl : lv_has ls 4 [(0, .ref (a 0)), (1, .int (nI k)), (2, .int (nI j)), (3, .int pa9)] := by rw [← ek_j]; exact hl
            obtain ⟨q, hk_q, ek_q⟩ := iv_n (x := pa9) (by omega)
            have hl : lv_has ls 4 [(0, .ref (a 0)), (1, .int (nI k)), (2, .int (nI j)), (3, .int (nI q))] := by rw [← ek_q]; exact hl
            refine lv_aload_n hx hb dX7_fighter_58 rfl (lv_at hl 0 rfl) ?_
            refine ag_XP_X7_19_this X w.1 dX7_fighter_59 ?_
            refine gc_v (C := RX4) (ci := 3) (rest := []) (w := (fun q9 : RS => w4 G (ad 1) q9)) (wr := [((a 0), .inr (6, [.ref ((ad 0) 0), .ref ((ad 1) 0), .ref (ad 2 0), .ref (ad 3 0), .int (zt.1 4), .ref (ad 5 0), .ref (ad 6 0), .ref (a 8)])), ((a 8), .inl (G.2.2.2, 4, .inr (.inr (.inr (.inr (fun j => some (ad (10 + j) 0))))))), (((ad 0) 0), .inr (4, [.int (z.1.1 0), .ref ((ad 0) 2), .ref ((ad 0) 3), .int (z.1.1 3), .ref ((ad 0) 5), .ref ((ad 0) 6), .ref ((ad 0) 7), .ref ((ad 0) 8), .int (z.1.1 8), .int (z.1.1 9), .int (z.1.1 10), .ref ((ad 0) 12), .int (z.1.1 12)])), (((ad 0) 2), .inl (G.2.1, 40, .inl (z.1.2.1 1))), (((ad 0) 3), .inl (G.2.1, 40, .inl (z.1.2.1 2))), (((ad 0) 5), .inl (G.2.1, 5, .inl (z.1.2.1 4))), (((ad 0) 6), .inl (G.2.1, 5, .inl (z.1.2.1 5))), (((ad 0) 7), .inl (G.2.1, 5, .inl (z.1.2.1 6))), (((ad 0) 8), .inl (G.2.1, 5, .inl (z.1.2.1 7))), (((ad 0) 12), .inl (G.2.1, 5, .inl (z.1.2.1 11)))]) (wn := (fun u9 => wO G a ad zt ++ w5 G (ad 0) (((z.1, u9))).1 ++ w4 G (ad 1) (((z.1, u9))).2)) X hml hl.1 (c4_forget l G (ad 1) z.2) ok4_forget wm_X7_62 ⟨Nat.le_of_ble_eq_true rfl, Nat.le_of_ble_eq_true rfl⟩ ⟨Nat.le_refl _, Nat.le_refl _⟩ w [10, 11, 12, 13, 14] [0, 1, 2, 3, 4, 5, 6, 7, 8, 9] [0, 1, 2, 3, 4, 5, 6, 7, 8, 9, 10, 11, 12, 13, 14] rfl (by decide) rfl (by decide) (by decide) (fun _ => rfl) (by decide) rfl rfl rfl (Nat.le_of_ble_eq_true rfl) dX7_fighter_62 (fun u_62 H locs hr_62 w => ?_)
            obtain ⟨z_62, ez_62⟩ : ∃ q9 : RS × RS, q9 = (z.1, u_62) := ⟨_, rfl⟩
            have w : cW G A s (wO G a ad zt ++ w5 G (ad 0) z_62.1 ++ w4 G (ad 1) z_62.2) H locs := by rw [ez_62]; exact w
            have eu_62_pa : z_62.2 = u_62 := by rw [ez_62]
            rw [← eu_62_pa] at hr_62
            have ek_62_sc : z_62.1 = z.1 := by rw [ez_62]
            have hF : cSc z_62.1 S := by rw [ek_62_sc]; exact hT
            refine lv_aload_n hx hb dX7_fighter_65 rfl (lv_at hl 0 rfl) ?_
            refine ag_XP_X7_10_this X w.1 dX7_fighter_66 ?_
            refine lv_iload_n hx hb dX7_fighter_69 rfl (lv_at hl 1 rfl) ?_
            refine lv_iload_n hx hb dX7_fighter_70 rfl (lv_at hl 2 rfl) ?_
            refine lv_iload_n hx hb dX7_fighter_71 rfl (lv_at hl 3 rfl) ?_
            refine lv_iconst (v := (nI 0)) hx hb dX7_fighter_72 (by decide) ?_
            refine gc_i (C := RX5) (ci := 4) (rest := []) (w := (fun q9 : RS => w5 G (ad 0) q9)) (wr := [((a 0), .inr (6, [.ref ((ad 0) 0), .ref ((ad 1) 0), .ref (ad 2 0), .ref (ad 3 0), .int (zt.1 4), .ref (ad 5 0), .ref (ad 6 0), .ref (a 8)])), ((a 8), .inl (G.2.2.2, 4, .inr (.inr (.inr (.inr (fun j => some (ad (10 + j) 0))))))), (((ad 1) 0), .inr (3, [.int (z_62.2.1 0), .int (z_62.2.1 1), .ref ((ad 1) 3), .ref ((ad 1) 4), .ref ((ad 1) 5), .ref ((ad 1) 6)])), (((ad 1) 3), .inl (G.2.1, 40, .inl (z_62.2.2.1 2))), (((ad 1) 4), .inl (G.2.1, 8, .inl (z_62.2.2.1 3))), (((ad 1) 5), .inl (G.2.1, 8, .inl (z_62.2.2.1 4))), (((ad 1) 6), .inl (G.2.1, 8, .inl (z_62.2.2.1 5)))]) (wn := (fun u9 => wO G a ad zt ++ w5 G (ad 0) (((u9, z_62.2))).1 ++ w4 G (ad 1) (((u9, z_62.2))).2)) X hml hl.1 (c5_addFighter l G (ad 0) z_62.1 k j q 0 S hF.1 (by omega)) ok5_addFighter wm_X7_65 ⟨Nat.le_of_ble_eq_true rfl, Nat.le_of_ble_eq_true rfl⟩ ⟨Nat.le_refl _, Nat.le_refl _⟩ w [2, 3, 4, 5, 6, 7, 8, 9] [0, 1, 10, 11, 12, 13, 14] [0, 1, 7, 8, 9, 10, 11, 12, 13, 14, 2, 3, 4, 5, 6] rfl (by decide) rfl (by decide) (by decide) (fun _ => rfl) (by decide) rfl rfl rfl (Nat.le_of_ble_eq_true rfl) dX7_fighter_73 (fun r_73 u_73 H locs hr_73 w => ?_)
            obtain ⟨z_73, ez_73⟩ : ∃ q9 : RS × RS, q9 = (u_73, z_62.2) := ⟨_, rfl⟩
            have w : cW G A s (wO G a ad zt ++ w5 G (ad 0) z_73.1 ++ w4 G (ad 1) z_73.2) H locs := by rw [ez_73]; exact w
            have eu_73_sc : z_73.1 = u_73 := by rw [ez_73]
            rw [← eu_73_sc] at hr_73
            have ek_73_pa : z_73.2 = z_62.2 := by rw [ez_73]
            obtain ⟨hr_73, ha_73⟩ := hr_73
            subst hr_73
            exact ce_i (w := (fun q9 : RS × RS => wO G a ad zt ++ w5 G (ad 0) q9.1 ++ w4 G (ad 1) q9.2)) (z := z_73) X hr hk w (⟨by unfold an_fig; rw [if_pos (by omega), if_pos (by omega), if_neg (by omega)], by unfold nx_fig; rw [if_pos (by omega), show ka9.toInt.toNat = k by omega, show sa9.toInt.toNat = j by omega, show pa9.toInt.toNat = q by omega]; exact ⟨ha_73, fun w9 => absurd (show S.1 4 = 0 by omega) w9⟩, by unfold nu_fig nx_fig; rw [if_pos (by omega), if_pos (by omega), ek_73_pa, hr_62]; exact pa_no hp (show S.1 1 + 1 ≤ 5 by omega)⟩) dX7_fighter_76
          · skip
            refine lv_bipush (v := (iZ (-3))) hx hb dX7_fighter_55 (by decide) ?_
            exact ce_i (w := (fun q9 : RS × RS => wO G a ad zt ++ w5 G (ad 0) q9.1 ++ w4 G (ad 1) q9.2)) (z := z) X hr hk w (⟨by unfold an_fig; rw [if_pos (by omega), if_pos (by omega), if_pos (by omega)], by unfold nx_fig; rw [if_neg (by omega)]; exact hT, by unfold nu_fig nx_fig; rw [if_neg (by omega), if_neg (by omega)]; exact hp⟩) dX7_fighter_57
        · skip
          refine lv_bipush (v := (iZ (-2))) hx hb dX7_fighter_41 (by decide) ?_
          exact ce_i (w := (fun q9 : RS × RS => wO G a ad zt ++ w5 G (ad 0) q9.1 ++ w4 G (ad 1) q9.2)) (z := z) X hr hk w (⟨by unfold an_fig; rw [if_pos (by omega), if_neg (by omega)], by unfold nx_fig; rw [if_neg (by omega)]; exact hT, by unfold nu_fig nx_fig; rw [if_neg (by omega), if_neg (by omega)]; exact hp⟩) dX7_fighter_43
      · skip
        refine lv_iconst (v := (iZ (-1))) hx hb dX7_fighter_29 (by decide) ?_
        exact ce_i (w := (fun q9 : RS × RS => wO G a ad zt ++ w5 G (ad 0) q9.1 ++ w4 G (ad 1) q9.2)) (z := z) X hr hk w (⟨by unfold an_fig; rw [if_neg (by omega)], by unfold nx_fig; rw [if_neg (by omega)]; exact hT, by unfold nu_fig nx_fig; rw [if_neg (by omega), if_neg (by omega)]; exact hp⟩) dX7_fighter_30

section Lm_c7_moment
variable {p : Program} {l : Launch} {e : Env} {R : Room} {s : State} {m : MethodId} {args : Array Value} {below : List Frame} {meth : Method} {c : Code} {H : Heap} {locs : List Loc} {cells slots : Nat} {Q : State → Prop}
variable {cc : ByteArray} {pc : Nat} {ls : Array Slot} {rest : List Value} {G : CG} {A : Nat → Prop}
theorem ap_XP_X7_96_sc {a : Nat → Nat} {ad : Nat → Nat → Nat} {zt : RS} {z : RS × RS} {v : Int32} (X : cX RX7 G A p c cc s args m) (w : cW G A s (wO G a ad zt ++ w5 G (ad 0) z.1 ++ w4 G (ad 1) z.2) H locs) (hdg : decode cc pc = .ok (.putfield 96, 3)) (kk : ∀ (z1 : RS × RS) (H : Heap) (locs : List Loc), z1 = ((sI z.1 9 v), z.2) → cW G A s (wO G a ad zt ++ w5 G (ad 0) z1.1 ++ w4 G (ad 1) z1.2) H locs → W p l e R s m args below meth c H locs cells slots Q (F0 m (pc + 3) ls rest)) : W p l e R s m args below meth c H locs cells slots Q (F0 m pc ls (.int v :: .ref ((ad 0) 0) :: rest)) :=
  va_putN (own := RX7) (ref := RX5) (host := "RunningThree") (D := G.1) (ci := 4) (v := .int v) (ty := .int) (C := RX5) (T := TX5) (N := 13) X.1 X.2.1 X.2.2.1 gX5 tyX5 tyX5_ok nmX5 X.2.2.2.1 X.2.2.2.2.1.1 w.1 w.2.1 w.2.2 2 rfl rfl 9 (by decide) (va_Nw.use rfl (X.2.2.2.2.1.2 _ wq_X7_96)) (fun _ h9 => h9) rfl (by decide +kernel) rfl rfl (Nat.le_of_ble_eq_true rfl) hdg (fun H1 locs1 hP hD hS => kk _ H1 locs1 rfl ⟨hP, hD, hS⟩)
end Lm_c7_moment
theorem ok7_moment : cOk RX7 yX7_moment cX7_moment 1 (some .int) 0 := ⟨wc_X7_moment, wi_X7_moment, ws_X7_moment, wn_X7, rfl, by decide, by decide, by decide +kernel⟩
set_option maxHeartbeats 4000000 in
set_option maxRecDepth 100000 in
theorem c7_moment (l : Launch) (G : CG) (a : Nat → Nat) (ad : Nat → Nat → Nat) (zt : RS) (z : RS × RS)  (S : Sc) (hT : cSc z.1 S) (ho : oSc S) (u x : Nat) (P : Nat → Nat → Int32) (hp : cPa z.2 u x P (S.1 1)) (hm : S.1 3 ≤ 400) (rr : Nat → Int32) (hrr : rNw rr S) : cMi G l yX7_moment cX7_moment 1 (some .int) 6 134 [.ref (a 0)] (fun q9 : RS × RS => wO G a ad zt ++ w5 G (ad 0) q9.1 ++ w4 G (ad 1) q9.2) z (fun r z9 => r = an_mom S ∧ cSc z9.1 (nx_mom S) ∧ (if sp_over S = 0 ∧ ¬ S.1 3 = 400 then cPa z9.2 (pa_n u) ((x + 1) % 8) (pa_put u P rr) (S.1 1) else cPa z9.2 u x P (S.1 1))) := by
  refine cMi_in (by decide) rfl (Nat.le_of_ble_eq_true rfl) ?_
  intro p e s m args below meth c A ls X hml hr hk hl w
  have hx := X.1
  have hb := X.2.1
  have hts := X.2.2.1
  have hown := X.2.2.2.1
  have hl : lv_has ls 1 [(0, .ref (a 0))] := hl
  obtain ⟨o1, o2, o3, o4, o5, o6, oso, oki, osr, opa, ohu, oco⟩ := id ho
  refine lv_aload_n hx hb dX7_moment_0 rfl (lv_at hl 0 rfl) ?_
  refine ag_XP_X7_10_this X w.1 dX7_moment_1 ?_
  refine gc_p (C := RX5) (ci := 4) (rest := []) X hml hl.1 (c5_outcome l G (ad 0) z.1  S hT.1 ho ) ok5_outcome wm_X7_144 ⟨Nat.le_of_ble_eq_true rfl, Nat.le_of_ble_eq_true rfl⟩ ⟨Nat.le_refl _, Nat.le_refl _⟩ w.1 [2, 3, 4, 5, 6, 7, 8, 9] rfl rfl rfl rfl (Nat.le_of_ble_eq_true rfl) dX7_moment_4 (fun r_4 hr_4 => ?_)
  subst hr_4
  have d_4 := sp_over_le S
  refine n_if_eq (tgt := 13) hx hb dX7_moment_7 (by decide) (by omega) (fun c_7_1 => ?_) (fun c_7_1 => ?_)
  · skip
    refine lv_aload_n hx hb dX7_moment_13 rfl (lv_at hl 0 rfl) ?_
    refine ag_XP_X7_10_this X w.1 dX7_moment_14 ?_
    refine ag_XP_X7_96_sc X w.1 dX7_moment_17 ?_
    refine tp_i (show z.1.1 9 = (nI (S.1 3)) from (cs_mo hT.1)) ?_
    refine lv_sipush (v := (nI 400)) hx hb dX7_moment_20 (by decide) ?_
    refine n_icmp_lt (tgt := 29) hx hb dX7_moment_23 (by decide) (by omega) (by omega) (fun c_23_2 => ?_) (fun c_23_2 => ?_)
    · skip
      refine lv_aload_n hx hb dX7_moment_29 rfl (lv_at hl 0 rfl) ?_
      refine ag_XP_X7_19_this X w.1 dX7_moment_30 ?_
      refine lv_aload_n hx hb dX7_moment_33 rfl (lv_at hl 0 rfl) ?_
      refine ag_XP_X7_10_this X w.1 dX7_moment_34 ?_
      refine gc_v (C := RX4) (ci := 3) (rest := []) (w := (fun q9 : RS => w4 G (ad 1) q9 ++ w5 G (ad 0) z.1)) (wr := [((a 0), .inr (6, [.ref ((ad 0) 0), .ref ((ad 1) 0), .ref (ad 2 0), .ref (ad 3 0), .int (zt.1 4), .ref (ad 5 0), .ref (ad 6 0), .ref (a 8)])), ((a 8), .inl (G.2.2.2, 4, .inr (.inr (.inr (.inr (fun j => some (ad (10 + j) 0)))))))]) (wn := (fun u9 => wO G a ad zt ++ w5 G (ad 0) (((z.1, u9))).1 ++ w4 G (ad 1) (((z.1, u9))).2)) X hml hl.1 (c4_remember l G (ad 1) (ad 0) z.1 z.2 u x P (S.1 1) hp rr ((cs_mo hT.1).trans hrr.1.symm) ((cs_sd hT.1).trans hrr.2.1.symm) ((cs_dr hT.1).trans hrr.2.2.1.symm) (fun f hf => (cs_hu hT.1 f hf).trans (hrr.2.2.2.1 f (by omega)).symm)) ok4_remember wm_X7_147 ⟨Nat.le_of_ble_eq_true rfl, Nat.le_of_ble_eq_true rfl⟩ ⟨Nat.le_refl _, Nat.le_refl _⟩ w [10, 11, 12, 13, 14, 2, 3, 4, 5, 6, 7, 8, 9] [0, 1] [0, 1, 7, 8, 9, 10, 11, 12, 13, 14, 2, 3, 4, 5, 6] rfl (by decide) rfl (by decide) (by decide) (fun _ => rfl) (by decide) rfl rfl rfl (Nat.le_of_ble_eq_true rfl) dX7_moment_37 (fun u_37 H locs hr_37 w => ?_)
      obtain ⟨z_37, ez_37⟩ : ∃ q9 : RS × RS, q9 = (z.1, u_37) := ⟨_, rfl⟩
      have w : cW G A s (wO G a ad zt ++ w5 G (ad 0) z_37.1 ++ w4 G (ad 1) z_37.2) H locs := by rw [ez_37]; exact w
      have eu_37_pa : z_37.2 = u_37 := by rw [ez_37]
      rw [← eu_37_pa] at hr_37
      have ek_37_sc : z_37.1 = z.1 := by rw [ez_37]
      have hT_37 : cSc z_37.1 S := by rw [ek_37_sc]; exact hT
      refine lv_aload_n hx hb dX7_moment_40 rfl (lv_at hl 0 rfl) ?_
      refine ag_XP_X7_10_this X w.1 dX7_moment_41 ?_
      refine lv_dup hx hb dX7_moment_44 rfl ?_
      refine ag_XP_X7_96_sc X w.1 dX7_moment_45 ?_
      refine tp_i (show z_37.1.1 9 = (nI (S.1 3)) from (cs_mo hT_37.1)) ?_
      refine lv_iconst (v := (nI 1)) hx hb dX7_moment_48 (by decide) ?_
      refine n_iadd hx hb dX7_moment_49 ?_
      refine ap_XP_X7_96_sc X w dX7_moment_50 (fun z_50 H locs ez_50 w => ?_)
      have hM : cSc z_50.1 (sN S 3 (S.1 3 + 1)) := by rw [ez_50]; exact cc_mo hT_37 _
      have hoM : oSc (sN S 3 (S.1 3 + 1)) := oSc_mo ho (by omega)
      have hpM : z_50.2 = z_37.2 := by rw [ez_50]
      have hov := ov_0 (show sp_over S = 0 by omega)
      refine lv_aload_n hx hb dX7_moment_53 rfl (lv_at hl 0 rfl) ?_
      refine ag_XP_X7_10_this X w.1 dX7_moment_54 ?_
      refine gc_p (C := RX5) (ci := 4) (rest := []) X hml hl.1 (c5_hasTurned l G (ad 0) z_50.1 (sN S 3 (S.1 3 + 1)) hM.1 hoM) ok5_hasTurned wm_X7_54 ⟨Nat.le_of_ble_eq_true rfl, Nat.le_of_ble_eq_true rfl⟩ ⟨Nat.le_refl _, Nat.le_refl _⟩ w.1 [2, 3, 4, 5, 6, 7, 8, 9] rfl rfl rfl rfl (Nat.le_of_ble_eq_true rfl) dX7_moment_57 (fun r_57 hr_57 => ?_)
      subst hr_57
      refine tp_i (show nI (pc_td (sN S 3 (S.1 3 + 1))) = nI (pc_td S) from rfl) ?_
      have d_57 := pc_td_ok S
      refine n_if_eq (tgt := 73) hx hb dX7_moment_60 (by decide) (by omega) (fun c_60_3 => ?_) (fun c_60_3 => ?_)
      · skip
        refine lv_aload_n hx hb dX7_moment_73 rfl (lv_at hl 0 rfl) ?_
        refine gc_i (C := RX7) (ci := 6) (rest := []) (w := (fun q9 : RS => wO G a ad zt ++ w5 G (ad 0) q9)) (wr := [(((ad 1) 0), .inr (3, [.int (z_50.2.1 0), .int (z_50.2.1 1), .ref ((ad 1) 3), .ref ((ad 1) 4), .ref ((ad 1) 5), .ref ((ad 1) 6)])), (((ad 1) 3), .inl (G.2.1, 40, .inl (z_50.2.2.1 2))), (((ad 1) 4), .inl (G.2.1, 8, .inl (z_50.2.2.1 3))), (((ad 1) 5), .inl (G.2.1, 8, .inl (z_50.2.2.1 4))), (((ad 1) 6), .inl (G.2.1, 8, .inl (z_50.2.2.1 5)))]) (wn := (fun u9 => wO G a ad zt ++ w5 G (ad 0) (((u9, z_50.2))).1 ++ w4 G (ad 1) (((u9, z_50.2))).2)) X hml hl.1 (c7_runOn l G a ad zt z_50.1 (sN S 3 (S.1 3 + 1)) hM hoM (show 1 ≤ S.1 1 by omega) (show S.1 4 = 0 by omega)) ok7_runOn wm_X7_153 ⟨Nat.le_of_ble_eq_true rfl, Nat.le_of_ble_eq_true rfl⟩ ⟨Nat.le_refl _, Nat.le_refl _⟩ w [0, 1, 2, 3, 4, 5, 6, 7, 8, 9] [10, 11, 12, 13, 14] [5, 6, 7, 8, 9, 10, 11, 12, 13, 14, 0, 1, 2, 3, 4] rfl (by decide) rfl (by decide) (by decide) (fun _ => rfl) (by decide) rfl rfl rfl (Nat.le_of_ble_eq_true rfl) dX7_moment_74 (fun r_74 u_74 H locs hr_74 w => ?_)
        obtain ⟨z_74, ez_74⟩ : ∃ q9 : RS × RS, q9 = (u_74, z_50.2) := ⟨_, rfl⟩
        have w : cW G A s (wO G a ad zt ++ w5 G (ad 0) z_74.1 ++ w4 G (ad 1) z_74.2) H locs := by rw [ez_74]; exact w
        have eu_74_sc : z_74.1 = u_74 := by rw [ez_74]
        rw [← eu_74_sc] at hr_74
        have ek_74_pa : z_74.2 = z_50.2 := by rw [ez_74]
        obtain ⟨hr_74, hW74⟩ := hr_74
        subst hr_74
        have e7 : (if sp_ct (sN S 3 (S.1 3 + 1)) 0 ((sN S 3 (S.1 3 + 1)).1 3) = 0 then (sN S 3 (S.1 3 + 1)) else sp_turn (sN S 3 (S.1 3 + 1)) 0 ((sN S 3 (S.1 3 + 1)).1 3)) = (if sp_ct S 0 (S.1 3 + 1) = 0 then (sN S 3 (S.1 3 + 1)) else sp_turn S 0 (S.1 3 + 1)) := by show (if sp_ct (sN S 3 (S.1 3 + 1)) 0 (S.1 3 + 1) = 0 then (sN S 3 (S.1 3 + 1)) else sp_turn (sN S 3 (S.1 3 + 1)) 0 (S.1 3 + 1)) = _; rw [ev_ct (ev_mo S _), turn_mo]
        rw [e7] at hW74
        exact ce_i (w := (fun q9 : RS × RS => wO G a ad zt ++ w5 G (ad 0) q9.1 ++ w4 G (ad 1) q9.2)) (z := z_74) X hr hk w (⟨by unfold an_mom; rw [if_pos (by omega), if_neg (by omega), if_pos (by omega)], by unfold nx_mom; rw [if_pos (by omega), if_pos (show S.1 4 = 0 by omega)]; exact hW74, by rw [if_pos (by omega), ek_74_pa, hpM]; exact hr_37⟩) dX7_moment_77
      · skip
        refine lv_aload_n hx hb dX7_moment_63 rfl (lv_at hl 0 rfl) ?_
        refine ag_XP_X7_10_this X w.1 dX7_moment_64 ?_
        refine gc_i (C := RX5) (ci := 4) (rest := []) (w := (fun q9 : RS => w5 G (ad 0) q9)) (wr := [((a 0), .inr (6, [.ref ((ad 0) 0), .ref ((ad 1) 0), .ref (ad 2 0), .ref (ad 3 0), .int (zt.1 4), .ref (ad 5 0), .ref (ad 6 0), .ref (a 8)])), ((a 8), .inl (G.2.2.2, 4, .inr (.inr (.inr (.inr (fun j => some (ad (10 + j) 0))))))), (((ad 1) 0), .inr (3, [.int (z_50.2.1 0), .int (z_50.2.1 1), .ref ((ad 1) 3), .ref ((ad 1) 4), .ref ((ad 1) 5), .ref ((ad 1) 6)])), (((ad 1) 3), .inl (G.2.1, 40, .inl (z_50.2.2.1 2))), (((ad 1) 4), .inl (G.2.1, 8, .inl (z_50.2.2.1 3))), (((ad 1) 5), .inl (G.2.1, 8, .inl (z_50.2.2.1 4))), (((ad 1) 6), .inl (G.2.1, 8, .inl (z_50.2.2.1 5)))]) (wn := (fun u9 => wO G a ad zt ++ w5 G (ad 0) (((u9, z_50.2))).1 ++ w4 G (ad 1) (((u9, z_50.2))).2)) X hml hl.1 (c5_fightFirst l G (ad 0) z_50.1 (sN S 3 (S.1 3 + 1)) hM hoM (show ¬ S.1 4 = 0 by omega) (show S.1 3 + 1 < 99999 by omega) (show 1 ≤ S.1 1 by omega)) ok5_fightFirst wm_X7_150 ⟨Nat.le_of_ble_eq_true rfl, Nat.le_of_ble_eq_true rfl⟩ ⟨Nat.le_refl _, Nat.le_refl _⟩ w [2, 3, 4, 5, 6, 7, 8, 9] [0, 1, 10, 11, 12, 13, 14] [0, 1, 7, 8, 9, 10, 11, 12, 13, 14, 2, 3, 4, 5, 6] rfl (by decide) rfl (by decide) (by decide) (fun _ => rfl) (by decide) rfl rfl rfl (Nat.le_of_ble_eq_true rfl) dX7_moment_67 (fun r_67 u_67 H locs hr_67 w => ?_)
        obtain ⟨z_67, ez_67⟩ : ∃ q9 : RS × RS, q9 = (u_67, z_50.2) := ⟨_, rfl⟩
        have w : cW G A s (wO G a ad zt ++ w5 G (ad 0) z_67.1 ++ w4 G (ad 1) z_67.2) H locs := by rw [ez_67]; exact w
        have eu_67_sc : z_67.1 = u_67 := by rw [ez_67]
        rw [← eu_67_sc] at hr_67
        have ek_67_pa : z_67.2 = z_50.2 := by rw [ez_67]
        have e9 := ff_fg (S := S) (T := (sN S 3 (S.1 3 + 1))) rfl
        rw [e9.1, e9.2] at hr_67
        obtain ⟨hr_67, hW67⟩ := hr_67
        subst hr_67
        refine lv_goto (tgt := 77) hx hb dX7_moment_70 (by decide) ?_
        exact ce_i (w := (fun q9 : RS × RS => wO G a ad zt ++ w5 G (ad 0) q9.1 ++ w4 G (ad 1) q9.2)) (z := z_67) X hr hk w (⟨by unfold an_mom; rw [if_pos (by omega), if_neg (by omega), if_neg (by omega)], by unfold nx_mom; rw [if_pos (by omega), if_neg (by omega)]; exact hW67, by rw [if_pos (by omega), ek_67_pa, hpM]; exact hr_37⟩) dX7_moment_77
    · skip
      refine lv_bipush (v := (iZ (-3))) hx hb dX7_moment_26 (by decide) ?_
      exact ce_i (w := (fun q9 : RS × RS => wO G a ad zt ++ w5 G (ad 0) q9.1 ++ w4 G (ad 1) q9.2)) (z := z) X hr hk w (⟨by unfold an_mom; rw [if_pos (by omega), if_pos (by omega)], by unfold nx_mom; rw [if_neg (by omega)]; exact hT, by rw [if_neg (by omega)]; exact hp⟩) dX7_moment_28
  · skip
    refine lv_bipush (v := (iZ (-2))) hx hb dX7_moment_10 (by decide) ?_
    exact ce_i (w := (fun q9 : RS × RS => wO G a ad zt ++ w5 G (ad 0) q9.1 ++ w4 G (ad 1) q9.2)) (z := z) X hr hk w (⟨by unfold an_mom; rw [if_neg (by omega)], by unfold nx_mom; rw [if_neg (by omega)]; exact hT, by rw [if_neg (by omega)]; exact hp⟩) dX7_moment_12

theorem ok7_undo : cOk RX7 yX7_undo cX7_undo 1 (some .int) 0 := ⟨wc_X7_undo, wi_X7_undo, ws_X7_undo, wn_X7, rfl, by decide, by decide, by decide +kernel⟩
set_option maxHeartbeats 4000000 in
set_option maxRecDepth 100000 in
theorem c7_undo (l : Launch) (G : CG) (a : Nat → Nat) (ad : Nat → Nat → Nat) (zt : RS) (z : RS × RS)  (S : Sc) (hT : cSc z.1 S) (ho : oSc S) (u x : Nat) (P : Nat → Nat → Int32) (hp : cPa z.2 u x P (S.1 1))  : cMi G l yX7_undo cX7_undo 1 (some .int) 2 121 [.ref (a 0)] (fun q9 : RS × RS => wO G a ad zt ++ w5 G (ad 0) q9.1 ++ w4 G (ad 1) q9.2) z (fun r z9 => r = (if u = 0 then iZ (-4) else nI (u - 1)) ∧ (u = 0 → cSc z9.1 S ∧ cPa z9.2 u x P (S.1 1)) ∧ (¬ u = 0 → cPa z9.2 (u - 1) ((x + 8 - 1) % 8) P (S.1 1) ∧ cBk z.1 z9.1 (P (u - 1)) (S.1 1))) := by
  refine cMi_in (by decide) rfl (Nat.le_of_ble_eq_true rfl) ?_
  intro p e s m args below meth c A ls X hml hr hk hl w
  have hx := X.1
  have hb := X.2.1
  have hts := X.2.2.1
  have hown := X.2.2.2.1
  have hl : lv_has ls 1 [(0, .ref (a 0))] := hl
  obtain ⟨o1, o2, o3, o4, o5, o6, oso, oki, osr, opa, ohu, oco⟩ := id ho
  refine lv_aload_n hx hb dX7_undo_0 rfl (lv_at hl 0 rfl) ?_
  refine ag_XP_X7_19_this X w.1 dX7_undo_1 ?_
  refine lv_aload_n hx hb dX7_undo_4 rfl (lv_at hl 0 rfl) ?_
  refine ag_XP_X7_10_this X w.1 dX7_undo_5 ?_
  refine gc_i (C := RX4) (ci := 3) (rest := []) (w := (fun q9 : RS × RS => w4 G (ad 1) q9.1 ++ w5 G (ad 0) q9.2)) (wr := [((a 0), .inr (6, [.ref ((ad 0) 0), .ref ((ad 1) 0), .ref (ad 2 0), .ref (ad 3 0), .int (zt.1 4), .ref (ad 5 0), .ref (ad 6 0), .ref (a 8)])), ((a 8), .inl (G.2.2.2, 4, .inr (.inr (.inr (.inr (fun j => some (ad (10 + j) 0)))))))]) (wn := (fun u9 => wO G a ad zt ++ w5 G (ad 0) (((u9.2, ((z.1, u9.1)).2))).1 ++ w4 G (ad 1) (((u9.2, ((z.1, u9.1)).2))).2)) X hml hl.1 (c4_bringBack l G (ad 1) (ad 0) (z.2, z.1) u x P (S.1 1) hp) ok4_bringBack wm_X7_166 ⟨Nat.le_of_ble_eq_true rfl, Nat.le_of_ble_eq_true rfl⟩ ⟨Nat.le_refl _, Nat.le_refl _⟩ w [10, 11, 12, 13, 14, 2, 3, 4, 5, 6, 7, 8, 9] [0, 1] [0, 1, 7, 8, 9, 10, 11, 12, 13, 14, 2, 3, 4, 5, 6] rfl (by decide) rfl (by decide) (by decide) (fun _ => rfl) (by decide) rfl rfl rfl (Nat.le_of_ble_eq_true rfl) dX7_undo_8 (fun r_8 u_8 H locs hr_8 w => ?_)
  obtain ⟨z_8, ez_8⟩ : ∃ q9 : RS × RS, q9 = (u_8.2, ((z.1, u_8.1)).2) := ⟨_, rfl⟩
  have w : cW G A s (wO G a ad zt ++ w5 G (ad 0) z_8.1 ++ w4 G (ad 1) z_8.2) H locs := by rw [ez_8]; exact w
  have eu_8_pa : z_8.2 = u_8.1 := by rw [ez_8]
  try rw [← eu_8_pa] at hr_8
  have eu_8_sc : z_8.1 = u_8.2 := by rw [ez_8]
  try rw [← eu_8_sc] at hr_8
  have H8 : (u = 0 ∧ r_8 = nI 0 ∧ z_8 = z) ∨ (0 < u ∧ r_8 = nI 1 ∧ cPa z_8.2 (u - 1) ((x + 8 - 1) % 8) P (S.1 1) ∧ cBk z.1 z_8.1 (P (u - 1)) (S.1 1)) := by rcases hr_8 with g1 | g1; exact Or.inl ⟨g1.1, g1.2.1, by rw [ez_8, g1.2.2]⟩; exact Or.inr g1
  have h8 : r_8 = nI (if u = 0 then 0 else 1) := by rcases H8 with g1 | g1; rw [if_pos g1.1]; exact g1.2.1; rw [if_neg (by omega)]; exact g1.2.1
  refine tp_i h8 ?_
  have d8 : ((if u = 0 then 0 else 1) = 0 ∧ u = 0) ∨ ((if u = 0 then 0 else 1) = 1 ∧ ¬ u = 0) := by by_cases g1 : u = 0; rw [if_pos g1]; exact Or.inl ⟨rfl, g1⟩; rw [if_neg g1]; exact Or.inr ⟨rfl, g1⟩
  refine n_if_eq (tgt := 24) hx hb dX7_undo_11 (by decide) (by omega) (fun c_11_1 => ?_) (fun c_11_1 => ?_)
  · skip
    refine lv_bipush (v := (iZ (-4))) hx hb dX7_undo_24 (by decide) ?_
    exact ce_i (w := (fun q9 : RS × RS => wO G a ad zt ++ w5 G (ad 0) q9.1 ++ w4 G (ad 1) q9.2)) (z := z_8) X hr hk w (⟨by rw [if_pos (by omega)], fun g0 => by rcases H8 with g1 | g1; rw [g1.2.2]; exact ⟨hT, hp⟩; exact absurd g0 (by omega), fun g0 => absurd g0 (by omega)⟩) dX7_undo_26
  · skip
    refine lv_aload_n hx hb dX7_undo_14 rfl (lv_at hl 0 rfl) ?_
    refine ag_XP_X7_19_this X w.1 dX7_undo_15 ?_
    refine ag_XP_X7_137_pa X w.1 dX7_undo_18 ?_
    refine tp_i (show z_8.2.1 0 = (nI (u - 1)) from (by rcases H8 with g1 | g1; exact absurd g1.1 (by omega); exact g1.2.2.1.1)) ?_
    refine lv_goto (tgt := 26) hx hb dX7_undo_21 (by decide) ?_
    exact ce_i (w := (fun q9 : RS × RS => wO G a ad zt ++ w5 G (ad 0) q9.1 ++ w4 G (ad 1) q9.2)) (z := z_8) X hr hk w (⟨by rw [if_neg (by omega)], fun g0 => absurd g0 (by omega), fun _ => by rcases H8 with g1 | g1; exact absurd g1.1 (by omega); exact g1.2.2⟩) dX7_undo_26
