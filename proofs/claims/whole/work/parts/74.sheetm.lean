section Lm_c6_isThere
variable {p : Program} {l : Launch} {e : Env} {R : Room} {s : State} {m : MethodId} {args : Array Value} {below : List Frame} {meth : Method} {c : Code} {H : Heap} {locs : List Loc} {cells slots : Nat} {Q : State → Prop}
variable {cc : ByteArray} {pc : Nat} {ls : Array Slot} {rest : List Value} {G : CG} {A : Nat → Prop}
theorem ag_H_X6_11_this {a : Nat → Nat} {z : RS} (X : cX RX6 G A p c cc s args m) (w : va_P G.1 vwCl (w6 G a z) H) (hdg : decode cc pc = .ok (.getfield 11, 3)) (kk : W p l e R s m args below meth c H locs cells slots Q (F0 m (pc + 3) ls (.int (z.1 0) :: rest))) : W p l e R s m args below meth c H locs cells slots Q (F0 m pc ls (.ref (a 0) :: rest)) :=
  va_get (D := G.1) (ci := 5) (v := .int (z.1 0)) (C := RX6) (T := TX6) (N := 3) X.1 X.2.1 X.2.2.1 gX6 X.2.2.2.1 X.2.2.2.2.1.1 w 0 rfl rfl 0 (by decide) (X.2.2.1 _ wf_X6_11) (fun _ h9 => h9) rfl hdg kk
end Lm_c6_isThere
theorem ok6_isThere : cOk RX6 yX6_isThere cX6_isThere 1 (some .boolean) 0 := ⟨wc_X6_isThere, wi_X6_isThere, ws_X6_isThere, wn_X6, rfl, by decide, by decide, by decide +kernel⟩
set_option maxHeartbeats 4000000 in
set_option maxRecDepth 100000 in
theorem c6_isThere (l : Launch) (G : CG) (a : Nat → Nat) (z : RS)  (L N9 : Nat → Nat) (I9 : Nat → Nat → Int64) (t : Nat) (hs : cSt z (L t) (N9 t) (I9 t))  : cMp G l yX6_isThere cX6_isThere 1 (some .boolean) 0 0 [.ref (a 0)] (w6 G a z) (fun r => r = nI (if L t = 0 then 0 else 1)) := by
  refine cMp_in (by decide) rfl (Nat.le_of_ble_eq_true rfl) ?_
  intro p e s m args below meth c ls X hml hr hk hl w
  have hx := X.1
  have hb := X.2.1
  have hts := X.2.2.1
  have hown := X.2.2.2.1
  have hl : lv_has ls 1 [(0, .ref (a 0))] := hl
  obtain ⟨s1, s2, s3, s4, s5⟩ := id hs
  refine lv_aload_n hx hb dX6_isThere_0 rfl (lv_at hl 0 rfl) ?_
  refine ag_H_X6_11_this X w dX6_isThere_1 ?_
  refine tp_i (show z.1 0 = (iZ (((L t : Nat) : Int) - (1 : Int))) from s1) ?_
  refine lv_iconst (v := (iZ (-1))) hx hb dX6_isThere_4 (by decide) ?_
  refine jn (tgt := 13) (rest := []) (fun v9 => ∃ x9 : Nat, x9 = (if (((L t : Nat) : Int) - (1 : Int)) = (-1) then 0 else 1) ∧ v9 = nI x9) (fun v_ hv_ => ?_) (fun k_13 => ?_)
  · obtain ⟨x_13, ex_13, rfl⟩ := hv_
    exact re_pz hx hb hr hk (by rw [ex_13]; split; exact Or.inl rfl; exact Or.inr rfl) (by rw [ex_13]; refine congrArg nI ?_; by_cases q : L t = 0; rw [if_pos q, if_pos (by omega)]; rw [if_neg q, if_neg (by omega)]) dX6_isThere_13
  · skip
    refine z_icmp_eq (tgt := 12) hx hb dX6_isThere_5 (by decide) (by omega) (by omega) (by omega) (by omega) (fun c_5_2 => ?_) (fun c_5_2 => ?_)
    · skip
      refine lv_iconst (v := (nI 0)) hx hb dX6_isThere_12 (by decide) ?_
      exact k_13 _ ⟨_, by simp only [if_pos c_5_2], rfl⟩
    · skip
      refine lv_iconst (v := (nI 1)) hx hb dX6_isThere_8 (by decide) ?_
      refine lv_goto (tgt := 13) hx hb dX6_isThere_9 (by decide) ?_
      exact k_13 _ ⟨_, by simp only [if_neg c_5_2], rfl⟩

section Lm_c6_holds
variable {p : Program} {l : Launch} {e : Env} {R : Room} {s : State} {m : MethodId} {args : Array Value} {below : List Frame} {meth : Method} {c : Code} {H : Heap} {locs : List Loc} {cells slots : Nat} {Q : State → Prop}
variable {cc : ByteArray} {pc : Nat} {ls : Array Slot} {rest : List Value} {G : CG} {A : Nat → Prop}
theorem ag_H_X6_19_this {a : Nat → Nat} {z : RS} (X : cX RX6 G A p c cc s args m) (w : va_P G.1 vwCl (w6 G a z) H) (hdg : decode cc pc = .ok (.getfield 19, 3)) (kk : W p l e R s m args below meth c H locs cells slots Q (F0 m (pc + 3) ls (.int (z.1 1) :: rest))) : W p l e R s m args below meth c H locs cells slots Q (F0 m pc ls (.ref (a 0) :: rest)) :=
  va_get (D := G.1) (ci := 5) (v := .int (z.1 1)) (C := RX6) (T := TX6) (N := 3) X.1 X.2.1 X.2.2.1 gX6 X.2.2.2.1 X.2.2.2.2.1.1 w 0 rfl rfl 1 (by decide) (X.2.2.1 _ wf_X6_19) (fun _ h9 => h9) rfl hdg kk
end Lm_c6_holds
theorem ok6_holds : cOk RX6 yX6_holds cX6_holds 3 (some .boolean) 2 := ⟨wc_X6_holds, wi_X6_holds, ws_X6_holds, wn_X6, rfl, by decide, by decide, by decide +kernel⟩
set_option maxHeartbeats 4000000 in
set_option maxRecDepth 100000 in
theorem c6_holds (l : Launch) (G : CG) (a : Nat → Nat) (z : RS) (ia9 : Int32) (na9 : Int32) (L N9 : Nat → Nat) (I9 : Nat → Nat → Int64) (t : Nat) (hs : cSt z (L t) (N9 t) (I9 t))  : cMp G l yX6_holds cX6_holds 3 (some .boolean) 0 0 [.ref (a 0), .int ia9, .int na9] (w6 G a z) (fun r => r = nI (pw_h (N9 t) ia9.toInt na9.toInt)) := by
  refine cMp_in (by decide) rfl (Nat.le_of_ble_eq_true rfl) ?_
  intro p e s m args below meth c ls X hml hr hk hl w
  have hx := X.1
  have hb := X.2.1
  have hts := X.2.2.1
  have hown := X.2.2.2.1
  have hl : lv_has ls 3 [(0, .ref (a 0)), (1, .int ia9), (2, .int na9)] := hl
  obtain ⟨s1, s2, s3, s4, s5⟩ := id hs
  refine lv_iload_n hx hb dX6_holds_0 rfl (lv_at hl 1 rfl) ?_
  refine jn (tgt := 31) (rest := []) (fun v9 => ∃ x9 : Nat, x9 = (if ia9 < 0 then 0 else (if na9 < 0 then 0 else (if ((nI (N9 t))) < na9 then 0 else (if ((nI (N9 t)) - na9) < ia9 then 0 else 1)))) ∧ v9 = nI x9) (fun v_ hv_ => ?_) (fun k_31 => ?_)
  · obtain ⟨x_31, ex_31, rfl⟩ := hv_
    exact re_pz hx hb hr hk (by rw [h_x s4 ex_31]; unfold pw_h; split; exact Or.inr rfl; exact Or.inl rfl) (by rw [h_x s4 ex_31]) dX6_holds_31
  · skip
    refine lv_if_lt (tgt := 30) hx hb dX6_holds_1 (by decide) (fun c_1_2 => ?_) (fun c_1_2 => ?_)
    · skip
      refine lv_iconst (v := (nI 0)) hx hb dX6_holds_30 (by decide) ?_
      exact k_31 _ ⟨_, by simp only [if_pos c_1_2], rfl⟩
    · skip
      refine lv_iload_n hx hb dX6_holds_4 rfl (lv_at hl 2 rfl) ?_
      refine lv_if_lt (tgt := 30) hx hb dX6_holds_5 (by decide) (fun c_5_3 => ?_) (fun c_5_3 => ?_)
      · skip
        refine lv_iconst (v := (nI 0)) hx hb dX6_holds_30 (by decide) ?_
        exact k_31 _ ⟨_, by simp only [if_neg c_1_2, if_pos c_5_3], rfl⟩
      · skip
        refine lv_iload_n hx hb dX6_holds_8 rfl (lv_at hl 2 rfl) ?_
        refine lv_aload_n hx hb dX6_holds_9 rfl (lv_at hl 0 rfl) ?_
        refine ag_H_X6_19_this X w dX6_holds_10 ?_
        refine tp_i (show z.1 1 = (nI (N9 t)) from s2) ?_
        refine lv_icmp_gt (tgt := 30) hx hb dX6_holds_13 (by decide) (fun c_13_4 => ?_) (fun c_13_4 => ?_)
        · skip
          refine lv_iconst (v := (nI 0)) hx hb dX6_holds_30 (by decide) ?_
          exact k_31 _ ⟨_, by simp only [if_neg c_1_2, if_neg c_5_3, if_pos c_13_4], rfl⟩
        · skip
          refine lv_iload_n hx hb dX6_holds_16 rfl (lv_at hl 1 rfl) ?_
          refine lv_aload_n hx hb dX6_holds_17 rfl (lv_at hl 0 rfl) ?_
          refine ag_H_X6_19_this X w dX6_holds_18 ?_
          refine tp_i (show z.1 1 = (nI (N9 t)) from s2) ?_
          refine lv_iload_n hx hb dX6_holds_21 rfl (lv_at hl 2 rfl) ?_
          refine lv_isub hx hb dX6_holds_22 ?_
          refine lv_icmp_gt (tgt := 30) hx hb dX6_holds_23 (by decide) (fun c_23_5 => ?_) (fun c_23_5 => ?_)
          · skip
            refine lv_iconst (v := (nI 0)) hx hb dX6_holds_30 (by decide) ?_
            exact k_31 _ ⟨_, by simp only [if_neg c_1_2, if_neg c_5_3, if_neg c_13_4, if_pos c_23_5], rfl⟩
          · skip
            refine lv_iconst (v := (nI 1)) hx hb dX6_holds_26 (by decide) ?_
            refine lv_goto (tgt := 31) hx hb dX6_holds_27 (by decide) ?_
            exact k_31 _ ⟨_, by simp only [if_neg c_1_2, if_neg c_5_3, if_neg c_13_4, if_neg c_23_5], rfl⟩

theorem ok6_refusal : cOk RX6 yX6_refusal cX6_refusal 4 (some .int) 3 := ⟨wc_X6_refusal, wi_X6_refusal, ws_X6_refusal, wn_X6, rfl, by decide, by decide, by decide +kernel⟩
set_option maxHeartbeats 4000000 in
set_option maxRecDepth 100000 in
theorem c6_refusal (l : Launch) (G : CG) (a : Nat → Nat) (z : RS) (la9 : Nat) (ia9 : Int32) (na9 : Nat) (L N9 : Nat → Nat) (I9 : Nat → Nat → Int64) (t : Nat) (hs : cSt z (L t) (N9 t) (I9 t)) (h1 : la9 ≤ 3) (h2 : na9 ≤ 1000) : cMp G l yX6_refusal cX6_refusal 4 (some .int) 1 22 [.ref (a 0), .int (nI la9), .int ia9, .int (nI na9)] (w6 G a z) (fun r => r = iZ (pw_why L N9 t la9 ia9.toInt na9)) := by
  refine cMp_in (by decide) rfl (Nat.le_of_ble_eq_true rfl) ?_
  intro p e s m args below meth c ls X hml hr hk hl w
  have hx := X.1
  have hb := X.2.1
  have hts := X.2.2.1
  have hown := X.2.2.2.1
  have hl : lv_has ls 4 [(0, .ref (a 0)), (1, .int (nI la9)), (2, .int ia9), (3, .int (nI na9))] := hl
  obtain ⟨s1, s2, s3, s4, s5⟩ := id hs
  refine lv_aload_n hx hb dX6_refusal_0 rfl (lv_at hl 0 rfl) ?_
  refine gc_p (C := RX6) (ci := 5) (rest := []) X hml hl.1 (c6_isThere l G a z  L N9 I9 t hs ) ok6_isThere wm_X6_22 ⟨Nat.le_of_ble_eq_true rfl, Nat.le_of_ble_eq_true rfl⟩ ⟨Nat.le_refl _, Nat.le_refl _⟩ w [0, 1] rfl rfl rfl rfl (Nat.le_of_ble_eq_true rfl) dX6_refusal_1 (fun r_1 hr_1 => ?_)
  subst hr_1
  have d_1 : ((if L t = 0 then 0 else 1) = 0 ∧ L t = 0) ∨ ((if L t = 0 then 0 else 1) = 1 ∧ ¬ L t = 0) := by by_cases q : L t = 0; rw [if_pos q]; exact Or.inl ⟨rfl, q⟩; rw [if_neg q]; exact Or.inr ⟨rfl, q⟩
  refine n_if_ne (tgt := 10) hx hb dX6_refusal_4 (by decide) (by omega) (fun c_4_1 => ?_) (fun c_4_1 => ?_)
  · skip
    refine lv_aload_n hx hb dX6_refusal_10 rfl (lv_at hl 0 rfl) ?_
    refine ag_H_X6_11_this X w dX6_refusal_11 ?_
    refine tp_i (show z.1 0 = (iZ (((L t : Nat) : Int) - (1 : Int))) from s1) ?_
    refine lv_iload_n hx hb dX6_refusal_14 rfl (lv_at hl 1 rfl) ?_
    refine tp_i (iZ_n la9).symm ?_
    refine z_icmp_eq (tgt := 21) hx hb dX6_refusal_15 (by decide) (by omega) (by omega) (by omega) (by omega) (fun c_15_2 => ?_) (fun c_15_2 => ?_)
    · skip
      refine lv_aload_n hx hb dX6_refusal_21 rfl (lv_at hl 0 rfl) ?_
      refine lv_iload_n hx hb dX6_refusal_22 rfl (lv_at hl 2 rfl) ?_
      refine lv_iload_n hx hb dX6_refusal_23 rfl (lv_at hl 3 rfl) ?_
      refine gc_p (C := RX6) (ci := 5) (rest := []) X hml hl.1 (c6_holds l G a z ia9 (nI na9) L N9 I9 t hs) ok6_holds wm_X6_26 ⟨Nat.le_of_ble_eq_true rfl, Nat.le_of_ble_eq_true rfl⟩ ⟨Nat.le_refl _, Nat.le_refl _⟩ w [0, 1] rfl rfl rfl rfl (Nat.le_of_ble_eq_true rfl) dX6_refusal_24 (fun r_24 hr_24 => ?_)
      subst hr_24
      refine tp_i (congrArg nI (by rw [show (ia9).toInt = ia9.toInt from rfl, show ((nI na9)).toInt = ((na9 : Nat) : Int) from (nI_toInt (by omega))] : _ = pw_h (N9 t) ia9.toInt (((na9 : Nat) : Int)))) ?_
      have d_24 := h_ok (N9 t) ia9.toInt (((na9 : Nat) : Int))
      refine n_if_eq (tgt := 34) hx hb dX6_refusal_27 (by decide) (by omega) (fun c_27_3 => ?_) (fun c_27_3 => ?_)
      · skip
        refine lv_bipush (v := (iZ (-13))) hx hb dX6_refusal_34 (by decide) ?_
        exact re_p hx hb hr hk (by have d9 := pw_why_ok L N9 t la9 ia9.toInt na9; first | (rw [show pw_why L N9 t la9 ia9.toInt na9 = -11 by omega]) | (rw [show pw_why L N9 t la9 ia9.toInt na9 = -12 by omega]) | (rw [show pw_why L N9 t la9 ia9.toInt na9 = -13 by omega]) | (rw [show pw_why L N9 t la9 ia9.toInt na9 = 0 by omega]; rfl)) dX6_refusal_36
      · skip
        refine lv_iconst (v := (nI 0)) hx hb dX6_refusal_30 (by decide) ?_
        refine lv_goto (tgt := 36) hx hb dX6_refusal_31 (by decide) ?_
        exact re_p hx hb hr hk (by have d9 := pw_why_ok L N9 t la9 ia9.toInt na9; first | (rw [show pw_why L N9 t la9 ia9.toInt na9 = -11 by omega]) | (rw [show pw_why L N9 t la9 ia9.toInt na9 = -12 by omega]) | (rw [show pw_why L N9 t la9 ia9.toInt na9 = -13 by omega]) | (rw [show pw_why L N9 t la9 ia9.toInt na9 = 0 by omega]; rfl)) dX6_refusal_36
    · skip
      refine lv_bipush (v := (iZ (-12))) hx hb dX6_refusal_18 (by decide) ?_
      exact re_p hx hb hr hk (by have d9 := pw_why_ok L N9 t la9 ia9.toInt na9; first | (rw [show pw_why L N9 t la9 ia9.toInt na9 = -11 by omega]) | (rw [show pw_why L N9 t la9 ia9.toInt na9 = -12 by omega]) | (rw [show pw_why L N9 t la9 ia9.toInt na9 = -13 by omega]) | (rw [show pw_why L N9 t la9 ia9.toInt na9 = 0 by omega]; rfl)) dX6_refusal_20
  · skip
    refine lv_bipush (v := (iZ (-11))) hx hb dX6_refusal_7 (by decide) ?_
    exact re_p hx hb hr hk (by have d9 := pw_why_ok L N9 t la9 ia9.toInt na9; first | (rw [show pw_why L N9 t la9 ia9.toInt na9 = -11 by omega]) | (rw [show pw_why L N9 t la9 ia9.toInt na9 = -12 by omega]) | (rw [show pw_why L N9 t la9 ia9.toInt na9 = -13 by omega]) | (rw [show pw_why L N9 t la9 ia9.toInt na9 = 0 by omega]; rfl)) dX6_refusal_9

section Lm_c6_itemAt
variable {p : Program} {l : Launch} {e : Env} {R : Room} {s : State} {m : MethodId} {args : Array Value} {below : List Frame} {meth : Method} {c : Code} {H : Heap} {locs : List Loc} {cells slots : Nat} {Q : State → Prop}
variable {cc : ByteArray} {pc : Nat} {ls : Array Slot} {rest : List Value} {G : CG} {A : Nat → Prop}
theorem ag_H_X6_15_this {a : Nat → Nat} {z : RS} (X : cX RX6 G A p c cc s args m) (w : va_P G.1 vwCl (w6 G a z) H) (hdg : decode cc pc = .ok (.getfield 15, 3)) (kk : W p l e R s m args below meth c H locs cells slots Q (F0 m (pc + 3) ls (.ref (a 3) :: rest))) : W p l e R s m args below meth c H locs cells slots Q (F0 m pc ls (.ref (a 0) :: rest)) :=
  va_get (D := G.1) (ci := 5) (v := .ref (a 3)) (C := RX6) (T := TX6) (N := 3) X.1 X.2.1 X.2.2.1 gX6 X.2.2.2.1 X.2.2.2.2.1.1 w 0 rfl rfl 2 (by decide) (X.2.2.1 _ wf_X6_15) (fun _ h9 => h9) rfl hdg kk
theorem an_H_this_2 {own : String} {a : Nat → Nat} {z : RS} {j : Nat} (X : cX own G A p c cc s args m) (w : va_P G.1 vwCl (w6 G a z) H) (hj : j < 24) (hdg : decode cc pc = .ok (.laload, 1)) (kk : W p l e R s m args below meth c H locs cells slots Q (F0 m (pc + 1) ls (.long (z.2.2 2 j) :: rest))) : W p l e R s m args below meth c H locs cells slots Q (F0 m pc ls (.int (nI j) :: .ref (a 3) :: rest)) :=
  va_lald X.1 X.2.1 X.2.2.2.2.1.1 w 1 1 rfl rfl (vp_in_nI hj (by decide)) hdg (by rw [nI_clamp (by omega)]; exact kk)
end Lm_c6_itemAt
theorem ok6_itemAt : cOk RX6 yX6_itemAt cX6_itemAt 2 (some .long) 1 := ⟨wc_X6_itemAt, wi_X6_itemAt, ws_X6_itemAt, wn_X6, rfl, by decide, by decide, by decide +kernel⟩
set_option maxHeartbeats 4000000 in
set_option maxRecDepth 100000 in
theorem c6_itemAt (l : Launch) (G : CG) (a : Nat → Nat) (z : RS) (ia9 : Nat) (L N9 : Nat → Nat) (I9 : Nat → Nat → Int64) (t : Nat) (hs : cSt z (L t) (N9 t) (I9 t)) (h1 : ia9 ≤ 100000) : cMl G l yX6_itemAt cX6_itemAt 2 (some .long) 1 22 [.ref (a 0), .int (nI ia9)] (w6 G a z) (fun r => r = if ia9 < N9 t then I9 t ia9 else 0) := by
  refine cMl_in (by decide) rfl (Nat.le_of_ble_eq_true rfl) ?_
  intro p e s m args below meth c ls X hml hr hk hl w
  have hx := X.1
  have hb := X.2.1
  have hts := X.2.2.1
  have hown := X.2.2.2.1
  have hl : lv_has ls 2 [(0, .ref (a 0)), (1, .int (nI ia9))] := hl
  obtain ⟨s1, s2, s3, s4, s5⟩ := id hs
  refine lv_aload_n hx hb dX6_itemAt_0 rfl (lv_at hl 0 rfl) ?_
  refine lv_iload_n hx hb dX6_itemAt_1 rfl (lv_at hl 1 rfl) ?_
  refine lv_iconst (v := (nI 1)) hx hb dX6_itemAt_2 (by decide) ?_
  refine gc_p (C := RX6) (ci := 5) (rest := []) X hml hl.1 (c6_holds l G a z (nI ia9) (nI 1) L N9 I9 t hs) ok6_holds wm_X6_26 ⟨Nat.le_of_ble_eq_true rfl, Nat.le_of_ble_eq_true rfl⟩ ⟨Nat.le_refl _, Nat.le_refl _⟩ w [0, 1] rfl rfl rfl rfl (Nat.le_of_ble_eq_true rfl) dX6_itemAt_3 (fun r_3 hr_3 => ?_)
  subst hr_3
  refine tp_i (congrArg nI (by rw [show ((nI ia9)).toInt = ((ia9 : Nat) : Int) from (nI_toInt (by omega)), show ((nI 1)).toInt = (1 : Int) from (by decide)] : _ = pw_h (N9 t) (((ia9 : Nat) : Int)) ((1 : Int)))) ?_
  have d_3 := h_ok (N9 t) (((ia9 : Nat) : Int)) ((1 : Int))
  refine n_if_eq (tgt := 18) hx hb dX6_itemAt_6 (by decide) (by omega) (fun c_6_1 => ?_) (fun c_6_1 => ?_)
  · skip
    refine lv_lconst (v := 0) hx hb dX6_itemAt_18 (by decide) ?_
    exact re_l hx hb hr hk (by rw [if_neg (by omega)]) dX6_itemAt_19
  · skip
    refine lv_aload_n hx hb dX6_itemAt_9 rfl (lv_at hl 0 rfl) ?_
    refine ag_H_X6_15_this X w dX6_itemAt_10 ?_
    refine lv_iload_n hx hb dX6_itemAt_13 rfl (lv_at hl 1 rfl) ?_
    refine an_H_this_2 X w (by omega) dX6_itemAt_14 ?_
    refine lv_goto (tgt := 19) hx hb dX6_itemAt_15 (by decide) ?_
    exact re_l hx hb hr hk (by rw [if_pos (by omega)]; exact s5 ia9 (by omega)) dX6_itemAt_19

theorem ok6_lowestBits : cOk RX6 yX6_lowestBits cX6_lowestBits 3 (some .long) 1 := ⟨wc_X6_lowestBits, wi_X6_lowestBits, ws_X6_lowestBits, wn_X6, rfl, by decide, by decide, by decide +kernel⟩
set_option maxHeartbeats 4000000 in
set_option maxRecDepth 100000 in
theorem c6_lowestBits (l : Launch) (G : CG) (a : Nat → Nat) (z : RS) (va9 : Int64) (L N9 : Nat → Nat) (I9 : Nat → Nat → Int64) (t : Nat) (hs : cSt z (L t) (N9 t) (I9 t))  : cMl G l yX6_lowestBits cX6_lowestBits 3 (some .long) 0 0 [.ref (a 0), .long (va9)] (w6 G a z) (fun r => r = pw_low (L t) va9) := by
  refine cMl_in (by decide) rfl (Nat.le_of_ble_eq_true rfl) ?_
  intro p e s m args below meth c ls X hml hr hk hl w
  have hx := X.1
  have hb := X.2.1
  have hts := X.2.2.1
  have hown := X.2.2.2.1
  have hl : lv_has ls 3 [(0, .ref (a 0)), (1, .long (va9))] := hl
  obtain ⟨s1, s2, s3, s4, s5⟩ := id hs
  have s6 : ((iZ (((L t : Nat) : Int) - (1 : Int))).toInt) = ((L t : Nat) : Int) - (1 : Int) := iZ_toInt (by omega) (by omega)
  refine lv_aload_n hx hb dX6_lowestBits_0 rfl (lv_at hl 0 rfl) ?_
  refine ag_H_X6_11_this X w dX6_lowestBits_1 ?_
  refine tp_i (show z.1 0 = (iZ (((L t : Nat) : Int) - (1 : Int))) from s1) ?_
  by_cases qlo : (iZ (((L t : Nat) : Int) - (1 : Int))).toInt < 0
  · skip
    refine lv_tableOut (tgt := 46) hx hb dX6_lowestBits_4 (Or.inl qlo) (by decide) ?_
    refine lv_lload_n hx hb dX6_lowestBits_46 rfl (lv_at hl 1 rfl) ?_
    exact re_l hx hb hr hk ((low_3 (by omega)).symm) dX6_lowestBits_47
  by_cases qhi : (2 : Int) < (iZ (((L t : Nat) : Int) - (1 : Int))).toInt
  · skip
    refine lv_tableOut (tgt := 46) hx hb dX6_lowestBits_4 (Or.inr qhi) (by decide) ?_
    refine lv_lload_n hx hb dX6_lowestBits_46 rfl (lv_at hl 1 rfl) ?_
    exact re_l hx hb hr hk ((low_3 (by omega)).symm) dX6_lowestBits_47
  rcases (show (iZ (((L t : Nat) : Int) - (1 : Int))).toInt = 0 ∨ (iZ (((L t : Nat) : Int) - (1 : Int))).toInt = 1 ∨ (iZ (((L t : Nat) : Int) - (1 : Int))).toInt = 2 by omega) with qsw | qsw | qsw
  · skip
    refine lv_tableIn (off := 28) (tgt := 32) hx hb dX6_lowestBits_4 qlo qhi (by rw [qsw]; rfl) (by decide) ?_
    refine lv_lload_n hx hb dX6_lowestBits_32 rfl (lv_at hl 1 rfl) ?_
    refine lv_l2i (v := (va9).toInt32) hx hb dX6_lowestBits_33 rfl ?_
    refine lv_i2b (v := ((va9).toInt32).toInt8.toInt32) hx hb dX6_lowestBits_34 rfl ?_
    refine lv_i2l (v := ((va9).toInt32).toInt8.toInt32.toInt64) hx hb dX6_lowestBits_35 rfl ?_
    exact re_l hx hb hr hk ((low_0 (by omega)).symm) dX6_lowestBits_36
  · skip
    refine lv_tableIn (off := 33) (tgt := 37) hx hb dX6_lowestBits_4 qlo qhi (by rw [qsw]; rfl) (by decide) ?_
    refine lv_lload_n hx hb dX6_lowestBits_37 rfl (lv_at hl 1 rfl) ?_
    refine lv_l2i (v := (va9).toInt32) hx hb dX6_lowestBits_38 rfl ?_
    refine lv_i2s (v := ((va9).toInt32).toInt16.toInt32) hx hb dX6_lowestBits_39 rfl ?_
    refine lv_i2l (v := ((va9).toInt32).toInt16.toInt32.toInt64) hx hb dX6_lowestBits_40 rfl ?_
    exact re_l hx hb hr hk ((low_1 (by omega)).symm) dX6_lowestBits_41
  · skip
    refine lv_tableIn (off := 38) (tgt := 42) hx hb dX6_lowestBits_4 qlo qhi (by rw [qsw]; rfl) (by decide) ?_
    refine lv_lload_n hx hb dX6_lowestBits_42 rfl (lv_at hl 1 rfl) ?_
    refine lv_l2i (v := (va9).toInt32) hx hb dX6_lowestBits_43 rfl ?_
    refine lv_i2l (v := (va9).toInt32.toInt64) hx hb dX6_lowestBits_44 rfl ?_
    exact re_l hx hb hr hk ((low_2 (by omega)).symm) dX6_lowestBits_45

section Lm_c6_put
variable {p : Program} {l : Launch} {e : Env} {R : Room} {s : State} {m : MethodId} {args : Array Value} {below : List Frame} {meth : Method} {c : Code} {H : Heap} {locs : List Loc} {cells slots : Nat} {Q : State → Prop}
variable {cc : ByteArray} {pc : Nat} {ls : Array Slot} {rest : List Value} {G : CG} {A : Nat → Prop}
theorem au_H_this_2 {own : String} {a : Nat → Nat} {z : RS} {j : Nat} {v : Int64} (X : cX own G A p c cc s args m) (w : cW G A s (w6 G a z) H locs) (hj : j < 24) (hdg : decode cc pc = .ok (.lastore, 1)) (kk : ∀ (z1 : RS) (H : Heap) (locs : List Loc), z1 = (sL z 2 j v) → cW G A s (w6 G a z1) H locs → W p l e R s m args below meth c H locs cells slots Q (F0 m (pc + 1) ls rest)) : W p l e R s m args below meth c H locs cells slots Q (F0 m pc ls (.long v :: .int (nI j) :: .ref (a 3) :: rest)) := by
  refine va_last X.1 X.2.1 X.2.2.2.2.1.1 w.1 w.2.1 w.2.2 1 1 rfl rfl (vp_in_nI hj (by decide)) hdg ?_
  rw [nI_clamp (by omega)]
  exact fun H1 locs1 hP hD hS => kk _ H1 locs1 rfl ⟨hP, hD, hS⟩
end Lm_c6_put
theorem ok6_put : cOk RX6 yX6_put cX6_put 4 none 2 := ⟨wc_X6_put, wi_X6_put, ws_X6_put, wn_X6, rfl, by decide, by decide, by decide +kernel⟩
set_option maxHeartbeats 4000000 in
set_option maxRecDepth 100000 in
theorem c6_put (l : Launch) (G : CG) (a : Nat → Nat) (z : RS) (ia9 : Nat) (va9 : Int64) (L N9 : Nat → Nat) (I9 : Nat → Nat → Int64) (t : Nat) (hs : cSt z (L t) (N9 t) (I9 t)) (h1 : ia9 < N9 t) : cMv G l yX6_put cX6_put 4 none 1 22 [.ref (a 0), .int (nI ia9), .long (va9)] (fun q9 : RS => w6 G a q9) z (fun z9 => cSt z9 (L t) (N9 t) (va_up (I9 t) ia9 (pw_low (L t) va9))) := by
  refine cMv_in (by decide) rfl (Nat.le_of_ble_eq_true rfl) ?_
  intro p e s m args below meth c A ls X hml hr hk hl w
  have hx := X.1
  have hb := X.2.1
  have hts := X.2.2.1
  have hown := X.2.2.2.1
  have hl : lv_has ls 4 [(0, .ref (a 0)), (1, .int (nI ia9)), (2, .long (va9))] := hl
  obtain ⟨s1, s2, s3, s4, s5⟩ := id hs
  refine lv_aload_n hx hb dX6_put_0 rfl (lv_at hl 0 rfl) ?_
  refine lv_iload_n hx hb dX6_put_1 rfl (lv_at hl 1 rfl) ?_
  refine lv_iconst (v := (nI 1)) hx hb dX6_put_2 (by decide) ?_
  refine gc_p (C := RX6) (ci := 5) (rest := []) X hml hl.1 (c6_holds l G a z (nI ia9) (nI 1) L N9 I9 t hs) ok6_holds wm_X6_26 ⟨Nat.le_of_ble_eq_true rfl, Nat.le_of_ble_eq_true rfl⟩ ⟨Nat.le_refl _, Nat.le_refl _⟩ w.1 [0, 1] rfl rfl rfl rfl (Nat.le_of_ble_eq_true rfl) dX6_put_3 (fun r_3 hr_3 => ?_)
  subst hr_3
  refine tp_i (congrArg nI (by rw [show ((nI ia9)).toInt = ((ia9 : Nat) : Int) from (nI_toInt (by omega)), show ((nI 1)).toInt = (1 : Int) from (by decide)] : _ = pw_h (N9 t) (((ia9 : Nat) : Int)) ((1 : Int)))) ?_
  have d_3 := h_ok (N9 t) (((ia9 : Nat) : Int)) ((1 : Int))
  refine n_if_eq (tgt := 20) hx hb dX6_put_6 (by decide) (by omega) (fun c_6_1 => ?_) (fun c_6_1 => ?_)
  · skip
    exact absurd h1 (by omega)
  · skip
    refine lv_aload_n hx hb dX6_put_9 rfl (lv_at hl 0 rfl) ?_
    refine ag_H_X6_15_this X w.1 dX6_put_10 ?_
    refine lv_iload_n hx hb dX6_put_13 rfl (lv_at hl 1 rfl) ?_
    refine lv_aload_n hx hb dX6_put_14 rfl (lv_at hl 0 rfl) ?_
    refine lv_lload_n hx hb dX6_put_15 rfl (lv_at hl 2 rfl) ?_
    refine gc_l (C := RX6) (ci := 5) (rest := [.int (nI ia9), .ref (a 3)]) X hml hl.1 (c6_lowestBits l G a z (va9) L N9 I9 t hs) ok6_lowestBits wm_X6_30 ⟨Nat.le_of_ble_eq_true rfl, Nat.le_of_ble_eq_true rfl⟩ ⟨Nat.le_refl _, Nat.le_refl _⟩ w.1 [0, 1] rfl rfl rfl rfl (Nat.le_of_ble_eq_true rfl) dX6_put_16 (fun r_16 hr_16 => ?_)
    subst hr_16
    refine au_H_this_2 X w (by omega) dX6_put_19 (fun z_19 H locs ez_19 w => ?_)
    exact ce_v (w := (fun q9 : RS => w6 G a q9)) (z := z_19) X hr hk w (by rw [ez_19]; exact st_put hs _ _) dX6_put_20

section Lm_c6_hold
variable {p : Program} {l : Launch} {e : Env} {R : Room} {s : State} {m : MethodId} {args : Array Value} {below : List Frame} {meth : Method} {c : Code} {H : Heap} {locs : List Loc} {cells slots : Nat} {Q : State → Prop}
variable {cc : ByteArray} {pc : Nat} {ls : Array Slot} {rest : List Value} {G : CG} {A : Nat → Prop}
theorem ap_H_X6_11_this {a : Nat → Nat} {z : RS} {v : Int32} (X : cX RX6 G A p c cc s args m) (w : cW G A s (w6 G a z) H locs) (hdg : decode cc pc = .ok (.putfield 11, 3)) (kk : ∀ (z1 : RS) (H : Heap) (locs : List Loc), z1 = (sI z 0 v) → cW G A s (w6 G a z1) H locs → W p l e R s m args below meth c H locs cells slots Q (F0 m (pc + 3) ls rest)) : W p l e R s m args below meth c H locs cells slots Q (F0 m pc ls (.int v :: .ref (a 0) :: rest)) :=
  va_put (D := G.1) (ci := 5) (v := .int v) (ty := .int) (C := RX6) (T := TX6) (N := 3) X.1 X.2.1 X.2.2.1 gX6 tyX6 tyX6_ok nmX6 X.2.2.2.1 X.2.2.2.2.1.1 w.1 w.2.1 w.2.2 0 rfl rfl 0 (by decide) (X.2.2.1 _ wf_X6_11) (fun _ h9 => h9) rfl (by decide +kernel) rfl rfl (Nat.le_of_ble_eq_true rfl) hdg (fun H1 locs1 hP hD hS => kk _ H1 locs1 rfl ⟨hP, hD, hS⟩)
theorem ap_H_X6_19_this {a : Nat → Nat} {z : RS} {v : Int32} (X : cX RX6 G A p c cc s args m) (w : cW G A s (w6 G a z) H locs) (hdg : decode cc pc = .ok (.putfield 19, 3)) (kk : ∀ (z1 : RS) (H : Heap) (locs : List Loc), z1 = (sI z 1 v) → cW G A s (w6 G a z1) H locs → W p l e R s m args below meth c H locs cells slots Q (F0 m (pc + 3) ls rest)) : W p l e R s m args below meth c H locs cells slots Q (F0 m pc ls (.int v :: .ref (a 0) :: rest)) :=
  va_put (D := G.1) (ci := 5) (v := .int v) (ty := .int) (C := RX6) (T := TX6) (N := 3) X.1 X.2.1 X.2.2.1 gX6 tyX6 tyX6_ok nmX6 X.2.2.2.1 X.2.2.2.2.1.1 w.1 w.2.1 w.2.2 0 rfl rfl 1 (by decide) (X.2.2.1 _ wf_X6_19) (fun _ h9 => h9) rfl (by decide +kernel) rfl rfl (Nat.le_of_ble_eq_true rfl) hdg (fun H1 locs1 hP hD hS => kk _ H1 locs1 rfl ⟨hP, hD, hS⟩)
end Lm_c6_hold
theorem ok6_hold : cOk RX6 yX6_hold cX6_hold 4 none 2 := ⟨wc_X6_hold, wi_X6_hold, ws_X6_hold, wn_X6, rfl, by decide, by decide, by decide +kernel⟩
set_option maxHeartbeats 4000000 in
set_option maxRecDepth 100000 in
theorem c6_hold (l : Launch) (G : CG) (a : Nat → Nat) (z : RS) (la9 : Nat) (na9 : Nat) (L N9 : Nat → Nat) (I9 : Nat → Nat → Int64) (t : Nat) (hs : cSt z (L t) (N9 t) (I9 t)) (h1 : la9 ≤ 3) (h2 : na9 ≤ 24) : cMv G l yX6_hold cX6_hold 4 none 0 0 [.ref (a 0), .int (nI la9), .int (nI na9)] (fun q9 : RS => w6 G a q9) z (fun z9 => cSt z9 (la9 + 1) na9 (fun _ => 0)) := by
  refine cMv_in (by decide) rfl (Nat.le_of_ble_eq_true rfl) ?_
  intro p e s m args below meth c A ls X hml hr hk hl w
  have hx := X.1
  have hb := X.2.1
  have hts := X.2.2.1
  have hown := X.2.2.2.1
  have hl : lv_has ls 4 [(0, .ref (a 0)), (1, .int (nI la9)), (2, .int (nI na9))] := hl
  obtain ⟨s1, s2, s3, s4, s5⟩ := id hs
  refine lv_aload_n hx hb dX6_hold_0 rfl (lv_at hl 0 rfl) ?_
  refine lv_iload_n hx hb dX6_hold_1 rfl (lv_at hl 1 rfl) ?_
  refine ap_H_X6_11_this X w dX6_hold_2 (fun z_2 H locs ez_2 w => ?_)
  refine lv_aload_n hx hb dX6_hold_5 rfl (lv_at hl 0 rfl) ?_
  refine lv_iload_n hx hb dX6_hold_6 rfl (lv_at hl 2 rfl) ?_
  refine ap_H_X6_19_this X w dX6_hold_7 (fun z_7 H locs ez_7 w => ?_)
  refine lv_iconst (v := (nI 0)) hx hb dX6_hold_10 (by decide) ?_
  refine lv_istore_n (lv' := [(3, .int (nI 0)), (0, .ref (a 0)), (1, .int (nI la9)), (2, .int (nI na9))]) hx hb dX6_hold_11 rfl hl (by decide) rfl (fun ls hl => ?_)
  have lp_12 : ∀ (n_12 : Nat) (i : Nat) (hi : i ≤ 24) (hm_12 : 24 - i < n_12) (ls : Array Slot) (zz : RS) (H : Heap) (locs : List Loc) (w : cW G A s (w6 G a zz) H locs) (hq : zz.1 0 = nI la9 ∧ zz.1 1 = nI na9 ∧ ∀ j, j < i → zz.2.2 2 j = 0), lv_has ls 4 [(0, .ref (a 0)), (1, .int (nI la9)), (2, .int (nI na9)), (3, .int (nI i))] → W p l e (ro_m 0 0) s m args below meth c H locs 0 0 (MQ below (va_Qv (fun z9 => cSt z9 (la9 + 1) na9 (fun _ => 0)) (cB G (fun q9 : RS => w6 G a q9) A) A) args s 0 0 A) (F0 m 12 ls []) := by
    intro n_12
    induction n_12 with
    | zero => intro i hi hm; exact absurd hm (Nat.not_lt_zero _)
    | succ n_12 ih_12 =>
      intro i hi hm_12 ls zz H locs w hq hl
      refine lv_iload_n hx hb dX6_hold_12 rfl (lv_at hl 3 rfl) ?_
      refine lv_bipush (v := (nI 24)) hx hb dX6_hold_13 (by decide) ?_
      refine n_icmp_ge (tgt := 31) hx hb dX6_hold_15 (by decide) (by omega) (by omega) (fun c_15_1 => ?_) (fun c_15_1 => ?_)
      · skip
        exact ce_v (w := (fun q9 : RS => w6 G a q9)) (z := zz) X hr hk w (⟨hq.1.trans (zn1 la9), hq.2.1, by omega, h2, fun j hj => hq.2.2 j (by omega)⟩) dX6_hold_31
      · skip
        refine lv_aload_n hx hb dX6_hold_18 rfl (lv_at hl 0 rfl) ?_
        refine ag_H_X6_15_this X w.1 dX6_hold_19 ?_
        refine lv_iload_n hx hb dX6_hold_22 rfl (lv_at hl 3 rfl) ?_
        refine lv_lconst (v := 0) hx hb dX6_hold_23 (by decide) ?_
        refine au_H_this_2 X w (by omega) dX6_hold_24 (fun z_24 H locs ez_24 w => ?_)
        refine lv_iinc (v := (nI (i + 1))) (lv' := [(3, .int (nI (i + 1))), (0, .ref (a 0)), (1, .int (nI la9)), (2, .int (nI na9))]) hx hb dX6_hold_25 hl (k := 3) rfl (by first | exact nI_1 _ | (rw [show Int32.ofInt 1 = nI 1 from by decide, nI_add])) (by decide) rfl (fun ls hl => ?_)
        refine lv_goto (tgt := 12) hx hb dX6_hold_28 (by decide) ?_
        exact ih_12 (i + 1) (by omega) (by omega) ls z_24 _ _ w (by rw [ez_24]; refine ⟨hq.1, hq.2.1, fun j hj => ?_⟩; show vp_updL (zz.2.2 2) i 0 j = 0; by_cases ej : j = i; rw [ej, pk_uLs]; rw [pk_uLn ej]; exact hq.2.2 j (by omega)) (lv_sub hl [1, 2, 3, 0] rfl)
  exact lp_12 _ 0 (Nat.zero_le _) (Nat.lt_succ_self _) ls z_7 _ _ w (by rw [ez_7, ez_2]; exact ⟨rfl, rfl, fun _ hj => absurd hj (Nat.not_lt_zero _)⟩) (lv_sub hl [1, 2, 3, 0] rfl)

theorem ok6_dropAll : cOk RX6 yX6_dropAll cX6_dropAll 1 none 0 := ⟨wc_X6_dropAll, wi_X6_dropAll, ws_X6_dropAll, wn_X6, rfl, by decide, by decide, by decide +kernel⟩
set_option maxHeartbeats 4000000 in
set_option maxRecDepth 100000 in
theorem c6_dropAll (l : Launch) (G : CG) (a : Nat → Nat) (z : RS)  (L N9 : Nat → Nat) (I9 : Nat → Nat → Int64) (t : Nat) (hs : cSt z (L t) (N9 t) (I9 t))  : cMv G l yX6_dropAll cX6_dropAll 1 none 0 0 [.ref (a 0)] (fun q9 : RS => w6 G a q9) z (fun z9 => cSt z9 0 (N9 t) (I9 t)) := by
  refine cMv_in (by decide) rfl (Nat.le_of_ble_eq_true rfl) ?_
  intro p e s m args below meth c A ls X hml hr hk hl w
  have hx := X.1
  have hb := X.2.1
  have hts := X.2.2.1
  have hown := X.2.2.2.1
  have hl : lv_has ls 1 [(0, .ref (a 0))] := hl
  obtain ⟨s1, s2, s3, s4, s5⟩ := id hs
  refine lv_aload_n hx hb dX6_dropAll_0 rfl (lv_at hl 0 rfl) ?_
  refine lv_iconst (v := (iZ (-1))) hx hb dX6_dropAll_1 (by decide) ?_
  refine ap_H_X6_11_this X w dX6_dropAll_2 (fun z_2 H locs ez_2 w => ?_)
  exact ce_v (w := (fun q9 : RS => w6 G a q9)) (z := z_2) X hr hk w (by rw [ez_2]; exact ⟨rfl, s2, by omega, s4, s5⟩) dX6_dropAll_5
