section Lm_c1_add
variable {p : Program} {l : Launch} {e : Env} {R : Room} {s : State} {m : MethodId} {args : Array Value} {below : List Frame} {meth : Method} {c : Code} {H : Heap} {locs : List Loc} {cells slots : Nat} {Q : State → Prop}
variable {cc : ByteArray} {pc : Nat} {ls : Array Slot} {rest : List Value} {G : CG} {A : Nat → Prop}
theorem ag_T_X1_22_this {a d : Nat → Nat} {z : RS} (X : cX RX1 G A p c cc s args m) (w : va_P G.1 vwCl (wT1 G a d z) H) (hdg : decode cc pc = .ok (.getfield 22, 3)) (kk : W p l e R s m args below meth c H locs cells slots Q (F0 m (pc + 3) ls (.int (z.1 1) :: rest))) : W p l e R s m args below meth c H locs cells slots Q (F0 m pc ls (.ref (a 0) :: rest)) :=
  va_get (D := G.1) (ci := 1) (v := .int (z.1 1)) (C := RX1) (T := TX1) (N := 4) X.1 X.2.1 X.2.2.1 gX1 X.2.2.2.1 X.2.2.2.2.1.1 w 0 rfl rfl 1 (by decide) (X.2.2.1 _ wf_X1_22) (fun _ h9 => h9) rfl hdg kk
theorem ag_T_X1_9_this {a d : Nat → Nat} {z : RS} (X : cX RX1 G A p c cc s args m) (w : va_P G.1 vwCl (wT1 G a d z) H) (hdg : decode cc pc = .ok (.getfield 9, 3)) (kk : W p l e R s m args below meth c H locs cells slots Q (F0 m (pc + 3) ls (.ref (a 1) :: rest))) : W p l e R s m args below meth c H locs cells slots Q (F0 m pc ls (.ref (a 0) :: rest)) :=
  va_get (D := G.1) (ci := 1) (v := .ref (a 1)) (C := RX1) (T := TX1) (N := 4) X.1 X.2.1 X.2.2.1 gX1 X.2.2.2.1 X.2.2.2.2.1.1 w 0 rfl rfl 0 (by decide) (X.2.2.1 _ wf_X1_9) (fun _ h9 => h9) rfl hdg kk
theorem au_T_this_0 {own : String} {a d : Nat → Nat} {z : RS} {j : Nat} {v : Int32} (X : cX own G A p c cc s args m) (w : cW G A s (wT1 G a d z) H locs) (hj : j < 100) (hdg : decode cc pc = .ok (.iastore, 1)) (kk : ∀ (z1 : RS) (H : Heap) (locs : List Loc), z1 = (sA z 0 j v) → cW G A s (wT1 G a d z1) H locs → W p l e R s m args below meth c H locs cells slots Q (F0 m (pc + 1) ls rest)) : W p l e R s m args below meth c H locs cells slots Q (F0 m pc ls (.int v :: .int (nI j) :: .ref (a 1) :: rest)) := by
  refine va_iast X.1 X.2.1 X.2.2.2.2.1.1 w.1 w.2.1 w.2.2 1 0 rfl rfl (vp_in_nI hj (by decide)) hdg ?_
  rw [nI_clamp (by omega)]
  exact fun H1 locs1 hP hD hS => kk _ H1 locs1 rfl ⟨hP, hD, hS⟩
theorem ap_T_X1_22_this {a d : Nat → Nat} {z : RS} {v : Int32} (X : cX RX1 G A p c cc s args m) (w : cW G A s (wT1 G a d z) H locs) (hdg : decode cc pc = .ok (.putfield 22, 3)) (kk : ∀ (z1 : RS) (H : Heap) (locs : List Loc), z1 = (sI z 1 v) → cW G A s (wT1 G a d z1) H locs → W p l e R s m args below meth c H locs cells slots Q (F0 m (pc + 3) ls rest)) : W p l e R s m args below meth c H locs cells slots Q (F0 m pc ls (.int v :: .ref (a 0) :: rest)) :=
  va_put (D := G.1) (ci := 1) (v := .int v) (ty := .int) (C := RX1) (T := TX1) (N := 4) X.1 X.2.1 X.2.2.1 gX1 tyX1 tyX1_ok nmX1 X.2.2.2.1 X.2.2.2.2.1.1 w.1 w.2.1 w.2.2 0 rfl rfl 1 (by decide) (X.2.2.1 _ wf_X1_22) (fun _ h9 => h9) rfl (by decide +kernel) rfl rfl (Nat.le_of_ble_eq_true rfl) hdg (fun H1 locs1 hP hD hS => kk _ H1 locs1 rfl ⟨hP, hD, hS⟩)
end Lm_c1_add
theorem ok1_add : cOk RX1 yX1_add cX1_add 2 (some .boolean) 1 := ⟨wc_X1_add, wi_X1_add, ws_X1_add, wn_X1, rfl, by decide, by decide, by decide +kernel⟩
set_option maxHeartbeats 4000000 in
set_option maxRecDepth 100000 in
theorem c1_add (l : Launch) (G : CG) (a d : Nat → Nat) (z : RS) (xa9 : Nat) (n : Nat) (T : Nat → Nat) (ht : cTp z n T) (hx9 : xa9 ≤ 126) : cMi G l yX1_add cX1_add 2 (some .boolean) 0 0 [.ref (a 0), .int (nI xa9)] (fun q9 : RS => wT1 G a d q9) z (fun r z9 => (n = 100 → r = nI 0 ∧ z9 = z) ∧ (¬ n = 100 → r = nI 1 ∧ cTp z9 (n + 1) (va_up T n xa9))) := by
  refine cMi_in (by decide) rfl (Nat.le_of_ble_eq_true rfl) ?_
  intro p e s m args below meth c A ls X hml hr hk hl w
  have hx := X.1
  have hb := X.2.1
  have hts := X.2.2.1
  have hown := X.2.2.2.1
  have hl : lv_has ls 2 [(0, .ref (a 0)), (1, .int (nI xa9))] := hl
  have t1 := ht.2.1
  refine lv_aload_n hx hb dX1_add_0 rfl (lv_at hl 0 rfl) ?_
  refine ag_T_X1_22_this X w.1 dX1_add_1 ?_
  refine tp_i (show z.1 1 = (nI n) from ht.1) ?_
  refine lv_bipush (v := (nI 100)) hx hb dX1_add_4 (by decide) ?_
  refine n_icmp_lt (tgt := 11) hx hb dX1_add_6 (by decide) (by omega) (by omega) (fun c_6_1 => ?_) (fun c_6_1 => ?_)
  · skip
    refine lv_aload_n hx hb dX1_add_11 rfl (lv_at hl 0 rfl) ?_
    refine ag_T_X1_9_this X w.1 dX1_add_12 ?_
    refine lv_aload_n hx hb dX1_add_15 rfl (lv_at hl 0 rfl) ?_
    refine ag_T_X1_22_this X w.1 dX1_add_16 ?_
    refine tp_i (show z.1 1 = (nI n) from ht.1) ?_
    refine lv_iload_n hx hb dX1_add_19 rfl (lv_at hl 1 rfl) ?_
    refine au_T_this_0 X w (by omega) dX1_add_20 (fun z_20 H locs ez_20 w => ?_)
    refine lv_aload_n hx hb dX1_add_21 rfl (lv_at hl 0 rfl) ?_
    refine lv_dup hx hb dX1_add_22 rfl ?_
    refine ag_T_X1_22_this X w.1 dX1_add_23 ?_
    refine tp_i (show z_20.1 1 = (nI n) from (by rw [ez_20]; exact ht.1)) ?_
    refine lv_iconst (v := (nI 1)) hx hb dX1_add_26 (by decide) ?_
    refine n_iadd hx hb dX1_add_27 ?_
    refine ap_T_X1_22_this X w dX1_add_28 (fun z_28 H locs ez_28 w => ?_)
    refine lv_iconst (v := (nI 1)) hx hb dX1_add_31 (by decide) ?_
    exact ce_iz (w := (fun q9 : RS => wT1 G a d q9)) (z := z_28) X hr hk w (by first | exact Or.inl rfl | exact Or.inr rfl) (⟨fun g0 => absurd g0 (by omega), fun _ => ⟨rfl, by rw [ez_28, ez_20]; exact cTp_a ht (by omega) hx9⟩⟩) dX1_add_32
  · skip
    refine lv_iconst (v := (nI 0)) hx hb dX1_add_9 (by decide) ?_
    exact ce_iz (w := (fun q9 : RS => wT1 G a d q9)) (z := z) X hr hk w (by first | exact Or.inl rfl | exact Or.inr rfl) (⟨fun _ => ⟨rfl, rfl⟩, fun g0 => absurd (by omega) g0⟩) dX1_add_10

section Lm_c1_peek
variable {p : Program} {l : Launch} {e : Env} {R : Room} {s : State} {m : MethodId} {args : Array Value} {below : List Frame} {meth : Method} {c : Code} {H : Heap} {locs : List Loc} {cells slots : Nat} {Q : State → Prop}
variable {cc : ByteArray} {pc : Nat} {ls : Array Slot} {rest : List Value} {G : CG} {A : Nat → Prop}
theorem ag_T_X1_36_this {a d : Nat → Nat} {z : RS} (X : cX RX1 G A p c cc s args m) (w : va_P G.1 vwCl (wT1 G a d z) H) (hdg : decode cc pc = .ok (.getfield 36, 3)) (kk : W p l e R s m args below meth c H locs cells slots Q (F0 m (pc + 3) ls (.int (z.1 2) :: rest))) : W p l e R s m args below meth c H locs cells slots Q (F0 m pc ls (.ref (a 0) :: rest)) :=
  va_get (D := G.1) (ci := 1) (v := .int (z.1 2)) (C := RX1) (T := TX1) (N := 4) X.1 X.2.1 X.2.2.1 gX1 X.2.2.2.1 X.2.2.2.2.1.1 w 0 rfl rfl 2 (by decide) (X.2.2.1 _ wf_X1_36) (fun _ h9 => h9) rfl hdg kk
theorem an_T_this_0 {own : String} {a d : Nat → Nat} {z : RS} {j : Nat} (X : cX own G A p c cc s args m) (w : va_P G.1 vwCl (wT1 G a d z) H) (hj : j < 100) (hdg : decode cc pc = .ok (.iaload, 1)) (kk : W p l e R s m args below meth c H locs cells slots Q (F0 m (pc + 1) ls (.int (z.2.1 0 j) :: rest))) : W p l e R s m args below meth c H locs cells slots Q (F0 m pc ls (.int (nI j) :: .ref (a 1) :: rest)) :=
  va_iald X.1 X.2.1 X.2.2.2.2.1.1 w 1 0 rfl rfl (vp_in_nI hj (by decide)) hdg (by rw [nI_clamp (by omega)]; exact kk)
theorem ap_T_X1_36_this {a d : Nat → Nat} {z : RS} {v : Int32} (X : cX RX1 G A p c cc s args m) (w : cW G A s (wT1 G a d z) H locs) (hdg : decode cc pc = .ok (.putfield 36, 3)) (kk : ∀ (z1 : RS) (H : Heap) (locs : List Loc), z1 = (sI z 2 v) → cW G A s (wT1 G a d z1) H locs → W p l e R s m args below meth c H locs cells slots Q (F0 m (pc + 3) ls rest)) : W p l e R s m args below meth c H locs cells slots Q (F0 m pc ls (.int v :: .ref (a 0) :: rest)) :=
  va_put (D := G.1) (ci := 1) (v := .int v) (ty := .int) (C := RX1) (T := TX1) (N := 4) X.1 X.2.1 X.2.2.1 gX1 tyX1 tyX1_ok nmX1 X.2.2.2.1 X.2.2.2.2.1.1 w.1 w.2.1 w.2.2 0 rfl rfl 2 (by decide) (X.2.2.1 _ wf_X1_36) (fun _ h9 => h9) rfl (by decide +kernel) rfl rfl (Nat.le_of_ble_eq_true rfl) hdg (fun H1 locs1 hP hD hS => kk _ H1 locs1 rfl ⟨hP, hD, hS⟩)
end Lm_c1_peek
theorem ok1_peek : cOk RX1 yX1_peek cX1_peek 1 (some .int) 0 := ⟨wc_X1_peek, wi_X1_peek, ws_X1_peek, wn_X1, rfl, by decide, by decide, by decide +kernel⟩
set_option maxHeartbeats 4000000 in
set_option maxRecDepth 100000 in
theorem c1_peek (l : Launch) (G : CG) (a d : Nat → Nat) (z : RS)  (n : Nat) (T : Nat → Nat) (ht : cTp z n T) (a9 : Nat) (ha : z.1 2 = nI a9) (hab : a9 ≤ 50000) : cMi G l yX1_peek cX1_peek 1 (some .int) 0 0 [.ref (a 0)] (fun q9 : RS => wT1 G a d q9) z (fun r z9 => r = nI (tk_h T n a9) ∧ z9.1 2 = nI (tk_s T n a9) ∧ tkF z z9) := by
  refine cMi_in (by decide) rfl (Nat.le_of_ble_eq_true rfl) ?_
  intro p e s m args below meth c A ls X hml hr hk hl w
  have hx := X.1
  have hb := X.2.1
  have hts := X.2.2.1
  have hown := X.2.2.2.1
  have hl : lv_has ls 1 [(0, .ref (a 0))] := hl
  have t1 := ht.2.1
  have t4 := ht.2.2.2
  have lp_0 : ∀ (n_0 : Nat) (i : Nat) (hi : tk_s T n i = tk_s T n a9) (hib : i ≤ 50000 ∨ i ≤ n) (hm_0 : n - i < n_0) (ls : Array Slot) (zz : RS) (H : Heap) (locs : List Loc) (w : cW G A s (wT1 G a d zz) H locs) (hq : zz.1 2 = nI i ∧ tkF z zz), lv_has ls 1 [(0, .ref (a 0))] → W p l e (ro_m 0 0) s m args below meth c H locs 0 0 (MQ below (va_Qi (fun r z9 => r = nI (tk_h T n a9) ∧ z9.1 2 = nI (tk_s T n a9) ∧ tkF z z9) (cB G (fun q9 : RS => wT1 G a d q9) A) A) args s 0 0 A) (F0 m 0 ls []) := by
    intro n_0
    induction n_0 with
    | zero => intro i hi hib hm; exact absurd hm (Nat.not_lt_zero _)
    | succ n_0 ih_0 =>
      intro i hi hib hm_0 ls zz H locs w hq hl
      have q5 := t4 i
      refine lv_aload_n hx hb dX1_peek_0 rfl (lv_at hl 0 rfl) ?_
      refine ag_T_X1_36_this X w.1 dX1_peek_1 ?_
      refine tp_i (show zz.1 2 = (nI i) from hq.1) ?_
      refine lv_aload_n hx hb dX1_peek_4 rfl (lv_at hl 0 rfl) ?_
      refine ag_T_X1_22_this X w.1 dX1_peek_5 ?_
      refine tp_i (show zz.1 1 = (nI n) from ((hq.2.2 1 (by decide)).trans ht.1)) ?_
      refine n_icmp_ge (tgt := 38) hx hb dX1_peek_8 (by decide) (by omega) (by omega) (fun c_8_1 => ?_) (fun c_8_1 => ?_)
      · skip
        refine lv_aload_n hx hb dX1_peek_38 rfl (lv_at hl 0 rfl) ?_
        refine ag_T_X1_36_this X w.1 dX1_peek_39 ?_
        refine tp_i (show zz.1 2 = (nI i) from hq.1) ?_
        refine lv_aload_n hx hb dX1_peek_42 rfl (lv_at hl 0 rfl) ?_
        refine ag_T_X1_22_this X w.1 dX1_peek_43 ?_
        refine tp_i (show zz.1 1 = (nI n) from ((hq.2.2 1 (by decide)).trans ht.1)) ?_
        refine n_icmp_ge (tgt := 61) hx hb dX1_peek_46 (by decide) (by omega) (by omega) (fun c_46_2 => ?_) (fun c_46_2 => ?_)
        · skip
          refine lv_iconst (v := (nI 0)) hx hb dX1_peek_61 (by decide) ?_
          exact ce_i (w := (fun q9 : RS => wT1 G a d q9)) (z := zz) X hr hk w (pk_0 (by omega) hi hq) dX1_peek_62
        · skip
          refine lv_aload_n hx hb dX1_peek_49 rfl (lv_at hl 0 rfl) ?_
          refine ag_T_X1_9_this X w.1 dX1_peek_50 ?_
          refine lv_aload_n hx hb dX1_peek_53 rfl (lv_at hl 0 rfl) ?_
          refine ag_T_X1_36_this X w.1 dX1_peek_54 ?_
          refine tp_i (show zz.1 2 = (nI i) from hq.1) ?_
          refine an_T_this_0 X w.1 (by omega) dX1_peek_57 ?_
          refine tp_i (show zz.2.1 0 i = (nI (T i)) from (by rw [hq.2.1]; exact ht.2.2.1 i (by omega))) ?_
          refine lv_goto (tgt := 62) hx hb dX1_peek_58 (by decide) ?_
          exact ce_i (w := (fun q9 : RS => wT1 G a d q9)) (z := zz) X hr hk w (pk_1 (by omega) (by omega) hi hq) dX1_peek_62
      · skip
        refine lv_aload_n hx hb dX1_peek_11 rfl (lv_at hl 0 rfl) ?_
        refine ag_T_X1_9_this X w.1 dX1_peek_12 ?_
        refine lv_aload_n hx hb dX1_peek_15 rfl (lv_at hl 0 rfl) ?_
        refine ag_T_X1_36_this X w.1 dX1_peek_16 ?_
        refine tp_i (show zz.1 2 = (nI i) from hq.1) ?_
        refine an_T_this_0 X w.1 (by omega) dX1_peek_19 ?_
        refine tp_i (show zz.2.1 0 i = (nI (T i)) from (by rw [hq.2.1]; exact ht.2.2.1 i (by omega))) ?_
        refine lv_bipush (v := (nI 32)) hx hb dX1_peek_20 (by decide) ?_
        refine n_icmp_ne (tgt := 38) hx hb dX1_peek_22 (by decide) (by omega) (by omega) (fun c_22_3 => ?_) (fun c_22_3 => ?_)
        · skip
          refine lv_aload_n hx hb dX1_peek_38 rfl (lv_at hl 0 rfl) ?_
          refine ag_T_X1_36_this X w.1 dX1_peek_39 ?_
          refine tp_i (show zz.1 2 = (nI i) from hq.1) ?_
          refine lv_aload_n hx hb dX1_peek_42 rfl (lv_at hl 0 rfl) ?_
          refine ag_T_X1_22_this X w.1 dX1_peek_43 ?_
          refine tp_i (show zz.1 1 = (nI n) from ((hq.2.2 1 (by decide)).trans ht.1)) ?_
          refine n_icmp_ge (tgt := 61) hx hb dX1_peek_46 (by decide) (by omega) (by omega) (fun c_46_4 => ?_) (fun c_46_4 => ?_)
          · skip
            refine lv_iconst (v := (nI 0)) hx hb dX1_peek_61 (by decide) ?_
            exact ce_i (w := (fun q9 : RS => wT1 G a d q9)) (z := zz) X hr hk w (pk_0 (by omega) hi hq) dX1_peek_62
          · skip
            refine lv_aload_n hx hb dX1_peek_49 rfl (lv_at hl 0 rfl) ?_
            refine ag_T_X1_9_this X w.1 dX1_peek_50 ?_
            refine lv_aload_n hx hb dX1_peek_53 rfl (lv_at hl 0 rfl) ?_
            refine ag_T_X1_36_this X w.1 dX1_peek_54 ?_
            refine tp_i (show zz.1 2 = (nI i) from hq.1) ?_
            refine an_T_this_0 X w.1 (by omega) dX1_peek_57 ?_
            refine tp_i (show zz.2.1 0 i = (nI (T i)) from (by rw [hq.2.1]; exact ht.2.2.1 i (by omega))) ?_
            refine lv_goto (tgt := 62) hx hb dX1_peek_58 (by decide) ?_
            exact ce_i (w := (fun q9 : RS => wT1 G a d q9)) (z := zz) X hr hk w (pk_1 (by omega) (by omega) hi hq) dX1_peek_62
        · skip
          refine lv_aload_n hx hb dX1_peek_25 rfl (lv_at hl 0 rfl) ?_
          refine lv_dup hx hb dX1_peek_26 rfl ?_
          refine ag_T_X1_36_this X w.1 dX1_peek_27 ?_
          refine tp_i (show zz.1 2 = (nI i) from hq.1) ?_
          refine lv_iconst (v := (nI 1)) hx hb dX1_peek_30 (by decide) ?_
          refine n_iadd hx hb dX1_peek_31 ?_
          refine ap_T_X1_36_this X w dX1_peek_32 (fun z_32 H locs ez_32 w => ?_)
          refine lv_goto (tgt := 0) hx hb dX1_peek_35 (by decide) ?_
          exact ih_0 (i + 1) (by rw [← hi]; exact (tk_y ⟨by omega, by omega⟩).symm) (by omega) (by omega) ls z_32 _ _ w (by rw [ez_32]; exact ⟨rfl, tkF_tr hq.2 (tkF_I _ _)⟩) (lv_sub hl [0] rfl)
  exact lp_0 _ a9 rfl (Or.inl hab) (Nat.lt_succ_self _) ls z _ _ w ⟨ha, tkF_rf z⟩ (lv_sub hl [0] rfl)

theorem ok1_take : cOk RX1 yX1_take cX1_take 2 (some .boolean) 1 := ⟨wc_X1_take, wi_X1_take, ws_X1_take, wn_X1, rfl, by decide, by decide, by decide +kernel⟩
set_option maxHeartbeats 4000000 in
set_option maxRecDepth 100000 in
theorem c1_take (l : Launch) (G : CG) (a d : Nat → Nat) (z : RS) (ca9 : Nat) (n : Nat) (T : Nat → Nat) (ht : cTp z n T) (a9 : Nat) (ha : z.1 2 = nI a9) (hab : a9 ≤ 50000) (hc9 : ca9 ≤ 126) : cMi G l yX1_take cX1_take 2 (some .boolean) 1 20 [.ref (a 0), .int (nI ca9)] (fun q9 : RS => wT1 G a d q9) z (fun r z9 => r = nI (if tk_h T n a9 = ca9 then 1 else 0) ∧ z9.1 2 = nI (tk_s T n a9 + (if tk_h T n a9 = ca9 then 1 else 0)) ∧ tkF z z9) := by
  refine cMi_in (by decide) rfl (Nat.le_of_ble_eq_true rfl) ?_
  intro p e s m args below meth c A ls X hml hr hk hl w
  have hx := X.1
  have hb := X.2.1
  have hts := X.2.2.1
  have hown := X.2.2.2.1
  have hl : lv_has ls 2 [(0, .ref (a 0)), (1, .int (nI ca9))] := hl
  have htT := ht.2.2.2
  have t1 := ht.2.1
  have tl := tk_le T n a9
  refine lv_aload_n hx hb dX1_take_0 rfl (lv_at hl 0 rfl) ?_
  refine gc_i (C := RX1) (ci := 1) (rest := []) (w := (fun q9 : RS => wT1 G a d q9)) (wr := []) (wn := (fun q9 : RS => wT1 G a d q9)) X hml hl.1 (c1_peek l G a d z n T ht a9 ha (by omega)) ok1_peek wm_X1_46 ⟨Nat.le_of_ble_eq_true rfl, Nat.le_of_ble_eq_true rfl⟩ ⟨Nat.le_refl _, Nat.le_refl _⟩ w [0, 1] [] [0, 1] rfl (by decide) rfl (by decide) (by decide) (fun _ => rfl) (by decide) rfl rfl rfl (Nat.le_of_ble_eq_true rfl) dX1_take_1 (fun r_1 z_1 H locs hr_1 w => ?_)
  obtain ⟨hr_1, pa_1, pf_1⟩ := hr_1
  subst hr_1
  have ph_1 := tk_h_le htT n a9
  refine lv_iload_n hx hb dX1_take_4 rfl (lv_at hl 1 rfl) ?_
  refine n_icmp_eq (tgt := 10) hx hb dX1_take_5 (by decide) (by omega) (by omega) (fun c_5_1 => ?_) (fun c_5_1 => ?_)
  · skip
    refine lv_aload_n hx hb dX1_take_10 rfl (lv_at hl 0 rfl) ?_
    refine lv_dup hx hb dX1_take_11 rfl ?_
    refine ag_T_X1_36_this X w.1 dX1_take_12 ?_
    refine tp_i (show z_1.1 2 = (nI (tk_s T n a9)) from pa_1) ?_
    refine lv_iconst (v := (nI 1)) hx hb dX1_take_15 (by decide) ?_
    refine n_iadd hx hb dX1_take_16 ?_
    refine ap_T_X1_36_this X w dX1_take_17 (fun z_17 H locs ez_17 w => ?_)
    refine lv_iconst (v := (nI 1)) hx hb dX1_take_20 (by decide) ?_
    exact ce_iz (w := (fun q9 : RS => wT1 G a d q9)) (z := z_17) X hr hk w (by first | exact Or.inl rfl | exact Or.inr rfl) (⟨by rw [if_pos (by omega)], by rw [ez_17, if_pos (by omega)]; rfl, by rw [ez_17]; exact tkF_tr pf_1 (tkF_I _ _)⟩) dX1_take_21
  · skip
    refine lv_iconst (v := (nI 0)) hx hb dX1_take_8 (by decide) ?_
    exact ce_iz (w := (fun q9 : RS => wT1 G a d q9)) (z := z_1) X hr hk w (by first | exact Or.inl rfl | exact Or.inr rfl) (⟨by rw [if_neg (by omega)], by rw [if_neg (by omega)]; exact pa_1, pf_1⟩) dX1_take_9

theorem ok1_takeDigit : cOk RX1 yX1_takeDigit cX1_takeDigit 4 (some .int) 2 := ⟨wc_X1_takeDigit, wi_X1_takeDigit, ws_X1_takeDigit, wn_X1, rfl, by decide, by decide, by decide +kernel⟩
set_option maxHeartbeats 4000000 in
set_option maxRecDepth 100000 in
theorem c1_takeDigit (l : Launch) (G : CG) (a d : Nat → Nat) (z : RS) (la9 : Nat) (ha9 : Nat) (n : Nat) (T : Nat → Nat) (ht : cTp z n T) (a9 : Nat) (ha : z.1 2 = nI a9) (hab : a9 ≤ 50000) (hl9 : la9 ≤ 9) (hh9 : ha9 ≤ 9) : cMi G l yX1_takeDigit cX1_takeDigit 4 (some .int) 1 22 [.ref (a 0), .int (nI la9), .int (nI ha9)] (fun q9 : RS => wT1 G a d q9) z (fun r z9 => (pc_inI (((tk_h T n a9 : Nat) : Int) - (48 : Int)) la9 ha9 = 0 → r = iZ (-1) ∧ z9.1 2 = nI (tk_s T n a9)) ∧ (¬ pc_inI (((tk_h T n a9 : Nat) : Int) - (48 : Int)) la9 ha9 = 0 → r = iZ (((tk_h T n a9 : Nat) : Int) - (48 : Int)) ∧ z9.1 2 = nI (tk_s T n a9 + 1)) ∧ tkF z z9) := by
  refine cMi_in (by decide) rfl (Nat.le_of_ble_eq_true rfl) ?_
  intro p e s m args below meth c A ls X hml hr hk hl w
  have hx := X.1
  have hb := X.2.1
  have hts := X.2.2.1
  have hown := X.2.2.2.1
  have hl : lv_has ls 4 [(0, .ref (a 0)), (1, .int (nI la9)), (2, .int (nI ha9))] := hl
  have htT := ht.2.2.2
  have t1 := ht.2.1
  have tl := tk_le T n a9
  refine lv_aload_n hx hb dX1_takeDigit_0 rfl (lv_at hl 0 rfl) ?_
  refine gc_i (C := RX1) (ci := 1) (rest := []) (w := (fun q9 : RS => wT1 G a d q9)) (wr := []) (wn := (fun q9 : RS => wT1 G a d q9)) X hml hl.1 (c1_peek l G a d z n T ht a9 ha (by omega)) ok1_peek wm_X1_46 ⟨Nat.le_of_ble_eq_true rfl, Nat.le_of_ble_eq_true rfl⟩ ⟨Nat.le_refl _, Nat.le_refl _⟩ w [0, 1] [] [0, 1] rfl (by decide) rfl (by decide) (by decide) (fun _ => rfl) (by decide) rfl rfl rfl (Nat.le_of_ble_eq_true rfl) dX1_takeDigit_1 (fun r_1 z_1 H locs hr_1 w => ?_)
  obtain ⟨hr_1, pa_1, pf_1⟩ := hr_1
  subst hr_1
  have ph_1 := tk_h_le htT n a9
  refine lv_bipush (v := (nI 48)) hx hb dX1_takeDigit_4 (by decide) ?_
  refine tp_i (show nI 48 = iZ (48 : Int) from by decide) ?_
  refine tp_i2 (iZ_n (tk_h T n a9)).symm ?_
  refine z_isub hx hb dX1_takeDigit_6 ?_
  refine lv_istore_n (lv' := [(3, .int (iZ ((((tk_h T n a9 : Nat) : Int)) - ((48 : Int))))), (0, .ref (a 0)), (1, .int (nI la9)), (2, .int (nI ha9))]) hx hb dX1_takeDigit_7 rfl hl (by decide) rfl (fun ls hl => ?_)
  refine lv_iload_n hx hb dX1_takeDigit_8 rfl (lv_at hl 0 rfl) ?_
  refine lv_iload_n hx hb dX1_takeDigit_9 rfl (lv_at hl 2 rfl) ?_
  refine lv_iload_n hx hb dX1_takeDigit_10 rfl (lv_at hl 3 rfl) ?_
  refine gc_sn (host := "RunningThree") (C := RX7) (rest := []) ⟨X.1, X.2.1, X.2.2.1, X.2.2.2.1⟩ X.2.2.2.2.1.2 hml hl.1 (c7_within l (iZ ((((tk_h T n a9 : Nat) : Int)) - ((48 : Int)))) (nI la9) (nI ha9)) ok7_within wp_X1_88 ⟨Nat.le_of_ble_eq_true rfl, Nat.le_of_ble_eq_true rfl⟩ ⟨Nat.le_refl _, Nat.le_refl _⟩ rfl (Nat.le_of_ble_eq_true rfl) dX1_takeDigit_11 (fun r_11 hr_11 => ?_)
  subst hr_11
  refine tp_i (congrArg nI (w3_I (iZ_toInt (by omega) (by omega)) (nI_toInt (by omega)) (nI_toInt (by omega)) : _ = pc_inI ((((tk_h T n a9 : Nat) : Int)) - ((48 : Int))) (((la9 : Nat) : Int)) (((ha9 : Nat) : Int)))) ?_
  have d_11 := pc_inI_ok ((((tk_h T n a9 : Nat) : Int)) - ((48 : Int))) (((la9 : Nat) : Int)) (((ha9 : Nat) : Int))
  refine n_if_ne (tgt := 19) hx hb dX1_takeDigit_14 (by decide) (by omega) (fun c_14_1 => ?_) (fun c_14_1 => ?_)
  · skip
    refine lv_aload_n hx hb dX1_takeDigit_19 rfl (lv_at hl 1 rfl) ?_
    refine lv_dup hx hb dX1_takeDigit_20 rfl ?_
    refine ag_T_X1_36_this X w.1 dX1_takeDigit_21 ?_
    refine tp_i (show z_1.1 2 = (nI (tk_s T n a9)) from pa_1) ?_
    refine lv_iconst (v := (nI 1)) hx hb dX1_takeDigit_24 (by decide) ?_
    refine n_iadd hx hb dX1_takeDigit_25 ?_
    refine ap_T_X1_36_this X w dX1_takeDigit_26 (fun z_26 H locs ez_26 w => ?_)
    refine lv_iload_n hx hb dX1_takeDigit_29 rfl (lv_at hl 0 rfl) ?_
    exact ce_i (w := (fun q9 : RS => wT1 G a d q9)) (z := z_26) X hr hk w (⟨fun g0 => absurd g0 (by omega), fun _ => ⟨rfl, by rw [ez_26]; rfl⟩, by rw [ez_26]; exact tkF_tr pf_1 (tkF_I _ _)⟩) dX1_takeDigit_30
  · skip
    refine lv_iconst (v := (iZ (-1))) hx hb dX1_takeDigit_17 (by decide) ?_
    exact ce_i (w := (fun q9 : RS => wT1 G a d q9)) (z := z_1) X hr hk w (⟨fun _ => ⟨rfl, pa_1⟩, fun g0 => absurd (by omega) g0, pf_1⟩) dX1_takeDigit_18

section Lm_c1_setUp
variable {p : Program} {l : Launch} {e : Env} {R : Room} {s : State} {m : MethodId} {args : Array Value} {below : List Frame} {meth : Method} {c : Code} {H : Heap} {locs : List Loc} {cells slots : Nat} {Q : State → Prop}
variable {cc : ByteArray} {pc : Nat} {ls : Array Slot} {rest : List Value} {G : CG} {A : Nat → Prop}
theorem ag_TS_X1_18_this {a d b : Nat → Nat} {z : RS × RS × RS} (X : cX RX1 G A p c cc s args m) (w : va_P G.1 vwCl (wT1 G a d z.1 ++ w5 G d z.2.1 ++ w5 G b z.2.2) H) (hdg : decode cc pc = .ok (.getfield 18, 3)) (kk : W p l e R s m args below meth c H locs cells slots Q (F0 m (pc + 3) ls (.ref (d 0) :: rest))) : W p l e R s m args below meth c H locs cells slots Q (F0 m pc ls (.ref (a 0) :: rest)) :=
  va_get (D := G.1) (ci := 1) (v := .ref (d 0)) (C := RX1) (T := TX1) (N := 4) X.1 X.2.1 X.2.2.1 gX1 X.2.2.2.1 X.2.2.2.2.1.1 w 0 rfl rfl 3 (by decide) (X.2.2.1 _ wf_X1_18) (fun _ h9 => h9) rfl hdg kk
theorem ag_TS_X1_26_scn {a d b : Nat → Nat} {z : RS × RS × RS} (X : cX RX1 G A p c cc s args m) (w : va_P G.1 vwCl (wT1 G a d z.1 ++ w5 G d z.2.1 ++ w5 G b z.2.2) H) (hdg : decode cc pc = .ok (.getfield 26, 3)) (kk : W p l e R s m args below meth c H locs cells slots Q (F0 m (pc + 3) ls (.int (z.2.2.1 8) :: rest))) : W p l e R s m args below meth c H locs cells slots Q (F0 m pc ls (.ref (b 0) :: rest)) :=
  va_getN (own := RX1) (ref := RX5) (host := "RunningThree") (D := G.1) (ci := 4) (v := .int (z.2.2.1 8)) (C := RX5) (T := TX5) (N := 13) X.1 X.2.1 X.2.2.1 gX5 X.2.2.2.1 X.2.2.2.2.1.1 w 10 rfl rfl 8 (by decide) (va_Nw.use rfl (X.2.2.2.2.1.2 _ wq_X1_26)) (fun _ h9 => h9) rfl hdg kk
theorem ap_TS_X1_26_dr {a d b : Nat → Nat} {z : RS × RS × RS} {v : Int32} (X : cX RX1 G A p c cc s args m) (w : cW G A s (wT1 G a d z.1 ++ w5 G d z.2.1 ++ w5 G b z.2.2) H locs) (hdg : decode cc pc = .ok (.putfield 26, 3)) (kk : ∀ (z1 : RS × RS × RS) (H : Heap) (locs : List Loc), z1 = (z.1, (sI z.2.1 8 v), z.2.2) → cW G A s (wT1 G a d z1.1 ++ w5 G d z1.2.1 ++ w5 G b z1.2.2) H locs → W p l e R s m args below meth c H locs cells slots Q (F0 m (pc + 3) ls rest)) : W p l e R s m args below meth c H locs cells slots Q (F0 m pc ls (.int v :: .ref (d 0) :: rest)) :=
  va_putN (own := RX1) (ref := RX5) (host := "RunningThree") (D := G.1) (ci := 4) (v := .int v) (ty := .int) (C := RX5) (T := TX5) (N := 13) X.1 X.2.1 X.2.2.1 gX5 tyX5 tyX5_ok nmX5 X.2.2.2.1 X.2.2.2.2.1.1 w.1 w.2.1 w.2.2 2 rfl rfl 8 (by decide) (va_Nw.use rfl (X.2.2.2.2.1.2 _ wq_X1_26)) (fun _ h9 => h9) rfl (by decide +kernel) rfl rfl (Nat.le_of_ble_eq_true rfl) hdg (fun H1 locs1 hP hD hS => kk _ H1 locs1 rfl ⟨hP, hD, hS⟩)
theorem ag_TS_X1_29_scn {a d b : Nat → Nat} {z : RS × RS × RS} (X : cX RX1 G A p c cc s args m) (w : va_P G.1 vwCl (wT1 G a d z.1 ++ w5 G d z.2.1 ++ w5 G b z.2.2) H) (hdg : decode cc pc = .ok (.getfield 29, 3)) (kk : W p l e R s m args below meth c H locs cells slots Q (F0 m (pc + 3) ls (.int (z.2.2.1 12) :: rest))) : W p l e R s m args below meth c H locs cells slots Q (F0 m pc ls (.ref (b 0) :: rest)) :=
  va_getN (own := RX1) (ref := RX5) (host := "RunningThree") (D := G.1) (ci := 4) (v := .int (z.2.2.1 12)) (C := RX5) (T := TX5) (N := 13) X.1 X.2.1 X.2.2.1 gX5 X.2.2.2.1 X.2.2.2.2.1.1 w 10 rfl rfl 12 (by decide) (va_Nw.use rfl (X.2.2.2.2.1.2 _ wq_X1_29)) (fun _ h9 => h9) rfl hdg kk
theorem ap_TS_X1_29_dr {a d b : Nat → Nat} {z : RS × RS × RS} {v : Int32} (X : cX RX1 G A p c cc s args m) (w : cW G A s (wT1 G a d z.1 ++ w5 G d z.2.1 ++ w5 G b z.2.2) H locs) (hdg : decode cc pc = .ok (.putfield 29, 3)) (kk : ∀ (z1 : RS × RS × RS) (H : Heap) (locs : List Loc), z1 = (z.1, (sI z.2.1 12 v), z.2.2) → cW G A s (wT1 G a d z1.1 ++ w5 G d z1.2.1 ++ w5 G b z1.2.2) H locs → W p l e R s m args below meth c H locs cells slots Q (F0 m (pc + 3) ls rest)) : W p l e R s m args below meth c H locs cells slots Q (F0 m pc ls (.int v :: .ref (d 0) :: rest)) :=
  va_putN (own := RX1) (ref := RX5) (host := "RunningThree") (D := G.1) (ci := 4) (v := .int v) (ty := .int) (C := RX5) (T := TX5) (N := 13) X.1 X.2.1 X.2.2.1 gX5 tyX5 tyX5_ok nmX5 X.2.2.2.1 X.2.2.2.2.1.1 w.1 w.2.1 w.2.2 2 rfl rfl 12 (by decide) (va_Nw.use rfl (X.2.2.2.2.1.2 _ wq_X1_29)) (fun _ h9 => h9) rfl (by decide +kernel) rfl rfl (Nat.le_of_ble_eq_true rfl) hdg (fun H1 locs1 hP hD hS => kk _ H1 locs1 rfl ⟨hP, hD, hS⟩)
end Lm_c1_setUp
theorem ok1_setUp : cOk RX1 yX1_setUp cX1_setUp 2 none 1 := ⟨wc_X1_setUp, wi_X1_setUp, ws_X1_setUp, wn_X1, rfl, by decide, by decide, by decide +kernel⟩
set_option maxHeartbeats 4000000 in
set_option maxRecDepth 100000 in
theorem c1_setUp (l : Launch) (G : CG) (a d b : Nat → Nat) (z : RS × RS × RS)   : cMv G l yX1_setUp cX1_setUp 2 none 3 142 [.ref (a 0), .ref (b 0)] (fun q9 : RS × RS × RS => wT1 G a d q9.1 ++ w5 G d q9.2.1 ++ w5 G b q9.2.2) z (fun z9 => z9.1 = z.1 ∧ cEq z9.2.2 (sI (sI z.2.1 8 (z.2.2.1 8)) 12 (z.2.2.1 12))) := by
  refine cMv_in (by decide) rfl (Nat.le_of_ble_eq_true rfl) ?_
  intro p e s m args below meth c A ls X hml hr hk hl w
  have hx := X.1
  have hb := X.2.1
  have hts := X.2.2.1
  have hown := X.2.2.2.1
  have hl : lv_has ls 2 [(0, .ref (a 0)), (1, .ref (b 0))] := hl
  refine lv_aload_n hx hb dX1_setUp_0 rfl (lv_at hl 0 rfl) ?_
  refine ag_TS_X1_18_this X w.1 dX1_setUp_1 ?_
  refine lv_aload_n hx hb dX1_setUp_4 rfl (lv_at hl 1 rfl) ?_
  refine ag_TS_X1_26_scn X w.1 dX1_setUp_5 ?_
  refine ap_TS_X1_26_dr X w dX1_setUp_8 (fun z_8 H locs ez_8 w => ?_)
  refine lv_aload_n hx hb dX1_setUp_11 rfl (lv_at hl 0 rfl) ?_
  refine ag_TS_X1_18_this X w.1 dX1_setUp_12 ?_
  refine lv_aload_n hx hb dX1_setUp_15 rfl (lv_at hl 1 rfl) ?_
  refine ag_TS_X1_29_scn X w.1 dX1_setUp_16 ?_
  refine ap_TS_X1_29_dr X w dX1_setUp_19 (fun z_19 H locs ez_19 w => ?_)
  refine lv_aload_n hx hb dX1_setUp_22 rfl (lv_at hl 1 rfl) ?_
  refine lv_aload_n hx hb dX1_setUp_23 rfl (lv_at hl 0 rfl) ?_
  refine ag_TS_X1_18_this X w.1 dX1_setUp_24 ?_
  refine gc_v (C := RX5) (ci := 4) (rest := []) (w := (fun q9 : RS => w5 G b q9 ++ w5 G d z_19.2.1)) (wr := [((a 0), .inr (1, [.ref (a 1), .int (z_19.1.1 1), .int (z_19.1.1 2), .ref (d 0)])), ((a 1), .inl (G.2.1, 100, .inl (z_19.1.2.1 0)))]) (wn := (fun u9 => wT1 G a d ((z_19.1, z_19.2.1, u9)).1 ++ w5 G d ((z_19.1, z_19.2.1, u9)).2.1 ++ w5 G b ((z_19.1, z_19.2.1, u9)).2.2)) X hml hl.1 (c5_takeFrom l G b d z_19.2.1 z_19.2.2) ok5_takeFrom wm_X1_32 ⟨Nat.le_of_ble_eq_true rfl, Nat.le_of_ble_eq_true rfl⟩ ⟨Nat.le_refl _, Nat.le_refl _⟩ w [10, 11, 12, 13, 14, 15, 16, 17, 2, 3, 4, 5, 6, 7, 8, 9] [0, 1] [0, 1, 10, 11, 12, 13, 14, 15, 16, 17, 2, 3, 4, 5, 6, 7, 8, 9] rfl (by decide) rfl (by decide) (by decide) (fun _ => rfl) (by decide) rfl rfl rfl (Nat.le_of_ble_eq_true rfl) dX1_setUp_27 (fun u_27 H locs hr_27 w => ?_)
  obtain ⟨z_27, ez_27⟩ : ∃ q9 : RS × RS × RS, q9 = (z_19.1, z_19.2.1, u_27) := ⟨_, rfl⟩
  have w : cW G A s (wT1 G a d z_27.1 ++ w5 G d z_27.2.1 ++ w5 G b z_27.2.2) H locs := by rw [ez_27]; exact w
  have eu_27_scn : z_27.2.2 = u_27 := by rw [ez_27]
  rw [← eu_27_scn] at hr_27
  have ek_27_this : z_27.1 = z_19.1 := by rw [ez_27]
  have ek_27_dr : z_27.2.1 = z_19.2.1 := by rw [ez_27]
  exact ce_v (w := (fun q9 : RS × RS × RS => wT1 G a d q9.1 ++ w5 G d q9.2.1 ++ w5 G b q9.2.2)) (z := z_27) X hr hk w (⟨by rw [ek_27_this, ez_19, ez_8], by have e9 := hr_27; rw [ez_19, ez_8] at e9; exact e9⟩) dX1_setUp_30

section Lm_c7_type
variable {p : Program} {l : Launch} {e : Env} {R : Room} {s : State} {m : MethodId} {args : Array Value} {below : List Frame} {meth : Method} {c : Code} {H : Heap} {locs : List Loc} {cells slots : Nat} {Q : State → Prop}
variable {cc : ByteArray} {pc : Nat} {ls : Array Slot} {rest : List Value} {G : CG} {A : Nat → Prop}
theorem ag_XT_X7_32_this {a : Nat → Nat} {ad : Nat → Nat → Nat} {zt : RS} {z : RS} (X : cX RX7 G A p c cc s args m) (w : va_P G.1 vwCl (wO G a ad zt ++ wT1 G (ad 5) (ad 7) z) H) (hdg : decode cc pc = .ok (.getfield 32, 3)) (kk : W p l e R s m args below meth c H locs cells slots Q (F0 m (pc + 3) ls (.ref ((ad 5) 0) :: rest))) : W p l e R s m args below meth c H locs cells slots Q (F0 m pc ls (.ref (a 0) :: rest)) :=
  va_get (D := G.1) (ci := 6) (v := .ref ((ad 5) 0)) (C := RX7) (T := TX7) (N := 8) X.1 X.2.1 X.2.2.1 gX7 X.2.2.2.1 X.2.2.2.2.1.1 w 0 rfl rfl 5 (by decide) (X.2.2.1 _ wf_X7_32) (fun _ h9 => h9) rfl hdg kk
theorem ag_XT_X7_118_ta {a : Nat → Nat} {ad : Nat → Nat → Nat} {zt : RS} {z : RS} (X : cX RX7 G A p c cc s args m) (w : va_P G.1 vwCl (wO G a ad zt ++ wT1 G (ad 5) (ad 7) z) H) (hdg : decode cc pc = .ok (.getfield 118, 3)) (kk : W p l e R s m args below meth c H locs cells slots Q (F0 m (pc + 3) ls (.int (z.1 1) :: rest))) : W p l e R s m args below meth c H locs cells slots Q (F0 m pc ls (.ref ((ad 5) 0) :: rest)) :=
  va_getN (own := RX7) (ref := RX1) (host := "RunningThree") (D := G.1) (ci := 1) (v := .int (z.1 1)) (C := RX1) (T := TX1) (N := 4) X.1 X.2.1 X.2.2.1 gX1 X.2.2.2.1 X.2.2.2.2.1.1 w 2 rfl rfl 1 (by decide) (va_Nw.use rfl (X.2.2.2.2.1.2 _ wq_X7_118)) (fun _ h9 => h9) rfl hdg kk
end Lm_c7_type
theorem ok7_type : cOk RX7 yX7_type cX7_type 2 (some .int) 1 := ⟨wc_X7_type, wi_X7_type, ws_X7_type, wn_X7, rfl, by decide, by decide, by decide +kernel⟩
set_option maxHeartbeats 4000000 in
set_option maxRecDepth 100000 in
theorem c7_type (l : Launch) (G : CG) (a : Nat → Nat) (ad : Nat → Nat → Nat) (zt : RS) (z : RS) (xa9 : Int32) (n : Nat) (T : Nat → Nat) (ht : cTp z n T) : cMi G l yX7_type cX7_type 2 (some .int) 1 22 [.ref (a 0), .int xa9] (fun q9 : RS => wO G a ad zt ++ wT1 G (ad 5) (ad 7) q9) z (fun r z9 => r = an_type n xa9 ∧ cTp z9 (nn_type n xa9) (nt_type n T xa9)) := by
  refine cMi_in (by decide) rfl (Nat.le_of_ble_eq_true rfl) ?_
  intro p e s m args below meth c A ls X hml hr hk hl w
  have hx := X.1
  have hb := X.2.1
  have hts := X.2.2.1
  have hown := X.2.2.2.1
  have hl : lv_has ls 2 [(0, .ref (a 0)), (1, .int xa9)] := hl
  have t1 := ht.2.1
  refine lv_iload_n hx hb dX7_type_0 rfl (lv_at hl 1 rfl) ?_
  refine lv_bipush (v := (nI 32)) hx hb dX7_type_1 (by decide) ?_
  refine lv_bipush (v := (nI 126)) hx hb dX7_type_3 (by decide) ?_
  refine gc_s (C := RX7) (rest := []) ⟨X.1, X.2.1, X.2.2.1, X.2.2.2.1⟩ hml hl.1 (c7_within l xa9 (nI 32) (nI 126)) ok7_within wm_X7_50 ⟨Nat.le_of_ble_eq_true rfl, Nat.le_of_ble_eq_true rfl⟩ ⟨Nat.le_refl _, Nat.le_refl _⟩ rfl (Nat.le_of_ble_eq_true rfl) dX7_type_5 (fun r_5 hr_5 => ?_) rfl
  subst hr_5
  refine tp_i (congrArg nI (w3_I rfl (by decide) (by decide) : _ = pc_inI xa9.toInt ((32 : Int)) ((126 : Int)))) ?_
  have d_5 := pc_inI_ok xa9.toInt ((32 : Int)) ((126 : Int))
  refine n_if_ne (tgt := 13) hx hb dX7_type_8 (by decide) (by omega) (fun c_8_1 => ?_) (fun c_8_1 => ?_)
  · skip
    obtain ⟨k, hk_k, ek_k⟩ := iv_n (x := xa9) (by omega)
    have hl : lv_has ls 2 [(0, .ref (a 0)), (1, .int (nI k))] := by rw [← ek_k]; exact hl
    refine lv_aload_n hx hb dX7_type_13 rfl (lv_at hl 0 rfl) ?_
    refine ag_XT_X7_32_this X w.1 dX7_type_14 ?_
    refine lv_iload_n hx hb dX7_type_17 rfl (lv_at hl 1 rfl) ?_
    refine gc_i (C := RX1) (ci := 1) (rest := []) (w := (fun q9 : RS => wT1 G (ad 5) (ad 7) q9)) (wr := [((a 0), .inr (6, [.ref (ad 0 0), .ref (ad 1 0), .ref (ad 2 0), .ref (ad 3 0), .int (zt.1 4), .ref ((ad 5) 0), .ref (ad 6 0), .ref (a 8)])), ((a 8), .inl (G.2.2.2, 4, .inr (.inr (.inr (.inr (fun j => some (ad (10 + j) 0)))))))]) (wn := (fun u9 => wO G a ad zt ++ wT1 G (ad 5) (ad 7) (u9))) X hml hl.1 (c1_add l G (ad 5) (ad 7) z k n T ht (by omega)) ok1_add wm_X7_115 ⟨Nat.le_of_ble_eq_true rfl, Nat.le_of_ble_eq_true rfl⟩ ⟨Nat.le_refl _, Nat.le_refl _⟩ w [2, 3] [0, 1] [0, 1, 2, 3] rfl (by decide) rfl (by decide) (by decide) (fun _ => rfl) (by decide) rfl rfl rfl (Nat.le_of_ble_eq_true rfl) dX7_type_18 (fun r_18 u_18 H locs hr_18 w => ?_)
    obtain ⟨z_18, ez_18⟩ : ∃ q9 : RS, q9 = u_18 := ⟨_, rfl⟩
    have w : cW G A s (wO G a ad zt ++ wT1 G (ad 5) (ad 7) z_18) H locs := by rw [ez_18]; exact w
    rw [← ez_18] at hr_18
    have h8 : r_18 = nI (if n = 100 then 0 else 1) := by by_cases g1 : n = 100; rw [if_pos g1]; exact (hr_18.1 g1).1; rw [if_neg g1]; exact (hr_18.2 g1).1
    refine tp_i h8 ?_
    have d8 : ((if n = 100 then 0 else 1) = 0 ∧ n = 100) ∨ ((if n = 100 then 0 else 1) = 1 ∧ ¬ n = 100) := by by_cases g1 : n = 100; rw [if_pos g1]; exact Or.inl ⟨rfl, g1⟩; rw [if_neg g1]; exact Or.inr ⟨rfl, g1⟩
    refine n_if_eq (tgt := 34) hx hb dX7_type_21 (by decide) (by omega) (fun c_21_2 => ?_) (fun c_21_2 => ?_)
    · skip
      refine lv_bipush (v := (iZ (-3))) hx hb dX7_type_34 (by decide) ?_
      exact ce_i (w := (fun q9 : RS => wO G a ad zt ++ wT1 G (ad 5) (ad 7) q9)) (z := z_18) X hr hk w (⟨by unfold an_type; rw [if_pos (by omega), if_pos (by omega)], by unfold nn_type nt_type; rw [if_neg (by omega), if_neg (by omega), (hr_18.1 (by omega)).2]; exact ht⟩) dX7_type_36
    · skip
      refine lv_aload_n hx hb dX7_type_24 rfl (lv_at hl 0 rfl) ?_
      refine ag_XT_X7_32_this X w.1 dX7_type_25 ?_
      refine ag_XT_X7_118_ta X w.1 dX7_type_28 ?_
      refine tp_i (show z_18.1 1 = (nI (n + 1)) from (hr_18.2 (by omega)).2.1) ?_
      refine lv_goto (tgt := 36) hx hb dX7_type_31 (by decide) ?_
      exact ce_i (w := (fun q9 : RS => wO G a ad zt ++ wT1 G (ad 5) (ad 7) q9)) (z := z_18) X hr hk w (⟨by unfold an_type; rw [if_pos (by omega), if_neg (by omega)], by unfold nn_type nt_type; rw [if_pos (by omega), if_pos (by omega), show xa9.toInt.toNat = k by omega]; exact (hr_18.2 (by omega)).2⟩) dX7_type_36
  · skip
    refine lv_iconst (v := (iZ (-1))) hx hb dX7_type_11 (by decide) ?_
    exact ce_i (w := (fun q9 : RS => wO G a ad zt ++ wT1 G (ad 5) (ad 7) q9)) (z := z) X hr hk w (⟨by unfold an_type; rw [if_neg (by omega)], by unfold nn_type nt_type; rw [if_neg (by omega), if_neg (by omega)]; exact ht⟩) dX7_type_12
