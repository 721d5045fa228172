section Lm_c2_winsOf
variable {p : Program} {l : Launch} {e : Env} {R : Room} {s : State} {m : MethodId} {args : Array Value} {below : List Frame} {meth : Method} {c : Code} {H : Heap} {locs : List Loc} {cells slots : Nat} {Q : State → Prop}
variable {cc : ByteArray} {pc : Nat} {ls : Array Slot} {rest : List Value} {G : CG} {A : Nat → Prop}
theorem ag_F4_X2_12_this {a b d e9 : Nat → Nat} {z : (RS × RS × RS) × RS} (X : cX RX2 G A p c cc s args m) (w : va_P G.1 vwCl (wF G a b d z.1 ++ w5 G e9 z.2) H) (hdg : decode cc pc = .ok (.getfield 12, 3)) (kk : W p l e R s m args below meth c H locs cells slots Q (F0 m (pc + 3) ls (.ref (b 0) :: rest))) : W p l e R s m args below meth c H locs cells slots Q (F0 m pc ls (.ref (a 0) :: rest)) :=
  va_get (D := G.1) (ci := 2) (v := .ref (b 0)) (C := RX2) (T := TX2) (N := 3) X.1 X.2.1 X.2.2.1 gX2 X.2.2.2.1 X.2.2.2.2.1.1 w 0 rfl rfl 0 (by decide) (X.2.2.1 _ wf_X2_12) (fun _ h9 => h9) rfl hdg kk
theorem ag_F4_X2_36_trial {a b d e9 : Nat → Nat} {z : (RS × RS × RS) × RS} (X : cX RX2 G A p c cc s args m) (w : va_P G.1 vwCl (wF G a b d z.1 ++ w5 G e9 z.2) H) (hdg : decode cc pc = .ok (.getfield 36, 3)) (kk : W p l e R s m args below meth c H locs cells slots Q (F0 m (pc + 3) ls (.int (z.1.2.1.1 9) :: rest))) : W p l e R s m args below meth c H locs cells slots Q (F0 m pc ls (.ref (b 0) :: rest)) :=
  va_getN (own := RX2) (ref := RX5) (host := "RunningThree") (D := G.1) (ci := 4) (v := .int (z.1.2.1.1 9)) (C := RX5) (T := TX5) (N := 13) X.1 X.2.1 X.2.2.1 gX5 X.2.2.2.1 X.2.2.2.2.1.1 w 2 rfl rfl 9 (by decide) (va_Nw.use rfl (X.2.2.2.2.1.2 _ wq_X2_36)) (fun _ h9 => h9) rfl hdg kk
theorem ag_F4_X2_95_trial {a b d e9 : Nat → Nat} {z : (RS × RS × RS) × RS} (X : cX RX2 G A p c cc s args m) (w : va_P G.1 vwCl (wF G a b d z.1 ++ w5 G e9 z.2) H) (hdg : decode cc pc = .ok (.getfield 95, 3)) (kk : W p l e R s m args below meth c H locs cells slots Q (F0 m (pc + 3) ls (.int (z.1.2.1.1 12) :: rest))) : W p l e R s m args below meth c H locs cells slots Q (F0 m pc ls (.ref (b 0) :: rest)) :=
  va_getN (own := RX2) (ref := RX5) (host := "RunningThree") (D := G.1) (ci := 4) (v := .int (z.1.2.1.1 12)) (C := RX5) (T := TX5) (N := 13) X.1 X.2.1 X.2.2.1 gX5 X.2.2.2.1 X.2.2.2.2.1.1 w 2 rfl rfl 12 (by decide) (va_Nw.use rfl (X.2.2.2.2.1.2 _ wq_X2_95)) (fun _ h9 => h9) rfl hdg kk
theorem ap_F4_X2_95_scn {a b d e9 : Nat → Nat} {z : (RS × RS × RS) × RS} {v : Int32} (X : cX RX2 G A p c cc s args m) (w : cW G A s (wF G a b d z.1 ++ w5 G e9 z.2) H locs) (hdg : decode cc pc = .ok (.putfield 95, 3)) (kk : ∀ (z1 : (RS × RS × RS) × RS) (H : Heap) (locs : List Loc), z1 = (z.1, (sI z.2 12 v)) → cW G A s (wF G a b d z1.1 ++ w5 G e9 z1.2) H locs → W p l e R s m args below meth c H locs cells slots Q (F0 m (pc + 3) ls rest)) : W p l e R s m args below meth c H locs cells slots Q (F0 m pc ls (.int v :: .ref (e9 0) :: rest)) :=
  va_putN (own := RX2) (ref := RX5) (host := "RunningThree") (D := G.1) (ci := 4) (v := .int v) (ty := .int) (C := RX5) (T := TX5) (N := 13) X.1 X.2.1 X.2.2.1 gX5 tyX5 tyX5_ok nmX5 X.2.2.2.1 X.2.2.2.2.1.1 w.1 w.2.1 w.2.2 22 rfl rfl 12 (by decide) (va_Nw.use rfl (X.2.2.2.2.1.2 _ wq_X2_95)) (fun _ h9 => h9) rfl (by decide +kernel) rfl rfl (Nat.le_of_ble_eq_true rfl) hdg (fun H1 locs1 hP hD hS => kk _ H1 locs1 rfl ⟨hP, hD, hS⟩)
theorem ap_F4_X2_36_trial {a b d e9 : Nat → Nat} {z : (RS × RS × RS) × RS} {v : Int32} (X : cX RX2 G A p c cc s args m) (w : cW G A s (wF G a b d z.1 ++ w5 G e9 z.2) H locs) (hdg : decode cc pc = .ok (.putfield 36, 3)) (kk : ∀ (z1 : (RS × RS × RS) × RS) (H : Heap) (locs : List Loc), z1 = ((z.1.1, (sI z.1.2.1 9 v), z.1.2.2), z.2) → cW G A s (wF G a b d z1.1 ++ w5 G e9 z1.2) H locs → W p l e R s m args below meth c H locs cells slots Q (F0 m (pc + 3) ls rest)) : W p l e R s m args below meth c H locs cells slots Q (F0 m pc ls (.int v :: .ref (b 0) :: rest)) :=
  va_putN (own := RX2) (ref := RX5) (host := "RunningThree") (D := G.1) (ci := 4) (v := .int v) (ty := .int) (C := RX5) (T := TX5) (N := 13) X.1 X.2.1 X.2.2.1 gX5 tyX5 tyX5_ok nmX5 X.2.2.2.1 X.2.2.2.2.1.1 w.1 w.2.1 w.2.2 2 rfl rfl 9 (by decide) (va_Nw.use rfl (X.2.2.2.2.1.2 _ wq_X2_36)) (fun _ h9 => h9) rfl (by decide +kernel) rfl rfl (Nat.le_of_ble_eq_true rfl) hdg (fun H1 locs1 hP hD hS => kk _ H1 locs1 rfl ⟨hP, hD, hS⟩)
end Lm_c2_winsOf
theorem ok2_winsOf : cOk RX2 yX2_winsOf cX2_winsOf 7 (some .int) 3 := ⟨wc_X2_winsOf, wi_X2_winsOf, ws_X2_winsOf, wn_X2, rfl, by decide, by decide, by decide +kernel⟩
set_option maxHeartbeats 4000000 in
set_option maxRecDepth 100000 in
theorem c2_winsOf (l : Launch) (G : CG) (a b d e9 : Nat → Nat) (z : (RS × RS × RS) × RS) (ta9 : Nat) (na9 : Nat) (S : Sc) (hT : cSc z.1.2.1 S) (hs : cSc z.2 S) (ho : oSc S) (h0 : sp_over S = 0) (hc420 : ¬ S.1 4 = 0 → sp_cm420 S) (ht : ta9 ≤ 400) (hm : S.1 3 ≤ 400) (hn : na9 ≤ 90) : cMi G l yX2_winsOf cX2_winsOf 7 (some .int) 6 137 [.ref (a 0), .ref (e9 0), .int (nI ta9), .int (nI na9)] (fun q9 : (RS × RS × RS) × RS => wF G a b d q9.1 ++ w5 G e9 q9.2) z (fun r z9 => r = nI (sp_fds S ta9 na9).1 ∧ cSc z9.2 (sD S (sp_fds S ta9 na9).2)) := by
  refine cMi_in (by decide) rfl (Nat.le_of_ble_eq_true rfl) ?_
  intro p e s m args below meth c A ls X hml hr hk hl w
  have hx := X.1
  have hb := X.2.1
  have hts := X.2.2.1
  have hown := X.2.2.2.1
  have hl : lv_has ls 7 [(0, .ref (a 0)), (1, .ref (e9 0)), (2, .int (nI ta9)), (3, .int (nI na9))] := hl
  obtain ⟨o1, o2, o3, o4, o5, o6, oso, oki, osr, opa, ohu, oco⟩ := id ho
  obtain ⟨h2, hd0⟩ := ov_0 h0
  have hgd := gdo_rch ho hc420 ht hm
  have hru := rch_hu S ta9
  have hmg : (sp_rch S 0 ta9).1 3 ≤ 460 := by have e1 := hgd.2.2; have e2 := hs_le hgd.1; omega
  refine lv_aload_n hx hb dX2_winsOf_0 rfl (lv_at hl 0 rfl) ?_
  refine ag_F4_X2_12_this X w.1 dX2_winsOf_1 ?_
  refine gc_p (C := RX5) (ci := 4) (rest := []) X hml hl.1 (c5_hasTurned l G b z.1.2.1  S hT.1 ho ) ok5_hasTurned wm_X2_40 ⟨Nat.le_of_ble_eq_true rfl, Nat.le_of_ble_eq_true rfl⟩ ⟨Nat.le_refl _, Nat.le_refl _⟩ w.1 [2, 3, 4, 5, 6, 7, 8, 9] rfl rfl rfl rfl (Nat.le_of_ble_eq_true rfl) dX2_winsOf_4 (fun r_4 hr_4 => ?_)
  subst hr_4
  have d_4 := pc_td_ok S
  refine n_if_ne (tgt := 32) hx hb dX2_winsOf_7 (by decide) (by omega) (fun c_7_1 => ?_) (fun c_7_1 => ?_)
  · skip
    have htd : ¬ S.1 4 = 0 := by omega
    have hR : cSc z.1.2.1 (sp_rch S 0 ta9) := by have e1 : (sp_rch S 0 ta9) = S := if_neg htd; rw [e1]; exact hT
    have hsR : cSc z.2 S := hs
    refine lv_aload_n hx hb dX2_winsOf_32 rfl (lv_at hl 0 rfl) ?_
    refine ag_F4_X2_12_this X w.1 dX2_winsOf_33 ?_
    refine ag_F4_X2_36_trial X w.1 dX2_winsOf_36 ?_
    refine tp_i (show z.1.2.1.1 9 = (nI (S.1 3)) from (cs_mo hT.1)) ?_
    refine tp_i (show nI (S.1 3) = nI ((sp_rch S 0 ta9).1 3) from by rw [show sp_rch S 0 ta9 = S from if_neg htd]) ?_
    refine lv_istore (lv' := [(4, .int (nI ((sp_rch S 0 ta9).1 3))), (0, .ref (a 0)), (1, .ref (e9 0)), (2, .int (nI ta9)), (3, .int (nI na9))]) hx hb dX2_winsOf_39 hl (by decide) rfl (fun ls hl => ?_)
    refine lv_iconst (v := (nI 0)) hx hb dX2_winsOf_41 (by decide) ?_
    refine lv_istore (lv' := [(5, .int (nI 0)), (4, .int (nI ((sp_rch S 0 ta9).1 3))), (0, .ref (a 0)), (1, .ref (e9 0)), (2, .int (nI ta9)), (3, .int (nI na9))]) hx hb dX2_winsOf_42 hl (by decide) rfl (fun ls hl => ?_)
    refine lv_iconst (v := (nI 0)) hx hb dX2_winsOf_44 (by decide) ?_
    refine lv_istore (lv' := [(6, .int (nI 0)), (5, .int (nI 0)), (4, .int (nI ((sp_rch S 0 ta9).1 3))), (0, .ref (a 0)), (1, .ref (e9 0)), (2, .int (nI ta9)), (3, .int (nI na9))]) hx hb dX2_winsOf_45 hl (by decide) rfl (fun ls hl => ?_)
    have lp_47 : ∀ (n_47 : Nat) (i : Nat) (hi : i ≤ na9) (Xs9 : Sc) (hX : sameR Xs9 (sp_rch S 0 ta9)) (hXd : Xs9.2.2 = (sp_fds S ta9 i).2) (hm_47 : na9 - i < n_47) (ls : Array Slot) (zz : (RS × RS × RS) × RS) (H : Heap) (locs : List Loc) (w : cW G A s (wF G a b d zz.1 ++ w5 G e9 zz.2) H locs) (hTz : cSc zz.1.2.1 Xs9) (hsz : cSc zz.2 S), lv_has ls 7 [(0, .ref (a 0)), (1, .ref (e9 0)), (2, .int (nI ta9)), (3, .int (nI na9)), (4, .int (nI ((sp_rch S 0 ta9).1 3))), (5, .int (nI ((sp_fds S ta9 i).1))), (6, .int (nI i))] → W p l e (ro_m 6 137) s m args below meth c H locs 0 0 (MQ below (va_Qi (fun r z9 => r = nI (sp_fds S ta9 na9).1 ∧ cSc z9.2 (sD S (sp_fds S ta9 na9).2)) (cB G (fun q9 : (RS × RS × RS) × RS => wF G a b d q9.1 ++ w5 G e9 q9.2) A) A) args s 0 0 A) (F0 m 47 ls []) := by
      intro n_47
      induction n_47 with
      | zero => intro i hi Xs9 hX hXd hm; exact absurd hm (Nat.not_lt_zero _)
      | succ n_47 ih_47 =>
        intro i hi Xs9 hX hXd hm_47 ls zz H locs w hTz hsz hl
        have q7 := fds_le S ta9 i
        refine lv_iload hx hb dX2_winsOf_47 (lv_at hl 6 rfl) ?_
        refine lv_iload_n hx hb dX2_winsOf_49 rfl (lv_at hl 3 rfl) ?_
        refine n_icmp_ge (tgt := 86) hx hb dX2_winsOf_50 (by decide) (by omega) (by omega) (fun c_50_2 => ?_) (fun c_50_2 => ?_)
        · skip
          refine lv_aload_n hx hb dX2_winsOf_86 rfl (lv_at hl 1 rfl) ?_
          refine lv_aload_n hx hb dX2_winsOf_87 rfl (lv_at hl 0 rfl) ?_
          refine ag_F4_X2_12_this X w.1 dX2_winsOf_88 ?_
          refine ag_F4_X2_95_trial X w.1 dX2_winsOf_91 ?_
          refine tp_i (show zz.1.2.1.1 12 = (sp_fds S ta9 i).2 from ((cs_dr hTz.1).trans hXd)) ?_
          refine ap_F4_X2_95_scn X w dX2_winsOf_94 (fun z_94 H locs ez_94 w => ?_)
          refine lv_iload hx hb dX2_winsOf_97 (lv_at hl 5 rfl) ?_
          exact ce_i (w := (fun q9 : (RS × RS × RS) × RS => wF G a b d q9.1 ++ w5 G e9 q9.2)) (z := z_94) X hr hk w (⟨by rw [show na9 = i by omega], by rw [ez_94, show na9 = i by omega]; exact cc_dr hsz _⟩) dX2_winsOf_99
        · skip
          refine lv_aload_n hx hb dX2_winsOf_53 rfl (lv_at hl 0 rfl) ?_
          refine ag_F4_X2_12_this X w.1 dX2_winsOf_54 ?_
          refine lv_aload_n hx hb dX2_winsOf_57 rfl (lv_at hl 1 rfl) ?_
          refine gc_v (C := RX5) (ci := 4) (rest := []) (w := (fun q9 : RS => w5 G b q9 ++ w5 G e9 zz.2)) (wr := [((a 0), .inr (2, [.ref (b 0), .ref (d 0), .ref (a 3)])), ((a 3), .inl (G.2.1, 61, .inl (zz.1.1.2.1 2))), ((d 0), .inr (0, [.int (zz.1.2.2.1 0), .ref (d 2), .ref (d 3), .ref (d 4), .ref (d 5), .ref (d 6), .ref (d 7), .ref (d 8), .ref (d 9), .ref (d 10), .ref (d 11), .ref (d 12)])), ((d 2), .inl (G.2.1, 4, .inl (zz.1.2.2.2.1 1))), ((d 3), .inl (G.2.1, 5, .inl (zz.1.2.2.2.1 2))), ((d 4), .inl (G.2.1, 4, .inl (zz.1.2.2.2.1 3))), ((d 5), .inl (G.2.1, 5, .inl (zz.1.2.2.2.1 4))), ((d 6), .inl (G.2.1, 4, .inl (zz.1.2.2.2.1 5))), ((d 7), .inl (G.2.1, 24, .inl (zz.1.2.2.2.1 6))), ((d 8), .inl (G.2.1, 24, .inl (zz.1.2.2.2.1 7))), ((d 9), .inl (G.2.1, 6, .inl (zz.1.2.2.2.1 8))), ((d 10), .inl (G.2.1, 175, .inl (zz.1.2.2.2.1 9))), ((d 11), .inl (G.2.1, 128, .inl (zz.1.2.2.2.1 10))), ((d 12), .inl (G.2.1, 128, .inl (zz.1.2.2.2.1 11)))]) (wn := (fun u9 => wF G a b d (((zz.1.1, u9, zz.1.2.2), zz.2)).1 ++ w5 G e9 (((zz.1.1, u9, zz.1.2.2), zz.2)).2)) X hml hl.1 (c5_takeHurts l G b e9 zz.2 zz.1.2.1) ok5_takeHurts wm_X2_89 ⟨Nat.le_of_ble_eq_true rfl, Nat.le_of_ble_eq_true rfl⟩ ⟨Nat.le_refl _, Nat.le_refl _⟩ w [2, 3, 4, 5, 6, 7, 8, 9, 22, 23, 24, 25, 26, 27, 28, 29] [0, 1, 10, 11, 12, 13, 14, 15, 16, 17, 18, 19, 20, 21] [0, 1, 14, 15, 16, 17, 18, 19, 20, 21, 2, 3, 4, 5, 6, 7, 8, 9, 10, 11, 12, 13, 22, 23, 24, 25, 26, 27, 28, 29] rfl (by decide) rfl (by decide) (by decide) (fun _ => rfl) (by decide) rfl rfl rfl (Nat.le_of_ble_eq_true rfl) dX2_winsOf_58 (fun u_58 H locs hr_58 w => ?_)
          obtain ⟨z_58, ez_58⟩ : ∃ q9 : (RS × RS × RS) × RS, q9 = ((zz.1.1, u_58, zz.1.2.2), zz.2) := ⟨_, rfl⟩
          have w : cW G A s (wF G a b d z_58.1 ++ w5 G e9 z_58.2) H locs := by rw [ez_58]; exact w
          have eu_58_trial : z_58.1.2.1 = u_58 := by rw [ez_58]
          rw [← eu_58_trial] at hr_58
          have ek_58_this : z_58.1.1 = zz.1.1 := by rw [ez_58]
          have ek_58_chances : z_58.1.2.2 = zz.1.2.2 := by rw [ez_58]
          have ek_58_scn : z_58.2 = zz.2 := by rw [ez_58]
          refine lv_aload_n hx hb dX2_winsOf_61 rfl (lv_at hl 0 rfl) ?_
          refine ag_F4_X2_12_this X w.1 dX2_winsOf_62 ?_
          refine lv_iload hx hb dX2_winsOf_65 (lv_at hl 4 rfl) ?_
          refine ap_F4_X2_36_trial X w dX2_winsOf_67 (fun z_67 H locs ez_67 w => ?_)
          have hN : cSc z_67.1.2.1 (sD (sp_rch S 0 ta9) (sp_fds S ta9 i).2) := by rw [ez_67, ← hXd]; show cSc (sI z_58.1.2.1 9 _) _; rw [hr_58]; exact cw_run hTz hX hsz.1 hru.1 hru.2.1 o3
          have h67 : z_67.2 = zz.2 := by rw [ez_67]; exact ek_58_scn
          refine lv_aload_n hx hb dX2_winsOf_70 rfl (lv_at hl 0 rfl) ?_
          refine gc_i (C := RX2) (ci := 2) (rest := []) (w := (fun q9 : RS × RS × RS => wF G a b d q9)) (wr := [((e9 0), .inr (4, [.int (z_67.2.1 0), .ref (e9 2), .ref (e9 3), .int (z_67.2.1 3), .ref (e9 5), .ref (e9 6), .ref (e9 7), .ref (e9 8), .int (z_67.2.1 8), .int (z_67.2.1 9), .int (z_67.2.1 10), .ref (e9 12), .int (z_67.2.1 12)])), ((e9 2), .inl (G.2.1, 40, .inl (z_67.2.2.1 1))), ((e9 3), .inl (G.2.1, 40, .inl (z_67.2.2.1 2))), ((e9 5), .inl (G.2.1, 5, .inl (z_67.2.2.1 4))), ((e9 6), .inl (G.2.1, 5, .inl (z_67.2.2.1 5))), ((e9 7), .inl (G.2.1, 5, .inl (z_67.2.2.1 6))), ((e9 8), .inl (G.2.1, 5, .inl (z_67.2.2.1 7))), ((e9 12), .inl (G.2.1, 5, .inl (z_67.2.2.1 11)))]) (wn := (fun u9 => wF G a b d (((((((((u9.1, z_67.1.2), z_67.2)).1.1, u9.2.1, (((u9.1, z_67.1.2), z_67.2)).1.2.2), (((u9.1, z_67.1.2), z_67.2)).2)).1.1, ((((((u9.1, z_67.1.2), z_67.2)).1.1, u9.2.1, (((u9.1, z_67.1.2), z_67.2)).1.2.2), (((u9.1, z_67.1.2), z_67.2)).2)).1.2.1, u9.2.2), ((((((u9.1, z_67.1.2), z_67.2)).1.1, u9.2.1, (((u9.1, z_67.1.2), z_67.2)).1.2.2), (((u9.1, z_67.1.2), z_67.2)).2)).2)).1 ++ w5 G e9 (((((((((u9.1, z_67.1.2), z_67.2)).1.1, u9.2.1, (((u9.1, z_67.1.2), z_67.2)).1.2.2), (((u9.1, z_67.1.2), z_67.2)).2)).1.1, ((((((u9.1, z_67.1.2), z_67.2)).1.1, u9.2.1, (((u9.1, z_67.1.2), z_67.2)).1.2.2), (((u9.1, z_67.1.2), z_67.2)).2)).1.2.1, u9.2.2), ((((((u9.1, z_67.1.2), z_67.2)).1.1, u9.2.1, (((u9.1, z_67.1.2), z_67.2)).1.2.2), (((u9.1, z_67.1.2), z_67.2)).2)).2)).2)) X hml hl.1 (c2_winsOne l G a b d z_67.1 (sD (sp_rch S 0 ta9) (sp_fds S ta9 i).2) hN (gdo_D _ hgd) hru.2.2 (by rw [show (sD (sp_rch S 0 ta9) (sp_fds S ta9 i).2).1 1 = (sp_rch S 0 ta9).1 1 from rfl]; omega)) ok2_winsOne wm_X2_92 ⟨Nat.le_of_ble_eq_true rfl, Nat.le_of_ble_eq_true rfl⟩ ⟨Nat.le_refl _, Nat.le_refl _⟩ w [0, 1, 2, 3, 4, 5, 6, 7, 8, 9, 10, 11, 12, 13, 14, 15, 16, 17, 18, 19, 20, 21] [22, 23, 24, 25, 26, 27, 28, 29] [8, 9, 10, 11, 12, 13, 14, 15, 16, 17, 18, 19, 20, 21, 22, 23, 24, 25, 26, 27, 28, 29, 0, 1, 2, 3, 4, 5, 6, 7] rfl (by decide) rfl (by decide) (by decide) (fun _ => rfl) (by decide) rfl rfl rfl (Nat.le_of_ble_eq_true rfl) dX2_winsOf_71 (fun r_71 u_71 H locs hr_71 w => ?_)
          obtain ⟨z_71, ez_71⟩ : ∃ q9 : (RS × RS × RS) × RS, q9 = ((((((((u_71.1, z_67.1.2), z_67.2)).1.1, u_71.2.1, (((u_71.1, z_67.1.2), z_67.2)).1.2.2), (((u_71.1, z_67.1.2), z_67.2)).2)).1.1, ((((((u_71.1, z_67.1.2), z_67.2)).1.1, u_71.2.1, (((u_71.1, z_67.1.2), z_67.2)).1.2.2), (((u_71.1, z_67.1.2), z_67.2)).2)).1.2.1, u_71.2.2), ((((((u_71.1, z_67.1.2), z_67.2)).1.1, u_71.2.1, (((u_71.1, z_67.1.2), z_67.2)).1.2.2), (((u_71.1, z_67.1.2), z_67.2)).2)).2) := ⟨_, rfl⟩
          have w : cW G A s (wF G a b d z_71.1 ++ w5 G e9 z_71.2) H locs := by rw [ez_71]; exact w
          have eu_71_this : z_71.1.1 = u_71.1 := by rw [ez_71]
          try rw [← eu_71_this] at hr_71
          have eu_71_trial : z_71.1.2.1 = u_71.2.1 := by rw [ez_71]
          try rw [← eu_71_trial] at hr_71
          have eu_71_chances : z_71.1.2.2 = u_71.2.2 := by rw [ez_71]
          try rw [← eu_71_chances] at hr_71
          have ek_71_scn : z_71.2 = z_67.2 := by rw [ez_71]
          obtain ⟨W9, hW9⟩ : ∃ W9 : Nat, W9 = (if sp_over (sp_wr (sD (sp_rch S 0 ta9) (sp_fds S ta9 i).2)) = 1 then 1 else 0) := ⟨_, rfl⟩
          have h71 := hr_71.2
          have h70 := hr_71.1
          rw [← hW9] at h70
          subst h70
          have w01 : W9 ≤ 1 := by rw [hW9]; split <;> omega
          have e8 : (sp_fds S ta9 (i + 1)).1 = (sp_fds S ta9 i).1 + W9 := by rw [fds_s, hW9]
          refine n_if_eq (tgt := 80) hx hb dX2_winsOf_74 (by decide) (by omega) (fun c_74_3 => ?_) (fun c_74_3 => ?_)
          · skip
            have hl : lv_has ls 7 [(0, .ref (a 0)), (1, .ref (e9 0)), (2, .int (nI ta9)), (3, .int (nI na9)), (4, .int (nI ((sp_rch S 0 ta9).1 3))), (5, .int (nI ((sp_fds S ta9 (i + 1)).1))), (6, .int (nI i))] := by rw [show (nI ((sp_fds S ta9 (i + 1)).1)) = (nI ((sp_fds S ta9 i).1)) from congrArg nI (by omega)]; exact hl
            refine lv_iinc (v := (nI (i + 1))) (lv' := [(6, .int (nI (i + 1))), (0, .ref (a 0)), (1, .ref (e9 0)), (2, .int (nI ta9)), (3, .int (nI na9)), (4, .int (nI ((sp_rch S 0 ta9).1 3))), (5, .int (nI ((sp_fds S ta9 (i + 1)).1)))]) hx hb dX2_winsOf_80 hl (k := 6) rfl (by first | exact nI_1 _ | (rw [show Int32.ofInt 1 = nI 1 from by decide, nI_add])) (by decide) rfl (fun ls hl => ?_)
            refine lv_goto (tgt := 47) hx hb dX2_winsOf_83 (by decide) ?_
            exact ih_47 (i + 1) (by omega) (sp_wr (sD (sp_rch S 0 ta9) (sp_fds S ta9 i).2)) (sr_tr (sr_war _ _) ⟨fun _ _ => rfl, fun _ _ => rfl⟩) (by rw [fds_s]) (by omega) ls z_71 _ _ w h71 (by rw [ek_71_scn, h67]; exact hsz) (lv_sub hl [1, 2, 3, 4, 5, 6, 0] rfl)
          · skip
            refine lv_iinc (v := (nI ((sp_fds S ta9 i).1 + 1))) (lv' := [(5, .int (nI ((sp_fds S ta9 i).1 + 1))), (0, .ref (a 0)), (1, .ref (e9 0)), (2, .int (nI ta9)), (3, .int (nI na9)), (4, .int (nI ((sp_rch S 0 ta9).1 3))), (6, .int (nI i))]) hx hb dX2_winsOf_77 hl (k := 5) rfl (by first | exact nI_1 _ | (rw [show Int32.ofInt 1 = nI 1 from by decide, nI_add])) (by decide) rfl (fun ls hl => ?_)
            have hl : lv_has ls 7 [(5, .int (nI ((sp_fds S ta9 (i + 1)).1))), (0, .ref (a 0)), (1, .ref (e9 0)), (2, .int (nI ta9)), (3, .int (nI na9)), (4, .int (nI ((sp_rch S 0 ta9).1 3))), (6, .int (nI i))] := by rw [show (nI ((sp_fds S ta9 (i + 1)).1)) = (nI ((sp_fds S ta9 i).1 + 1)) from congrArg nI (by omega)]; exact hl
            refine lv_iinc (v := (nI (i + 1))) (lv' := [(6, .int (nI (i + 1))), (5, .int (nI ((sp_fds S ta9 (i + 1)).1))), (0, .ref (a 0)), (1, .ref (e9 0)), (2, .int (nI ta9)), (3, .int (nI na9)), (4, .int (nI ((sp_rch S 0 ta9).1 3)))]) hx hb dX2_winsOf_80 hl (k := 6) rfl (by first | exact nI_1 _ | (rw [show Int32.ofInt 1 = nI 1 from by decide, nI_add])) (by decide) rfl (fun ls hl => ?_)
            refine lv_goto (tgt := 47) hx hb dX2_winsOf_83 (by decide) ?_
            exact ih_47 (i + 1) (by omega) (sp_wr (sD (sp_rch S 0 ta9) (sp_fds S ta9 i).2)) (sr_tr (sr_war _ _) ⟨fun _ _ => rfl, fun _ _ => rfl⟩) (by rw [fds_s]) (by omega) ls z_71 _ _ w h71 (by rw [ek_71_scn, h67]; exact hsz) (lv_sub hl [2, 3, 4, 5, 6, 1, 0] rfl)
    exact lp_47 _ 0 (Nat.zero_le _) (sp_rch S 0 ta9) (sr_rf _) (rch_2 S ta9) (Nat.lt_succ_self _) ls z _ _ w hR hsR (lv_sub hl [3, 4, 5, 6, 2, 1, 0] rfl)
  · skip
    have hnt : S.1 4 = 0 := by omega
    refine lv_aload_n hx hb dX2_winsOf_10 rfl (lv_at hl 0 rfl) ?_
    refine ag_F4_X2_12_this X w.1 dX2_winsOf_11 ?_
    refine lv_aload_n hx hb dX2_winsOf_14 rfl (lv_at hl 0 rfl) ?_
    refine ag_F4_X2_12_this X w.1 dX2_winsOf_15 ?_
    refine lv_aload_n hx hb dX2_winsOf_18 rfl (lv_at hl 0 rfl) ?_
    refine ag_F4_X2_12_this X w.1 dX2_winsOf_19 ?_
    refine ag_F4_X2_36_trial X w.1 dX2_winsOf_22 ?_
    refine tp_i (show z.1.2.1.1 9 = (nI (S.1 3)) from (cs_mo hT.1)) ?_
    refine lv_iload_n hx hb dX2_winsOf_25 rfl (lv_at hl 2 rfl) ?_
    refine gc_p (C := RX5) (ci := 4) (rest := [.ref (b 0)]) X hml hl.1 (c5_turnMoment l G b z.1.2.1 (S.1 3) ta9 S hT.1 ho (by omega) (by omega) (by omega)) ok5_turnMoment wm_X2_47 ⟨Nat.le_of_ble_eq_true rfl, Nat.le_of_ble_eq_true rfl⟩ ⟨Nat.le_refl _, Nat.le_refl _⟩ w.1 [2, 3, 4, 5, 6, 7, 8, 9] rfl rfl rfl rfl (Nat.le_of_ble_eq_true rfl) dX2_winsOf_26 (fun r_26 hr_26 => ?_)
    subst hr_26
    have d_26 := sp_tm_le S 0 (ta9 - (S.1 3)) (S.1 3)
    refine gc_v (C := RX5) (ci := 4) (rest := []) (w := (fun q9 : RS => w5 G b q9)) (wr := [((a 0), .inr (2, [.ref (b 0), .ref (d 0), .ref (a 3)])), ((a 3), .inl (G.2.1, 61, .inl (z.1.1.2.1 2))), ((d 0), .inr (0, [.int (z.1.2.2.1 0), .ref (d 2), .ref (d 3), .ref (d 4), .ref (d 5), .ref (d 6), .ref (d 7), .ref (d 8), .ref (d 9), .ref (d 10), .ref (d 11), .ref (d 12)])), ((d 2), .inl (G.2.1, 4, .inl (z.1.2.2.2.1 1))), ((d 3), .inl (G.2.1, 5, .inl (z.1.2.2.2.1 2))), ((d 4), .inl (G.2.1, 4, .inl (z.1.2.2.2.1 3))), ((d 5), .inl (G.2.1, 5, .inl (z.1.2.2.2.1 4))), ((d 6), .inl (G.2.1, 4, .inl (z.1.2.2.2.1 5))), ((d 7), .inl (G.2.1, 24, .inl (z.1.2.2.2.1 6))), ((d 8), .inl (G.2.1, 24, .inl (z.1.2.2.2.1 7))), ((d 9), .inl (G.2.1, 6, .inl (z.1.2.2.2.1 8))), ((d 10), .inl (G.2.1, 175, .inl (z.1.2.2.2.1 9))), ((d 11), .inl (G.2.1, 128, .inl (z.1.2.2.2.1 10))), ((d 12), .inl (G.2.1, 128, .inl (z.1.2.2.2.1 11))), ((e9 0), .inr (4, [.int (z.2.1 0), .ref (e9 2), .ref (e9 3), .int (z.2.1 3), .ref (e9 5), .ref (e9 6), .ref (e9 7), .ref (e9 8), .int (z.2.1 8), .int (z.2.1 9), .int (z.2.1 10), .ref (e9 12), .int (z.2.1 12)])), ((e9 2), .inl (G.2.1, 40, .inl (z.2.2.1 1))), ((e9 3), .inl (G.2.1, 40, .inl (z.2.2.1 2))), ((e9 5), .inl (G.2.1, 5, .inl (z.2.2.1 4))), ((e9 6), .inl (G.2.1, 5, .inl (z.2.2.1 5))), ((e9 7), .inl (G.2.1, 5, .inl (z.2.2.1 6))), ((e9 8), .inl (G.2.1, 5, .inl (z.2.2.1 7))), ((e9 12), .inl (G.2.1, 5, .inl (z.2.2.1 11)))]) (wn := (fun u9 => wF G a b d (((z.1.1, u9, z.1.2.2), z.2)).1 ++ w5 G e9 (((z.1.1, u9, z.1.2.2), z.2)).2)) X hml hl.1 (c5_turnIn l G b z.1.2.1 (sp_tm S 0 (ta9 - S.1 3) (S.1 3)) S hT.1 ho (by omega) (by omega)) ok5_turnIn wm_X2_85 ⟨Nat.le_of_ble_eq_true rfl, Nat.le_of_ble_eq_true rfl⟩ ⟨Nat.le_refl _, Nat.le_refl _⟩ w [2, 3, 4, 5, 6, 7, 8, 9] [0, 1, 10, 11, 12, 13, 14, 15, 16, 17, 18, 19, 20, 21, 22, 23, 24, 25, 26, 27, 28, 29] [0, 1, 22, 23, 24, 25, 26, 27, 28, 29, 2, 3, 4, 5, 6, 7, 8, 9, 10, 11, 12, 13, 14, 15, 16, 17, 18, 19, 20, 21] rfl (by decide) rfl (by decide) (by decide) (fun _ => rfl) (by decide) rfl rfl rfl (Nat.le_of_ble_eq_true rfl) dX2_winsOf_29 (fun u_29 H locs hr_29 w => ?_)
    obtain ⟨z_29, ez_29⟩ : ∃ q9 : (RS × RS × RS) × RS, q9 = ((z.1.1, u_29, z.1.2.2), z.2) := ⟨_, rfl⟩
    have w : cW G A s (wF G a b d z_29.1 ++ w5 G e9 z_29.2) H locs := by rw [ez_29]; exact w
    have eu_29_trial : z_29.1.2.1 = u_29 := by rw [ez_29]
    rw [← eu_29_trial] at hr_29
    have ek_29_this : z_29.1.1 = z.1.1 := by rw [ez_29]
    have ek_29_chances : z_29.1.2.2 = z.1.2.2 := by rw [ez_29]
    have ek_29_scn : z_29.2 = z.2 := by rw [ez_29]
    have hR : cSc z_29.1.2.1 (sp_rch S 0 ta9) := by have e1 : (sp_rch S 0 ta9) = sp_turn S 0 (sp_tm S 0 (ta9 - S.1 3) (S.1 3)) := if_pos hnt; rw [e1]; exact hr_29
    have hsR : cSc z_29.2 S := by rw [ek_29_scn]; exact hs
    refine lv_aload_n hx hb dX2_winsOf_32 rfl (lv_at hl 0 rfl) ?_
    refine ag_F4_X2_12_this X w.1 dX2_winsOf_33 ?_
    refine ag_F4_X2_36_trial X w.1 dX2_winsOf_36 ?_
    refine tp_i (show z_29.1.2.1.1 9 = (nI ((sp_rch S 0 ta9).1 3)) from (cs_mo hR.1)) ?_
    refine lv_istore (lv' := [(4, .int (nI ((sp_rch S 0 ta9).1 3))), (0, .ref (a 0)), (1, .ref (e9 0)), (2, .int (nI ta9)), (3, .int (nI na9))]) hx hb dX2_winsOf_39 hl (by decide) rfl (fun ls hl => ?_)
    refine lv_iconst (v := (nI 0)) hx hb dX2_winsOf_41 (by decide) ?_
    refine lv_istore (lv' := [(5, .int (nI 0)), (4, .int (nI ((sp_rch S 0 ta9).1 3))), (0, .ref (a 0)), (1, .ref (e9 0)), (2, .int (nI ta9)), (3, .int (nI na9))]) hx hb dX2_winsOf_42 hl (by decide) rfl (fun ls hl => ?_)
    refine lv_iconst (v := (nI 0)) hx hb dX2_winsOf_44 (by decide) ?_
    refine lv_istore (lv' := [(6, .int (nI 0)), (5, .int (nI 0)), (4, .int (nI ((sp_rch S 0 ta9).1 3))), (0, .ref (a 0)), (1, .ref (e9 0)), (2, .int (nI ta9)), (3, .int (nI na9))]) hx hb dX2_winsOf_45 hl (by decide) rfl (fun ls hl => ?_)
    have lp_47 : ∀ (n_47 : Nat) (i : Nat) (hi : i ≤ na9) (Xs9 : Sc) (hX : sameR Xs9 (sp_rch S 0 ta9)) (hXd : Xs9.2.2 = (sp_fds S ta9 i).2) (hm_47 : na9 - i < n_47) (ls : Array Slot) (zz : (RS × RS × RS) × RS) (H : Heap) (locs : List Loc) (w : cW G A s (wF G a b d zz.1 ++ w5 G e9 zz.2) H locs) (hTz : cSc zz.1.2.1 Xs9) (hsz : cSc zz.2 S), lv_has ls 7 [(0, .ref (a 0)), (1, .ref (e9 0)), (2, .int (nI ta9)), (3, .int (nI na9)), (4, .int (nI ((sp_rch S 0 ta9).1 3))), (5, .int (nI ((sp_fds S ta9 i).1))), (6, .int (nI i))] → W p l e (ro_m 6 137) s m args below meth c H locs 0 0 (MQ below (va_Qi (fun r z9 => r = nI (sp_fds S ta9 na9).1 ∧ cSc z9.2 (sD S (sp_fds S ta9 na9).2)) (cB G (fun q9 : (RS × RS × RS) × RS => wF G a b d q9.1 ++ w5 G e9 q9.2) A) A) args s 0 0 A) (F0 m 47 ls []) := by
      intro n_47
      induction n_47 with
      | zero => intro i hi Xs9 hX hXd hm; exact absurd hm (Nat.not_lt_zero _)
      | succ n_47 ih_47 =>
        intro i hi Xs9 hX hXd hm_47 ls zz H locs w hTz hsz hl
        have q7 := fds_le S ta9 i
        refine lv_iload hx hb dX2_winsOf_47 (lv_at hl 6 rfl) ?_
        refine lv_iload_n hx hb dX2_winsOf_49 rfl (lv_at hl 3 rfl) ?_
        refine n_icmp_ge (tgt := 86) hx hb dX2_winsOf_50 (by decide) (by omega) (by omega) (fun c_50_4 => ?_) (fun c_50_4 => ?_)
        · skip
          refine lv_aload_n hx hb dX2_winsOf_86 rfl (lv_at hl 1 rfl) ?_
          refine lv_aload_n hx hb dX2_winsOf_87 rfl (lv_at hl 0 rfl) ?_
          refine ag_F4_X2_12_this X w.1 dX2_winsOf_88 ?_
          refine ag_F4_X2_95_trial X w.1 dX2_winsOf_91 ?_
          refine tp_i (show zz.1.2.1.1 12 = (sp_fds S ta9 i).2 from ((cs_dr hTz.1).trans hXd)) ?_
          refine ap_F4_X2_95_scn X w dX2_winsOf_94 (fun z_94 H locs ez_94 w => ?_)
          refine lv_iload hx hb dX2_winsOf_97 (lv_at hl 5 rfl) ?_
          exact ce_i (w := (fun q9 : (RS × RS × RS) × RS => wF G a b d q9.1 ++ w5 G e9 q9.2)) (z := z_94) X hr hk w (⟨by rw [show na9 = i by omega], by rw [ez_94, show na9 = i by omega]; exact cc_dr hsz _⟩) dX2_winsOf_99
        · skip
          refine lv_aload_n hx hb dX2_winsOf_53 rfl (lv_at hl 0 rfl) ?_
          refine ag_F4_X2_12_this X w.1 dX2_winsOf_54 ?_
          refine lv_aload_n hx hb dX2_winsOf_57 rfl (lv_at hl 1 rfl) ?_
          refine gc_v (C := RX5) (ci := 4) (rest := []) (w := (fun q9 : RS => w5 G b q9 ++ w5 G e9 zz.2)) (wr := [((a 0), .inr (2, [.ref (b 0), .ref (d 0), .ref (a 3)])), ((a 3), .inl (G.2.1, 61, .inl (zz.1.1.2.1 2))), ((d 0), .inr (0, [.int (zz.1.2.2.1 0), .ref (d 2), .ref (d 3), .ref (d 4), .ref (d 5), .ref (d 6), .ref (d 7), .ref (d 8), .ref (d 9), .ref (d 10), .ref (d 11), .ref (d 12)])), ((d 2), .inl (G.2.1, 4, .inl (zz.1.2.2.2.1 1))), ((d 3), .inl (G.2.1, 5, .inl (zz.1.2.2.2.1 2))), ((d 4), .inl (G.2.1, 4, .inl (zz.1.2.2.2.1 3))), ((d 5), .inl (G.2.1, 5, .inl (zz.1.2.2.2.1 4))), ((d 6), .inl (G.2.1, 4, .inl (zz.1.2.2.2.1 5))), ((d 7), .inl (G.2.1, 24, .inl (zz.1.2.2.2.1 6))), ((d 8), .inl (G.2.1, 24, .inl (zz.1.2.2.2.1 7))), ((d 9), .inl (G.2.1, 6, .inl (zz.1.2.2.2.1 8))), ((d 10), .inl (G.2.1, 175, .inl (zz.1.2.2.2.1 9))), ((d 11), .inl (G.2.1, 128, .inl (zz.1.2.2.2.1 10))), ((d 12), .inl (G.2.1, 128, .inl (zz.1.2.2.2.1 11)))]) (wn := (fun u9 => wF G a b d (((zz.1.1, u9, zz.1.2.2), zz.2)).1 ++ w5 G e9 (((zz.1.1, u9, zz.1.2.2), zz.2)).2)) X hml hl.1 (c5_takeHurts l G b e9 zz.2 zz.1.2.1) ok5_takeHurts wm_X2_89 ⟨Nat.le_of_ble_eq_true rfl, Nat.le_of_ble_eq_true rfl⟩ ⟨Nat.le_refl _, Nat.le_refl _⟩ w [2, 3, 4, 5, 6, 7, 8, 9, 22, 23, 24, 25, 26, 27, 28, 29] [0, 1, 10, 11, 12, 13, 14, 15, 16, 17, 18, 19, 20, 21] [0, 1, 14, 15, 16, 17, 18, 19, 20, 21, 2, 3, 4, 5, 6, 7, 8, 9, 10, 11, 12, 13, 22, 23, 24, 25, 26, 27, 28, 29] rfl (by decide) rfl (by decide) (by decide) (fun _ => rfl) (by decide) rfl rfl rfl (Nat.le_of_ble_eq_true rfl) dX2_winsOf_58 (fun u_58 H locs hr_58 w => ?_)
          obtain ⟨z_58, ez_58⟩ : ∃ q9 : (RS × RS × RS) × RS, q9 = ((zz.1.1, u_58, zz.1.2.2), zz.2) := ⟨_, rfl⟩
          have w : cW G A s (wF G a b d z_58.1 ++ w5 G e9 z_58.2) H locs := by rw [ez_58]; exact w
          have eu_58_trial : z_58.1.2.1 = u_58 := by rw [ez_58]
          rw [← eu_58_trial] at hr_58
          have ek_58_this : z_58.1.1 = zz.1.1 := by rw [ez_58]
          have ek_58_chances : z_58.1.2.2 = zz.1.2.2 := by rw [ez_58]
          have ek_58_scn : z_58.2 = zz.2 := by rw [ez_58]
          refine lv_aload_n hx hb dX2_winsOf_61 rfl (lv_at hl 0 rfl) ?_
          refine ag_F4_X2_12_this X w.1 dX2_winsOf_62 ?_
          refine lv_iload hx hb dX2_winsOf_65 (lv_at hl 4 rfl) ?_
          refine ap_F4_X2_36_trial X w dX2_winsOf_67 (fun z_67 H locs ez_67 w => ?_)
          have hN : cSc z_67.1.2.1 (sD (sp_rch S 0 ta9) (sp_fds S ta9 i).2) := by rw [ez_67, ← hXd]; show cSc (sI z_58.1.2.1 9 _) _; rw [hr_58]; exact cw_run hTz hX hsz.1 hru.1 hru.2.1 o3
          have h67 : z_67.2 = zz.2 := by rw [ez_67]; exact ek_58_scn
          refine lv_aload_n hx hb dX2_winsOf_70 rfl (lv_at hl 0 rfl) ?_
          refine gc_i (C := RX2) (ci := 2) (rest := []) (w := (fun q9 : RS × RS × RS => wF G a b d q9)) (wr := [((e9 0), .inr (4, [.int (z_67.2.1 0), .ref (e9 2), .ref (e9 3), .int (z_67.2.1 3), .ref (e9 5), .ref (e9 6), .ref (e9 7), .ref (e9 8), .int (z_67.2.1 8), .int (z_67.2.1 9), .int (z_67.2.1 10), .ref (e9 12), .int (z_67.2.1 12)])), ((e9 2), .inl (G.2.1, 40, .inl (z_67.2.2.1 1))), ((e9 3), .inl (G.2.1, 40, .inl (z_67.2.2.1 2))), ((e9 5), .inl (G.2.1, 5, .inl (z_67.2.2.1 4))), ((e9 6), .inl (G.2.1, 5, .inl (z_67.2.2.1 5))), ((e9 7), .inl (G.2.1, 5, .inl (z_67.2.2.1 6))), ((e9 8), .inl (G.2.1, 5, .inl (z_67.2.2.1 7))), ((e9 12), .inl (G.2.1, 5, .inl (z_67.2.2.1 11)))]) (wn := (fun u9 => wF G a b d (((((((((u9.1, z_67.1.2), z_67.2)).1.1, u9.2.1, (((u9.1, z_67.1.2), z_67.2)).1.2.2), (((u9.1, z_67.1.2), z_67.2)).2)).1.1, ((((((u9.1, z_67.1.2), z_67.2)).1.1, u9.2.1, (((u9.1, z_67.1.2), z_67.2)).1.2.2), (((u9.1, z_67.1.2), z_67.2)).2)).1.2.1, u9.2.2), ((((((u9.1, z_67.1.2), z_67.2)).1.1, u9.2.1, (((u9.1, z_67.1.2), z_67.2)).1.2.2), (((u9.1, z_67.1.2), z_67.2)).2)).2)).1 ++ w5 G e9 (((((((((u9.1, z_67.1.2), z_67.2)).1.1, u9.2.1, (((u9.1, z_67.1.2), z_67.2)).1.2.2), (((u9.1, z_67.1.2), z_67.2)).2)).1.1, ((((((u9.1, z_67.1.2), z_67.2)).1.1, u9.2.1, (((u9.1, z_67.1.2), z_67.2)).1.2.2), (((u9.1, z_67.1.2), z_67.2)).2)).1.2.1, u9.2.2), ((((((u9.1, z_67.1.2), z_67.2)).1.1, u9.2.1, (((u9.1, z_67.1.2), z_67.2)).1.2.2), (((u9.1, z_67.1.2), z_67.2)).2)).2)).2)) X hml hl.1 (c2_winsOne l G a b d z_67.1 (sD (sp_rch S 0 ta9) (sp_fds S ta9 i).2) hN (gdo_D _ hgd) hru.2.2 (by rw [show (sD (sp_rch S 0 ta9) (sp_fds S ta9 i).2).1 1 = (sp_rch S 0 ta9).1 1 from rfl]; omega)) ok2_winsOne wm_X2_92 ⟨Nat.le_of_ble_eq_true rfl, Nat.le_of_ble_eq_true rfl⟩ ⟨Nat.le_refl _, Nat.le_refl _⟩ w [0, 1, 2, 3, 4, 5, 6, 7, 8, 9, 10, 11, 12, 13, 14, 15, 16, 17, 18, 19, 20, 21] [22, 23, 24, 25, 26, 27, 28, 29] [8, 9, 10, 11, 12, 13, 14, 15, 16, 17, 18, 19, 20, 21, 22, 23, 24, 25, 26, 27, 28, 29, 0, 1, 2, 3, 4, 5, 6, 7] rfl (by decide) rfl (by decide) (by decide) (fun _ => rfl) (by decide) rfl rfl rfl (Nat.le_of_ble_eq_true rfl) dX2_winsOf_71 (fun r_71 u_71 H locs hr_71 w => ?_)
          obtain ⟨z_71, ez_71⟩ : ∃ q9 : (RS × RS × RS) × RS, q9 = ((((((((u_71.1, z_67.1.2), z_67.2)).1.1, u_71.2.1, (((u_71.1, z_67.1.2), z_67.2)).1.2.2), (((u_71.1, z_67.1.2), z_67.2)).2)).1.1, ((((((u_71.1, z_67.1.2), z_67.2)).1.1, u_71.2.1, (((u_71.1, z_67.1.2), z_67.2)).1.2.2), (((u_71.1, z_67.1.2), z_67.2)).2)).1.2.1, u_71.2.2), ((((((u_71.1, z_67.1.2), z_67.2)).1.1, u_71.2.1, (((u_71.1, z_67.1.2), z_67.2)).1.2.2), (((u_71.1, z_67.1.2), z_67.2)).2)).2) := ⟨_, rfl⟩
          have w : cW G A s (wF G a b d z_71.1 ++ w5 G e9 z_71.2) H locs := by rw [ez_71]; exact w
          have eu_71_this : z_71.1.1 = u_71.1 := by rw [ez_71]
          try rw [← eu_71_this] at hr_71
          have eu_71_trial : z_71.1.2.1 = u_71.2.1 := by rw [ez_71]
          try rw [← eu_71_trial] at hr_71
          have eu_71_chances : z_71.1.2.2 = u_71.2.2 := by rw [ez_71]
          try rw [← eu_71_chances] at hr_71
          have ek_71_scn : z_71.2 = z_67.2 := by rw [ez_71]
          obtain ⟨W9, hW9⟩ : ∃ W9 : Nat, W9 = (if sp_over (sp_wr (sD (sp_rch S 0 ta9) (sp_fds S ta9 i).2)) = 1 then 1 else 0) := ⟨_, rfl⟩
          have h71 := hr_71.2
          have h70 := hr_71.1
          rw [← hW9] at h70
          subst h70
          have w01 : W9 ≤ 1 := by rw [hW9]; split <;> omega
          have e8 : (sp_fds S ta9 (i + 1)).1 = (sp_fds S ta9 i).1 + W9 := by rw [fds_s, hW9]
          refine n_if_eq (tgt := 80) hx hb dX2_winsOf_74 (by decide) (by omega) (fun c_74_5 => ?_) (fun c_74_5 => ?_)
          · skip
            have hl : lv_has ls 7 [(0, .ref (a 0)), (1, .ref (e9 0)), (2, .int (nI ta9)), (3, .int (nI na9)), (4, .int (nI ((sp_rch S 0 ta9).1 3))), (5, .int (nI ((sp_fds S ta9 (i + 1)).1))), (6, .int (nI i))] := by rw [show (nI ((sp_fds S ta9 (i + 1)).1)) = (nI ((sp_fds S ta9 i).1)) from congrArg nI (by omega)]; exact hl
            refine lv_iinc (v := (nI (i + 1))) (lv' := [(6, .int (nI (i + 1))), (0, .ref (a 0)), (1, .ref (e9 0)), (2, .int (nI ta9)), (3, .int (nI na9)), (4, .int (nI ((sp_rch S 0 ta9).1 3))), (5, .int (nI ((sp_fds S ta9 (i + 1)).1)))]) hx hb dX2_winsOf_80 hl (k := 6) rfl (by first | exact nI_1 _ | (rw [show Int32.ofInt 1 = nI 1 from by decide, nI_add])) (by decide) rfl (fun ls hl => ?_)
            refine lv_goto (tgt := 47) hx hb dX2_winsOf_83 (by decide) ?_
            exact ih_47 (i + 1) (by omega) (sp_wr (sD (sp_rch S 0 ta9) (sp_fds S ta9 i).2)) (sr_tr (sr_war _ _) ⟨fun _ _ => rfl, fun _ _ => rfl⟩) (by rw [fds_s]) (by omega) ls z_71 _ _ w h71 (by rw [ek_71_scn, h67]; exact hsz) (lv_sub hl [1, 2, 3, 4, 5, 6, 0] rfl)
          · skip
            refine lv_iinc (v := (nI ((sp_fds S ta9 i).1 + 1))) (lv' := [(5, .int (nI ((sp_fds S ta9 i).1 + 1))), (0, .ref (a 0)), (1, .ref (e9 0)), (2, .int (nI ta9)), (3, .int (nI na9)), (4, .int (nI ((sp_rch S 0 ta9).1 3))), (6, .int (nI i))]) hx hb dX2_winsOf_77 hl (k := 5) rfl (by first | exact nI_1 _ | (rw [show Int32.ofInt 1 = nI 1 from by decide, nI_add])) (by decide) rfl (fun ls hl => ?_)
            have hl : lv_has ls 7 [(5, .int (nI ((sp_fds S ta9 (i + 1)).1))), (0, .ref (a 0)), (1, .ref (e9 0)), (2, .int (nI ta9)), (3, .int (nI na9)), (4, .int (nI ((sp_rch S 0 ta9).1 3))), (6, .int (nI i))] := by rw [show (nI ((sp_fds S ta9 (i + 1)).1)) = (nI ((sp_fds S ta9 i).1 + 1)) from congrArg nI (by omega)]; exact hl
            refine lv_iinc (v := (nI (i + 1))) (lv' := [(6, .int (nI (i + 1))), (5, .int (nI ((sp_fds S ta9 (i + 1)).1))), (0, .ref (a 0)), (1, .ref (e9 0)), (2, .int (nI ta9)), (3, .int (nI na9)), (4, .int (nI ((sp_rch S 0 ta9).1 3)))]) hx hb dX2_winsOf_80 hl (k := 6) rfl (by first | exact nI_1 _ | (rw [show Int32.ofInt 1 = nI 1 from by decide, nI_add])) (by decide) rfl (fun ls hl => ?_)
            refine lv_goto (tgt := 47) hx hb dX2_winsOf_83 (by decide) ?_
            exact ih_47 (i + 1) (by omega) (sp_wr (sD (sp_rch S 0 ta9) (sp_fds S ta9 i).2)) (sr_tr (sr_war _ _) ⟨fun _ _ => rfl, fun _ _ => rfl⟩) (by rw [fds_s]) (by omega) ls z_71 _ _ w h71 (by rw [ek_71_scn, h67]; exact hsz) (lv_sub hl [2, 3, 4, 5, 6, 1, 0] rfl)
    exact lp_47 _ 0 (Nat.zero_le _) (sp_rch S 0 ta9) (sr_rf _) (rch_2 S ta9) (Nat.lt_succ_self _) ls z_29 _ _ w hR hsR (lv_sub hl [3, 4, 5, 6, 2, 1, 0] rfl)
