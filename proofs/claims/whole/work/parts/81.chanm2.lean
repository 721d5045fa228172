section Lm_c0_tellWaits
variable {p : Program} {l : Launch} {e : Env} {R : Room} {s : State} {m : MethodId} {args : Array Value} {below : List Frame} {meth : Method} {c : Code} {H : Heap} {locs : List Loc} {cells slots : Nat} {Q : State → Prop}
variable {cc : ByteArray} {pc : Nat} {ls : Array Slot} {rest : List Value} {G : CG} {A : Nat → Prop}
theorem ag_C_X0_11_this {a : Nat → Nat} {z : RS} (X : cX RX0 G A p c cc s args m) (w : va_P G.1 vwCl (w0 G a z) H) (hdg : decode cc pc = .ok (.getfield 11, 3)) (kk : W p l e R s m args below meth c H locs cells slots Q (F0 m (pc + 3) ls (.ref (a 2) :: rest))) : W p l e R s m args below meth c H locs cells slots Q (F0 m pc ls (.ref (a 0) :: rest)) :=
  va_get (D := G.1) (ci := 0) (v := .ref (a 2)) (C := RX0) (T := TX0) (N := 12) X.1 X.2.1 X.2.2.1 gX0 X.2.2.2.1 X.2.2.2.2.1.1 w 0 rfl rfl 1 (by decide) (X.2.2.1 _ wf_X0_11) (fun _ h9 => h9) rfl hdg kk
theorem an_C_this_1 {own : String} {a : Nat → Nat} {z : RS} {j : Nat} (X : cX own G A p c cc s args m) (w : va_P G.1 vwCl (w0 G a z) H) (hj : j < 4) (hdg : decode cc pc = .ok (.iaload, 1)) (kk : W p l e R s m args below meth c H locs cells slots Q (F0 m (pc + 1) ls (.int (z.2.1 1 j) :: rest))) : W p l e R s m args below meth c H locs cells slots Q (F0 m pc ls (.int (nI j) :: .ref (a 2) :: rest)) :=
  va_iald X.1 X.2.1 X.2.2.2.2.1.1 w 1 0 rfl rfl (vp_in_nI hj (by decide)) hdg (by rw [nI_clamp (by omega)]; exact kk)
theorem an_C_this_2 {own : String} {a : Nat → Nat} {z : RS} {j : Nat} (X : cX own G A p c cc s args m) (w : va_P G.1 vwCl (w0 G a z) H) (hj : j < 5) (hdg : decode cc pc = .ok (.iaload, 1)) (kk : W p l e R s m args below meth c H locs cells slots Q (F0 m (pc + 1) ls (.int (z.2.1 2 j) :: rest))) : W p l e R s m args below meth c H locs cells slots Q (F0 m pc ls (.int (nI j) :: .ref (a 3) :: rest)) :=
  va_iald X.1 X.2.1 X.2.2.2.2.1.1 w 2 0 rfl rfl (vp_in_nI hj (by decide)) hdg (by rw [nI_clamp (by omega)]; exact kk)
theorem ag_C_X0_18_this {a : Nat → Nat} {z : RS} (X : cX RX0 G A p c cc s args m) (w : va_P G.1 vwCl (w0 G a z) H) (hdg : decode cc pc = .ok (.getfield 18, 3)) (kk : W p l e R s m args below meth c H locs cells slots Q (F0 m (pc + 3) ls (.ref (a 4) :: rest))) : W p l e R s m args below meth c H locs cells slots Q (F0 m pc ls (.ref (a 0) :: rest)) :=
  va_get (D := G.1) (ci := 0) (v := .ref (a 4)) (C := RX0) (T := TX0) (N := 12) X.1 X.2.1 X.2.2.1 gX0 X.2.2.2.1 X.2.2.2.2.1.1 w 0 rfl rfl 3 (by decide) (X.2.2.1 _ wf_X0_18) (fun _ h9 => h9) rfl hdg kk
theorem au_C_this_3 {own : String} {a : Nat → Nat} {z : RS} {j : Nat} {v : Int32} (X : cX own G A p c cc s args m) (w : cW G A s (w0 G a z) H locs) (hj : j < 4) (hdg : decode cc pc = .ok (.iastore, 1)) (kk : ∀ (z1 : RS) (H : Heap) (locs : List Loc), z1 = (sA z 3 j v) → cW G A s (w0 G a z1) H locs → W p l e R s m args below meth c H locs cells slots Q (F0 m (pc + 1) ls rest)) : W p l e R s m args below meth c H locs cells slots Q (F0 m pc ls (.int v :: .int (nI j) :: .ref (a 4) :: rest)) := by
  refine va_iast X.1 X.2.1 X.2.2.2.2.1.1 w.1 w.2.1 w.2.2 3 0 rfl rfl (vp_in_nI hj (by decide)) hdg ?_
  rw [nI_clamp (by omega)]
  exact fun H1 locs1 hP hD hS => kk _ H1 locs1 rfl ⟨hP, hD, hS⟩
theorem ag_C_X0_69_this {a : Nat → Nat} {z : RS} (X : cX RX0 G A p c cc s args m) (w : va_P G.1 vwCl (w0 G a z) H) (hdg : decode cc pc = .ok (.getfield 69, 3)) (kk : W p l e R s m args below meth c H locs cells slots Q (F0 m (pc + 3) ls (.int (z.1 0) :: rest))) : W p l e R s m args below meth c H locs cells slots Q (F0 m pc ls (.ref (a 0) :: rest)) :=
  va_get (D := G.1) (ci := 0) (v := .int (z.1 0)) (C := RX0) (T := TX0) (N := 12) X.1 X.2.1 X.2.2.1 gX0 X.2.2.2.1 X.2.2.2.2.1.1 w 0 rfl rfl 0 (by decide) (X.2.2.1 _ wf_X0_69) (fun _ h9 => h9) rfl hdg kk
theorem an_C_this_3 {own : String} {a : Nat → Nat} {z : RS} {j : Nat} (X : cX own G A p c cc s args m) (w : va_P G.1 vwCl (w0 G a z) H) (hj : j < 4) (hdg : decode cc pc = .ok (.iaload, 1)) (kk : W p l e R s m args below meth c H locs cells slots Q (F0 m (pc + 1) ls (.int (z.2.1 3 j) :: rest))) : W p l e R s m args below meth c H locs cells slots Q (F0 m pc ls (.int (nI j) :: .ref (a 4) :: rest)) :=
  va_iald X.1 X.2.1 X.2.2.2.2.1.1 w 3 0 rfl rfl (vp_in_nI hj (by decide)) hdg (by rw [nI_clamp (by omega)]; exact kk)
end Lm_c0_tellWaits
theorem ok0_tellWaits : cOk RX0 yX0_tellWaits cX0_tellWaits 6 none 1 := ⟨wc_X0_tellWaits, wi_X0_tellWaits, ws_X0_tellWaits, wn_X0, rfl, by decide, by decide, by decide +kernel⟩
set_option maxHeartbeats 4000000 in
set_option maxRecDepth 100000 in
theorem c0_tellWaits (l : Launch) (G : CG) (a : Nat → Nat) (z : RS) (ma9 : Nat) (na : Nat) (ro cf : Nat → Nat) (h0 : z.1 0 = nI na) (h1 : ∀ j, j < na → z.2.1 1 j = nI (ro j)) (hro : ∀ j, j < na → (1 ≤ ro j ∧ ro j < 5) ∧ z.2.1 2 (ro j) = nI (cf (ro j))) (hn : na ≤ 4) (hn1 : 1 ≤ na) (hcb : ∀ f, cf f ≤ 2000000000) (hso : ∀ j, j + 1 < na → cf (ro j) ≤ cf (ro (j + 1))) (hm : ma9 ≤ 100000) : cMv G l yX0_tellWaits cX0_tellWaits 6 none 1 21 [.ref (a 0), .int (nI ma9)] (fun q9 : RS => w0 G a q9) z (fun z9 => (∀ j, j < na → z9.2.1 3 j = nI (cwW (fun j => cf (ro j)) (max ma9 (cf (ro 0) - 1)) j)) ∧ rFr [] [3] z z9) := by
  refine cMv_in (by decide) rfl (Nat.le_of_ble_eq_true rfl) ?_
  intro p e s m args below meth c A ls X hml hr hk hl w
  have hx := X.1
  have hb := X.2.1
  have hts := X.2.2.1
  have hown := X.2.2.2.1
  have hl : lv_has ls 6 [(0, .ref (a 0)), (1, .int (nI ma9))] := hl
  have r0 := hro 0 (by omega)
  have b0 := hcb (ro 0)
  refine lv_iload_n hx hb dX0_tellWaits_0 rfl (lv_at hl 1 rfl) ?_
  refine lv_aload_n hx hb dX0_tellWaits_1 rfl (lv_at hl 0 rfl) ?_
  refine ag_C_X0_15_this X w.1 dX0_tellWaits_2 ?_
  refine lv_aload_n hx hb dX0_tellWaits_5 rfl (lv_at hl 0 rfl) ?_
  refine ag_C_X0_11_this X w.1 dX0_tellWaits_6 ?_
  refine lv_iconst (v := (nI 0)) hx hb dX0_tellWaits_9 (by decide) ?_
  refine an_C_this_1 X w.1 (by omega) dX0_tellWaits_10 ?_
  refine tp_i (show z.2.1 1 0 = (nI (ro 0)) from (h1 0 (by omega))) ?_
  refine an_C_this_2 X w.1 (by omega) dX0_tellWaits_11 ?_
  refine tp_i (show z.2.1 2 (ro 0) = (nI (cf (ro 0))) from r0.2) ?_
  refine lv_iconst (v := (nI 1)) hx hb dX0_tellWaits_12 (by decide) ?_
  refine tp_i (show nI 1 = iZ (1 : Int) from by decide) ?_
  refine tp_i2 (iZ_n (cf (ro 0))).symm ?_
  refine z_isub hx hb dX0_tellWaits_13 ?_
  refine tp_i2 (iZ_n ma9).symm ?_
  refine gm_max (rest := []) ⟨X.1, X.2.1, X.2.2.1, X.2.2.2.1⟩ hml hl.1 wm_X0_89 ⟨Nat.le_of_ble_eq_true rfl, Nat.le_of_ble_eq_true rfl⟩ ⟨Nat.le_refl _, Nat.le_refl _⟩ (Nat.le_of_ble_eq_true rfl) (by omega) (by omega) (by omega) (by omega) dX0_tellWaits_14 ?_
  refine tp_i (show (iZ (max ((ma9 : Nat) : Int) ((((cf (ro 0) : Nat) : Int)) - ((1 : Int))))) = (nI (max ma9 (cf (ro 0) - 1))) from (by rw [← iZ_n]; exact congrArg iZ (by omega))) ?_
  refine lv_istore_n (lv' := [(2, .int (nI (max ma9 (cf (ro 0) - 1)))), (0, .ref (a 0)), (1, .int (nI ma9))]) hx hb dX0_tellWaits_17 rfl hl (by decide) rfl (fun ls hl => ?_)
  refine lv_iconst (v := (nI 0)) hx hb dX0_tellWaits_18 (by decide) ?_
  refine lv_istore_n (lv' := [(3, .int (nI 0)), (2, .int (nI (max ma9 (cf (ro 0) - 1)))), (0, .ref (a 0)), (1, .int (nI ma9))]) hx hb dX0_tellWaits_19 rfl hl (by decide) rfl (fun ls hl => ?_)
  refine lv_aload_n hx hb dX0_tellWaits_20 rfl (lv_at hl 2 rfl) ?_
  refine ag_C_X0_18_this X w.1 dX0_tellWaits_21 ?_
  refine lv_iconst (v := (nI 0)) hx hb dX0_tellWaits_24 (by decide) ?_
  refine lv_iconst (v := (nI 0)) hx hb dX0_tellWaits_25 (by decide) ?_
  refine au_C_this_3 X w (by omega) dX0_tellWaits_26 (fun z_26 H locs ez_26 w => ?_)
  refine lv_iconst (v := (nI 1)) hx hb dX0_tellWaits_27 (by decide) ?_
  refine lv_istore (lv' := [(4, .int (nI 1)), (3, .int (nI 0)), (2, .int (nI (max ma9 (cf (ro 0) - 1)))), (0, .ref (a 0)), (1, .int (nI ma9))]) hx hb dX0_tellWaits_28 hl (by decide) rfl (fun ls hl => ?_)
  have hl : lv_has ls 6 [(4, .int (nI 1)), (3, .int (nI (cwt (fun j => cf (ro j)) (max ma9 (cf (ro 0) - 1)) 0))), (2, .int (nI (max ma9 (cf (ro 0) - 1)))), (0, .ref (a 0)), (1, .int (nI ma9))] := by rw [show (nI (cwt (fun j => cf (ro j)) (max ma9 (cf (ro 0) - 1)) 0)) = (nI 0) from congrArg nI (show cf (ro 0) - 1 - max ma9 (cf (ro 0) - 1) = 0 by omega)]; exact hl
  have lp_30 : ∀ (n_30 : Nat) (i : Nat) (hi : i < na) (hm_30 : na - i < n_30) (ls : Array Slot) (zz : RS) (H : Heap) (locs : List Loc) (w : cW G A s (w0 G a zz) H locs) (hq : (∀ j, j ≤ i → zz.2.1 3 j = nI (cwW (fun j => cf (ro j)) (max ma9 (cf (ro 0) - 1)) j)) ∧ rFr [] [3] z zz), lv_has ls 6 [(0, .ref (a 0)), (1, .int (nI ma9)), (2, .int (nI (max ma9 (cf (ro 0) - 1)))), (3, .int (nI (cwt (fun j => cf (ro j)) (max ma9 (cf (ro 0) - 1)) i))), (4, .int (nI (i + 1)))] → W p l e (ro_m 1 21) s m args below meth c H locs 0 0 (MQ below (va_Qv (fun z9 => (∀ j, j < na → z9.2.1 3 j = nI (cwW (fun j => cf (ro j)) (max ma9 (cf (ro 0) - 1)) j)) ∧ rFr [] [3] z z9) (cB G (fun q9 : RS => w0 G a q9) A) A) args s 0 0 A) (F0 m 30 ls []) := by
    intro n_30
    induction n_30 with
    | zero => intro i hi hm; exact absurd hm (Nat.not_lt_zero _)
    | succ n_30 ih_30 =>
      intro i hi hm_30 ls zz H locs w hq hl
      have q8 := cw_le (fun j => cf (ro j)) (max ma9 (cf (ro 0) - 1)) i
      refine lv_iload hx hb dX0_tellWaits_30 (lv_at hl 4 rfl) ?_
      refine lv_aload_n hx hb dX0_tellWaits_32 rfl (lv_at hl 0 rfl) ?_
      refine ag_C_X0_69_this X w.1 dX0_tellWaits_33 ?_
      refine tp_i (show zz.1 0 = (nI na) from ((hq.2.1 0 (by decide)).trans h0)) ?_
      refine n_icmp_ge (tgt := 96) hx hb dX0_tellWaits_36 (by decide) (by omega) (by omega) (fun c_36_1 => ?_) (fun c_36_1 => ?_)
      · skip
        exact ce_v (w := (fun q9 : RS => w0 G a q9)) (z := zz) X hr hk w (⟨fun j hj => hq.1 j (by omega), hq.2⟩) dX0_tellWaits_96
      · skip
        have r1 := hro (i + 1) (by omega)
        have b1 := hcb (ro (i + 1))
        refine lv_iconst (v := (nI 0)) hx hb dX0_tellWaits_39 (by decide) ?_
        refine lv_aload_n hx hb dX0_tellWaits_40 rfl (lv_at hl 0 rfl) ?_
        refine ag_C_X0_15_this X w.1 dX0_tellWaits_41 ?_
        refine lv_aload_n hx hb dX0_tellWaits_44 rfl (lv_at hl 0 rfl) ?_
        refine ag_C_X0_11_this X w.1 dX0_tellWaits_45 ?_
        refine lv_iload hx hb dX0_tellWaits_48 (lv_at hl 4 rfl) ?_
        refine an_C_this_1 X w.1 (by omega) dX0_tellWaits_50 ?_
        refine tp_i (show zz.2.1 1 (i + 1) = (nI (ro (i + 1))) from ((congrFun (hq.2.2.1 1 (by decide)) _).trans (h1 (i + 1) (by omega)))) ?_
        refine an_C_this_2 X w.1 (by omega) dX0_tellWaits_51 ?_
        refine tp_i (show zz.2.1 2 (ro (i + 1)) = (nI (cf (ro (i + 1)))) from ((congrFun (hq.2.2.1 2 (by decide)) _).trans r1.2)) ?_
        refine lv_iconst (v := (nI 1)) hx hb dX0_tellWaits_52 (by decide) ?_
        refine tp_i (show nI 1 = iZ (1 : Int) from by decide) ?_
        refine tp_i2 (iZ_n (cf (ro (i + 1)))).symm ?_
        refine z_isub hx hb dX0_tellWaits_53 ?_
        refine lv_iload_n hx hb dX0_tellWaits_54 rfl (lv_at hl 2 rfl) ?_
        refine tp_i (iZ_n (max ma9 (cf (ro 0) - 1))).symm ?_
        refine z_isub hx hb dX0_tellWaits_55 ?_
        refine tp_i2 (show nI 0 = iZ (0 : Int) from by decide) ?_
        refine gm_max (rest := []) ⟨X.1, X.2.1, X.2.2.1, X.2.2.2.1⟩ hml hl.1 wm_X0_89 ⟨Nat.le_of_ble_eq_true rfl, Nat.le_of_ble_eq_true rfl⟩ ⟨Nat.le_refl _, Nat.le_refl _⟩ (Nat.le_of_ble_eq_true rfl) (by omega) (by omega) (by omega) (by omega) dX0_tellWaits_56 ?_
        refine tp_i (show (iZ (max (0 : Int) (((((cf (ro (i + 1)) : Nat) : Int)) - ((1 : Int))) - (((max ma9 (cf (ro 0) - 1) : Nat) : Int))))) = (nI (cwt (fun j => cf (ro j)) (max ma9 (cf (ro 0) - 1)) (i + 1))) from (by rw [← iZ_n]; refine congrArg iZ ?_; show _ = ((cf (ro (i + 1)) - 1 - max ma9 (cf (ro 0) - 1) : Nat) : Int); omega)) ?_
        have mo9 : cwt (fun j => cf (ro j)) (max ma9 (cf (ro 0) - 1)) i ≤ cwt (fun j => cf (ro j)) (max ma9 (cf (ro 0) - 1)) (i + 1) := by have e1 := hso i (by omega); show cf (ro i) - 1 - max ma9 (cf (ro 0) - 1) ≤ cf (ro (i + 1)) - 1 - max ma9 (cf (ro 0) - 1); omega
        have mo8 : cwt (fun j => cf (ro j)) (max ma9 (cf (ro 0) - 1)) (i + 1) ≤ 2000000000 := by show cf (ro (i + 1)) - 1 - max ma9 (cf (ro 0) - 1) ≤ _; omega
        refine lv_istore (lv' := [(5, .int (nI (cwt (fun j => cf (ro j)) (max ma9 (cf (ro 0) - 1)) (i + 1)))), (0, .ref (a 0)), (1, .int (nI ma9)), (2, .int (nI (max ma9 (cf (ro 0) - 1)))), (3, .int (nI (cwt (fun j => cf (ro j)) (max ma9 (cf (ro 0) - 1)) i))), (4, .int (nI (i + 1)))]) hx hb dX0_tellWaits_59 hl (by decide) rfl (fun ls hl => ?_)
        refine lv_aload_n hx hb dX0_tellWaits_61 rfl (lv_at hl 1 rfl) ?_
        refine ag_C_X0_18_this X w.1 dX0_tellWaits_62 ?_
        refine lv_iload hx hb dX0_tellWaits_65 (lv_at hl 5 rfl) ?_
        refine lv_aload_n hx hb dX0_tellWaits_67 rfl (lv_at hl 1 rfl) ?_
        refine ag_C_X0_18_this X w.1 dX0_tellWaits_68 ?_
        refine lv_iload hx hb dX0_tellWaits_71 (lv_at hl 5 rfl) ?_
        refine lv_iconst (v := (nI 1)) hx hb dX0_tellWaits_73 (by decide) ?_
        refine n_isub hx hb dX0_tellWaits_74 (by omega) ?_
        refine an_C_this_3 X w.1 (by omega) dX0_tellWaits_75 ?_
        refine tp_i (show zz.2.1 3 ((i + 1) - 1) = (nI (cwW (fun j => cf (ro j)) (max ma9 (cf (ro 0) - 1)) i)) from (hq.1 i (Nat.le_refl _))) ?_
        refine lv_bipush (v := (nI 31)) hx hb dX0_tellWaits_76 (by decide) ?_
        refine lv_iload hx hb dX0_tellWaits_78 (lv_at hl 0 rfl) ?_
        refine lv_iload_n hx hb dX0_tellWaits_80 rfl (lv_at hl 4 rfl) ?_
        refine n_isub hx hb dX0_tellWaits_81 (by omega) ?_
        refine tp_i (iZ_n ((cwt (fun j => cf (ro j)) (max ma9 (cf (ro 0) - 1)) (i + 1)) - (cwt (fun j => cf (ro j)) (max ma9 (cf (ro 0) - 1)) i))).symm ?_
        refine tp_i2 (show nI 31 = iZ (31 : Int) from by decide) ?_
        refine gm_min (rest := [.int (nI (cwW (fun j => cf (ro j)) (max ma9 (cf (ro 0) - 1)) i)), .int (nI (i + 1)), .ref (a 4)]) ⟨X.1, X.2.1, X.2.2.1, X.2.2.2.1⟩ hml hl.1 wm_X0_94 ⟨Nat.le_of_ble_eq_true rfl, Nat.le_of_ble_eq_true rfl⟩ ⟨Nat.le_refl _, Nat.le_refl _⟩ (Nat.le_of_ble_eq_true rfl) (by omega) (by omega) (by omega) (by omega) dX0_tellWaits_82 ?_
        refine tp_i (show iZ (min (31 : Int) (((cwt (fun j => cf (ro j)) (max ma9 (cf (ro 0) - 1)) (i + 1)) - (cwt (fun j => cf (ro j)) (max ma9 (cf (ro 0) - 1)) i) : Nat) : Int)) = nI (min 31 ((cwt (fun j => cf (ro j)) (max ma9 (cf (ro 0) - 1)) (i + 1)) - (cwt (fun j => cf (ro j)) (max ma9 (cf (ro 0) - 1)) i))) from by rw [← iZ_n]; exact congrArg iZ (by omega)) ?_
        refine n_iadd hx hb dX0_tellWaits_85 ?_
        refine au_C_this_3 X w (by omega) dX0_tellWaits_86 (fun z_86 H locs ez_86 w => ?_)
        refine lv_iload hx hb dX0_tellWaits_87 (lv_at hl 0 rfl) ?_
        refine lv_istore_n (lv' := [(3, .int (nI (cwt (fun j => cf (ro j)) (max ma9 (cf (ro 0) - 1)) (i + 1)))), (5, .int (nI (cwt (fun j => cf (ro j)) (max ma9 (cf (ro 0) - 1)) (i + 1)))), (0, .ref (a 0)), (1, .int (nI ma9)), (2, .int (nI (max ma9 (cf (ro 0) - 1)))), (4, .int (nI (i + 1)))]) hx hb dX0_tellWaits_89 rfl hl (by decide) rfl (fun ls hl => ?_)
        refine lv_iinc (v := (nI (i + 1 + 1))) (lv' := [(4, .int (nI (i + 1 + 1))), (3, .int (nI (cwt (fun j => cf (ro j)) (max ma9 (cf (ro 0) - 1)) (i + 1)))), (5, .int (nI (cwt (fun j => cf (ro j)) (max ma9 (cf (ro 0) - 1)) (i + 1)))), (0, .ref (a 0)), (1, .int (nI ma9)), (2, .int (nI (max ma9 (cf (ro 0) - 1))))]) hx hb dX0_tellWaits_90 hl (k := 5) rfl (by first | exact nI_1 _ | (rw [show Int32.ofInt 1 = nI 1 from by decide, nI_add])) (by decide) rfl (fun ls hl => ?_)
        refine lv_goto (tgt := 30) hx hb dX0_tellWaits_93 (by decide) ?_
        exact ih_30 (i + 1) (by omega) (by omega) ls z_86 _ _ w (by rw [ez_86]; refine ⟨fun j hj => ?_, rFr_tr hq.2 (rFr_A _ (by decide))⟩; show upd (zz.2.1 3) (i + 1) _ j = _; by_cases ej : j = i + 1; rw [ej, pk_us]; rfl; rw [pk_un ej]; exact hq.1 j (by omega)) (lv_sub hl [3, 4, 5, 1, 0] rfl)
  exact lp_30 _ 0 (by omega) (Nat.lt_succ_self _) ls z_26 _ _ w (by rw [ez_26]; refine ⟨fun j hj => ?_, rFr_A _ (by decide)⟩; rw [show j = 0 by omega]; show upd (z.2.1 3) 0 (nI 0) 0 = nI 0; exact pk_us) (lv_sub hl [3, 4, 2, 1, 0] rfl)

theorem ok0_keyOf : cOk RX0 yX0_keyOf cX0_keyOf 4 (some .int) 0 := ⟨wc_X0_keyOf, wi_X0_keyOf, ws_X0_keyOf, wn_X0, rfl, by decide, by decide, by decide +kernel⟩
set_option maxHeartbeats 4000000 in
set_option maxRecDepth 100000 in
theorem c0_keyOf (l : Launch) (G : CG) (a : Nat → Nat) (z : RS)  (na : Nat) (ro wa : Nat → Nat) (hA : chA z na ro wa) (hn : na ≤ 4) (hK : ∀ k, k < na → 1 ≤ ro k ∧ ro k ≤ 4 ∧ (if k = 0 then 0 else wa k - wa (k - 1)) ≤ 31) (hwm : ∀ j, j + 1 < na → wa j ≤ wa (j + 1)) (hwb : ∀ j, j < na → wa j ≤ 1000) : cMp G l yX0_keyOf cX0_keyOf 4 (some .int) 0 0 [.ref (a 0)] (w0 G a z) (fun r => r = nI (oK ro wa na)) := by
  refine cMp_in (by decide) rfl (Nat.le_of_ble_eq_true rfl) ?_
  intro p e s m args below meth c ls X hml hr hk hl w
  have hx := X.1
  have hb := X.2.1
  have hts := X.2.2.1
  have hown := X.2.2.2.1
  have hl : lv_has ls 4 [(0, .ref (a 0))] := hl
  refine lv_iconst (v := (nI 0)) hx hb dX0_keyOf_0 (by decide) ?_
  refine lv_istore_n (lv' := [(1, .int (nI 0)), (0, .ref (a 0))]) hx hb dX0_keyOf_1 rfl hl (by decide) rfl (fun ls hl => ?_)
  refine lv_iconst (v := (nI 0)) hx hb dX0_keyOf_2 (by decide) ?_
  refine lv_istore_n (lv' := [(2, .int (nI 0)), (1, .int (nI 0)), (0, .ref (a 0))]) hx hb dX0_keyOf_3 rfl hl (by decide) rfl (fun ls hl => ?_)
  have lp_4 : ∀ (n_4 : Nat) (i : Nat) (hi : i ≤ na) (hm_4 : na - i < n_4) (ls : Array Slot), lv_has ls 4 [(0, .ref (a 0)), (1, .int (nI (oK ro wa i))), (2, .int (nI i))] → W p l e (ro_m 0 0) s m args below meth c s.heap [] 0 0 (MQ below (vp_Si (fun r => r = nI (oK ro wa na))) args s 0 0 (fun _ => False)) (F0 m 4 ls []) := by
    intro n_4
    induction n_4 with
    | zero => intro i hi hm; exact absurd hm (Nat.not_lt_zero _)
    | succ n_4 ih_4 =>
      intro i hi hm_4 ls hl
      refine lv_iload_n hx hb dX0_keyOf_4 rfl (lv_at hl 2 rfl) ?_
      refine lv_aload_n hx hb dX0_keyOf_5 rfl (lv_at hl 0 rfl) ?_
      refine ag_C_X0_69_this X w dX0_keyOf_6 ?_
      refine tp_i (show z.1 0 = (nI na) from hA.1) ?_
      refine n_icmp_ge (tgt := 60) hx hb dX0_keyOf_9 (by decide) (by omega) (by omega) (fun c_9_1 => ?_) (fun c_9_1 => ?_)
      · skip
        refine lv_iload_n hx hb dX0_keyOf_60 rfl (lv_at hl 1 rfl) ?_
        exact re_p hx hb hr hk (by rw [show i = na by omega]) dX0_keyOf_61
      · skip
        have k9 := hK i (by omega)
        have k8 := oK_b (ro := ro) (wa := wa) (i := i) (by omega) (fun k hk => hK k (by omega))
        have k7 := hwb i (by omega)
        refine lv_iload_n hx hb dX0_keyOf_12 rfl (lv_at hl 2 rfl) ?_
        refine jn (tgt := 35) (rest := []) (fun v9 => ∃ x9 : Nat, x9 = (if i = 0 then 0 else ((wa i) - (wa (i - 1)))) ∧ v9 = nI x9) (fun v_ hv_ => ?_) (fun k_35 => ?_)
        · obtain ⟨x_35, ex_35, rfl⟩ := hv_
          have j9 : x_35 ≤ 31 := by rw [ex_35]; exact k9.2.2
          refine lv_istore_n (lv' := [(3, .int (nI x_35)), (0, .ref (a 0)), (1, .int (nI (oK ro wa i))), (2, .int (nI i))]) hx hb dX0_keyOf_35 rfl hl (by decide) rfl (fun ls hl => ?_)
          refine lv_iload_n hx hb dX0_keyOf_36 rfl (lv_at hl 2 rfl) ?_
          refine lv_bipush (v := (nI 7)) hx hb dX0_keyOf_37 (by decide) ?_
          refine lv_ishl hx hb dX0_keyOf_39 ?_
          refine tp_i (show (nI (oK ro wa i)) <<< ((nI 7) &&& 31) = (nI ((oK ro wa i) * 128)) from sh_n (by decide) (by omega)) ?_
          refine lv_iload_n hx hb dX0_keyOf_40 rfl (lv_at hl 0 rfl) ?_
          refine lv_iconst (v := (nI 2)) hx hb dX0_keyOf_41 (by decide) ?_
          refine lv_ishl hx hb dX0_keyOf_42 ?_
          refine tp_i (show (nI x_35) <<< ((nI 2) &&& 31) = (nI (x_35 * 4)) from sh_n (by decide) (by omega)) ?_
          refine lv_ior hx hb dX0_keyOf_43 ?_
          refine tp_i (fa_or _ _) ?_
          refine lv_aload_n hx hb dX0_keyOf_44 rfl (lv_at hl 1 rfl) ?_
          refine ag_C_X0_11_this X w dX0_keyOf_45 ?_
          refine lv_iload_n hx hb dX0_keyOf_48 rfl (lv_at hl 3 rfl) ?_
          refine an_C_this_1 X w (by omega) dX0_keyOf_49 ?_
          refine tp_i (show z.2.1 1 i = (nI (ro i)) from (hA.2.1 i (by omega))) ?_
          refine lv_iconst (v := (nI 1)) hx hb dX0_keyOf_50 (by decide) ?_
          refine n_isub hx hb dX0_keyOf_51 (by omega) ?_
          refine lv_ior hx hb dX0_keyOf_52 ?_
          refine tp_i (fa_or _ _) ?_
          refine lv_istore_n (lv' := [(1, .int (nI ((((oK ro wa i) * 128) ||| (x_35 * 4)) ||| ((ro i) - 1)))), (3, .int (nI x_35)), (0, .ref (a 0)), (2, .int (nI i))]) hx hb dX0_keyOf_53 rfl hl (by decide) rfl (fun ls hl => ?_)
          have hl : lv_has ls 4 [(1, .int (nI (oK ro wa (i + 1)))), (3, .int (nI x_35)), (0, .ref (a 0)), (2, .int (nI i))] := by rw [show (nI (oK ro wa (i + 1))) = (nI ((((oK ro wa i) * 128) ||| (x_35 * 4)) ||| ((ro i) - 1))) from congrArg nI (by rw [or_3 (by omega) (by omega), ex_35]; rfl)]; exact hl
          refine lv_iinc (v := (nI (i + 1))) (lv' := [(2, .int (nI (i + 1))), (1, .int (nI (oK ro wa (i + 1)))), (3, .int (nI x_35)), (0, .ref (a 0))]) hx hb dX0_keyOf_54 hl (k := 3) rfl (by first | exact nI_1 _ | (rw [show Int32.ofInt 1 = nI 1 from by decide, nI_add])) (by decide) rfl (fun ls hl => ?_)
          refine lv_goto (tgt := 4) hx hb dX0_keyOf_57 (by decide) ?_
          exact ih_4 (i + 1) (by omega) (by omega) ls (lv_sub hl [3, 1, 0] rfl)
        · skip
          refine n_if_ne (tgt := 20) hx hb dX0_keyOf_13 (by decide) (by omega) (fun c_13_3 => ?_) (fun c_13_3 => ?_)
          · skip
            refine lv_aload_n hx hb dX0_keyOf_20 rfl (lv_at hl 0 rfl) ?_
            refine ag_C_X0_18_this X w dX0_keyOf_21 ?_
            refine lv_iload_n hx hb dX0_keyOf_24 rfl (lv_at hl 2 rfl) ?_
            refine an_C_this_3 X w (by omega) dX0_keyOf_25 ?_
            refine tp_i (show z.2.1 3 i = (nI (wa i)) from (hA.2.2 i (by omega))) ?_
            refine lv_aload_n hx hb dX0_keyOf_26 rfl (lv_at hl 0 rfl) ?_
            refine ag_C_X0_18_this X w dX0_keyOf_27 ?_
            refine lv_iload_n hx hb dX0_keyOf_30 rfl (lv_at hl 2 rfl) ?_
            refine lv_iconst (v := (nI 1)) hx hb dX0_keyOf_31 (by decide) ?_
            refine n_isub hx hb dX0_keyOf_32 (by omega) ?_
            refine an_C_this_3 X w (by omega) dX0_keyOf_33 ?_
            refine tp_i (show z.2.1 3 (i - 1) = (nI (wa (i - 1))) from (hA.2.2 (i - 1) (by omega))) ?_
            refine n_isub hx hb dX0_keyOf_34 (by have e1 := hwm (i - 1) (by omega); rw [show i - 1 + 1 = i by omega] at e1; exact e1) ?_
            exact k_35 _ ⟨_, by simp only [if_neg c_13_3], rfl⟩
          · skip
            refine lv_iconst (v := (nI 0)) hx hb dX0_keyOf_16 (by decide) ?_
            refine lv_goto (tgt := 35) hx hb dX0_keyOf_17 (by decide) ?_
            exact k_35 _ ⟨_, by simp only [if_pos c_13_3], rfl⟩
  exact lp_4 _ 0 (Nat.zero_le _) (Nat.lt_succ_self _) ls (lv_sub hl [2, 1, 0] rfl)

section Lm_c0_tellForces
variable {p : Program} {l : Launch} {e : Env} {R : Room} {s : State} {m : MethodId} {args : Array Value} {below : List Frame} {meth : Method} {c : Code} {H : Heap} {locs : List Loc} {cells slots : Nat} {Q : State → Prop}
variable {cc : ByteArray} {pc : Nat} {ls : Array Slot} {rest : List Value} {G : CG} {A : Nat → Prop}
theorem ag_CS_X0_21_this {a b : Nat → Nat} {zo : RS} {z : RS} (X : cX RX0 G A p c cc s args m) (w : va_P G.1 vwCl (w0 G a z ++ w5 G b zo) H) (hdg : decode cc pc = .ok (.getfield 21, 3)) (kk : W p l e R s m args below meth c H locs cells slots Q (F0 m (pc + 3) ls (.ref (a 5) :: rest))) : W p l e R s m args below meth c H locs cells slots Q (F0 m pc ls (.ref (a 0) :: rest)) :=
  va_get (D := G.1) (ci := 0) (v := .ref (a 5)) (C := RX0) (T := TX0) (N := 12) X.1 X.2.1 X.2.2.1 gX0 X.2.2.2.1 X.2.2.2.2.1.1 w 0 rfl rfl 4 (by decide) (X.2.2.1 _ wf_X0_21) (fun _ h9 => h9) rfl hdg kk
theorem au_CS_this_4 {own : String} {a b : Nat → Nat} {zo : RS} {z : RS} {j : Nat} {v : Int32} (X : cX own G A p c cc s args m) (w : cW G A s (w0 G a z ++ w5 G b zo) H locs) (hj : j < 5) (hdg : decode cc pc = .ok (.iastore, 1)) (kk : ∀ (z1 : RS) (H : Heap) (locs : List Loc), z1 = (sA z 4 j v) → cW G A s (w0 G a z1 ++ w5 G b zo) H locs → W p l e R s m args below meth c H locs cells slots Q (F0 m (pc + 1) ls rest)) : W p l e R s m args below meth c H locs cells slots Q (F0 m pc ls (.int v :: .int (nI j) :: .ref (a 5) :: rest)) := by
  refine va_iast X.1 X.2.1 X.2.2.2.2.1.1 w.1 w.2.1 w.2.2 4 0 rfl rfl (vp_in_nI hj (by decide)) hdg ?_
  rw [nI_clamp (by omega)]
  exact fun H1 locs1 hP hD hS => kk _ H1 locs1 rfl ⟨hP, hD, hS⟩
theorem ag_CS_X0_103_scn {a b : Nat → Nat} {zo : RS} {z : RS} (X : cX RX0 G A p c cc s args m) (w : va_P G.1 vwCl (w0 G a z ++ w5 G b zo) H) (hdg : decode cc pc = .ok (.getfield 103, 3)) (kk : W p l e R s m args below meth c H locs cells slots Q (F0 m (pc + 3) ls (.ref (b 8) :: rest))) : W p l e R s m args below meth c H locs cells slots Q (F0 m pc ls (.ref (b 0) :: rest)) :=
  va_getN (own := RX0) (ref := RX5) (host := "RunningThree") (D := G.1) (ci := 4) (v := .ref (b 8)) (C := RX5) (T := TX5) (N := 13) X.1 X.2.1 X.2.2.1 gX5 X.2.2.2.1 X.2.2.2.2.1.1 w 12 rfl rfl 7 (by decide) (va_Nw.use rfl (X.2.2.2.2.1.2 _ wq_X0_103)) (fun _ h9 => h9) rfl hdg kk
theorem an_CS_scn_7 {own : String} {a b : Nat → Nat} {zo : RS} {z : RS} {j : Nat} (X : cX own G A p c cc s args m) (w : va_P G.1 vwCl (w0 G a z ++ w5 G b zo) H) (hj : j < 5) (hdg : decode cc pc = .ok (.iaload, 1)) (kk : W p l e R s m args below meth c H locs cells slots Q (F0 m (pc + 1) ls (.int (zo.2.1 7 j) :: rest))) : W p l e R s m args below meth c H locs cells slots Q (F0 m pc ls (.int (nI j) :: .ref (b 8) :: rest)) :=
  va_iald X.1 X.2.1 X.2.2.2.2.1.1 w 18 0 rfl rfl (vp_in_nI hj (by decide)) hdg (by rw [nI_clamp (by omega)]; exact kk)
theorem ag_CS_X0_33_this {a b : Nat → Nat} {zo : RS} {z : RS} (X : cX RX0 G A p c cc s args m) (w : va_P G.1 vwCl (w0 G a z ++ w5 G b zo) H) (hdg : decode cc pc = .ok (.getfield 33, 3)) (kk : W p l e R s m args below meth c H locs cells slots Q (F0 m (pc + 3) ls (.ref (a 9) :: rest))) : W p l e R s m args below meth c H locs cells slots Q (F0 m pc ls (.ref (a 0) :: rest)) :=
  va_get (D := G.1) (ci := 0) (v := .ref (a 9)) (C := RX0) (T := TX0) (N := 12) X.1 X.2.1 X.2.2.1 gX0 X.2.2.2.1 X.2.2.2.2.1.1 w 0 rfl rfl 8 (by decide) (X.2.2.1 _ wf_X0_33) (fun _ h9 => h9) rfl hdg kk
theorem ag_CS_X0_121_scn {a b : Nat → Nat} {zo : RS} {z : RS} (X : cX RX0 G A p c cc s args m) (w : va_P G.1 vwCl (w0 G a z ++ w5 G b zo) H) (hdg : decode cc pc = .ok (.getfield 121, 3)) (kk : W p l e R s m args below meth c H locs cells slots Q (F0 m (pc + 3) ls (.ref (b 5) :: rest))) : W p l e R s m args below meth c H locs cells slots Q (F0 m pc ls (.ref (b 0) :: rest)) :=
  va_getN (own := RX0) (ref := RX5) (host := "RunningThree") (D := G.1) (ci := 4) (v := .ref (b 5)) (C := RX5) (T := TX5) (N := 13) X.1 X.2.1 X.2.2.1 gX5 X.2.2.2.1 X.2.2.2.2.1.1 w 12 rfl rfl 4 (by decide) (va_Nw.use rfl (X.2.2.2.2.1.2 _ wq_X0_121)) (fun _ h9 => h9) rfl hdg kk
theorem an_CS_scn_4 {own : String} {a b : Nat → Nat} {zo : RS} {z : RS} {j : Nat} (X : cX own G A p c cc s args m) (w : va_P G.1 vwCl (w0 G a z ++ w5 G b zo) H) (hj : j < 5) (hdg : decode cc pc = .ok (.iaload, 1)) (kk : W p l e R s m args below meth c H locs cells slots Q (F0 m (pc + 1) ls (.int (zo.2.1 4 j) :: rest))) : W p l e R s m args below meth c H locs cells slots Q (F0 m pc ls (.int (nI j) :: .ref (b 5) :: rest)) :=
  va_iald X.1 X.2.1 X.2.2.2.2.1.1 w 15 0 rfl rfl (vp_in_nI hj (by decide)) hdg (by rw [nI_clamp (by omega)]; exact kk)
theorem ag_CS_X0_124_scn {a b : Nat → Nat} {zo : RS} {z : RS} (X : cX RX0 G A p c cc s args m) (w : va_P G.1 vwCl (w0 G a z ++ w5 G b zo) H) (hdg : decode cc pc = .ok (.getfield 124, 3)) (kk : W p l e R s m args below meth c H locs cells slots Q (F0 m (pc + 3) ls (.ref (b 6) :: rest))) : W p l e R s m args below meth c H locs cells slots Q (F0 m pc ls (.ref (b 0) :: rest)) :=
  va_getN (own := RX0) (ref := RX5) (host := "RunningThree") (D := G.1) (ci := 4) (v := .ref (b 6)) (C := RX5) (T := TX5) (N := 13) X.1 X.2.1 X.2.2.1 gX5 X.2.2.2.1 X.2.2.2.2.1.1 w 12 rfl rfl 5 (by decide) (va_Nw.use rfl (X.2.2.2.2.1.2 _ wq_X0_124)) (fun _ h9 => h9) rfl hdg kk
theorem an_CS_scn_5 {own : String} {a b : Nat → Nat} {zo : RS} {z : RS} {j : Nat} (X : cX own G A p c cc s args m) (w : va_P G.1 vwCl (w0 G a z ++ w5 G b zo) H) (hj : j < 5) (hdg : decode cc pc = .ok (.iaload, 1)) (kk : W p l e R s m args below meth c H locs cells slots Q (F0 m (pc + 1) ls (.int (zo.2.1 5 j) :: rest))) : W p l e R s m args below meth c H locs cells slots Q (F0 m pc ls (.int (nI j) :: .ref (b 6) :: rest)) :=
  va_iald X.1 X.2.1 X.2.2.2.2.1.1 w 16 0 rfl rfl (vp_in_nI hj (by decide)) hdg (by rw [nI_clamp (by omega)]; exact kk)
theorem au_CS_this_8 {own : String} {a b : Nat → Nat} {zo : RS} {z : RS} {j : Nat} {v : Int32} (X : cX own G A p c cc s args m) (w : cW G A s (w0 G a z ++ w5 G b zo) H locs) (hj : j < 6) (hdg : decode cc pc = .ok (.iastore, 1)) (kk : ∀ (z1 : RS) (H : Heap) (locs : List Loc), z1 = (sA z 8 j v) → cW G A s (w0 G a z1 ++ w5 G b zo) H locs → W p l e R s m args below meth c H locs cells slots Q (F0 m (pc + 1) ls rest)) : W p l e R s m args below meth c H locs cells slots Q (F0 m pc ls (.int v :: .int (nI j) :: .ref (a 9) :: rest)) := by
  refine va_iast X.1 X.2.1 X.2.2.2.2.1.1 w.1 w.2.1 w.2.2 8 0 rfl rfl (vp_in_nI hj (by decide)) hdg ?_
  rw [nI_clamp (by omega)]
  exact fun H1 locs1 hP hD hS => kk _ H1 locs1 rfl ⟨hP, hD, hS⟩
theorem ag_CS_X0_27_this {a b : Nat → Nat} {zo : RS} {z : RS} (X : cX RX0 G A p c cc s args m) (w : va_P G.1 vwCl (w0 G a z ++ w5 G b zo) H) (hdg : decode cc pc = .ok (.getfield 27, 3)) (kk : W p l e R s m args below meth c H locs cells slots Q (F0 m (pc + 3) ls (.ref (a 7) :: rest))) : W p l e R s m args below meth c H locs cells slots Q (F0 m pc ls (.ref (a 0) :: rest)) :=
  va_get (D := G.1) (ci := 0) (v := .ref (a 7)) (C := RX0) (T := TX0) (N := 12) X.1 X.2.1 X.2.2.1 gX0 X.2.2.2.1 X.2.2.2.2.1.1 w 0 rfl rfl 6 (by decide) (X.2.2.1 _ wf_X0_27) (fun _ h9 => h9) rfl hdg kk
theorem au_CS_this_6 {own : String} {a b : Nat → Nat} {zo : RS} {z : RS} {j : Nat} {v : Int32} (X : cX own G A p c cc s args m) (w : cW G A s (w0 G a z ++ w5 G b zo) H locs) (hj : j < 24) (hdg : decode cc pc = .ok (.iastore, 1)) (kk : ∀ (z1 : RS) (H : Heap) (locs : List Loc), z1 = (sA z 6 j v) → cW G A s (w0 G a z1 ++ w5 G b zo) H locs → W p l e R s m args below meth c H locs cells slots Q (F0 m (pc + 1) ls rest)) : W p l e R s m args below meth c H locs cells slots Q (F0 m pc ls (.int v :: .int (nI j) :: .ref (a 7) :: rest)) := by
  refine va_iast X.1 X.2.1 X.2.2.2.2.1.1 w.1 w.2.1 w.2.2 6 0 rfl rfl (vp_in_nI hj (by decide)) hdg ?_
  rw [nI_clamp (by omega)]
  exact fun H1 locs1 hP hD hS => kk _ H1 locs1 rfl ⟨hP, hD, hS⟩
theorem ag_CS_X0_30_this {a b : Nat → Nat} {zo : RS} {z : RS} (X : cX RX0 G A p c cc s args m) (w : va_P G.1 vwCl (w0 G a z ++ w5 G b zo) H) (hdg : decode cc pc = .ok (.getfield 30, 3)) (kk : W p l e R s m args below meth c H locs cells slots Q (F0 m (pc + 3) ls (.ref (a 8) :: rest))) : W p l e R s m args below meth c H locs cells slots Q (F0 m pc ls (.ref (a 0) :: rest)) :=
  va_get (D := G.1) (ci := 0) (v := .ref (a 8)) (C := RX0) (T := TX0) (N := 12) X.1 X.2.1 X.2.2.1 gX0 X.2.2.2.1 X.2.2.2.2.1.1 w 0 rfl rfl 7 (by decide) (X.2.2.1 _ wf_X0_30) (fun _ h9 => h9) rfl hdg kk
theorem au_CS_this_7 {own : String} {a b : Nat → Nat} {zo : RS} {z : RS} {j : Nat} {v : Int32} (X : cX own G A p c cc s args m) (w : cW G A s (w0 G a z ++ w5 G b zo) H locs) (hj : j < 24) (hdg : decode cc pc = .ok (.iastore, 1)) (kk : ∀ (z1 : RS) (H : Heap) (locs : List Loc), z1 = (sA z 7 j v) → cW G A s (w0 G a z1 ++ w5 G b zo) H locs → W p l e R s m args below meth c H locs cells slots Q (F0 m (pc + 1) ls rest)) : W p l e R s m args below meth c H locs cells slots Q (F0 m pc ls (.int v :: .int (nI j) :: .ref (a 8) :: rest)) := by
  refine va_iast X.1 X.2.1 X.2.2.2.2.1.1 w.1 w.2.1 w.2.2 7 0 rfl rfl (vp_in_nI hj (by decide)) hdg ?_
  rw [nI_clamp (by omega)]
  exact fun H1 locs1 hP hD hS => kk _ H1 locs1 rfl ⟨hP, hD, hS⟩
end Lm_c0_tellForces
theorem ok0_tellForces : cOk RX0 yX0_tellForces cX0_tellForces 6 none 1 := ⟨wc_X0_tellForces, wi_X0_tellForces, ws_X0_tellForces, wn_X0, rfl, by decide, by decide, by decide +kernel⟩
set_option maxHeartbeats 4000000 in
set_option maxRecDepth 100000 in
theorem c0_tellForces (l : Launch) (G : CG) (a b : Nat → Nat) (zo : RS) (z : RS)  (S : Sc) (hz : cSn zo S) (ho : oSc S) (na : Nat) (ro wa : Nat → Nat) (hA : chA z na ro wa) (hn : na ≤ 4) (hro : ∀ j, j < na → 1 ≤ ro j ∧ ro j < S.1 1 ∧ S.2.1 4 (ro j) ≤ 5) (h05 : S.2.1 4 0 ≤ 5) (h1 : 1 ≤ S.1 1) : cMv G l yX0_tellForces cX0_tellForces 6 none 2 44 [.ref (a 0), .ref (b 0)] (fun q9 : RS => w0 G a q9 ++ w5 G b zo) z (fun z9 => chF z9 S ro na ∧ rFr [] [4, 6, 7, 8] z z9) := by
  refine cMv_in (by decide) rfl (Nat.le_of_ble_eq_true rfl) ?_
  intro p e s m args below meth c A ls X hml hr hk hl w
  have hx := X.1
  have hb := X.2.1
  have hts := X.2.2.1
  have hown := X.2.2.2.1
  have hl : lv_has ls 6 [(0, .ref (a 0)), (1, .ref (b 0))] := hl
  obtain ⟨o1, o2, o3, o4, o5, o6, oso, oki, osr, opa, ohu, oco⟩ := id ho
  have k1 := oki 0
  have k2 := osr 0
  refine lv_iconst (v := (nI 0)) hx hb dX0_tellForces_0 (by decide) ?_
  refine lv_istore_n (lv' := [(2, .int (nI 0)), (0, .ref (a 0)), (1, .ref (b 0))]) hx hb dX0_tellForces_1 rfl hl (by decide) rfl (fun ls hl => ?_)
  refine lv_iconst (v := (nI 0)) hx hb dX0_tellForces_2 (by decide) ?_
  refine lv_istore_n (lv' := [(3, .int (nI 0)), (2, .int (nI 0)), (0, .ref (a 0)), (1, .ref (b 0))]) hx hb dX0_tellForces_3 rfl hl (by decide) rfl (fun ls hl => ?_)
  have lp_4 : ∀ (n_4 : Nat) (i : Nat) (hi : i ≤ na) (hm_4 : na - i < n_4) (ls : Array Slot) (zz : RS) (H : Heap) (locs : List Loc) (w : cW G A s (w0 G a zz ++ w5 G b zo) H locs) (hI : tfI S ro na z i (oB S ro i) zz), lv_has ls 6 [(0, .ref (a 0)), (1, .ref (b 0)), (2, .int (nI (oB S ro i))), (3, .int (nI i))] → W p l e (ro_m 2 44) s m args below meth c H locs 0 0 (MQ below (va_Qv (fun z9 => chF z9 S ro na ∧ rFr [] [4, 6, 7, 8] z z9) (cB G (fun q9 : RS => w0 G a q9 ++ w5 G b zo) A) A) args s 0 0 A) (F0 m 4 ls []) := by
    intro n_4
    induction n_4 with
    | zero => intro i hi hm; exact absurd hm (Nat.not_lt_zero _)
    | succ n_4 ih_4 =>
      intro i hi hm_4 ls zz H locs w hI hl
      refine lv_iload_n hx hb dX0_tellForces_4 rfl (lv_at hl 3 rfl) ?_
      refine lv_aload_n hx hb dX0_tellForces_5 rfl (lv_at hl 0 rfl) ?_
      refine ag_CS_X0_69_this X w.1 dX0_tellForces_6 ?_
      refine tp_i (show zz.1 0 = (nI na) from (tf_n hA hI)) ?_
      refine n_icmp_ge (tgt := 90) hx hb dX0_tellForces_9 (by decide) (by omega) (by omega) (fun c_9_1 => ?_) (fun c_9_1 => ?_)
      · skip
        have b9 := oB_le (S := S) (ro := ro) i
        refine lv_aload_n hx hb dX0_tellForces_90 rfl (lv_at hl 0 rfl) ?_
        refine ag_CS_X0_21_this X w.1 dX0_tellForces_91 ?_
        refine lv_aload_n hx hb dX0_tellForces_94 rfl (lv_at hl 0 rfl) ?_
        refine ag_CS_X0_69_this X w.1 dX0_tellForces_95 ?_
        refine tp_i (show zz.1 0 = (nI na) from (tf_n hA hI)) ?_
        refine lv_iload_n hx hb dX0_tellForces_98 rfl (lv_at hl 2 rfl) ?_
        refine au_CS_this_4 X w (by omega) dX0_tellForces_99 (fun z_99 H locs ez_99 w => ?_)
        refine lv_aload_n hx hb dX0_tellForces_100 rfl (lv_at hl 1 rfl) ?_
        refine ag_CS_X0_103_scn X w.1 dX0_tellForces_101 ?_
        refine lv_iconst (v := (nI 0)) hx hb dX0_tellForces_104 (by decide) ?_
        refine an_CS_scn_7 X w.1 (by omega) dX0_tellForces_105 ?_
        refine tp_i (show zo.2.1 7 0 = (nI (S.2.1 4 0)) from cs_hu hz 0 (by omega)) ?_
        refine lv_istore_n (lv' := [(3, .int (nI (S.2.1 4 0))), (0, .ref (a 0)), (1, .ref (b 0)), (2, .int (nI (oB S ro i)))]) hx hb dX0_tellForces_106 rfl hl (by decide) rfl (fun ls hl => ?_)
        have lp_107 : ∀ (n_107 : Nat) (d : Nat) (hd : S.2.1 4 0 ≤ d) (hd6 : d ≤ 6) (hm_107 : 6 - d < n_107) (ls : Array Slot) (zx : RS) (H : Heap) (locs : List Loc) (w : cW G A s (w0 G a zx ++ w5 G b zo) H locs) (hJ : tfI S ro na z (na + 1) (oB S ro na) zx) (hR : ∀ k, S.2.1 4 0 ≤ k → k < d → zx.2.1 8 k = nI (pc_force (S.2.1 1 0) (S.2.1 2 0) k)), lv_has ls 6 [(0, .ref (a 0)), (1, .ref (b 0)), (3, .int (nI d))] → W p l e (ro_m 2 44) s m args below meth c H locs 0 0 (MQ below (va_Qv (fun z9 => chF z9 S ro na ∧ rFr [] [4, 6, 7, 8] z z9) (cB G (fun q9 : RS => w0 G a q9 ++ w5 G b zo) A) A) args s 0 0 A) (F0 m 107 ls []) := by
          intro n_107
          induction n_107 with
          | zero => intro d hd hd6 hm; exact absurd hm (Nat.not_lt_zero _)
          | succ n_107 ih_107 =>
            intro d hd hd6 hm_107 ls zx H locs w hJ hR hl
            refine lv_iload_n hx hb dX0_tellForces_107 rfl (lv_at hl 2 rfl) ?_
            refine lv_bipush (v := (nI 6)) hx hb dX0_tellForces_108 (by decide) ?_
            refine n_icmp_ge (tgt := 141) hx hb dX0_tellForces_110 (by decide) (by omega) (by omega) (fun c_110_2 => ?_) (fun c_110_2 => ?_)
            · skip
              exact ce_v (w := (fun q9 : RS => w0 G a q9 ++ w5 G b zo)) (z := zx) X hr hk w (⟨⟨fun q hq => hJ.2.1 q (by omega), hJ.2.2, fun k k1 k2 => hR k k1 (by omega)⟩, hJ.1⟩) dX0_tellForces_141
            · skip
              refine lv_aload_n hx hb dX0_tellForces_113 rfl (lv_at hl 0 rfl) ?_
              refine ag_CS_X0_33_this X w.1 dX0_tellForces_114 ?_
              refine lv_iload_n hx hb dX0_tellForces_117 rfl (lv_at hl 2 rfl) ?_
              refine lv_aload_n hx hb dX0_tellForces_118 rfl (lv_at hl 1 rfl) ?_
              refine ag_CS_X0_121_scn X w.1 dX0_tellForces_119 ?_
              refine lv_iconst (v := (nI 0)) hx hb dX0_tellForces_122 (by decide) ?_
              refine an_CS_scn_4 X w.1 (by omega) dX0_tellForces_123 ?_
              refine tp_i (show zo.2.1 4 0 = (nI (S.2.1 1 0)) from cs_ki hz 0 (by omega)) ?_
              refine lv_aload_n hx hb dX0_tellForces_124 rfl (lv_at hl 1 rfl) ?_
              refine ag_CS_X0_124_scn X w.1 dX0_tellForces_125 ?_
              refine lv_iconst (v := (nI 0)) hx hb dX0_tellForces_128 (by decide) ?_
              refine an_CS_scn_5 X w.1 (by omega) dX0_tellForces_129 ?_
              refine tp_i (show zo.2.1 5 0 = (nI (S.2.1 2 0)) from cs_sr hz 0 (by omega)) ?_
              refine lv_iload_n hx hb dX0_tellForces_130 rfl (lv_at hl 2 rfl) ?_
              refine gc_sx (C := RX3) (rest := [.int (nI d), .ref (a 9)]) ⟨X.1, X.2.1, X.2.2.1, X.2.2.2.1⟩ hml hl.1 (c3_force l (S.2.1 1 0) (S.2.1 2 0) d (by omega) (by omega) (by omega)) ok3_force wm_X0_127 ⟨Nat.le_of_ble_eq_true rfl, Nat.le_of_ble_eq_true rfl⟩ ⟨Nat.le_refl _, Nat.le_refl _⟩ rfl (Nat.le_of_ble_eq_true rfl) dX0_tellForces_131 (fun r_131 hr_131 => ?_)
              subst hr_131
              have d_131 := pc_force_le (S.2.1 1 0) (S.2.1 2 0) d (by omega)
              refine au_CS_this_8 X w (by omega) dX0_tellForces_134 (fun z_134 H locs ez_134 w => ?_)
              refine lv_iinc (v := (nI (d + 1))) (lv' := [(3, .int (nI (d + 1))), (0, .ref (a 0)), (1, .ref (b 0))]) hx hb dX0_tellForces_135 hl (k := 2) rfl (by first | exact nI_1 _ | (rw [show Int32.ofInt 1 = nI 1 from by decide, nI_add])) (by decide) rfl (fun ls hl => ?_)
              refine lv_goto (tgt := 107) hx hb dX0_tellForces_138 (by decide) ?_
              exact ih_107 (d + 1) (by omega) (by omega) (by omega) ls z_134 _ _ w (by rw [ez_134]; exact ⟨rFr_tr hJ.1 (rFr_A _ (by decide)), hJ.2⟩) (by rw [ez_134]; intro k k1 k2; show upd (zx.2.1 8) d _ k = _; by_cases ej : k = d; rw [ej, pk_us]; rw [pk_un ej]; exact hR k k1 (by omega)) (lv_sub hl [1, 2, 0] rfl)
        exact lp_107 _ (S.2.1 4 0) (Nat.le_refl _) (by omega) (Nat.lt_succ_self _) ls z_99 _ _ w (by rw [ez_99]; exact tf_e (by omega) hI) (fun k k1 k2 => by omega) (lv_sub hl [1, 2, 0] rfl)
      · skip
        have r9 := hro i (by omega)
        have r8 := oki (ro i)
        have r7 := osr (ro i)
        have b9 := oB_le (S := S) (ro := ro) i
        refine lv_aload_n hx hb dX0_tellForces_12 rfl (lv_at hl 0 rfl) ?_
        refine ag_CS_X0_11_this X w.1 dX0_tellForces_13 ?_
        refine lv_iload_n hx hb dX0_tellForces_16 rfl (lv_at hl 3 rfl) ?_
        refine an_CS_this_1 X w.1 (by omega) dX0_tellForces_17 ?_
        refine tp_i (show zz.2.1 1 i = (nI (ro i)) from (tf_o hA hI i (by omega))) ?_
        refine lv_istore (lv' := [(4, .int (nI (ro i))), (0, .ref (a 0)), (1, .ref (b 0)), (2, .int (nI (oB S ro i))), (3, .int (nI i))]) hx hb dX0_tellForces_18 hl (by decide) rfl (fun ls hl => ?_)
        refine lv_aload_n hx hb dX0_tellForces_20 rfl (lv_at hl 1 rfl) ?_
        refine ag_CS_X0_21_this X w.1 dX0_tellForces_21 ?_
        refine lv_iload_n hx hb dX0_tellForces_24 rfl (lv_at hl 4 rfl) ?_
        refine lv_iload_n hx hb dX0_tellForces_25 rfl (lv_at hl 3 rfl) ?_
        refine au_CS_this_4 X w (by omega) dX0_tellForces_26 (fun z_26 H locs ez_26 w => ?_)
        refine lv_aload_n hx hb dX0_tellForces_27 rfl (lv_at hl 2 rfl) ?_
        refine ag_CS_X0_103_scn X w.1 dX0_tellForces_28 ?_
        refine lv_iload hx hb dX0_tellForces_31 (lv_at hl 0 rfl) ?_
        refine an_CS_scn_7 X w.1 (by omega) dX0_tellForces_33 ?_
        refine tp_i (show zo.2.1 7 (ro i) = (nI (S.2.1 4 (ro i))) from cs_hu hz (ro i) (by omega)) ?_
        refine lv_istore (lv' := [(5, .int (nI (S.2.1 4 (ro i)))), (4, .int (nI (ro i))), (0, .ref (a 0)), (1, .ref (b 0)), (2, .int (nI (oB S ro i))), (3, .int (nI i))]) hx hb dX0_tellForces_34 hl (by decide) rfl (fun ls hl => ?_)
        have lp_36 : ∀ (n_36 : Nat) (d : Nat) (hd : S.2.1 4 (ro i) + d ≤ 6) (hm_36 : 6 - d < n_36) (ls : Array Slot) (zy : RS) (H : Heap) (locs : List Loc) (w : cW G A s (w0 G a zy ++ w5 G b zo) H locs) (hJ : tfI S ro na z (i + 1) (oB S ro i + d) zy), lv_has ls 6 [(0, .ref (a 0)), (1, .ref (b 0)), (2, .int (nI (oB S ro i + d))), (3, .int (nI i)), (4, .int (nI (ro i))), (5, .int (nI (S.2.1 4 (ro i) + d)))] → W p l e (ro_m 2 44) s m args below meth c H locs 0 0 (MQ below (va_Qv (fun z9 => chF z9 S ro na ∧ rFr [] [4, 6, 7, 8] z z9) (cB G (fun q9 : RS => w0 G a q9 ++ w5 G b zo) A) A) args s 0 0 A) (F0 m 36 ls []) := by
          intro n_36
          induction n_36 with
          | zero => intro d hd hm; exact absurd hm (Nat.not_lt_zero _)
          | succ n_36 ih_36 =>
            intro d hd hm_36 ls zy H locs w hJ hl
            refine lv_iload hx hb dX0_tellForces_36 (lv_at hl 5 rfl) ?_
            refine lv_bipush (v := (nI 6)) hx hb dX0_tellForces_38 (by decide) ?_
            refine n_icmp_ge (tgt := 84) hx hb dX0_tellForces_40 (by decide) (by omega) (by omega) (fun c_40_3 => ?_) (fun c_40_3 => ?_)
            · skip
              have hl : lv_has ls 6 [(0, .ref (a 0)), (1, .ref (b 0)), (2, .int (nI (oB S ro (i + 1)))), (3, .int (nI i)), (4, .int (nI (ro i))), (5, .int (nI (S.2.1 4 (ro i) + d)))] := by rw [show (nI (oB S ro (i + 1))) = (nI (oB S ro i + d)) from congrArg nI (show oB S ro i + (6 - S.2.1 4 (ro i)) = oB S ro i + d by omega)]; exact hl
              refine lv_iinc (v := (nI (i + 1))) (lv' := [(3, .int (nI (i + 1))), (0, .ref (a 0)), (1, .ref (b 0)), (2, .int (nI (oB S ro (i + 1)))), (4, .int (nI (ro i))), (5, .int (nI (S.2.1 4 (ro i) + d)))]) hx hb dX0_tellForces_84 hl (k := 3) rfl (by first | exact nI_1 _ | (rw [show Int32.ofInt 1 = nI 1 from by decide, nI_add])) (by decide) rfl (fun ls hl => ?_)
              refine lv_goto (tgt := 4) hx hb dX0_tellForces_87 (by decide) ?_
              exact ih_4 (i + 1) (by omega) (by omega) ls zy _ _ w (show tfI S ro na z (i + 1) (oB S ro i + (6 - S.2.1 4 (ro i))) zy by rw [show 6 - S.2.1 4 (ro i) = d by omega]; exact hJ) (lv_sub hl [1, 2, 3, 0] rfl)
            · skip
              refine lv_aload_n hx hb dX0_tellForces_43 rfl (lv_at hl 0 rfl) ?_
              refine ag_CS_X0_27_this X w.1 dX0_tellForces_44 ?_
              refine lv_iload_n hx hb dX0_tellForces_47 rfl (lv_at hl 2 rfl) ?_
              refine lv_iload_n hx hb dX0_tellForces_48 rfl (lv_at hl 3 rfl) ?_
              refine au_CS_this_6 X w (by omega) dX0_tellForces_49 (fun z_49 H locs ez_49 w => ?_)
              refine lv_aload_n hx hb dX0_tellForces_50 rfl (lv_at hl 0 rfl) ?_
              refine ag_CS_X0_30_this X w.1 dX0_tellForces_51 ?_
              refine lv_iload_n hx hb dX0_tellForces_54 rfl (lv_at hl 2 rfl) ?_
              refine lv_aload_n hx hb dX0_tellForces_55 rfl (lv_at hl 1 rfl) ?_
              refine ag_CS_X0_121_scn X w.1 dX0_tellForces_56 ?_
              refine lv_iload hx hb dX0_tellForces_59 (lv_at hl 4 rfl) ?_
              refine an_CS_scn_4 X w.1 (by omega) dX0_tellForces_61 ?_
              refine tp_i (show zo.2.1 4 (ro i) = (nI (S.2.1 1 (ro i))) from cs_ki hz (ro i) (by omega)) ?_
              refine lv_aload_n hx hb dX0_tellForces_62 rfl (lv_at hl 1 rfl) ?_
              refine ag_CS_X0_124_scn X w.1 dX0_tellForces_63 ?_
              refine lv_iload hx hb dX0_tellForces_66 (lv_at hl 4 rfl) ?_
              refine an_CS_scn_5 X w.1 (by omega) dX0_tellForces_68 ?_
              refine tp_i (show zo.2.1 5 (ro i) = (nI (S.2.1 2 (ro i))) from cs_sr hz (ro i) (by omega)) ?_
              refine lv_iload hx hb dX0_tellForces_69 (lv_at hl 5 rfl) ?_
              refine gc_sx (C := RX3) (rest := [.int (nI (oB S ro i + d)), .ref (a 8)]) ⟨X.1, X.2.1, X.2.2.1, X.2.2.2.1⟩ hml hl.1 (c3_force l (S.2.1 1 (ro i)) (S.2.1 2 (ro i)) (S.2.1 4 (ro i) + d) (by omega) (by omega) (by omega)) ok3_force wm_X0_127 ⟨Nat.le_of_ble_eq_true rfl, Nat.le_of_ble_eq_true rfl⟩ ⟨Nat.le_refl _, Nat.le_refl _⟩ rfl (Nat.le_of_ble_eq_true rfl) dX0_tellForces_71 (fun r_71 hr_71 => ?_)
              subst hr_71
              have d_71 := pc_force_le (S.2.1 1 (ro i)) (S.2.1 2 (ro i)) (S.2.1 4 (ro i) + d) (by omega)
              refine au_CS_this_7 X w (by omega) dX0_tellForces_74 (fun z_74 H locs ez_74 w => ?_)
              refine lv_iinc (v := (nI (oB S ro i + d + 1))) (lv' := [(2, .int (nI (oB S ro i + d + 1))), (0, .ref (a 0)), (1, .ref (b 0)), (3, .int (nI i)), (4, .int (nI (ro i))), (5, .int (nI (S.2.1 4 (ro i) + d)))]) hx hb dX0_tellForces_75 hl (k := 2) rfl (by first | exact nI_1 _ | (rw [show Int32.ofInt 1 = nI 1 from by decide, nI_add])) (by decide) rfl (fun ls hl => ?_)
              refine lv_iinc (v := (nI (S.2.1 4 (ro i) + d + 1))) (lv' := [(5, .int (nI (S.2.1 4 (ro i) + d + 1))), (2, .int (nI (oB S ro i + d + 1))), (0, .ref (a 0)), (1, .ref (b 0)), (3, .int (nI i)), (4, .int (nI (ro i)))]) hx hb dX0_tellForces_78 hl (k := 5) rfl (by first | exact nI_1 _ | (rw [show Int32.ofInt 1 = nI 1 from by decide, nI_add])) (by decide) rfl (fun ls hl => ?_)
              refine lv_goto (tgt := 36) hx hb dX0_tellForces_81 (by decide) ?_
              exact ih_36 (d + 1) (by omega) (by omega) ls z_74 _ _ w (by rw [ez_74, ez_49]; exact tf_s (by omega) (by omega) hJ) (lv_sub hl [2, 3, 1, 4, 5, 0] rfl)
        exact lp_36 _ 0 (by omega) (Nat.lt_succ_self _) ls z_26 _ _ w (by rw [ez_26]; exact tf_b hI rfl) (lv_sub hl [2, 3, 4, 5, 1, 0] rfl)
  exact lp_4 _ 0 (Nat.zero_le _) (Nat.lt_succ_self _) ls z _ _ w (tf_0 z) (lv_sub hl [2, 3, 1, 0] rfl)

section Lm_c0_tellIdle
variable {p : Program} {l : Launch} {e : Env} {R : Room} {s : State} {m : MethodId} {args : Array Value} {below : List Frame} {meth : Method} {c : Code} {H : Heap} {locs : List Loc} {cells slots : Nat} {Q : State → Prop}
variable {cc : ByteArray} {pc : Nat} {ls : Array Slot} {rest : List Value} {G : CG} {A : Nat → Prop}
theorem ag_C_X0_21_this {a : Nat → Nat} {z : RS} (X : cX RX0 G A p c cc s args m) (w : va_P G.1 vwCl (w0 G a z) H) (hdg : decode cc pc = .ok (.getfield 21, 3)) (kk : W p l e R s m args below meth c H locs cells slots Q (F0 m (pc + 3) ls (.ref (a 5) :: rest))) : W p l e R s m args below meth c H locs cells slots Q (F0 m pc ls (.ref (a 0) :: rest)) :=
  va_get (D := G.1) (ci := 0) (v := .ref (a 5)) (C := RX0) (T := TX0) (N := 12) X.1 X.2.1 X.2.2.1 gX0 X.2.2.2.1 X.2.2.2.2.1.1 w 0 rfl rfl 4 (by decide) (X.2.2.1 _ wf_X0_21) (fun _ h9 => h9) rfl hdg kk
theorem an_C_this_4 {own : String} {a : Nat → Nat} {z : RS} {j : Nat} (X : cX own G A p c cc s args m) (w : va_P G.1 vwCl (w0 G a z) H) (hj : j < 5) (hdg : decode cc pc = .ok (.iaload, 1)) (kk : W p l e R s m args below meth c H locs cells slots Q (F0 m (pc + 1) ls (.int (z.2.1 4 j) :: rest))) : W p l e R s m args below meth c H locs cells slots Q (F0 m pc ls (.int (nI j) :: .ref (a 5) :: rest)) :=
  va_iald X.1 X.2.1 X.2.2.2.2.1.1 w 4 0 rfl rfl (vp_in_nI hj (by decide)) hdg (by rw [nI_clamp (by omega)]; exact kk)
theorem ag_C_X0_24_this {a : Nat → Nat} {z : RS} (X : cX RX0 G A p c cc s args m) (w : va_P G.1 vwCl (w0 G a z) H) (hdg : decode cc pc = .ok (.getfield 24, 3)) (kk : W p l e R s m args below meth c H locs cells slots Q (F0 m (pc + 3) ls (.ref (a 6) :: rest))) : W p l e R s m args below meth c H locs cells slots Q (F0 m pc ls (.ref (a 0) :: rest)) :=
  va_get (D := G.1) (ci := 0) (v := .ref (a 6)) (C := RX0) (T := TX0) (N := 12) X.1 X.2.1 X.2.2.1 gX0 X.2.2.2.1 X.2.2.2.2.1.1 w 0 rfl rfl 5 (by decide) (X.2.2.1 _ wf_X0_24) (fun _ h9 => h9) rfl hdg kk
theorem au_C_this_5 {own : String} {a : Nat → Nat} {z : RS} {j : Nat} {v : Int32} (X : cX own G A p c cc s args m) (w : cW G A s (w0 G a z) H locs) (hj : j < 4) (hdg : decode cc pc = .ok (.iastore, 1)) (kk : ∀ (z1 : RS) (H : Heap) (locs : List Loc), z1 = (sA z 5 j v) → cW G A s (w0 G a z1) H locs → W p l e R s m args below meth c H locs cells slots Q (F0 m (pc + 1) ls rest)) : W p l e R s m args below meth c H locs cells slots Q (F0 m pc ls (.int v :: .int (nI j) :: .ref (a 6) :: rest)) := by
  refine va_iast X.1 X.2.1 X.2.2.2.2.1.1 w.1 w.2.1 w.2.2 5 0 rfl rfl (vp_in_nI hj (by decide)) hdg ?_
  rw [nI_clamp (by omega)]
  exact fun H1 locs1 hP hD hS => kk _ H1 locs1 rfl ⟨hP, hD, hS⟩
end Lm_c0_tellIdle
theorem ok0_tellIdle : cOk RX0 yX0_tellIdle cX0_tellIdle 3 none 0 := ⟨wc_X0_tellIdle, wi_X0_tellIdle, ws_X0_tellIdle, wn_X0, rfl, by decide, by decide, by decide +kernel⟩
set_option maxHeartbeats 4000000 in
set_option maxRecDepth 100000 in
theorem c0_tellIdle (l : Launch) (G : CG) (a : Nat → Nat) (z : RS)  (S : Sc) (na : Nat) (ro wa : Nat → Nat) (hA : chA z na ro wa) (hn : na ≤ 4) (hB : ∀ q, q ≤ na → z.2.1 4 q = nI (oB S ro q)) (hwb : ∀ j, j < na → wa j ≤ 1000) : cMv G l yX0_tellIdle cX0_tellIdle 3 none 1 21 [.ref (a 0)] (fun q9 : RS => w0 G a q9) z (fun z9 => chI z9 S ro wa na ∧ rFr [] [5] z z9 ∧ oI S ro wa na ≤ 1000) := by
  refine cMv_in (by decide) rfl (Nat.le_of_ble_eq_true rfl) ?_
  intro p e s m args below meth c A ls X hml hr hk hl w
  have hx := X.1
  have hb := X.2.1
  have hts := X.2.2.1
  have hown := X.2.2.2.1
  have hl : lv_has ls 3 [(0, .ref (a 0))] := hl
  refine lv_iconst (v := (nI 0)) hx hb dX0_tellIdle_0 (by decide) ?_
  refine lv_istore_n (lv' := [(1, .int (nI 0)), (0, .ref (a 0))]) hx hb dX0_tellIdle_1 rfl hl (by decide) rfl (fun ls hl => ?_)
  refine lv_iconst (v := (nI 0)) hx hb dX0_tellIdle_2 (by decide) ?_
  refine lv_istore_n (lv' := [(2, .int (nI 0)), (1, .int (nI 0)), (0, .ref (a 0))]) hx hb dX0_tellIdle_3 rfl hl (by decide) rfl (fun ls hl => ?_)
  have lp_4 : ∀ (n_4 : Nat) (i : Nat) (hi : i ≤ na) (hib : oI S ro wa i ≤ 1000) (hm_4 : na - i < n_4) (ls : Array Slot) (zz : RS) (H : Heap) (locs : List Loc) (w : cW G A s (w0 G a zz) H locs) (hq : (∀ j, j < i → zz.2.1 5 j = nI (oI S ro wa (j + 1))) ∧ rFr [] [5] z zz), lv_has ls 3 [(0, .ref (a 0)), (1, .int (nI (oI S ro wa i))), (2, .int (nI i))] → W p l e (ro_m 1 21) s m args below meth c H locs 0 0 (MQ below (va_Qv (fun z9 => chI z9 S ro wa na ∧ rFr [] [5] z z9 ∧ oI S ro wa na ≤ 1000) (cB G (fun q9 : RS => w0 G a q9) A) A) args s 0 0 A) (F0 m 4 ls []) := by
    intro n_4
    induction n_4 with
    | zero => intro i hi hib hm; exact absurd hm (Nat.not_lt_zero _)
    | succ n_4 ih_4 =>
      intro i hi hib hm_4 ls zz H locs w hq hl
      refine lv_iload_n hx hb dX0_tellIdle_4 rfl (lv_at hl 2 rfl) ?_
      refine lv_aload_n hx hb dX0_tellIdle_5 rfl (lv_at hl 0 rfl) ?_
      refine ag_C_X0_69_this X w.1 dX0_tellIdle_6 ?_
      refine tp_i (show zz.1 0 = (nI na) from ((hq.2.1 0 (by decide)).trans hA.1)) ?_
      refine n_icmp_ge (tgt := 43) hx hb dX0_tellIdle_9 (by decide) (by omega) (by omega) (fun c_9_1 => ?_) (fun c_9_1 => ?_)
      · skip
        exact ce_v (w := (fun q9 : RS => w0 G a q9)) (z := zz) X hr hk w (⟨fun j hj => hq.1 j (by omega), hq.2, by rw [show na = i by omega]; exact hib⟩) dX0_tellIdle_43
      · skip
        have b9 := oB_le (S := S) (ro := ro) i
        have b8 := hwb i (by omega)
        refine lv_iload_n hx hb dX0_tellIdle_12 rfl (lv_at hl 1 rfl) ?_
        refine lv_aload_n hx hb dX0_tellIdle_13 rfl (lv_at hl 0 rfl) ?_
        refine ag_C_X0_18_this X w.1 dX0_tellIdle_14 ?_
        refine lv_iload_n hx hb dX0_tellIdle_17 rfl (lv_at hl 2 rfl) ?_
        refine an_C_this_3 X w.1 (by omega) dX0_tellIdle_18 ?_
        refine tp_i (show zz.2.1 3 i = (nI (wa i)) from ((congrFun (hq.2.2.1 3 (by decide)) _).trans (hA.2.2 i (by omega)))) ?_
        refine lv_aload_n hx hb dX0_tellIdle_19 rfl (lv_at hl 0 rfl) ?_
        refine ag_C_X0_21_this X w.1 dX0_tellIdle_20 ?_
        refine lv_iload_n hx hb dX0_tellIdle_23 rfl (lv_at hl 2 rfl) ?_
        refine an_C_this_4 X w.1 (by omega) dX0_tellIdle_24 ?_
        refine tp_i (show zz.2.1 4 i = (nI (oB S ro i)) from ((congrFun (hq.2.2.1 4 (by decide)) _).trans (hB i (by omega)))) ?_
        refine tp_i (iZ_n (oB S ro i)).symm ?_
        refine tp_i2 (iZ_n (wa i)).symm ?_
        refine z_isub hx hb dX0_tellIdle_25 ?_
        refine tp_i2 (iZ_n (oI S ro wa i)).symm ?_
        refine gm_max (rest := []) ⟨X.1, X.2.1, X.2.2.1, X.2.2.2.1⟩ hml hl.1 wm_X0_89 ⟨Nat.le_of_ble_eq_true rfl, Nat.le_of_ble_eq_true rfl⟩ ⟨Nat.le_refl _, Nat.le_refl _⟩ (Nat.le_of_ble_eq_true rfl) (by omega) (by omega) (by omega) (by omega) dX0_tellIdle_26 ?_
        refine tp_i (show (iZ (max ((oI S ro wa i : Nat) : Int) ((((wa i : Nat) : Int)) - (((oB S ro i : Nat) : Int))))) = (nI (oI S ro wa (i + 1))) from (by rw [← iZ_n]; refine congrArg iZ ?_; show _ = ((max (oI S ro wa i) (wa i - oB S ro i) : Nat) : Int); omega)) ?_
        refine lv_istore_n (lv' := [(1, .int (nI (oI S ro wa (i + 1)))), (0, .ref (a 0)), (2, .int (nI i))]) hx hb dX0_tellIdle_29 rfl hl (by decide) rfl (fun ls hl => ?_)
        refine lv_aload_n hx hb dX0_tellIdle_30 rfl (lv_at hl 1 rfl) ?_
        refine ag_C_X0_24_this X w.1 dX0_tellIdle_31 ?_
        refine lv_iload_n hx hb dX0_tellIdle_34 rfl (lv_at hl 2 rfl) ?_
        refine lv_iload_n hx hb dX0_tellIdle_35 rfl (lv_at hl 0 rfl) ?_
        refine au_C_this_5 X w (by omega) dX0_tellIdle_36 (fun z_36 H locs ez_36 w => ?_)
        refine lv_iinc (v := (nI (i + 1))) (lv' := [(2, .int (nI (i + 1))), (1, .int (nI (oI S ro wa (i + 1)))), (0, .ref (a 0))]) hx hb dX0_tellIdle_37 hl (k := 2) rfl (by first | exact nI_1 _ | (rw [show Int32.ofInt 1 = nI 1 from by decide, nI_add])) (by decide) rfl (fun ls hl => ?_)
        refine lv_goto (tgt := 4) hx hb dX0_tellIdle_40 (by decide) ?_
        exact ih_4 (i + 1) (by omega) (by show max (oI S ro wa i) (wa i - oB S ro i) ≤ 1000; omega) (by omega) ls z_36 _ _ w (by rw [ez_36]; refine ⟨fun j hj => ?_, rFr_tr hq.2 (rFr_A _ (by decide))⟩; show upd (zz.2.1 5) i _ j = _; by_cases ej : j = i; rw [ej, pk_us]; rw [pk_un ej]; exact hq.1 j (by omega)) (lv_sub hl [2, 1, 0] rfl)
  exact lp_4 _ 0 (Nat.zero_le _) (Nat.zero_le _) (Nat.lt_succ_self _) ls z _ _ w ⟨fun j hj => absurd hj (Nat.not_lt_zero _), rFr_rf _ _ _⟩ (lv_sub hl [2, 1, 0] rfl)

section Lm_c0_settleEnds
variable {p : Program} {l : Launch} {e : Env} {R : Room} {s : State} {m : MethodId} {args : Array Value} {below : List Frame} {meth : Method} {c : Code} {H : Heap} {locs : List Loc} {cells slots : Nat} {Q : State → Prop}
variable {cc : ByteArray} {pc : Nat} {ls : Array Slot} {rest : List Value} {G : CG} {A : Nat → Prop}
theorem ag_C_X0_36_this {a : Nat → Nat} {z : RS} (X : cX RX0 G A p c cc s args m) (w : va_P G.1 vwCl (w0 G a z) H) (hdg : decode cc pc = .ok (.getfield 36, 3)) (kk : W p l e R s m args below meth c H locs cells slots Q (F0 m (pc + 3) ls (.ref (a 10) :: rest))) : W p l e R s m args below meth c H locs cells slots Q (F0 m pc ls (.ref (a 0) :: rest)) :=
  va_get (D := G.1) (ci := 0) (v := .ref (a 10)) (C := RX0) (T := TX0) (N := 12) X.1 X.2.1 X.2.2.1 gX0 X.2.2.2.1 X.2.2.2.2.1.1 w 0 rfl rfl 9 (by decide) (X.2.2.1 _ wf_X0_36) (fun _ h9 => h9) rfl hdg kk
theorem au_C_this_9 {own : String} {a : Nat → Nat} {z : RS} {j : Nat} {v : Int32} (X : cX own G A p c cc s args m) (w : cW G A s (w0 G a z) H locs) (hj : j < 175) (hdg : decode cc pc = .ok (.iastore, 1)) (kk : ∀ (z1 : RS) (H : Heap) (locs : List Loc), z1 = (sA z 9 j v) → cW G A s (w0 G a z1) H locs → W p l e R s m args below meth c H locs cells slots Q (F0 m (pc + 1) ls rest)) : W p l e R s m args below meth c H locs cells slots Q (F0 m pc ls (.int v :: .int (nI j) :: .ref (a 10) :: rest)) := by
  refine va_iast X.1 X.2.1 X.2.2.2.2.1.1 w.1 w.2.1 w.2.2 9 0 rfl rfl (vp_in_nI hj (by decide)) hdg ?_
  rw [nI_clamp (by omega)]
  exact fun H1 locs1 hP hD hS => kk _ H1 locs1 rfl ⟨hP, hD, hS⟩
end Lm_c0_settleEnds
theorem ok0_settleEnds : cOk RX0 yX0_settleEnds cX0_settleEnds 4 none 1 := ⟨wc_X0_settleEnds, wi_X0_settleEnds, ws_X0_settleEnds, wn_X0, rfl, by decide, by decide, by decide +kernel⟩
set_option maxHeartbeats 4000000 in
set_option maxRecDepth 100000 in
theorem c0_settleEnds (l : Launch) (G : CG) (a : Nat → Nat) (z : RS) (fa9 : Nat) (S : Sc) (na : Nat) (ro : Nat → Nat) (h0 : z.1 0 = nI na) (hn : na ≤ 4) (hB : ∀ q, q ≤ na → z.2.1 4 q = nI (oB S ro q)) (hfa : fa9 ≤ 6) : cMv G l yX0_settleEnds cX0_settleEnds 4 none 0 0 [.ref (a 0), .int (nI fa9)] (fun q9 : RS => w0 G a q9) z (fun z9 => mE S ro na fa9 z9 ∧ rFr [] [9] z z9) := by
  refine cMv_in (by decide) rfl (Nat.le_of_ble_eq_true rfl) ?_
  intro p e s m args below meth c A ls X hml hr hk hl w
  have hx := X.1
  have hb := X.2.1
  have hts := X.2.2.1
  have hown := X.2.2.2.1
  have hl : lv_has ls 4 [(0, .ref (a 0)), (1, .int (nI fa9))] := hl
  have b9 := oB_le (S := S) (ro := ro) na
  refine lv_aload_n hx hb dX0_settleEnds_0 rfl (lv_at hl 0 rfl) ?_
  refine ag_C_X0_21_this X w.1 dX0_settleEnds_1 ?_
  refine lv_aload_n hx hb dX0_settleEnds_4 rfl (lv_at hl 0 rfl) ?_
  refine ag_C_X0_69_this X w.1 dX0_settleEnds_5 ?_
  refine tp_i (show z.1 0 = (nI na) from h0) ?_
  refine an_C_this_4 X w.1 (by omega) dX0_settleEnds_8 ?_
  refine tp_i (show z.2.1 4 na = (nI (oB S ro na)) from (hB na (Nat.le_refl _))) ?_
  refine lv_istore_n (lv' := [(2, .int (nI (oB S ro na))), (0, .ref (a 0)), (1, .int (nI fa9))]) hx hb dX0_settleEnds_9 rfl hl (by decide) rfl (fun ls hl => ?_)
  refine lv_iconst (v := (nI 0)) hx hb dX0_settleEnds_10 (by decide) ?_
  refine lv_istore_n (lv' := [(3, .int (nI 0)), (2, .int (nI (oB S ro na))), (0, .ref (a 0)), (1, .int (nI fa9))]) hx hb dX0_settleEnds_11 rfl hl (by decide) rfl (fun ls hl => ?_)
  have lp_12 : ∀ (n_12 : Nat) (i : Nat) (hi : i ≤ oB S ro na) (hm_12 : oB S ro na - i < n_12) (ls : Array Slot) (zz : RS) (H : Heap) (locs : List Loc) (w : cW G A s (w0 G a zz) H locs) (hq : (∀ b, b < i → zz.2.1 9 (150 + b) = nI 0) ∧ rFr [] [9] z zz), lv_has ls 4 [(0, .ref (a 0)), (1, .int (nI fa9)), (2, .int (nI (oB S ro na))), (3, .int (nI i))] → W p l e (ro_m 0 0) s m args below meth c H locs 0 0 (MQ below (va_Qv (fun z9 => mE S ro na fa9 z9 ∧ rFr [] [9] z z9) (cB G (fun q9 : RS => w0 G a q9) A) A) args s 0 0 A) (F0 m 12 ls []) := by
    intro n_12
    induction n_12 with
    | zero => intro i hi hm; exact absurd hm (Nat.not_lt_zero _)
    | succ n_12 ih_12 =>
      intro i hi hm_12 ls zz H locs w hq hl
      refine lv_iload_n hx hb dX0_settleEnds_12 rfl (lv_at hl 3 rfl) ?_
      refine lv_iload_n hx hb dX0_settleEnds_13 rfl (lv_at hl 2 rfl) ?_
      refine n_icmp_ge (tgt := 34) hx hb dX0_settleEnds_14 (by decide) (by omega) (by omega) (fun c_14_1 => ?_) (fun c_14_1 => ?_)
      · skip
        refine lv_iload_n hx hb dX0_settleEnds_34 rfl (lv_at hl 1 rfl) ?_
        refine lv_istore_n (lv' := [(3, .int (nI fa9)), (0, .ref (a 0)), (1, .int (nI fa9)), (2, .int (nI (oB S ro na)))]) hx hb dX0_settleEnds_35 rfl hl (by decide) rfl (fun ls hl => ?_)
        have lp_36 : ∀ (n_36 : Nat) (k : Nat) (hk1 : fa9 ≤ k) (hk2 : k ≤ 6) (hm_36 : 6 - k < n_36) (ls : Array Slot) (zy : RS) (H : Heap) (locs : List Loc) (w : cW G A s (w0 G a zy) H locs) (hy : (∀ b, b < oB S ro na → zy.2.1 9 (150 + b) = nI 0) ∧ (∀ h, fa9 ≤ h → h < k → zy.2.1 9 (h * 25 + oB S ro na) = nI 1000000) ∧ rFr [] [9] z zy), lv_has ls 4 [(0, .ref (a 0)), (1, .int (nI fa9)), (2, .int (nI (oB S ro na))), (3, .int (nI k))] → W p l e (ro_m 0 0) s m args below meth c H locs 0 0 (MQ below (va_Qv (fun z9 => mE S ro na fa9 z9 ∧ rFr [] [9] z z9) (cB G (fun q9 : RS => w0 G a q9) A) A) args s 0 0 A) (F0 m 36 ls []) := by
          intro n_36
          induction n_36 with
          | zero => intro k hk1 hk2 hm; exact absurd hm (Nat.not_lt_zero _)
          | succ n_36 ih_36 =>
            intro k hk1 hk2 hm_36 ls zy H locs w hy hl
            refine lv_iload_n hx hb dX0_settleEnds_36 rfl (lv_at hl 3 rfl) ?_
            refine lv_bipush (v := (nI 6)) hx hb dX0_settleEnds_37 (by decide) ?_
            refine n_icmp_ge (tgt := 61) hx hb dX0_settleEnds_39 (by decide) (by omega) (by omega) (fun c_39_2 => ?_) (fun c_39_2 => ?_)
            · skip
              exact ce_v (w := (fun q9 : RS => w0 G a q9)) (z := zy) X hr hk w (⟨⟨hy.1, fun h g1 g2 => hy.2.1 h g1 (by omega)⟩, hy.2.2⟩) dX0_settleEnds_61
            · skip
              refine lv_aload_n hx hb dX0_settleEnds_42 rfl (lv_at hl 0 rfl) ?_
              refine ag_C_X0_36_this X w.1 dX0_settleEnds_43 ?_
              refine lv_iload_n hx hb dX0_settleEnds_46 rfl (lv_at hl 3 rfl) ?_
              refine lv_bipush (v := (nI 25)) hx hb dX0_settleEnds_47 (by decide) ?_
              refine n_imul hx hb dX0_settleEnds_49 ?_
              refine lv_iload_n hx hb dX0_settleEnds_50 rfl (lv_at hl 2 rfl) ?_
              refine n_iadd hx hb dX0_settleEnds_51 ?_
              refine lv_ldc hx hb hown (hts _ wk_X0_72) dX0_settleEnds_52 ?_
              refine tp_i (show (1000000 : Int32) = (nI 1000000) from by decide) ?_
              refine au_C_this_9 X w (by omega) dX0_settleEnds_54 (fun z_54 H locs ez_54 w => ?_)
              refine lv_iinc (v := (nI (k + 1))) (lv' := [(3, .int (nI (k + 1))), (0, .ref (a 0)), (1, .int (nI fa9)), (2, .int (nI (oB S ro na)))]) hx hb dX0_settleEnds_55 hl (k := 3) rfl (by first | exact nI_1 _ | (rw [show Int32.ofInt 1 = nI 1 from by decide, nI_add])) (by decide) rfl (fun ls hl => ?_)
              refine lv_goto (tgt := 36) hx hb dX0_settleEnds_58 (by decide) ?_
              exact ih_36 (k + 1) (by omega) (by omega) (by omega) ls z_54 _ _ w (by rw [ez_54]; refine ⟨fun b hb => (pk_un (f := zy.2.1 9) (by omega)).trans (hy.1 b hb), fun h g1 g2 => ?_, rFr_tr hy.2.2 (rFr_A _ (by decide))⟩; show upd (zy.2.1 9) (k * 25 + oB S ro na) _ (h * 25 + oB S ro na) = _; by_cases ej : h = k; rw [ej, pk_us]; rw [pk_un (by omega)]; exact hy.2.1 h g1 (by omega)) (lv_sub hl [1, 2, 3, 0] rfl)
        exact lp_36 _ fa9 (Nat.le_refl _) hfa (Nat.lt_succ_self _) ls zz _ _ w ⟨fun b hb => hq.1 b (by omega), fun h g1 g2 => by omega, hq.2⟩ (lv_sub hl [1, 2, 3, 0] rfl)
      · skip
        refine lv_aload_n hx hb dX0_settleEnds_17 rfl (lv_at hl 0 rfl) ?_
        refine ag_C_X0_36_this X w.1 dX0_settleEnds_18 ?_
        refine lv_sipush (v := (nI 150)) hx hb dX0_settleEnds_21 (by decide) ?_
        refine lv_iload_n hx hb dX0_settleEnds_24 rfl (lv_at hl 3 rfl) ?_
        refine n_iadd hx hb dX0_settleEnds_25 ?_
        refine lv_iconst (v := (nI 0)) hx hb dX0_settleEnds_26 (by decide) ?_
        refine au_C_this_9 X w (by omega) dX0_settleEnds_27 (fun z_27 H locs ez_27 w => ?_)
        refine lv_iinc (v := (nI (i + 1))) (lv' := [(3, .int (nI (i + 1))), (0, .ref (a 0)), (1, .int (nI fa9)), (2, .int (nI (oB S ro na)))]) hx hb dX0_settleEnds_28 hl (k := 3) rfl (by first | exact nI_1 _ | (rw [show Int32.ofInt 1 = nI 1 from by decide, nI_add])) (by decide) rfl (fun ls hl => ?_)
        refine lv_goto (tgt := 12) hx hb dX0_settleEnds_31 (by decide) ?_
        exact ih_12 (i + 1) (by omega) (by omega) ls z_27 _ _ w (by rw [ez_27]; refine ⟨fun j hj => ?_, rFr_tr hq.2 (rFr_A _ (by decide))⟩; show upd (zz.2.1 9) (150 + i) _ (150 + j) = _; by_cases ej : j = i; rw [ej, pk_us]; rw [pk_un (by omega)]; exact hq.1 j (by omega)) (lv_sub hl [1, 2, 3, 0] rfl)
  exact lp_12 _ 0 (Nat.zero_le _) (Nat.lt_succ_self _) ls z _ _ w ⟨fun j hj => absurd hj (Nat.not_lt_zero _), rFr_rf _ _ _⟩ (lv_sub hl [2, 3, 1, 0] rfl)

section Lm_c0_leastHurt
variable {p : Program} {l : Launch} {e : Env} {R : Room} {s : State} {m : MethodId} {args : Array Value} {below : List Frame} {meth : Method} {c : Code} {H : Heap} {locs : List Loc} {cells slots : Nat} {Q : State → Prop}
variable {cc : ByteArray} {pc : Nat} {ls : Array Slot} {rest : List Value} {G : CG} {A : Nat → Prop}
theorem an_C_this_5 {own : String} {a : Nat → Nat} {z : RS} {j : Nat} (X : cX own G A p c cc s args m) (w : va_P G.1 vwCl (w0 G a z) H) (hj : j < 4) (hdg : decode cc pc = .ok (.iaload, 1)) (kk : W p l e R s m args below meth c H locs cells slots Q (F0 m (pc + 1) ls (.int (z.2.1 5 j) :: rest))) : W p l e R s m args below meth c H locs cells slots Q (F0 m pc ls (.int (nI j) :: .ref (a 6) :: rest)) :=
  va_iald X.1 X.2.1 X.2.2.2.2.1.1 w 5 0 rfl rfl (vp_in_nI hj (by decide)) hdg (by rw [nI_clamp (by omega)]; exact kk)
end Lm_c0_leastHurt
theorem ok0_leastHurt : cOk RX0 yX0_leastHurt cX0_leastHurt 5 (some .int) 4 := ⟨wc_X0_leastHurt, wi_X0_leastHurt, ws_X0_leastHurt, wn_X0, rfl, by decide, by decide, by decide +kernel⟩
set_option maxHeartbeats 4000000 in
set_option maxRecDepth 100000 in
theorem c0_leastHurt (l : Launch) (G : CG) (a : Nat → Nat) (z : RS) (fa9 : Nat) (ma9 : Nat) (ja9 : Nat) (ba9 : Nat) (ia9 : Nat) (hj : ja9 < 4) (hi : z.2.1 5 ja9 = nI ia9) (hib : ia9 ≤ 1000) (h1 : fa9 ≤ 6) (h2 : ma9 ≤ 1000) (h3 : ba9 ≤ 100) : cMp G l yX0_leastHurt cX0_leastHurt 5 (some .int) 1 21 [.ref (a 0), .int (nI fa9), .int (nI ma9), .int (nI ja9), .int (nI ba9)] (w0 G a z) (fun r => r = nI (max fa9 (fa9 + ma9 - ia9 - ba9))) := by
  refine cMp_in (by decide) rfl (Nat.le_of_ble_eq_true rfl) ?_
  intro p e s m args below meth c ls X hml hr hk hl w
  have hx := X.1
  have hb := X.2.1
  have hts := X.2.2.1
  have hown := X.2.2.2.1
  have hl : lv_has ls 5 [(0, .ref (a 0)), (1, .int (nI fa9)), (2, .int (nI ma9)), (3, .int (nI ja9)), (4, .int (nI ba9))] := hl
  refine lv_iload_n hx hb dX0_leastHurt_0 rfl (lv_at hl 1 rfl) ?_
  refine lv_iload_n hx hb dX0_leastHurt_1 rfl (lv_at hl 1 rfl) ?_
  refine lv_iload_n hx hb dX0_leastHurt_2 rfl (lv_at hl 2 rfl) ?_
  refine n_iadd hx hb dX0_leastHurt_3 ?_
  refine lv_aload_n hx hb dX0_leastHurt_4 rfl (lv_at hl 0 rfl) ?_
  refine ag_C_X0_24_this X w dX0_leastHurt_5 ?_
  refine lv_iload_n hx hb dX0_leastHurt_8 rfl (lv_at hl 3 rfl) ?_
  refine an_C_this_5 X w (by omega) dX0_leastHurt_9 ?_
  refine tp_i (show z.2.1 5 ja9 = (nI ia9) from hi) ?_
  refine tp_i (iZ_n ia9).symm ?_
  refine tp_i2 (iZ_n (fa9 + ma9)).symm ?_
  refine z_isub hx hb dX0_leastHurt_10 ?_
  refine lv_iload hx hb dX0_leastHurt_11 (lv_at hl 4 rfl) ?_
  refine tp_i (iZ_n ba9).symm ?_
  refine z_isub hx hb dX0_leastHurt_13 ?_
  refine tp_i2 (iZ_n fa9).symm ?_
  refine gm_max (rest := []) ⟨X.1, X.2.1, X.2.2.1, X.2.2.2.1⟩ hml hl.1 wm_X0_89 ⟨Nat.le_of_ble_eq_true rfl, Nat.le_of_ble_eq_true rfl⟩ ⟨Nat.le_refl _, Nat.le_refl _⟩ (Nat.le_of_ble_eq_true rfl) (by omega) (by omega) (by omega) (by omega) dX0_leastHurt_14 ?_
  refine tp_i (show (iZ (max ((fa9 : Nat) : Int) (((((fa9 + ma9 : Nat) : Int)) - (((ia9 : Nat) : Int))) - (((ba9 : Nat) : Int))))) = (nI (max fa9 (fa9 + ma9 - ia9 - ba9))) from (by rw [← iZ_n]; exact congrArg iZ (by omega))) ?_
  exact re_p hx hb hr hk (rfl) dX0_leastHurt_17

theorem ok0_countThere : cOk RX0 yX0_countThere cX0_countThere 3 (some .int) 1 := ⟨wc_X0_countThere, wi_X0_countThere, ws_X0_countThere, wn_X0, rfl, by decide, by decide, by decide +kernel⟩
set_option maxHeartbeats 4000000 in
set_option maxRecDepth 100000 in
theorem c0_countThere (l : Launch) (G : CG) (a : Nat → Nat) (z : RS) (ma9 : Nat) (na : Nat) (ro wa : Nat → Nat) (hA : chA z na ro wa) (hn : na ≤ 4) (hn1 : 1 ≤ na) (hw0 : wa 0 = 0) (hwm : ∀ i j, i < j → j < na → wa i ≤ wa j) (hwb : ∀ j, j < na → wa j ≤ 1000) (hm : ma9 ≤ 1000) : cMp G l yX0_countThere cX0_countThere 3 (some .int) 0 0 [.ref (a 0), .int (nI ma9)] (w0 G a z) (fun r => r = nI (cntL wa ma9 na)) := by
  refine cMp_in (by decide) rfl (Nat.le_of_ble_eq_true rfl) ?_
  intro p e s m args below meth c ls X hml hr hk hl w
  have hx := X.1
  have hb := X.2.1
  have hts := X.2.2.1
  have hown := X.2.2.2.1
  have hl : lv_has ls 3 [(0, .ref (a 0)), (1, .int (nI ma9))] := hl
  refine lv_iconst (v := (nI 1)) hx hb dX0_countThere_0 (by decide) ?_
  refine lv_istore_n (lv' := [(2, .int (nI 1)), (0, .ref (a 0)), (1, .int (nI ma9))]) hx hb dX0_countThere_1 rfl hl (by decide) rfl (fun ls hl => ?_)
  have lp_2 : ∀ (n_2 : Nat) (i : Nat) (hi1 : 1 ≤ i) (hi2 : i ≤ na) (hia : ∀ j, j < i → wa j ≤ ma9) (hm_2 : na - i < n_2) (ls : Array Slot), lv_has ls 3 [(0, .ref (a 0)), (1, .int (nI ma9)), (2, .int (nI i))] → W p l e (ro_m 0 0) s m args below meth c s.heap [] 0 0 (MQ below (vp_Si (fun r => r = nI (cntL wa ma9 na))) args s 0 0 (fun _ => False)) (F0 m 2 ls []) := by
    intro n_2
    induction n_2 with
    | zero => intro i hi1 hi2 hia hm; exact absurd hm (Nat.not_lt_zero _)
    | succ n_2 ih_2 =>
      intro i hi1 hi2 hia hm_2 ls hl
      refine lv_iload_n hx hb dX0_countThere_2 rfl (lv_at hl 2 rfl) ?_
      refine lv_aload_n hx hb dX0_countThere_3 rfl (lv_at hl 0 rfl) ?_
      refine ag_C_X0_69_this X w dX0_countThere_4 ?_
      refine tp_i (show z.1 0 = (nI na) from hA.1) ?_
      refine n_icmp_ge (tgt := 26) hx hb dX0_countThere_7 (by decide) (by omega) (by omega) (fun c_7_1 => ?_) (fun c_7_1 => ?_)
      · skip
        refine lv_iload_n hx hb dX0_countThere_26 rfl (lv_at hl 2 rfl) ?_
        exact re_p hx hb hr hk (congrArg nI (ct_x hi2 hia hwm (by first | (left; omega) | (right; omega)))) dX0_countThere_27
      · skip
        have b9 := hwb i (by omega)
        refine lv_aload_n hx hb dX0_countThere_10 rfl (lv_at hl 0 rfl) ?_
        refine ag_C_X0_18_this X w dX0_countThere_11 ?_
        refine lv_iload_n hx hb dX0_countThere_14 rfl (lv_at hl 2 rfl) ?_
        refine an_C_this_3 X w (by omega) dX0_countThere_15 ?_
        refine tp_i (show z.2.1 3 i = (nI (wa i)) from (hA.2.2 i (by omega))) ?_
        refine lv_iload_n hx hb dX0_countThere_16 rfl (lv_at hl 1 rfl) ?_
        refine n_icmp_gt (tgt := 26) hx hb dX0_countThere_17 (by decide) (by omega) (by omega) (fun c_17_2 => ?_) (fun c_17_2 => ?_)
        · skip
          refine lv_iload_n hx hb dX0_countThere_26 rfl (lv_at hl 2 rfl) ?_
          exact re_p hx hb hr hk (congrArg nI (ct_x hi2 hia hwm (by first | (left; omega) | (right; omega)))) dX0_countThere_27
        · skip
          refine lv_iinc (v := (nI (i + 1))) (lv' := [(2, .int (nI (i + 1))), (0, .ref (a 0)), (1, .int (nI ma9))]) hx hb dX0_countThere_20 hl (k := 2) rfl (by first | exact nI_1 _ | (rw [show Int32.ofInt 1 = nI 1 from by decide, nI_add])) (by decide) rfl (fun ls hl => ?_)
          refine lv_goto (tgt := 2) hx hb dX0_countThere_23 (by decide) ?_
          exact ih_2 (i + 1) (by omega) (by omega) (fun j hj => by by_cases ej : j = i; rw [ej]; omega; exact hia j (by omega)) (by omega) ls (lv_sub hl [1, 2, 0] rfl)
  exact lp_2 _ 1 (by omega) hn1 (fun j hj => by rw [show j = 0 by omega, hw0]; exact Nat.zero_le _) (Nat.lt_succ_self _) ls (lv_sub hl [1, 2, 0] rfl)

section Lm_c0_fold
variable {p : Program} {l : Launch} {e : Env} {R : Room} {s : State} {m : MethodId} {args : Array Value} {below : List Frame} {meth : Method} {c : Code} {H : Heap} {locs : List Loc} {cells slots : Nat} {Q : State → Prop}
variable {cc : ByteArray} {pc : Nat} {ls : Array Slot} {rest : List Value} {G : CG} {A : Nat → Prop}
theorem ag_C_X0_33_this {a : Nat → Nat} {z : RS} (X : cX RX0 G A p c cc s args m) (w : va_P G.1 vwCl (w0 G a z) H) (hdg : decode cc pc = .ok (.getfield 33, 3)) (kk : W p l e R s m args below meth c H locs cells slots Q (F0 m (pc + 3) ls (.ref (a 9) :: rest))) : W p l e R s m args below meth c H locs cells slots Q (F0 m pc ls (.ref (a 0) :: rest)) :=
  va_get (D := G.1) (ci := 0) (v := .ref (a 9)) (C := RX0) (T := TX0) (N := 12) X.1 X.2.1 X.2.2.1 gX0 X.2.2.2.1 X.2.2.2.2.1.1 w 0 rfl rfl 8 (by decide) (X.2.2.1 _ wf_X0_33) (fun _ h9 => h9) rfl hdg kk
theorem an_C_this_8 {own : String} {a : Nat → Nat} {z : RS} {j : Nat} (X : cX own G A p c cc s args m) (w : va_P G.1 vwCl (w0 G a z) H) (hj : j < 6) (hdg : decode cc pc = .ok (.iaload, 1)) (kk : W p l e R s m args below meth c H locs cells slots Q (F0 m (pc + 1) ls (.int (z.2.1 8 j) :: rest))) : W p l e R s m args below meth c H locs cells slots Q (F0 m pc ls (.int (nI j) :: .ref (a 9) :: rest)) :=
  va_iald X.1 X.2.1 X.2.2.2.2.1.1 w 8 0 rfl rfl (vp_in_nI hj (by decide)) hdg (by rw [nI_clamp (by omega)]; exact kk)
theorem ag_C_X0_30_this {a : Nat → Nat} {z : RS} (X : cX RX0 G A p c cc s args m) (w : va_P G.1 vwCl (w0 G a z) H) (hdg : decode cc pc = .ok (.getfield 30, 3)) (kk : W p l e R s m args below meth c H locs cells slots Q (F0 m (pc + 3) ls (.ref (a 8) :: rest))) : W p l e R s m args below meth c H locs cells slots Q (F0 m pc ls (.ref (a 0) :: rest)) :=
  va_get (D := G.1) (ci := 0) (v := .ref (a 8)) (C := RX0) (T := TX0) (N := 12) X.1 X.2.1 X.2.2.1 gX0 X.2.2.2.1 X.2.2.2.2.1.1 w 0 rfl rfl 7 (by decide) (X.2.2.1 _ wf_X0_30) (fun _ h9 => h9) rfl hdg kk
theorem an_C_this_7 {own : String} {a : Nat → Nat} {z : RS} {j : Nat} (X : cX own G A p c cc s args m) (w : va_P G.1 vwCl (w0 G a z) H) (hj : j < 24) (hdg : decode cc pc = .ok (.iaload, 1)) (kk : W p l e R s m args below meth c H locs cells slots Q (F0 m (pc + 1) ls (.int (z.2.1 7 j) :: rest))) : W p l e R s m args below meth c H locs cells slots Q (F0 m pc ls (.int (nI j) :: .ref (a 8) :: rest)) :=
  va_iald X.1 X.2.1 X.2.2.2.2.1.1 w 7 0 rfl rfl (vp_in_nI hj (by decide)) hdg (by rw [nI_clamp (by omega)]; exact kk)
theorem ag_C_X0_27_this {a : Nat → Nat} {z : RS} (X : cX RX0 G A p c cc s args m) (w : va_P G.1 vwCl (w0 G a z) H) (hdg : decode cc pc = .ok (.getfield 27, 3)) (kk : W p l e R s m args below meth c H locs cells slots Q (F0 m (pc + 3) ls (.ref (a 7) :: rest))) : W p l e R s m args below meth c H locs cells slots Q (F0 m pc ls (.ref (a 0) :: rest)) :=
  va_get (D := G.1) (ci := 0) (v := .ref (a 7)) (C := RX0) (T := TX0) (N := 12) X.1 X.2.1 X.2.2.1 gX0 X.2.2.2.1 X.2.2.2.2.1.1 w 0 rfl rfl 6 (by decide) (X.2.2.1 _ wf_X0_27) (fun _ h9 => h9) rfl hdg kk
theorem an_C_this_6 {own : String} {a : Nat → Nat} {z : RS} {j : Nat} (X : cX own G A p c cc s args m) (w : va_P G.1 vwCl (w0 G a z) H) (hj : j < 24) (hdg : decode cc pc = .ok (.iaload, 1)) (kk : W p l e R s m args below meth c H locs cells slots Q (F0 m (pc + 1) ls (.int (z.2.1 6 j) :: rest))) : W p l e R s m args below meth c H locs cells slots Q (F0 m pc ls (.int (nI j) :: .ref (a 7) :: rest)) :=
  va_iald X.1 X.2.1 X.2.2.2.2.1.1 w 6 0 rfl rfl (vp_in_nI hj (by decide)) hdg (by rw [nI_clamp (by omega)]; exact kk)
theorem an_C_this_9 {own : String} {a : Nat → Nat} {z : RS} {j : Nat} (X : cX own G A p c cc s args m) (w : va_P G.1 vwCl (w0 G a z) H) (hj : j < 175) (hdg : decode cc pc = .ok (.iaload, 1)) (kk : W p l e R s m args below meth c H locs cells slots Q (F0 m (pc + 1) ls (.int (z.2.1 9 j) :: rest))) : W p l e R s m args below meth c H locs cells slots Q (F0 m pc ls (.int (nI j) :: .ref (a 10) :: rest)) :=
  va_iald X.1 X.2.1 X.2.2.2.2.1.1 w 9 0 rfl rfl (vp_in_nI hj (by decide)) hdg (by rw [nI_clamp (by omega)]; exact kk)
end Lm_c0_fold
theorem ok0_fold : cOk RX0 yX0_fold cX0_fold 6 none 3 := ⟨wc_X0_fold, wi_X0_fold, ws_X0_fold, wn_X0, rfl, by decide, by decide, by decide +kernel⟩
set_option maxHeartbeats 4000000 in
set_option maxRecDepth 100000 in
theorem c0_fold (l : Launch) (G : CG) (a : Nat → Nat) (z : RS) (ha9 : Nat) (ba9 : Nat) (ta9 : Nat) (rf fo tt x9 y9 : Nat) (hh : ha9 < 6) (hb : ba9 < 24) (e8 : z.2.1 8 ha9 = nI rf) (e7 : z.2.1 7 ba9 = nI fo) (e6 : z.2.1 6 ba9 = nI tt) (e1 : z.2.1 9 (ha9 * 25 + ba9 + 1) = nI x9) (e2 : z.2.1 9 (ha9 * 25 + ba9 + 25) = nI y9) (hrf : rf ≤ 100) (hfo : fo ≤ 100) (htt : tt + 1 ≤ ta9) (hta : ta9 ≤ 4) (hx9 : x9 ≤ 1000000) (hy9 : y9 ≤ 1000000) : cMv G l yX0_fold cX0_fold 6 none 1 23 [.ref (a 0), .int (nI ha9), .int (nI ba9), .int (nI ta9)] (fun q9 : RS => w0 G a q9) z (fun z9 => z9 = sA z 9 (ha9 * 25 + ba9) (nI ((pc_btw ((8 + (rf : Int)) - (fo : Int) - ((2 * (ta9 - 1 - tt) : Nat) : Int)) * x9 + (16 - pc_btw ((8 + (rf : Int)) - (fo : Int) - ((2 * (ta9 - 1 - tt) : Nat) : Int))) * y9) / 16))) := by
  refine cMv_in (by decide) rfl (Nat.le_of_ble_eq_true rfl) ?_
  intro p e s m args below meth c A ls X hml hr hk hl w
  have hx := X.1
  have hb := X.2.1
  have hts := X.2.2.1
  have hown := X.2.2.2.1
  have hl : lv_has ls 6 [(0, .ref (a 0)), (1, .int (nI ha9)), (2, .int (nI ba9)), (3, .int (nI ta9))] := hl
  refine lv_aload_n hx hb dX0_fold_0 rfl (lv_at hl 0 rfl) ?_
  refine ag_C_X0_33_this X w.1 dX0_fold_1 ?_
  refine lv_iload_n hx hb dX0_fold_4 rfl (lv_at hl 1 rfl) ?_
  refine an_C_this_8 X w.1 (by omega) dX0_fold_5 ?_
  refine tp_i (show z.2.1 8 ha9 = (nI rf) from e8) ?_
  refine lv_aload_n hx hb dX0_fold_6 rfl (lv_at hl 0 rfl) ?_
  refine ag_C_X0_30_this X w.1 dX0_fold_7 ?_
  refine lv_iload_n hx hb dX0_fold_10 rfl (lv_at hl 2 rfl) ?_
  refine an_C_this_7 X w.1 (by omega) dX0_fold_11 ?_
  refine tp_i (show z.2.1 7 ba9 = (nI fo) from e7) ?_
  refine lv_iload_n hx hb dX0_fold_12 rfl (lv_at hl 3 rfl) ?_
  refine lv_iconst (v := (nI 1)) hx hb dX0_fold_13 (by decide) ?_
  refine n_isub hx hb dX0_fold_14 (by omega) ?_
  refine lv_aload_n hx hb dX0_fold_15 rfl (lv_at hl 0 rfl) ?_
  refine ag_C_X0_27_this X w.1 dX0_fold_16 ?_
  refine lv_iload_n hx hb dX0_fold_19 rfl (lv_at hl 2 rfl) ?_
  refine an_C_this_6 X w.1 (by omega) dX0_fold_20 ?_
  refine tp_i (show z.2.1 6 ba9 = (nI tt) from e6) ?_
  refine n_isub hx hb dX0_fold_21 (by omega) ?_
  refine gc_sx (C := RX5) (rest := []) ⟨X.1, X.2.1, X.2.2.1, X.2.2.2.1⟩ hml hl.1 (c5_odds l rf fo ((ta9 - 1) - tt) (by omega) (by omega) (by omega)) ok5_odds wm_X0_137 ⟨Nat.le_of_ble_eq_true rfl, Nat.le_of_ble_eq_true rfl⟩ ⟨Nat.le_refl _, Nat.le_refl _⟩ rfl (Nat.le_of_ble_eq_true rfl) dX0_fold_22 (fun r_22 hr_22 => ?_)
  subst hr_22
  have d_22 := pc_btw_le ((8 + (rf : Int)) - (fo : Int) - ((2 * ((ta9 - 1) - tt) : Nat) : Int))
  refine lv_istore (lv' := [(4, .int (nI (pc_btw ((8 + (rf : Int)) - (fo : Int) - ((2 * ((ta9 - 1) - tt) : Nat) : Int))))), (0, .ref (a 0)), (1, .int (nI ha9)), (2, .int (nI ba9)), (3, .int (nI ta9))]) hx hb dX0_fold_25 hl (by decide) rfl (fun ls hl => ?_)
  have w9 := ft_le (o := pc_btw ((8 + (rf : Int)) - (fo : Int) - ((2 * (ta9 - 1 - tt) : Nat) : Int))) (w := x9) (i := y9) d_22.2 hx9 hy9
  refine lv_iload_n hx hb dX0_fold_27 rfl (lv_at hl 2 rfl) ?_
  refine lv_bipush (v := (nI 25)) hx hb dX0_fold_28 (by decide) ?_
  refine n_imul hx hb dX0_fold_30 ?_
  refine lv_iload_n hx hb dX0_fold_31 rfl (lv_at hl 3 rfl) ?_
  refine n_iadd hx hb dX0_fold_32 ?_
  refine lv_istore (lv' := [(5, .int (nI ((ha9 * 25) + ba9))), (4, .int (nI (pc_btw ((8 + (rf : Int)) - (fo : Int) - ((2 * ((ta9 - 1) - tt) : Nat) : Int))))), (0, .ref (a 0)), (1, .int (nI ha9)), (2, .int (nI ba9)), (3, .int (nI ta9))]) hx hb dX0_fold_33 hl (by decide) rfl (fun ls hl => ?_)
  refine lv_aload_n hx hb dX0_fold_35 rfl (lv_at hl 2 rfl) ?_
  refine ag_C_X0_36_this X w.1 dX0_fold_36 ?_
  refine lv_iload hx hb dX0_fold_39 (lv_at hl 0 rfl) ?_
  refine lv_iload hx hb dX0_fold_41 (lv_at hl 1 rfl) ?_
  refine lv_aload_n hx hb dX0_fold_43 rfl (lv_at hl 2 rfl) ?_
  refine ag_C_X0_36_this X w.1 dX0_fold_44 ?_
  refine lv_iload hx hb dX0_fold_47 (lv_at hl 0 rfl) ?_
  refine lv_iconst (v := (nI 1)) hx hb dX0_fold_49 (by decide) ?_
  refine n_iadd hx hb dX0_fold_50 ?_
  refine an_C_this_9 X w.1 (by omega) dX0_fold_51 ?_
  refine tp_i (show z.2.1 9 (((ha9 * 25) + ba9) + 1) = (nI x9) from e1) ?_
  refine n_imul hx hb dX0_fold_52 ?_
  refine lv_bipush (v := (nI 16)) hx hb dX0_fold_53 (by decide) ?_
  refine lv_iload hx hb dX0_fold_55 (lv_at hl 1 rfl) ?_
  refine n_isub hx hb dX0_fold_57 (by omega) ?_
  refine lv_aload_n hx hb dX0_fold_58 rfl (lv_at hl 2 rfl) ?_
  refine ag_C_X0_36_this X w.1 dX0_fold_59 ?_
  refine lv_iload hx hb dX0_fold_62 (lv_at hl 0 rfl) ?_
  refine lv_bipush (v := (nI 25)) hx hb dX0_fold_64 (by decide) ?_
  refine n_iadd hx hb dX0_fold_66 ?_
  refine an_C_this_9 X w.1 (by omega) dX0_fold_67 ?_
  refine tp_i (show z.2.1 9 (((ha9 * 25) + ba9) + 25) = (nI y9) from e2) ?_
  refine n_imul hx hb dX0_fold_68 ?_
  refine n_iadd hx hb dX0_fold_69 ?_
  refine lv_bipush (v := (nI 16)) hx hb dX0_fold_70 (by decide) ?_
  refine n_idiv hx hb dX0_fold_72 (by omega) (by omega) (by omega) ?_
  refine au_C_this_9 X w (by omega) dX0_fold_73 (fun z_73 H locs ez_73 w => ?_)
  exact ce_v (w := (fun q9 : RS => w0 G a q9)) (z := z_73) X hr hk w (ez_73) dX0_fold_74
