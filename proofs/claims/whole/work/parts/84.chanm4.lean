section Lm_c0_chanceFrom
variable {p : Program} {l : Launch} {e : Env} {R : Room} {s : State} {m : MethodId} {args : Array Value} {below : List Frame} {meth : Method} {c : Code} {H : Heap} {locs : List Loc} {cells slots : Nat} {Q : State → Prop}
variable {cc : ByteArray} {pc : Nat} {ls : Array Slot} {rest : List Value} {G : CG} {A : Nat → Prop}
theorem ag_CS_X0_39_this {a b : Nat → Nat} {zo : RS} {z : RS} (X : cX RX0 G A p c cc s args m) (w : va_P G.1 vwCl (w0 G a z ++ w5 G b zo) H) (hdg : decode cc pc = .ok (.getfield 39, 3)) (kk : W p l e R s m args below meth c H locs cells slots Q (F0 m (pc + 3) ls (.ref (a 11) :: rest))) : W p l e R s m args below meth c H locs cells slots Q (F0 m pc ls (.ref (a 0) :: rest)) :=
  va_get (D := G.1) (ci := 0) (v := .ref (a 11)) (C := RX0) (T := TX0) (N := 12) X.1 X.2.1 X.2.2.1 gX0 X.2.2.2.1 X.2.2.2.2.1.1 w 0 rfl rfl 10 (by decide) (X.2.2.1 _ wf_X0_39) (fun _ h9 => h9) rfl hdg kk
theorem an_CS_this_10 {own : String} {a b : Nat → Nat} {zo : RS} {z : RS} {j : Nat} (X : cX own G A p c cc s args m) (w : va_P G.1 vwCl (w0 G a z ++ w5 G b zo) H) (hj : j < 128) (hdg : decode cc pc = .ok (.iaload, 1)) (kk : W p l e R s m args below meth c H locs cells slots Q (F0 m (pc + 1) ls (.int (z.2.1 10 j) :: rest))) : W p l e R s m args below meth c H locs cells slots Q (F0 m pc ls (.int (nI j) :: .ref (a 11) :: rest)) :=
  va_iald X.1 X.2.1 X.2.2.2.2.1.1 w 10 0 rfl rfl (vp_in_nI hj (by decide)) hdg (by rw [nI_clamp (by omega)]; exact kk)
theorem ag_CS_X0_42_this {a b : Nat → Nat} {zo : RS} {z : RS} (X : cX RX0 G A p c cc s args m) (w : va_P G.1 vwCl (w0 G a z ++ w5 G b zo) H) (hdg : decode cc pc = .ok (.getfield 42, 3)) (kk : W p l e R s m args below meth c H locs cells slots Q (F0 m (pc + 3) ls (.ref (a 12) :: rest))) : W p l e R s m args below meth c H locs cells slots Q (F0 m pc ls (.ref (a 0) :: rest)) :=
  va_get (D := G.1) (ci := 0) (v := .ref (a 12)) (C := RX0) (T := TX0) (N := 12) X.1 X.2.1 X.2.2.1 gX0 X.2.2.2.1 X.2.2.2.2.1.1 w 0 rfl rfl 11 (by decide) (X.2.2.1 _ wf_X0_42) (fun _ h9 => h9) rfl hdg kk
theorem an_CS_this_11 {own : String} {a b : Nat → Nat} {zo : RS} {z : RS} {j : Nat} (X : cX own G A p c cc s args m) (w : va_P G.1 vwCl (w0 G a z ++ w5 G b zo) H) (hj : j < 128) (hdg : decode cc pc = .ok (.iaload, 1)) (kk : W p l e R s m args below meth c H locs cells slots Q (F0 m (pc + 1) ls (.int (z.2.1 11 j) :: rest))) : W p l e R s m args below meth c H locs cells slots Q (F0 m pc ls (.int (nI j) :: .ref (a 12) :: rest)) :=
  va_iald X.1 X.2.1 X.2.2.2.2.1.1 w 11 0 rfl rfl (vp_in_nI hj (by decide)) hdg (by rw [nI_clamp (by omega)]; exact kk)
theorem au_CS_this_10 {own : String} {a b : Nat → Nat} {zo : RS} {z : RS} {j : Nat} {v : Int32} (X : cX own G A p c cc s args m) (w : cW G A s (w0 G a z ++ w5 G b zo) H locs) (hj : j < 128) (hdg : decode cc pc = .ok (.iastore, 1)) (kk : ∀ (z1 : RS) (H : Heap) (locs : List Loc), z1 = (sA z 10 j v) → cW G A s (w0 G a z1 ++ w5 G b zo) H locs → W p l e R s m args below meth c H locs cells slots Q (F0 m (pc + 1) ls rest)) : W p l e R s m args below meth c H locs cells slots Q (F0 m pc ls (.int v :: .int (nI j) :: .ref (a 11) :: rest)) := by
  refine va_iast X.1 X.2.1 X.2.2.2.2.1.1 w.1 w.2.1 w.2.2 10 0 rfl rfl (vp_in_nI hj (by decide)) hdg ?_
  rw [nI_clamp (by omega)]
  exact fun H1 locs1 hP hD hS => kk _ H1 locs1 rfl ⟨hP, hD, hS⟩
theorem au_CS_this_11 {own : String} {a b : Nat → Nat} {zo : RS} {z : RS} {j : Nat} {v : Int32} (X : cX own G A p c cc s args m) (w : cW G A s (w0 G a z ++ w5 G b zo) H locs) (hj : j < 128) (hdg : decode cc pc = .ok (.iastore, 1)) (kk : ∀ (z1 : RS) (H : Heap) (locs : List Loc), z1 = (sA z 11 j v) → cW G A s (w0 G a z1 ++ w5 G b zo) H locs → W p l e R s m args below meth c H locs cells slots Q (F0 m (pc + 1) ls rest)) : W p l e R s m args below meth c H locs cells slots Q (F0 m pc ls (.int v :: .int (nI j) :: .ref (a 12) :: rest)) := by
  refine va_iast X.1 X.2.1 X.2.2.2.2.1.1 w.1 w.2.1 w.2.2 11 0 rfl rfl (vp_in_nI hj (by decide)) hdg ?_
  rw [nI_clamp (by omega)]
  exact fun H1 locs1 hP hD hS => kk _ H1 locs1 rfl ⟨hP, hD, hS⟩
end Lm_c0_chanceFrom
theorem ok0_chanceFrom : cOk RX0 yX0_chanceFrom cX0_chanceFrom 5 (some .int) 2 := ⟨wc_X0_chanceFrom, wi_X0_chanceFrom, ws_X0_chanceFrom, wn_X0, rfl, by decide, by decide, by decide +kernel⟩
set_option maxHeartbeats 4000000 in
set_option maxRecDepth 100000 in
theorem c0_chanceFrom (l : Launch) (G : CG) (a b : Nat → Nat) (zo : RS) (z : RS) (ma9 : Nat) (S : Sc) (hz : cSn zo S) (ho : oSc S) (h1 : 1 ≤ S.1 1) (hd0 : pc_dn S 0 = 0) (cf : Nat → Nat) (hcf : ∀ f, 1 ≤ f → f < S.1 1 → z.2.1 2 f = nI (cf f)) (hcb : ∀ f, cf f ≤ 2000000000) (hM : chM S z) (hm : ma9 ≤ 100000) : cMi G l yX0_chanceFrom cX0_chanceFrom 5 (some .int) 4 104 [.ref (a 0), .ref (b 0), .int (nI ma9)] (fun q9 : RS => w0 G a q9 ++ w5 G b zo) z (fun r z9 => (∀ S9, eqv S9 S → (∀ f, 1 ≤ f → f < S.1 1 → pc_dn S f = 0 → S9.2.1 5 f = cf f) → S9.1 3 = ma9 → r = nI (sp_c S9)) ∧ chM S z9) := by
  refine cMi_in (by decide) rfl (Nat.le_of_ble_eq_true rfl) ?_
  intro p e s m args below meth c A ls X hml hr hk hl w
  have hx := X.1
  have hb := X.2.1
  have hts := X.2.2.1
  have hown := X.2.2.2.1
  have hl : lv_has ls 5 [(0, .ref (a 0)), (1, .ref (b 0)), (2, .int (nI ma9))] := hl
  obtain ⟨o1, o2, o3, o4, o5, o6, oso, oki, osr, opa, ohu, oco⟩ := id ho
  have h05 := dn_5 ho hd0
  refine lv_aload_n hx hb dX0_chanceFrom_0 rfl (lv_at hl 0 rfl) ?_
  refine lv_aload_n hx hb dX0_chanceFrom_1 rfl (lv_at hl 1 rfl) ?_
  refine gc_v (C := RX0) (ci := 0) (rest := []) (w := (fun q9 : RS => w0 G a q9 ++ w5 G b zo)) (wr := []) (wn := (fun q9 : RS => w0 G a q9 ++ w5 G b zo)) X hml hl.1 (c0_putInOrder l G a b zo z S hz ho h1 cf hcf hcb) ok0_putInOrder wm_X0_65 ⟨Nat.le_of_ble_eq_true rfl, Nat.le_of_ble_eq_true rfl⟩ ⟨Nat.le_refl _, Nat.le_refl _⟩ w [0, 1, 2, 3, 4, 5, 6, 7, 8, 9, 10, 11, 12, 13, 14, 15, 16, 17, 18, 19] [] [0, 1, 2, 3, 4, 5, 6, 7, 8, 9, 10, 11, 12, 13, 14, 15, 16, 17, 18, 19] rfl (by decide) rfl (by decide) (by decide) (fun _ => rfl) (by decide) rfl rfl rfl (Nat.le_of_ble_eq_true rfl) dX0_chanceFrom_2 (fun z_2 H locs hr_2 w => ?_)
  obtain ⟨na, ro, e0, e1, hO, f1⟩ := hr_2
  have hn4 : na ≤ 4 := by have g1 := hO.1; have g2 := ou_le S (S.1 1 - 1); omega
  have hro : ∀ j, j < na → 1 ≤ ro j ∧ ro j < S.1 1 ∧ S.2.1 4 (ro j) ≤ 5 := fun j hj => by have g1 := hO.2.1 j hj; exact ⟨g1.1, by omega, dn_5 ho g1.2.2⟩
  have hM2 := chM_fr hM f1 (by decide) (by decide)
  refine lv_aload_n hx hb dX0_chanceFrom_5 rfl (lv_at hl 0 rfl) ?_
  refine ag_CS_X0_69_this X w.1 dX0_chanceFrom_6 ?_
  refine tp_i (show z_2.1 0 = (nI na) from e0) ?_
  refine n_if_ne (tgt := 15) hx hb dX0_chanceFrom_9 (by decide) (by omega) (fun c_9_1 => ?_) (fun c_9_1 => ?_)
  · skip
    refine lv_aload_n hx hb dX0_chanceFrom_15 rfl (lv_at hl 1 rfl) ?_
    refine lv_iconst (v := (nI 0)) hx hb dX0_chanceFrom_16 (by decide) ?_
    refine gc_p (C := RX5) (ci := 4) (rest := []) X hml hl.1 (c5_isUp l G b zo 0 S hz ho (by omega)) ok5_isUp wm_X0_73 ⟨Nat.le_of_ble_eq_true rfl, Nat.le_of_ble_eq_true rfl⟩ ⟨Nat.le_refl _, Nat.le_refl _⟩ w.1 [12, 13, 14, 15, 16, 17, 18, 19] rfl rfl rfl rfl (Nat.le_of_ble_eq_true rfl) dX0_chanceFrom_17 (fun r_17 hr_17 => ?_)
    subst hr_17
    have d_17 := pc_dn01 S 0
    refine n_if_ne (tgt := 25) hx hb dX0_chanceFrom_20 (by decide) (by omega) (fun c_20_2 => ?_) (fun c_20_2 => ?_)
    · skip
      refine lv_aload_n hx hb dX0_chanceFrom_25 rfl (lv_at hl 0 rfl) ?_
      refine lv_iload_n hx hb dX0_chanceFrom_26 rfl (lv_at hl 2 rfl) ?_
      refine gc_v (C := RX0) (ci := 0) (rest := []) (w := (fun q9 : RS => w0 G a q9)) (wr := [((b 0), .inr (4, [.int (zo.1 0), .ref (b 2), .ref (b 3), .int (zo.1 3), .ref (b 5), .ref (b 6), .ref (b 7), .ref (b 8), .int (zo.1 8), .int (zo.1 9), .int (zo.1 10), .ref (b 12), .int (zo.1 12)])), ((b 2), .inl (G.2.1, 40, .inl (zo.2.1 1))), ((b 3), .inl (G.2.1, 40, .inl (zo.2.1 2))), ((b 5), .inl (G.2.1, 5, .inl (zo.2.1 4))), ((b 6), .inl (G.2.1, 5, .inl (zo.2.1 5))), ((b 7), .inl (G.2.1, 5, .inl (zo.2.1 6))), ((b 8), .inl (G.2.1, 5, .inl (zo.2.1 7))), ((b 12), .inl (G.2.1, 5, .inl (zo.2.1 11)))]) (wn := (fun u9 => w0 G a (u9) ++ w5 G b zo)) X hml hl.1 (c0_tellWaits l G a z_2 ma9 na ro cf e0 e1 (fun j hj => ⟨⟨(hro j hj).1, by have g1 := hro j hj; omega⟩, (congrFun (f1.2.1 2 (by decide)) _).trans (hcf _ (hro j hj).1 (hro j hj).2.1)⟩) hn4 (by omega) hcb (fun j hj => by have g1 := hO.2.2.1 j (j + 1) (by omega) hj; omega) hm) ok0_tellWaits wm_X0_77 ⟨Nat.le_of_ble_eq_true rfl, Nat.le_of_ble_eq_true rfl⟩ ⟨Nat.le_refl _, Nat.le_refl _⟩ w [0, 1, 2, 3, 4, 5, 6, 7, 8, 9, 10, 11] [12, 13, 14, 15, 16, 17, 18, 19] [8, 9, 10, 11, 12, 13, 14, 15, 16, 17, 18, 19, 0, 1, 2, 3, 4, 5, 6, 7] rfl (by decide) rfl (by decide) (by decide) (fun _ => rfl) (by decide) rfl rfl rfl (Nat.le_of_ble_eq_true rfl) dX0_chanceFrom_27 (fun u_27 H locs hr_27 w => ?_)
      obtain ⟨z_27, ez_27⟩ : ∃ q9 : RS, q9 = u_27 := ⟨_, rfl⟩
      have w : cW G A s (w0 G a z_27 ++ w5 G b zo) H locs := by rw [ez_27]; exact w
      rw [← ez_27] at hr_27
      obtain ⟨wa, hwa⟩ : ∃ wa : Nat → Nat, wa = cwW (fun j => cf (ro j)) (max ma9 (cf (ro 0) - 1)) := ⟨_, rfl⟩
      rw [← hwa] at hr_27
      have hA : chA z_27 na ro wa := ⟨(hr_27.2.1 0 (by decide)).trans e0, fun j hj => (congrFun (hr_27.2.2.1 1 (by decide)) j).trans (e1 j hj), hr_27.1⟩
      obtain ⟨hK, hw0, hwm, hwb⟩ := cf_K hwa (fun j hj => ⟨(hro j hj).1, by have g1 := hro j hj; omega⟩)
      have hn1 : 1 ≤ na := by omega
      have hM27 := chM_fr hM2 hr_27.2 (by decide) (by decide)
      refine lv_aload_n hx hb dX0_chanceFrom_30 rfl (lv_at hl 0 rfl) ?_
      refine gc_p (C := RX0) (ci := 0) (rest := []) X hml hl.1 (c0_keyOf l G a z_27 na ro wa hA hn4 hK hwm (fun j hj => by have g1 := hwb j hj; omega)) ok0_keyOf wm_X0_81 ⟨Nat.le_of_ble_eq_true rfl, Nat.le_of_ble_eq_true rfl⟩ ⟨Nat.le_refl _, Nat.le_refl _⟩ w.1 [0, 1, 2, 3, 4, 5, 6, 7, 8, 9, 10, 11] rfl rfl rfl rfl (Nat.le_of_ble_eq_true rfl) dX0_chanceFrom_31 (fun r_31 hr_31 => ?_)
      subst hr_31
      have k8 := oK_b4 (ro := ro) (wa := wa) (i := na) hn4 hK
      refine lv_istore_n (lv' := [(3, .int (nI (oK ro wa na))), (0, .ref (a 0)), (1, .ref (b 0)), (2, .int (nI ma9))]) hx hb dX0_chanceFrom_34 rfl hl (by decide) rfl (fun ls hl => ?_)
      refine lv_iload_n hx hb dX0_chanceFrom_35 rfl (lv_at hl 0 rfl) ?_
      refine lv_iload_n hx hb dX0_chanceFrom_36 rfl (lv_at hl 0 rfl) ?_
      refine lv_bipush (v := (nI 7)) hx hb dX0_chanceFrom_37 (by decide) ?_
      refine lv_ishr hx hb dX0_chanceFrom_39 ?_
      refine lv_ixor hx hb dX0_chanceFrom_40 ?_
      refine lv_iload_n hx hb dX0_chanceFrom_41 rfl (lv_at hl 0 rfl) ?_
      refine lv_bipush (v := (nI 14)) hx hb dX0_chanceFrom_42 (by decide) ?_
      refine lv_ishr hx hb dX0_chanceFrom_44 ?_
      refine lv_ixor hx hb dX0_chanceFrom_45 ?_
      refine lv_iload_n hx hb dX0_chanceFrom_46 rfl (lv_at hl 0 rfl) ?_
      refine lv_bipush (v := (nI 21)) hx hb dX0_chanceFrom_47 (by decide) ?_
      refine lv_ishr hx hb dX0_chanceFrom_49 ?_
      refine lv_ixor hx hb dX0_chanceFrom_50 ?_
      refine lv_bipush (v := (nI 127)) hx hb dX0_chanceFrom_51 (by decide) ?_
      refine lv_iand hx hb dX0_chanceFrom_53 ?_
      obtain ⟨p9, hp9, ep9⟩ := pl_ex ((nI (oK ro wa na)) ^^^ (nI (oK ro wa na)) >>> ((nI 7) &&& 31) ^^^ (nI (oK ro wa na)) >>> ((nI 14) &&& 31) ^^^ (nI (oK ro wa na)) >>> ((nI 21) &&& 31))
      refine tp_i ep9 ?_
      refine lv_istore (lv' := [(4, .int (nI p9)), (3, .int (nI (oK ro wa na))), (0, .ref (a 0)), (1, .ref (b 0)), (2, .int (nI ma9))]) hx hb dX0_chanceFrom_54 hl (by decide) rfl (fun ls hl => ?_)
      refine lv_aload_n hx hb dX0_chanceFrom_56 rfl (lv_at hl 2 rfl) ?_
      refine ag_CS_X0_39_this X w.1 dX0_chanceFrom_57 ?_
      refine lv_iload hx hb dX0_chanceFrom_60 (lv_at hl 0 rfl) ?_
      refine an_CS_this_10 X w.1 (by omega) dX0_chanceFrom_62 ?_
      refine lv_iload_n hx hb dX0_chanceFrom_63 rfl (lv_at hl 1 rfl) ?_
      refine lv_icmp_eq (tgt := 87) hx hb dX0_chanceFrom_64 (by decide) (fun c_64_3 => ?_) (fun c_64_3 => ?_)
      · skip
        refine lv_aload_n hx hb dX0_chanceFrom_87 rfl (lv_at hl 2 rfl) ?_
        refine ag_CS_X0_42_this X w.1 dX0_chanceFrom_88 ?_
        refine lv_iload hx hb dX0_chanceFrom_91 (lv_at hl 0 rfl) ?_
        refine an_CS_this_11 X w.1 (by omega) dX0_chanceFrom_93 ?_
        exact ce_i (w := (fun q9 : RS => w0 G a q9 ++ w5 G b zo)) (z := z_27) X hr hk w (⟨fun S9 he hc h3 => (cf_M hM27 hp9 (by omega) hO.1 c_64_3).trans (congrArg nI (cf_V ho hO hn1 hwa hK hw0 hwm he hc h3)), hM27⟩) dX0_chanceFrom_94
      · skip
        refine lv_aload_n hx hb dX0_chanceFrom_67 rfl (lv_at hl 2 rfl) ?_
        refine ag_CS_X0_39_this X w.1 dX0_chanceFrom_68 ?_
        refine lv_iload hx hb dX0_chanceFrom_71 (lv_at hl 0 rfl) ?_
        refine lv_iload_n hx hb dX0_chanceFrom_73 rfl (lv_at hl 1 rfl) ?_
        refine au_CS_this_10 X w (by omega) dX0_chanceFrom_74 (fun z_74 H locs ez_74 w => ?_)
        refine lv_aload_n hx hb dX0_chanceFrom_75 rfl (lv_at hl 2 rfl) ?_
        refine ag_CS_X0_42_this X w.1 dX0_chanceFrom_76 ?_
        refine lv_iload hx hb dX0_chanceFrom_79 (lv_at hl 0 rfl) ?_
        refine lv_aload_n hx hb dX0_chanceFrom_81 rfl (lv_at hl 2 rfl) ?_
        refine lv_aload_n hx hb dX0_chanceFrom_82 rfl (lv_at hl 3 rfl) ?_
        refine gc_i (C := RX0) (ci := 0) (rest := [.int (nI p9), .ref (a 12)]) (w := (fun q9 : RS => w0 G a q9 ++ w5 G b zo)) (wr := []) (wn := (fun q9 : RS => w0 G a q9 ++ w5 G b zo)) X hml hl.1 (c0_foldBack l G a b zo z_74 S hz ho na (dO (oK ro wa na) na) (dW (oK ro wa na) na) (by rw [ez_74]; exact cf_A hA hK hw0 hwm _) hn4 hn1 (fun j hj => by rw [dO_ok hK hj]; exact hro j hj) h05 h1 rfl (fun j _ => dW_le j) (fun j hj => by rw [dW_ok hK hw0 hwm j hj]; have g1 := hwb j hj; omega)) ok0_foldBack wm_X0_85 ⟨Nat.le_of_ble_eq_true rfl, Nat.le_of_ble_eq_true rfl⟩ ⟨Nat.le_refl _, Nat.le_refl _⟩ w [0, 1, 2, 3, 4, 5, 6, 7, 8, 9, 10, 11, 12, 13, 14, 15, 16, 17, 18, 19] [] [0, 1, 2, 3, 4, 5, 6, 7, 8, 9, 10, 11, 12, 13, 14, 15, 16, 17, 18, 19] rfl (by decide) rfl (by decide) (by decide) (fun _ => rfl) (by decide) rfl rfl rfl (Nat.le_of_ble_eq_true rfl) dX0_chanceFrom_83 (fun r_83 z_83 H locs hr_83 w => ?_)
        obtain ⟨hr_83, f83⟩ := hr_83
        subst hr_83
        refine tp_i (show nI (cvV S (dO (oK ro wa na) na) na (dW (oK ro wa na) na)) = nI (cvK S na (oK ro wa na)) from rfl) ?_
        refine au_CS_this_11 X w (by omega) dX0_chanceFrom_86 (fun z_86 H locs ez_86 w => ?_)
        refine lv_aload_n hx hb dX0_chanceFrom_87 rfl (lv_at hl 2 rfl) ?_
        refine ag_CS_X0_42_this X w.1 dX0_chanceFrom_88 ?_
        refine lv_iload hx hb dX0_chanceFrom_91 (lv_at hl 0 rfl) ?_
        refine an_CS_this_11 X w.1 (by omega) dX0_chanceFrom_93 ?_
        exact ce_i (w := (fun q9 : RS => w0 G a q9 ++ w5 G b zo)) (z := z_86) X hr hk w (⟨fun S9 he hc h3 => by rw [← cf_V ho hO hn1 hwa hK hw0 hwm he hc h3, ez_86]; exact pk_us, chM_put (p9 := p9) (K9 := (oK ro wa na)) hM27 (by omega) (by rw [ez_86]; show z_83.2.1 10 = _; rw [f83.2.1 10 (by decide), ez_74]; rfl) (by rw [ez_86, ← hO.1]; show upd (z_83.2.1 11) p9 _ = _; rw [f83.2.1 11 (by decide), ez_74]; rfl)⟩) dX0_chanceFrom_94
    · skip
      exact absurd hd0 (by omega)
  · skip
    refine lv_ldc hx hb hown (hts _ wk_X0_72) dX0_chanceFrom_12 ?_
    refine tp_i (show (1000000 : Int32) = (nI 1000000) from by decide) ?_
    exact ce_i (w := (fun q9 : RS => w0 G a q9 ++ w5 G b zo)) (z := z_2) X hr hk w (⟨fun S9 he hc h3 => congrArg nI (c_0 he hc (cf_0 (by omega) hO)).symm, hM2⟩) dX0_chanceFrom_14
