section Lm_c7_film
variable {p : Program} {l : Launch} {e : Env} {R : Room} {s : State} {m : MethodId} {args : Array Value} {below : List Frame} {meth : Method} {c : Code} {H : Heap} {locs : List Loc} {cells slots : Nat} {Q : State → Prop}
variable {cc : ByteArray} {pc : Nat} {ls : Array Slot} {rest : List Value} {G : CG} {A : Nat → Prop}
theorem ag_XFH_X7_45_this {a : Nat → Nat} {ad : Nat → Nat → Nat} {zt : RS} {tq9 : Nat} {z : RS × RS × RS × RS × RS} (X : cX RX7 G A p c cc s args m) (w : va_P G.1 vwCl (wO G a ad zt ++ w5 G (ad 0) z.1 ++ w6 G (ad (10 + tq9)) z.2.1 ++ wFo G ad z.2.2.1 ++ w5 G (ad 8) z.2.2.2.1 ++ w0 G (ad 9) z.2.2.2.2) H) (hdg : decode cc pc = .ok (.getfield 45, 3)) (kk : W p l e R s m args below meth c H locs cells slots Q (F0 m (pc + 3) ls (.ref (a 8) :: rest))) : W p l e R s m args below meth c H locs cells slots Q (F0 m pc ls (.ref (a 0) :: rest)) :=
  va_get (D := G.1) (ci := 6) (v := .ref (a 8)) (C := RX7) (T := TX7) (N := 8) X.1 X.2.1 X.2.2.1 gX7 X.2.2.2.1 X.2.2.2.2.1.1 w 0 rfl rfl 7 (by decide) (X.2.2.1 _ wf_X7_45) (fun _ h9 => h9) rfl hdg kk
theorem aq_XFH {own : String} {a : Nat → Nat} {ad : Nat → Nat → Nat} {zt : RS} {tq9 : Nat} {z : RS × RS × RS × RS × RS} {j : Nat} (X : cX own G A p c cc s args m) (w : va_P G.1 vwCl (wO G a ad zt ++ w5 G (ad 0) z.1 ++ w6 G (ad (10 + tq9)) z.2.1 ++ wFo G ad z.2.2.1 ++ w5 G (ad 8) z.2.2.2.1 ++ w0 G (ad 9) z.2.2.2.2) H) (hj : j < 4) (hdg : decode cc pc = .ok (.aaload, 1)) (kk : W p l e R s m args below meth c H locs cells slots Q (F0 m (pc + 1) ls (.ref (ad (10 + j) 0) :: rest))) : W p l e R s m args below meth c H locs cells slots Q (F0 m pc ls (.int (nI j) :: .ref (a 8) :: rest)) :=
  va_aldq X.1 X.2.1 X.2.2.2.2.1.1 w 1 2 rfl rfl (vp_in_nI hj (by decide)) hdg (by rw [nI_clamp (by omega)]; exact kk)
theorem ag_XFH_X7_39_this {a : Nat → Nat} {ad : Nat → Nat → Nat} {zt : RS} {tq9 : Nat} {z : RS × RS × RS × RS × RS} (X : cX RX7 G A p c cc s args m) (w : va_P G.1 vwCl (wO G a ad zt ++ w5 G (ad 0) z.1 ++ w6 G (ad (10 + tq9)) z.2.1 ++ wFo G ad z.2.2.1 ++ w5 G (ad 8) z.2.2.2.1 ++ w0 G (ad 9) z.2.2.2.2) H) (hdg : decode cc pc = .ok (.getfield 39, 3)) (kk : W p l e R s m args below meth c H locs cells slots Q (F0 m (pc + 3) ls (.ref ((ad 6) 0) :: rest))) : W p l e R s m args below meth c H locs cells slots Q (F0 m pc ls (.ref (a 0) :: rest)) :=
  va_get (D := G.1) (ci := 6) (v := .ref ((ad 6) 0)) (C := RX7) (T := TX7) (N := 8) X.1 X.2.1 X.2.2.1 gX7 X.2.2.2.1 X.2.2.2.2.1.1 w 0 rfl rfl 6 (by decide) (X.2.2.1 _ wf_X7_39) (fun _ h9 => h9) rfl hdg kk
theorem ag_XFH_X7_10_this {a : Nat → Nat} {ad : Nat → Nat → Nat} {zt : RS} {tq9 : Nat} {z : RS × RS × RS × RS × RS} (X : cX RX7 G A p c cc s args m) (w : va_P G.1 vwCl (wO G a ad zt ++ w5 G (ad 0) z.1 ++ w6 G (ad (10 + tq9)) z.2.1 ++ wFo G ad z.2.2.1 ++ w5 G (ad 8) z.2.2.2.1 ++ w0 G (ad 9) z.2.2.2.2) H) (hdg : decode cc pc = .ok (.getfield 10, 3)) (kk : W p l e R s m args below meth c H locs cells slots Q (F0 m (pc + 3) ls (.ref ((ad 0) 0) :: rest))) : W p l e R s m args below meth c H locs cells slots Q (F0 m pc ls (.ref (a 0) :: rest)) :=
  va_get (D := G.1) (ci := 6) (v := .ref ((ad 0) 0)) (C := RX7) (T := TX7) (N := 8) X.1 X.2.1 X.2.2.1 gX7 X.2.2.2.1 X.2.2.2.2.1.1 w 0 rfl rfl 0 (by decide) (X.2.2.1 _ wf_X7_10) (fun _ h9 => h9) rfl hdg kk
end Lm_c7_film
theorem ok7_film : cOk RX7 yX7_film cX7_film 8 (some .int) 4 := ⟨wc_X7_film, wi_X7_film, ws_X7_film, wn_X7, rfl, by decide, by decide, by decide +kernel⟩
set_option maxHeartbeats 4000000 in
set_option maxRecDepth 100000 in
theorem c7_film (l : Launch) (G : CG) (a : Nat → Nat) (ad : Nat → Nat → Nat) (zt : RS) (tq9 : Nat) (z : RS × RS × RS × RS × RS) (xn9 : Int32) (xt9 : Int32) (xl9 : Int32) (xi9 : Int32) (S : Sc) (hT : cSc z.1 S) (ho : oSc S) (hm : S.1 3 ≤ 400) (L N9 : Nat → Nat) (I9 : Nat → Nat → Int64) (hs : cSt z.2.1 (L tq9) (N9 tq9) (I9 tq9)) (hq4 : tq9 < 4) (hx9 : 0 ≤ xt9.toInt ∧ xt9.toInt ≤ 3 → xt9 = nI tq9) : cMi G l yX7_film cX7_film 8 (some .int) 6 163 [.ref (a 0), .int xn9, .int xt9, .int xl9, .int xi9] (fun q9 : RS × RS × RS × RS × RS => wO G a ad zt ++ w5 G (ad 0) q9.1 ++ w6 G (ad (10 + tq9)) q9.2.1 ++ wFo G ad q9.2.2.1 ++ w5 G (ad 8) q9.2.2.2.1 ++ w0 G (ad 9) q9.2.2.2.2) z (fun r z9 => r = an_film S L N9 xn9 xt9 xl9 xi9 ∧ cSt z9.2.1 (L tq9) (N9 tq9) (ni_film S L N9 I9 xn9 xt9 xl9 xi9 tq9) ∧ z9.1 = z.1) := by
  refine cMi_in (by decide) rfl (Nat.le_of_ble_eq_true rfl) ?_
  intro p e s m args below meth c A ls X hml hr hk hl w
  have hx := X.1
  have hb := X.2.1
  have hts := X.2.2.1
  have hown := X.2.2.2.1
  have hl : lv_has ls 8 [(0, .ref (a 0)), (1, .int xn9), (2, .int xt9), (3, .int xl9), (4, .int xi9)] := hl
  obtain ⟨o1, o2, o3, o4, o5, o6, oso, oki, osr, opa, ohu, oco⟩ := id ho
  have s4 := hs.2.2.2.1
  refine lv_iload_n hx hb dX7_film_0 rfl (lv_at hl 1 rfl) ?_
  refine lv_iconst (v := (nI 1)) hx hb dX7_film_1 (by decide) ?_
  refine lv_bipush (v := (nI 24)) hx hb dX7_film_2 (by decide) ?_
  refine gc_s (C := RX7) (rest := []) ⟨X.1, X.2.1, X.2.2.1, X.2.2.2.1⟩ hml hl.1 (c7_within l xn9 (nI 1) (nI 24)) ok7_within wm_X7_50 ⟨Nat.le_of_ble_eq_true rfl, Nat.le_of_ble_eq_true rfl⟩ ⟨Nat.le_refl _, Nat.le_refl _⟩ rfl (Nat.le_of_ble_eq_true rfl) dX7_film_4 (fun r_4 hr_4 => ?_) rfl
  subst hr_4
  refine tp_i (congrArg nI (w3_I rfl (by decide) (by decide) : _ = pc_inI xn9.toInt ((1 : Int)) ((24 : Int)))) ?_
  have d_4 := pc_inI_ok xn9.toInt ((1 : Int)) ((24 : Int))
  refine n_if_eq (tgt := 24) hx hb dX7_film_7 (by decide) (by omega) (fun c_7_1 => ?_) (fun c_7_1 => ?_)
  · skip
    refine lv_iconst (v := (iZ (-1))) hx hb dX7_film_24 (by decide) ?_
    exact ce_i (w := (fun q9 : RS × RS × RS × RS × RS => wO G a ad zt ++ w5 G (ad 0) q9.1 ++ w6 G (ad (10 + tq9)) q9.2.1 ++ wFo G ad q9.2.2.1 ++ w5 G (ad 8) q9.2.2.2.1 ++ w0 G (ad 9) q9.2.2.2.2)) (z := z) X hr hk w (⟨by unfold an_film; rw [if_neg (by omega)], by unfold ni_film; rw [if_neg (by omega)]; exact hs, rfl⟩) dX7_film_25
  · skip
    refine lv_iload_n hx hb dX7_film_10 rfl (lv_at hl 2 rfl) ?_
    refine gc_s (C := RX7) (rest := []) ⟨X.1, X.2.1, X.2.2.1, X.2.2.2.1⟩ hml hl.1 (c7_isSheet l xt9) ok7_isSheet wm_X7_216 ⟨Nat.le_of_ble_eq_true rfl, Nat.le_of_ble_eq_true rfl⟩ ⟨Nat.le_refl _, Nat.le_refl _⟩ rfl (Nat.le_of_ble_eq_true rfl) dX7_film_11 (fun r_11 hr_11 => ?_) rfl
    subst hr_11
    have d_11 := pc_inI_ok xt9.toInt 0 3
    refine n_if_eq (tgt := 24) hx hb dX7_film_14 (by decide) (by omega) (fun c_14_2 => ?_) (fun c_14_2 => ?_)
    · skip
      refine lv_iconst (v := (iZ (-1))) hx hb dX7_film_24 (by decide) ?_
      exact ce_i (w := (fun q9 : RS × RS × RS × RS × RS => wO G a ad zt ++ w5 G (ad 0) q9.1 ++ w6 G (ad (10 + tq9)) q9.2.1 ++ wFo G ad q9.2.2.1 ++ w5 G (ad 8) q9.2.2.2.1 ++ w0 G (ad 9) q9.2.2.2.2)) (z := z) X hr hk w (⟨by unfold an_film; rw [if_neg (by omega)], by unfold ni_film; rw [if_neg (by omega)]; exact hs, rfl⟩) dX7_film_25
    · skip
      refine lv_iload_n hx hb dX7_film_17 rfl (lv_at hl 3 rfl) ?_
      refine gc_s (C := RX7) (rest := []) ⟨X.1, X.2.1, X.2.2.1, X.2.2.2.1⟩ hml hl.1 (c7_isLane l xl9) ok7_isLane wm_X7_219 ⟨Nat.le_of_ble_eq_true rfl, Nat.le_of_ble_eq_true rfl⟩ ⟨Nat.le_refl _, Nat.le_refl _⟩ rfl (Nat.le_of_ble_eq_true rfl) dX7_film_18 (fun r_18 hr_18 => ?_) rfl
      subst hr_18
      have d_18 := pc_inI_ok xl9.toInt 0 3
      refine n_if_ne (tgt := 26) hx hb dX7_film_21 (by decide) (by omega) (fun c_21_3 => ?_) (fun c_21_3 => ?_)
      · skip
        refine lv_aload_n hx hb dX7_film_26 rfl (lv_at hl 0 rfl) ?_
        refine gc_p (C := RX7) (ci := 6) (rest := []) X hml hl.1 (c7_mayTurn l G a ad zt z.1 S hT ho) ok7_mayTurn wm_X7_163 ⟨Nat.le_of_ble_eq_true rfl, Nat.le_of_ble_eq_true rfl⟩ ⟨Nat.le_refl _, Nat.le_refl _⟩ w.1 [0, 1, 2, 3, 4, 5, 6, 7, 8, 9] rfl rfl rfl rfl (Nat.le_of_ble_eq_true rfl) dX7_film_27 (fun r_27 hr_27 => ?_)
        subst hr_27
        have d_27 := may_ok S
        refine n_if_ne (tgt := 36) hx hb dX7_film_30 (by decide) (by omega) (fun c_30_4 => ?_) (fun c_30_4 => ?_)
        · skip
          have hov := ov_0 (show sp_over S = 0 by omega)
          have hnt : S.1 4 = 0 := by omega
          have et_tq9 := hx9 (by omega)
          have eu_tq9 : xt9.toInt = (tq9 : Int) := by rw [et_tq9]; exact nI_toInt (by omega)
          have hl : lv_has ls 8 [(0, .ref (a 0)), (1, .int xn9), (2, .int (nI tq9)), (3, .int xl9), (4, .int xi9)] := by rw [← et_tq9]; exact hl
          obtain ⟨kl, hk_kl, ek_kl⟩ := iv_n (x := xl9) (by omega)
          have hl : lv_has ls 8 [(0, .ref (a 0)), (1, .int xn9), (2, .int (nI tq9)), (3, .int (nI kl)), (4, .int xi9)] := by rw [← ek_kl]; exact hl
          obtain ⟨kn, hk_kn, ek_kn⟩ := iv_n (x := xn9) (by omega)
          have hl : lv_has ls 8 [(0, .ref (a 0)), (1, .int (nI kn)), (2, .int (nI tq9)), (3, .int (nI kl)), (4, .int xi9)] := by rw [← ek_kn]; exact hl
          refine lv_aload_n hx hb dX7_film_36 rfl (lv_at hl 0 rfl) ?_
          refine ag_XFH_X7_45_this X w.1 dX7_film_37 ?_
          refine lv_iload_n hx hb dX7_film_40 rfl (lv_at hl 2 rfl) ?_
          refine aq_XFH X w.1 (by omega) dX7_film_41 ?_
          refine lv_astore (lv' := [(5, .ref ((ad (10 + tq9)) 0)), (0, .ref (a 0)), (1, .int (nI kn)), (2, .int (nI tq9)), (3, .int (nI kl)), (4, .int xi9)]) hx hb dX7_film_42 hl (by decide) rfl (fun ls hl => ?_)
          refine lv_aload hx hb dX7_film_44 (lv_at hl 0 rfl) ?_
          refine lv_iload_n hx hb dX7_film_46 rfl (lv_at hl 4 rfl) ?_
          refine lv_iload hx hb dX7_film_47 (lv_at hl 5 rfl) ?_
          refine lv_iload_n hx hb dX7_film_49 rfl (lv_at hl 2 rfl) ?_
          refine gc_p (C := RX6) (ci := 5) (rest := []) X hml hl.1 (c6_refusal l G (ad (10 + tq9)) z.2.1 kl xi9 kn L N9 I9 tq9 hs (by omega) (by omega)) ok6_refusal wm_X7_222 ⟨Nat.le_of_ble_eq_true rfl, Nat.le_of_ble_eq_true rfl⟩ ⟨Nat.le_refl _, Nat.le_refl _⟩ w.1 [10, 11] rfl rfl rfl rfl (Nat.le_of_ble_eq_true rfl) dX7_film_50 (fun r_50 hr_50 => ?_)
          subst hr_50
          have d_50 := pw_why_ok L N9 tq9 kl xi9.toInt kn
          refine lv_istore (lv' := [(6, .int (iZ (pw_why L N9 tq9 kl xi9.toInt kn))), (5, .ref ((ad (10 + tq9)) 0)), (0, .ref (a 0)), (1, .int (nI kn)), (2, .int (nI tq9)), (3, .int (nI kl)), (4, .int xi9)]) hx hb dX7_film_53 hl (by decide) rfl (fun ls hl => ?_)
          refine lv_iload hx hb dX7_film_55 (lv_at hl 0 rfl) ?_
          refine z_if_ge (tgt := 63) hx hb dX7_film_57 (by decide) (by omega) (by omega) (fun c_57_5 => ?_) (fun c_57_5 => ?_)
          · skip
            obtain ⟨ia9, hk_ia9, ek_ia9⟩ := iv_n (x := xi9) (by omega)
            have hl : lv_has ls 8 [(6, .int (iZ (pw_why L N9 tq9 kl xi9.toInt kn))), (5, .ref ((ad (10 + tq9)) 0)), (0, .ref (a 0)), (1, .int (nI kn)), (2, .int (nI tq9)), (3, .int (nI kl)), (4, .int (nI ia9))] := by rw [← ek_ia9]; exact hl
            refine lv_aload_n hx hb dX7_film_63 rfl (lv_at hl 2 rfl) ?_
            refine ag_XFH_X7_39_this X w.1 dX7_film_64 ?_
            refine lv_aload_n hx hb dX7_film_67 rfl (lv_at hl 2 rfl) ?_
            refine ag_XFH_X7_10_this X w.1 dX7_film_68 ?_
            refine gc_v (C := RX2) (ci := 2) (rest := []) (w := (fun q9 : RS × RS × RS => wF G (ad 6) (ad 8) (ad 9) q9 ++ w5 G (ad 0) z.1)) (wr := [((a 0), .inr (6, [.ref ((ad 0) 0), .ref (ad 1 0), .ref (ad 2 0), .ref (ad 3 0), .int (zt.1 4), .ref (ad 5 0), .ref ((ad 6) 0), .ref (a 8)])), ((a 8), .inl (G.2.2.2, 4, .inr (.inr (.inr (.inr (fun j => some (ad (10 + j) 0))))))), (((ad (10 + tq9)) 0), .inr (5, [.int (z.2.1.1 0), .int (z.2.1.1 1), .ref ((ad (10 + tq9)) 3)])), (((ad (10 + tq9)) 3), .inl (G.2.2.1, 24, .inr (.inl (z.2.1.2.2 2))))]) (wn := (fun u9 => wO G a ad zt ++ w5 G (ad 0) (((((((z.1, z.2.1, u9.1, z.2.2.2.1, z.2.2.2.2)).1, ((z.1, z.2.1, u9.1, z.2.2.2.1, z.2.2.2.2)).2.1, ((z.1, z.2.1, u9.1, z.2.2.2.1, z.2.2.2.2)).2.2.1, u9.2.1, ((z.1, z.2.1, u9.1, z.2.2.2.1, z.2.2.2.2)).2.2.2.2)).1, ((((z.1, z.2.1, u9.1, z.2.2.2.1, z.2.2.2.2)).1, ((z.1, z.2.1, u9.1, z.2.2.2.1, z.2.2.2.2)).2.1, ((z.1, z.2.1, u9.1, z.2.2.2.1, z.2.2.2.2)).2.2.1, u9.2.1, ((z.1, z.2.1, u9.1, z.2.2.2.1, z.2.2.2.2)).2.2.2.2)).2.1, ((((z.1, z.2.1, u9.1, z.2.2.2.1, z.2.2.2.2)).1, ((z.1, z.2.1, u9.1, z.2.2.2.1, z.2.2.2.2)).2.1, ((z.1, z.2.1, u9.1, z.2.2.2.1, z.2.2.2.2)).2.2.1, u9.2.1, ((z.1, z.2.1, u9.1, z.2.2.2.1, z.2.2.2.2)).2.2.2.2)).2.2.1, ((((z.1, z.2.1, u9.1, z.2.2.2.1, z.2.2.2.2)).1, ((z.1, z.2.1, u9.1, z.2.2.2.1, z.2.2.2.2)).2.1, ((z.1, z.2.1, u9.1, z.2.2.2.1, z.2.2.2.2)).2.2.1, u9.2.1, ((z.1, z.2.1, u9.1, z.2.2.2.1, z.2.2.2.2)).2.2.2.2)).2.2.2.1, u9.2.2))).1 ++ w6 G (ad (10 + tq9)) (((((((z.1, z.2.1, u9.1, z.2.2.2.1, z.2.2.2.2)).1, ((z.1, z.2.1, u9.1, z.2.2.2.1, z.2.2.2.2)).2.1, ((z.1, z.2.1, u9.1, z.2.2.2.1, z.2.2.2.2)).2.2.1, u9.2.1, ((z.1, z.2.1, u9.1, z.2.2.2.1, z.2.2.2.2)).2.2.2.2)).1, ((((z.1, z.2.1, u9.1, z.2.2.2.1, z.2.2.2.2)).1, ((z.1, z.2.1, u9.1, z.2.2.2.1, z.2.2.2.2)).2.1, ((z.1, z.2.1, u9.1, z.2.2.2.1, z.2.2.2.2)).2.2.1, u9.2.1, ((z.1, z.2.1, u9.1, z.2.2.2.1, z.2.2.2.2)).2.2.2.2)).2.1, ((((z.1, z.2.1, u9.1, z.2.2.2.1, z.2.2.2.2)).1, ((z.1, z.2.1, u9.1, z.2.2.2.1, z.2.2.2.2)).2.1, ((z.1, z.2.1, u9.1, z.2.2.2.1, z.2.2.2.2)).2.2.1, u9.2.1, ((z.1, z.2.1, u9.1, z.2.2.2.1, z.2.2.2.2)).2.2.2.2)).2.2.1, ((((z.1, z.2.1, u9.1, z.2.2.2.1, z.2.2.2.2)).1, ((z.1, z.2.1, u9.1, z.2.2.2.1, z.2.2.2.2)).2.1, ((z.1, z.2.1, u9.1, z.2.2.2.1, z.2.2.2.2)).2.2.1, u9.2.1, ((z.1, z.2.1, u9.1, z.2.2.2.1, z.2.2.2.2)).2.2.2.2)).2.2.2.1, u9.2.2))).2.1 ++ wFo G ad (((((((z.1, z.2.1, u9.1, z.2.2.2.1, z.2.2.2.2)).1, ((z.1, z.2.1, u9.1, z.2.2.2.1, z.2.2.2.2)).2.1, ((z.1, z.2.1, u9.1, z.2.2.2.1, z.2.2.2.2)).2.2.1, u9.2.1, ((z.1, z.2.1, u9.1, z.2.2.2.1, z.2.2.2.2)).2.2.2.2)).1, ((((z.1, z.2.1, u9.1, z.2.2.2.1, z.2.2.2.2)).1, ((z.1, z.2.1, u9.1, z.2.2.2.1, z.2.2.2.2)).2.1, ((z.1, z.2.1, u9.1, z.2.2.2.1, z.2.2.2.2)).2.2.1, u9.2.1, ((z.1, z.2.1, u9.1, z.2.2.2.1, z.2.2.2.2)).2.2.2.2)).2.1, ((((z.1, z.2.1, u9.1, z.2.2.2.1, z.2.2.2.2)).1, ((z.1, z.2.1, u9.1, z.2.2.2.1, z.2.2.2.2)).2.1, ((z.1, z.2.1, u9.1, z.2.2.2.1, z.2.2.2.2)).2.2.1, u9.2.1, ((z.1, z.2.1, u9.1, z.2.2.2.1, z.2.2.2.2)).2.2.2.2)).2.2.1, ((((z.1, z.2.1, u9.1, z.2.2.2.1, z.2.2.2.2)).1, ((z.1, z.2.1, u9.1, z.2.2.2.1, z.2.2.2.2)).2.1, ((z.1, z.2.1, u9.1, z.2.2.2.1, z.2.2.2.2)).2.2.1, u9.2.1, ((z.1, z.2.1, u9.1, z.2.2.2.1, z.2.2.2.2)).2.2.2.2)).2.2.2.1, u9.2.2))).2.2.1 ++ w5 G (ad 8) (((((((z.1, z.2.1, u9.1, z.2.2.2.1, z.2.2.2.2)).1, ((z.1, z.2.1, u9.1, z.2.2.2.1, z.2.2.2.2)).2.1, ((z.1, z.2.1, u9.1, z.2.2.2.1, z.2.2.2.2)).2.2.1, u9.2.1, ((z.1, z.2.1, u9.1, z.2.2.2.1, z.2.2.2.2)).2.2.2.2)).1, ((((z.1, z.2.1, u9.1, z.2.2.2.1, z.2.2.2.2)).1, ((z.1, z.2.1, u9.1, z.2.2.2.1, z.2.2.2.2)).2.1, ((z.1, z.2.1, u9.1, z.2.2.2.1, z.2.2.2.2)).2.2.1, u9.2.1, ((z.1, z.2.1, u9.1, z.2.2.2.1, z.2.2.2.2)).2.2.2.2)).2.1, ((((z.1, z.2.1, u9.1, z.2.2.2.1, z.2.2.2.2)).1, ((z.1, z.2.1, u9.1, z.2.2.2.1, z.2.2.2.2)).2.1, ((z.1, z.2.1, u9.1, z.2.2.2.1, z.2.2.2.2)).2.2.1, u9.2.1, ((z.1, z.2.1, u9.1, z.2.2.2.1, z.2.2.2.2)).2.2.2.2)).2.2.1, ((((z.1, z.2.1, u9.1, z.2.2.2.1, z.2.2.2.2)).1, ((z.1, z.2.1, u9.1, z.2.2.2.1, z.2.2.2.2)).2.1, ((z.1, z.2.1, u9.1, z.2.2.2.1, z.2.2.2.2)).2.2.1, u9.2.1, ((z.1, z.2.1, u9.1, z.2.2.2.1, z.2.2.2.2)).2.2.2.2)).2.2.2.1, u9.2.2))).2.2.2.1 ++ w0 G (ad 9) (((((((z.1, z.2.1, u9.1, z.2.2.2.1, z.2.2.2.2)).1, ((z.1, z.2.1, u9.1, z.2.2.2.1, z.2.2.2.2)).2.1, ((z.1, z.2.1, u9.1, z.2.2.2.1, z.2.2.2.2)).2.2.1, u9.2.1, ((z.1, z.2.1, u9.1, z.2.2.2.1, z.2.2.2.2)).2.2.2.2)).1, ((((z.1, z.2.1, u9.1, z.2.2.2.1, z.2.2.2.2)).1, ((z.1, z.2.1, u9.1, z.2.2.2.1, z.2.2.2.2)).2.1, ((z.1, z.2.1, u9.1, z.2.2.2.1, z.2.2.2.2)).2.2.1, u9.2.1, ((z.1, z.2.1, u9.1, z.2.2.2.1, z.2.2.2.2)).2.2.2.2)).2.1, ((((z.1, z.2.1, u9.1, z.2.2.2.1, z.2.2.2.2)).1, ((z.1, z.2.1, u9.1, z.2.2.2.1, z.2.2.2.2)).2.1, ((z.1, z.2.1, u9.1, z.2.2.2.1, z.2.2.2.2)).2.2.1, u9.2.1, ((z.1, z.2.1, u9.1, z.2.2.2.1, z.2.2.2.2)).2.2.2.2)).2.2.1, ((((z.1, z.2.1, u9.1, z.2.2.2.1, z.2.2.2.2)).1, ((z.1, z.2.1, u9.1, z.2.2.2.1, z.2.2.2.2)).2.1, ((z.1, z.2.1, u9.1, z.2.2.2.1, z.2.2.2.2)).2.2.1, u9.2.1, ((z.1, z.2.1, u9.1, z.2.2.2.1, z.2.2.2.2)).2.2.2.2)).2.2.2.1, u9.2.2))).2.2.2.2)) X hml hl.1 (c2_begin l G (ad 6) (ad 8) (ad 9) (ad 0) z.1 z.2.2) ok2_begin wm_X7_173 ⟨Nat.le_of_ble_eq_true rfl, Nat.le_of_ble_eq_true rfl⟩ ⟨Nat.le_refl _, Nat.le_refl _⟩ w [12, 13, 14, 15, 16, 17, 18, 19, 20, 21, 22, 23, 24, 25, 26, 27, 28, 29, 30, 31, 32, 33, 2, 3, 4, 5, 6, 7, 8, 9] [0, 1, 10, 11] [0, 1, 26, 27, 28, 29, 30, 31, 32, 33, 2, 3, 4, 5, 6, 7, 8, 9, 10, 11, 12, 13, 14, 15, 16, 17, 18, 19, 20, 21, 22, 23, 24, 25] rfl (by decide) rfl (by decide) (by decide) (fun _ => rfl) (by decide) rfl rfl rfl (Nat.le_of_ble_eq_true rfl) dX7_film_71 (fun u_71 H locs hr_71 w => ?_)
            obtain ⟨z_71, ez_71⟩ : ∃ q9 : RS × RS × RS × RS × RS, q9 = (((((z.1, z.2.1, u_71.1, z.2.2.2.1, z.2.2.2.2)).1, ((z.1, z.2.1, u_71.1, z.2.2.2.1, z.2.2.2.2)).2.1, ((z.1, z.2.1, u_71.1, z.2.2.2.1, z.2.2.2.2)).2.2.1, u_71.2.1, ((z.1, z.2.1, u_71.1, z.2.2.2.1, z.2.2.2.2)).2.2.2.2)).1, ((((z.1, z.2.1, u_71.1, z.2.2.2.1, z.2.2.2.2)).1, ((z.1, z.2.1, u_71.1, z.2.2.2.1, z.2.2.2.2)).2.1, ((z.1, z.2.1, u_71.1, z.2.2.2.1, z.2.2.2.2)).2.2.1, u_71.2.1, ((z.1, z.2.1, u_71.1, z.2.2.2.1, z.2.2.2.2)).2.2.2.2)).2.1, ((((z.1, z.2.1, u_71.1, z.2.2.2.1, z.2.2.2.2)).1, ((z.1, z.2.1, u_71.1, z.2.2.2.1, z.2.2.2.2)).2.1, ((z.1, z.2.1, u_71.1, z.2.2.2.1, z.2.2.2.2)).2.2.1, u_71.2.1, ((z.1, z.2.1, u_71.1, z.2.2.2.1, z.2.2.2.2)).2.2.2.2)).2.2.1, ((((z.1, z.2.1, u_71.1, z.2.2.2.1, z.2.2.2.2)).1, ((z.1, z.2.1, u_71.1, z.2.2.2.1, z.2.2.2.2)).2.1, ((z.1, z.2.1, u_71.1, z.2.2.2.1, z.2.2.2.2)).2.2.1, u_71.2.1, ((z.1, z.2.1, u_71.1, z.2.2.2.1, z.2.2.2.2)).2.2.2.2)).2.2.2.1, u_71.2.2) := ⟨_, rfl⟩
            have w : cW G A s (wO G a ad zt ++ w5 G (ad 0) z_71.1 ++ w6 G (ad (10 + tq9)) z_71.2.1 ++ wFo G ad z_71.2.2.1 ++ w5 G (ad 8) z_71.2.2.2.1 ++ w0 G (ad 9) z_71.2.2.2.2) H locs := by rw [ez_71]; exact w
            have eu_71_fo : z_71.2.2.1 = u_71.1 := by rw [ez_71]
            try rw [← eu_71_fo] at hr_71
            have eu_71_tr : z_71.2.2.2.1 = u_71.2.1 := by rw [ez_71]
            try rw [← eu_71_tr] at hr_71
            have eu_71_ch : z_71.2.2.2.2 = u_71.2.2 := by rw [ez_71]
            try rw [← eu_71_ch] at hr_71
            have ek_71_sc : z_71.1 = z.1 := by rw [ez_71]
            have ek_71_sh : z_71.2.1 = z.2.1 := by rw [ez_71]
            have hF_71 : cSc z_71.2.2.2.1 S := cEq_c hr_71.1 o2 o3 hT
            have hM_71 : chM S z_71.2.2.2.2 := chM_0 hr_71.2.1
            refine lv_aload_n hx hb dX7_film_74 rfl (lv_at hl 2 rfl) ?_
            refine ag_XFH_X7_39_this X w.1 dX7_film_75 ?_
            refine lv_iload_n hx hb dX7_film_78 rfl (lv_at hl 3 rfl) ?_
            refine gc_i (C := RX2) (ci := 2) (rest := []) (w := (fun q9 : RS × RS × RS => wF G (ad 6) (ad 8) (ad 9) q9)) (wr := [((a 0), .inr (6, [.ref ((ad 0) 0), .ref (ad 1 0), .ref (ad 2 0), .ref (ad 3 0), .int (zt.1 4), .ref (ad 5 0), .ref ((ad 6) 0), .ref (a 8)])), ((a 8), .inl (G.2.2.2, 4, .inr (.inr (.inr (.inr (fun j => some (ad (10 + j) 0))))))), (((ad 0) 0), .inr (4, [.int (z_71.1.1 0), .ref ((ad 0) 2), .ref ((ad 0) 3), .int (z_71.1.1 3), .ref ((ad 0) 5), .ref ((ad 0) 6), .ref ((ad 0) 7), .ref ((ad 0) 8), .int (z_71.1.1 8), .int (z_71.1.1 9), .int (z_71.1.1 10), .ref ((ad 0) 12), .int (z_71.1.1 12)])), (((ad 0) 2), .inl (G.2.1, 40, .inl (z_71.1.2.1 1))), (((ad 0) 3), .inl (G.2.1, 40, .inl (z_71.1.2.1 2))), (((ad 0) 5), .inl (G.2.1, 5, .inl (z_71.1.2.1 4))), (((ad 0) 6), .inl (G.2.1, 5, .inl (z_71.1.2.1 5))), (((ad 0) 7), .inl (G.2.1, 5, .inl (z_71.1.2.1 6))), (((ad 0) 8), .inl (G.2.1, 5, .inl (z_71.1.2.1 7))), (((ad 0) 12), .inl (G.2.1, 5, .inl (z_71.1.2.1 11))), (((ad (10 + tq9)) 0), .inr (5, [.int (z_71.2.1.1 0), .int (z_71.2.1.1 1), .ref ((ad (10 + tq9)) 3)])), (((ad (10 + tq9)) 3), .inl (G.2.2.1, 24, .inr (.inl (z_71.2.1.2.2 2))))]) (wn := (fun u9 => wO G a ad zt ++ w5 G (ad 0) (((((((z_71.1, z_71.2.1, u9.1, z_71.2.2.2.1, z_71.2.2.2.2)).1, ((z_71.1, z_71.2.1, u9.1, z_71.2.2.2.1, z_71.2.2.2.2)).2.1, ((z_71.1, z_71.2.1, u9.1, z_71.2.2.2.1, z_71.2.2.2.2)).2.2.1, u9.2.1, ((z_71.1, z_71.2.1, u9.1, z_71.2.2.2.1, z_71.2.2.2.2)).2.2.2.2)).1, ((((z_71.1, z_71.2.1, u9.1, z_71.2.2.2.1, z_71.2.2.2.2)).1, ((z_71.1, z_71.2.1, u9.1, z_71.2.2.2.1, z_71.2.2.2.2)).2.1, ((z_71.1, z_71.2.1, u9.1, z_71.2.2.2.1, z_71.2.2.2.2)).2.2.1, u9.2.1, ((z_71.1, z_71.2.1, u9.1, z_71.2.2.2.1, z_71.2.2.2.2)).2.2.2.2)).2.1, ((((z_71.1, z_71.2.1, u9.1, z_71.2.2.2.1, z_71.2.2.2.2)).1, ((z_71.1, z_71.2.1, u9.1, z_71.2.2.2.1, z_71.2.2.2.2)).2.1, ((z_71.1, z_71.2.1, u9.1, z_71.2.2.2.1, z_71.2.2.2.2)).2.2.1, u9.2.1, ((z_71.1, z_71.2.1, u9.1, z_71.2.2.2.1, z_71.2.2.2.2)).2.2.2.2)).2.2.1, ((((z_71.1, z_71.2.1, u9.1, z_71.2.2.2.1, z_71.2.2.2.2)).1, ((z_71.1, z_71.2.1, u9.1, z_71.2.2.2.1, z_71.2.2.2.2)).2.1, ((z_71.1, z_71.2.1, u9.1, z_71.2.2.2.1, z_71.2.2.2.2)).2.2.1, u9.2.1, ((z_71.1, z_71.2.1, u9.1, z_71.2.2.2.1, z_71.2.2.2.2)).2.2.2.2)).2.2.2.1, u9.2.2))).1 ++ w6 G (ad (10 + tq9)) (((((((z_71.1, z_71.2.1, u9.1, z_71.2.2.2.1, z_71.2.2.2.2)).1, ((z_71.1, z_71.2.1, u9.1, z_71.2.2.2.1, z_71.2.2.2.2)).2.1, ((z_71.1, z_71.2.1, u9.1, z_71.2.2.2.1, z_71.2.2.2.2)).2.2.1, u9.2.1, ((z_71.1, z_71.2.1, u9.1, z_71.2.2.2.1, z_71.2.2.2.2)).2.2.2.2)).1, ((((z_71.1, z_71.2.1, u9.1, z_71.2.2.2.1, z_71.2.2.2.2)).1, ((z_71.1, z_71.2.1, u9.1, z_71.2.2.2.1, z_71.2.2.2.2)).2.1, ((z_71.1, z_71.2.1, u9.1, z_71.2.2.2.1, z_71.2.2.2.2)).2.2.1, u9.2.1, ((z_71.1, z_71.2.1, u9.1, z_71.2.2.2.1, z_71.2.2.2.2)).2.2.2.2)).2.1, ((((z_71.1, z_71.2.1, u9.1, z_71.2.2.2.1, z_71.2.2.2.2)).1, ((z_71.1, z_71.2.1, u9.1, z_71.2.2.2.1, z_71.2.2.2.2)).2.1, ((z_71.1, z_71.2.1, u9.1, z_71.2.2.2.1, z_71.2.2.2.2)).2.2.1, u9.2.1, ((z_71.1, z_71.2.1, u9.1, z_71.2.2.2.1, z_71.2.2.2.2)).2.2.2.2)).2.2.1, ((((z_71.1, z_71.2.1, u9.1, z_71.2.2.2.1, z_71.2.2.2.2)).1, ((z_71.1, z_71.2.1, u9.1, z_71.2.2.2.1, z_71.2.2.2.2)).2.1, ((z_71.1, z_71.2.1, u9.1, z_71.2.2.2.1, z_71.2.2.2.2)).2.2.1, u9.2.1, ((z_71.1, z_71.2.1, u9.1, z_71.2.2.2.1, z_71.2.2.2.2)).2.2.2.2)).2.2.2.1, u9.2.2))).2.1 ++ wFo G ad (((((((z_71.1, z_71.2.1, u9.1, z_71.2.2.2.1, z_71.2.2.2.2)).1, ((z_71.1, z_71.2.1, u9.1, z_71.2.2.2.1, z_71.2.2.2.2)).2.1, ((z_71.1, z_71.2.1, u9.1, z_71.2.2.2.1, z_71.2.2.2.2)).2.2.1, u9.2.1, ((z_71.1, z_71.2.1, u9.1, z_71.2.2.2.1, z_71.2.2.2.2)).2.2.2.2)).1, ((((z_71.1, z_71.2.1, u9.1, z_71.2.2.2.1, z_71.2.2.2.2)).1, ((z_71.1, z_71.2.1, u9.1, z_71.2.2.2.1, z_71.2.2.2.2)).2.1, ((z_71.1, z_71.2.1, u9.1, z_71.2.2.2.1, z_71.2.2.2.2)).2.2.1, u9.2.1, ((z_71.1, z_71.2.1, u9.1, z_71.2.2.2.1, z_71.2.2.2.2)).2.2.2.2)).2.1, ((((z_71.1, z_71.2.1, u9.1, z_71.2.2.2.1, z_71.2.2.2.2)).1, ((z_71.1, z_71.2.1, u9.1, z_71.2.2.2.1, z_71.2.2.2.2)).2.1, ((z_71.1, z_71.2.1, u9.1, z_71.2.2.2.1, z_71.2.2.2.2)).2.2.1, u9.2.1, ((z_71.1, z_71.2.1, u9.1, z_71.2.2.2.1, z_71.2.2.2.2)).2.2.2.2)).2.2.1, ((((z_71.1, z_71.2.1, u9.1, z_71.2.2.2.1, z_71.2.2.2.2)).1, ((z_71.1, z_71.2.1, u9.1, z_71.2.2.2.1, z_71.2.2.2.2)).2.1, ((z_71.1, z_71.2.1, u9.1, z_71.2.2.2.1, z_71.2.2.2.2)).2.2.1, u9.2.1, ((z_71.1, z_71.2.1, u9.1, z_71.2.2.2.1, z_71.2.2.2.2)).2.2.2.2)).2.2.2.1, u9.2.2))).2.2.1 ++ w5 G (ad 8) (((((((z_71.1, z_71.2.1, u9.1, z_71.2.2.2.1, z_71.2.2.2.2)).1, ((z_71.1, z_71.2.1, u9.1, z_71.2.2.2.1, z_71.2.2.2.2)).2.1, ((z_71.1, z_71.2.1, u9.1, z_71.2.2.2.1, z_71.2.2.2.2)).2.2.1, u9.2.1, ((z_71.1, z_71.2.1, u9.1, z_71.2.2.2.1, z_71.2.2.2.2)).2.2.2.2)).1, ((((z_71.1, z_71.2.1, u9.1, z_71.2.2.2.1, z_71.2.2.2.2)).1, ((z_71.1, z_71.2.1, u9.1, z_71.2.2.2.1, z_71.2.2.2.2)).2.1, ((z_71.1, z_71.2.1, u9.1, z_71.2.2.2.1, z_71.2.2.2.2)).2.2.1, u9.2.1, ((z_71.1, z_71.2.1, u9.1, z_71.2.2.2.1, z_71.2.2.2.2)).2.2.2.2)).2.1, ((((z_71.1, z_71.2.1, u9.1, z_71.2.2.2.1, z_71.2.2.2.2)).1, ((z_71.1, z_71.2.1, u9.1, z_71.2.2.2.1, z_71.2.2.2.2)).2.1, ((z_71.1, z_71.2.1, u9.1, z_71.2.2.2.1, z_71.2.2.2.2)).2.2.1, u9.2.1, ((z_71.1, z_71.2.1, u9.1, z_71.2.2.2.1, z_71.2.2.2.2)).2.2.2.2)).2.2.1, ((((z_71.1, z_71.2.1, u9.1, z_71.2.2.2.1, z_71.2.2.2.2)).1, ((z_71.1, z_71.2.1, u9.1, z_71.2.2.2.1, z_71.2.2.2.2)).2.1, ((z_71.1, z_71.2.1, u9.1, z_71.2.2.2.1, z_71.2.2.2.2)).2.2.1, u9.2.1, ((z_71.1, z_71.2.1, u9.1, z_71.2.2.2.1, z_71.2.2.2.2)).2.2.2.2)).2.2.2.1, u9.2.2))).2.2.2.1 ++ w0 G (ad 9) (((((((z_71.1, z_71.2.1, u9.1, z_71.2.2.2.1, z_71.2.2.2.2)).1, ((z_71.1, z_71.2.1, u9.1, z_71.2.2.2.1, z_71.2.2.2.2)).2.1, ((z_71.1, z_71.2.1, u9.1, z_71.2.2.2.1, z_71.2.2.2.2)).2.2.1, u9.2.1, ((z_71.1, z_71.2.1, u9.1, z_71.2.2.2.1, z_71.2.2.2.2)).2.2.2.2)).1, ((((z_71.1, z_71.2.1, u9.1, z_71.2.2.2.1, z_71.2.2.2.2)).1, ((z_71.1, z_71.2.1, u9.1, z_71.2.2.2.1, z_71.2.2.2.2)).2.1, ((z_71.1, z_71.2.1, u9.1, z_71.2.2.2.1, z_71.2.2.2.2)).2.2.1, u9.2.1, ((z_71.1, z_71.2.1, u9.1, z_71.2.2.2.1, z_71.2.2.2.2)).2.2.2.2)).2.1, ((((z_71.1, z_71.2.1, u9.1, z_71.2.2.2.1, z_71.2.2.2.2)).1, ((z_71.1, z_71.2.1, u9.1, z_71.2.2.2.1, z_71.2.2.2.2)).2.1, ((z_71.1, z_71.2.1, u9.1, z_71.2.2.2.1, z_71.2.2.2.2)).2.2.1, u9.2.1, ((z_71.1, z_71.2.1, u9.1, z_71.2.2.2.1, z_71.2.2.2.2)).2.2.2.2)).2.2.1, ((((z_71.1, z_71.2.1, u9.1, z_71.2.2.2.1, z_71.2.2.2.2)).1, ((z_71.1, z_71.2.1, u9.1, z_71.2.2.2.1, z_71.2.2.2.2)).2.1, ((z_71.1, z_71.2.1, u9.1, z_71.2.2.2.1, z_71.2.2.2.2)).2.2.1, u9.2.1, ((z_71.1, z_71.2.1, u9.1, z_71.2.2.2.1, z_71.2.2.2.2)).2.2.2.2)).2.2.2.1, u9.2.2))).2.2.2.2)) X hml hl.1 (c2_foresee l G (ad 6) (ad 8) (ad 9) z_71.2.2 kn S hF_71 ho hM_71 hov.1 hov.2 hnt (by omega) (by omega)) ok2_foresee wm_X7_179 ⟨Nat.le_of_ble_eq_true rfl, Nat.le_of_ble_eq_true rfl⟩ ⟨Nat.le_refl _, Nat.le_refl _⟩ w [12, 13, 14, 15, 16, 17, 18, 19, 20, 21, 22, 23, 24, 25, 26, 27, 28, 29, 30, 31, 32, 33] [0, 1, 2, 3, 4, 5, 6, 7, 8, 9, 10, 11] [0, 1, 2, 3, 4, 5, 6, 7, 8, 9, 10, 11, 12, 13, 14, 15, 16, 17, 18, 19, 20, 21, 22, 23, 24, 25, 26, 27, 28, 29, 30, 31, 32, 33] rfl (by decide) rfl (by decide) (by decide) (fun _ => rfl) (by decide) rfl rfl rfl (Nat.le_of_ble_eq_true rfl) dX7_film_79 (fun r_79 u_79 H locs hr_79 w => ?_)
            obtain ⟨z_79, ez_79⟩ : ∃ q9 : RS × RS × RS × RS × RS, q9 = (((((z_71.1, z_71.2.1, u_79.1, z_71.2.2.2.1, z_71.2.2.2.2)).1, ((z_71.1, z_71.2.1, u_79.1, z_71.2.2.2.1, z_71.2.2.2.2)).2.1, ((z_71.1, z_71.2.1, u_79.1, z_71.2.2.2.1, z_71.2.2.2.2)).2.2.1, u_79.2.1, ((z_71.1, z_71.2.1, u_79.1, z_71.2.2.2.1, z_71.2.2.2.2)).2.2.2.2)).1, ((((z_71.1, z_71.2.1, u_79.1, z_71.2.2.2.1, z_71.2.2.2.2)).1, ((z_71.1, z_71.2.1, u_79.1, z_71.2.2.2.1, z_71.2.2.2.2)).2.1, ((z_71.1, z_71.2.1, u_79.1, z_71.2.2.2.1, z_71.2.2.2.2)).2.2.1, u_79.2.1, ((z_71.1, z_71.2.1, u_79.1, z_71.2.2.2.1, z_71.2.2.2.2)).2.2.2.2)).2.1, ((((z_71.1, z_71.2.1, u_79.1, z_71.2.2.2.1, z_71.2.2.2.2)).1, ((z_71.1, z_71.2.1, u_79.1, z_71.2.2.2.1, z_71.2.2.2.2)).2.1, ((z_71.1, z_71.2.1, u_79.1, z_71.2.2.2.1, z_71.2.2.2.2)).2.2.1, u_79.2.1, ((z_71.1, z_71.2.1, u_79.1, z_71.2.2.2.1, z_71.2.2.2.2)).2.2.2.2)).2.2.1, ((((z_71.1, z_71.2.1, u_79.1, z_71.2.2.2.1, z_71.2.2.2.2)).1, ((z_71.1, z_71.2.1, u_79.1, z_71.2.2.2.1, z_71.2.2.2.2)).2.1, ((z_71.1, z_71.2.1, u_79.1, z_71.2.2.2.1, z_71.2.2.2.2)).2.2.1, u_79.2.1, ((z_71.1, z_71.2.1, u_79.1, z_71.2.2.2.1, z_71.2.2.2.2)).2.2.2.2)).2.2.2.1, u_79.2.2) := ⟨_, rfl⟩
            have w : cW G A s (wO G a ad zt ++ w5 G (ad 0) z_79.1 ++ w6 G (ad (10 + tq9)) z_79.2.1 ++ wFo G ad z_79.2.2.1 ++ w5 G (ad 8) z_79.2.2.2.1 ++ w0 G (ad 9) z_79.2.2.2.2) H locs := by rw [ez_79]; exact w
            have eu_79_fo : z_79.2.2.1 = u_79.1 := by rw [ez_79]
            try rw [← eu_79_fo] at hr_79
            have eu_79_tr : z_79.2.2.2.1 = u_79.2.1 := by rw [ez_79]
            try rw [← eu_79_tr] at hr_79
            have eu_79_ch : z_79.2.2.2.2 = u_79.2.2 := by rw [ez_79]
            try rw [← eu_79_ch] at hr_79
            have ek_79_sc : z_79.1 = z_71.1 := by rw [ez_79]
            have ek_79_sh : z_79.2.1 = z_71.2.1 := by rw [ez_79]
            obtain ⟨hr_79, hrow, htr, hM_79⟩ := hr_79
            subst hr_79
            have hF_79 : cSc z_79.2.2.2.1 S := by rw [htr]; exact hF_71
            have hk_79 : z_79.1 = z.1 := by rw [ek_79_sc, ek_71_sc]
            have hs_79 : cSt z_79.2.1 (L tq9) (N9 tq9) (I9 tq9) := by rw [ek_79_sh, ek_71_sh]; exact hs
            refine lv_pop hx hb dX7_film_82 rfl ?_
            refine lv_iconst (v := (nI 0)) hx hb dX7_film_83 (by decide) ?_
            refine lv_istore (lv' := [(7, .int (nI 0)), (6, .int (iZ (pw_why L N9 tq9 kl xi9.toInt kn))), (5, .ref ((ad (10 + tq9)) 0)), (0, .ref (a 0)), (1, .int (nI kn)), (2, .int (nI tq9)), (3, .int (nI kl)), (4, .int (nI ia9))]) hx hb dX7_film_84 hl (by decide) rfl (fun ls hl => ?_)
            have lp_86 : ∀ (n_86 : Nat) (i : Nat) (hi : i ≤ kn) (hm_86 : kn - i < n_86) (ls : Array Slot) (zz : RS × RS × RS × RS × RS) (H : Heap) (locs : List Loc) (w : cW G A s (wO G a ad zt ++ w5 G (ad 0) zz.1 ++ w6 G (ad (10 + tq9)) zz.2.1 ++ wFo G ad zz.2.2.1 ++ w5 G (ad 8) zz.2.2.2.1 ++ w0 G (ad 9) zz.2.2.2.2) H locs) (hsz : cSt zz.2.1 (L tq9) (N9 tq9) (pw_put I9 tq9 ia9 i (fun q => pw_low (L tq9) (nI (sp_byv S 0 q)).toInt64) tq9)) (hfo : zz.2.2 = z_79.2.2) (hqk : zz.1 = z.1), lv_has ls 8 [(0, .ref (a 0)), (1, .int (nI kn)), (2, .int (nI tq9)), (3, .int (nI kl)), (4, .int (nI ia9)), (5, .ref ((ad (10 + tq9)) 0)), (6, .int (iZ (pw_why L N9 tq9 kl xi9.toInt kn))), (7, .int (nI i))] → W p l e (ro_m 6 163) s m args below meth c H locs 0 0 (MQ below (va_Qi (fun r z9 => r = an_film S L N9 xn9 xt9 xl9 xi9 ∧ cSt z9.2.1 (L tq9) (N9 tq9) (ni_film S L N9 I9 xn9 xt9 xl9 xi9 tq9) ∧ z9.1 = z.1) (cB G (fun q9 : RS × RS × RS × RS × RS => wO G a ad zt ++ w5 G (ad 0) q9.1 ++ w6 G (ad (10 + tq9)) q9.2.1 ++ wFo G ad q9.2.2.1 ++ w5 G (ad 8) q9.2.2.2.1 ++ w0 G (ad 9) q9.2.2.2.2) A) A) args s 0 0 A) (F0 m 86 ls []) := by
              intro n_86
              induction n_86 with
              | zero => intro i hi hm; exact absurd hm (Nat.not_lt_zero _)
              | succ n_86 ih_86 =>
                intro i hi hm_86 ls zz H locs w hsz hfo hqk hl
                refine lv_iload hx hb dX7_film_86 (lv_at hl 7 rfl) ?_
                refine lv_iload_n hx hb dX7_film_88 rfl (lv_at hl 1 rfl) ?_
                refine n_icmp_ge (tgt := 118) hx hb dX7_film_89 (by decide) (by omega) (by omega) (fun c_89_6 => ?_) (fun c_89_6 => ?_)
                · skip
                  refine lv_iload_n hx hb dX7_film_118 rfl (lv_at hl 1 rfl) ?_
                  exact ce_i (w := (fun q9 : RS × RS × RS × RS × RS => wO G a ad zt ++ w5 G (ad 0) q9.1 ++ w6 G (ad (10 + tq9)) q9.2.1 ++ wFo G ad q9.2.2.1 ++ w5 G (ad 8) q9.2.2.2.1 ++ w0 G (ad 9) q9.2.2.2.2)) (z := zz) X hr hk w (⟨by unfold an_film; rw [if_pos (by omega), if_pos (by omega), show xt9.toInt.toNat = tq9 by omega, show xl9.toInt.toNat = kl by omega, show xn9.toInt.toNat = kn by omega, if_neg (by omega)]; exact ek_kn.symm, by unfold ni_film; rw [show xt9.toInt.toNat = tq9 by omega, show xl9.toInt.toNat = kl by omega, show xn9.toInt.toNat = kn by omega, show xi9.toInt.toNat = ia9 by omega, if_pos (by omega), show kn = i by omega]; exact hsz, hqk⟩) dX7_film_119
                · skip
                  refine lv_aload hx hb dX7_film_92 (lv_at hl 5 rfl) ?_
                  refine lv_iload hx hb dX7_film_94 (lv_at hl 4 rfl) ?_
                  refine lv_iload hx hb dX7_film_96 (lv_at hl 7 rfl) ?_
                  refine n_iadd hx hb dX7_film_98 ?_
                  refine lv_aload_n hx hb dX7_film_99 rfl (lv_at hl 0 rfl) ?_
                  refine ag_XFH_X7_39_this X w.1 dX7_film_100 ?_
                  refine lv_iload hx hb dX7_film_103 (lv_at hl 7 rfl) ?_
                  refine gc_p (C := RX2) (ci := 2) (rest := [.int (nI (ia9 + i)), .ref ((ad (10 + tq9)) 0)]) X hml hl.1 (c2_foreseen l G (ad 6) (ad 8) (ad 9) zz.2.2 i S (by rw [hfo]; exact hF_79) ho (by rw [hfo]; exact hrow i (by omega)) (by omega)) ok2_foreseen wm_X7_269 ⟨Nat.le_of_ble_eq_true rfl, Nat.le_of_ble_eq_true rfl⟩ ⟨Nat.le_refl _, Nat.le_refl _⟩ w.1 [12, 13, 14, 15, 16, 17, 18, 19, 20, 21, 22, 23, 24, 25, 26, 27, 28, 29, 30, 31, 32, 33] rfl rfl rfl rfl (Nat.le_of_ble_eq_true rfl) dX7_film_105 (fun r_105 hr_105 => ?_)
                  subst hr_105
                  refine lv_i2l (v := (nI (sp_byv S 0 i)).toInt64) hx hb dX7_film_108 rfl ?_
                  refine gc_v (C := RX6) (ci := 5) (rest := []) (w := (fun q9 : RS => w6 G (ad (10 + tq9)) q9)) (wr := [((a 0), .inr (6, [.ref ((ad 0) 0), .ref (ad 1 0), .ref (ad 2 0), .ref (ad 3 0), .int (zt.1 4), .ref (ad 5 0), .ref ((ad 6) 0), .ref (a 8)])), ((a 8), .inl (G.2.2.2, 4, .inr (.inr (.inr (.inr (fun j => some (ad (10 + j) 0))))))), (((ad 0) 0), .inr (4, [.int (zz.1.1 0), .ref ((ad 0) 2), .ref ((ad 0) 3), .int (zz.1.1 3), .ref ((ad 0) 5), .ref ((ad 0) 6), .ref ((ad 0) 7), .ref ((ad 0) 8), .int (zz.1.1 8), .int (zz.1.1 9), .int (zz.1.1 10), .ref ((ad 0) 12), .int (zz.1.1 12)])), (((ad 0) 2), .inl (G.2.1, 40, .inl (zz.1.2.1 1))), (((ad 0) 3), .inl (G.2.1, 40, .inl (zz.1.2.1 2))), (((ad 0) 5), .inl (G.2.1, 5, .inl (zz.1.2.1 4))), (((ad 0) 6), .inl (G.2.1, 5, .inl (zz.1.2.1 5))), (((ad 0) 7), .inl (G.2.1, 5, .inl (zz.1.2.1 6))), (((ad 0) 8), .inl (G.2.1, 5, .inl (zz.1.2.1 7))), (((ad 0) 12), .inl (G.2.1, 5, .inl (zz.1.2.1 11))), (((ad 6) 0), .inr (2, [.ref ((ad 8) 0), .ref ((ad 9) 0), .ref ((ad 6) 3)])), (((ad 6) 3), .inl (G.2.1, 61, .inl (zz.2.2.1.2.1 2))), (((ad 8) 0), .inr (4, [.int (zz.2.2.2.1.1 0), .ref ((ad 8) 2), .ref ((ad 8) 3), .int (zz.2.2.2.1.1 3), .ref ((ad 8) 5), .ref ((ad 8) 6), .ref ((ad 8) 7), .ref ((ad 8) 8), .int (zz.2.2.2.1.1 8), .int (zz.2.2.2.1.1 9), .int (zz.2.2.2.1.1 10), .ref ((ad 8) 12), .int (zz.2.2.2.1.1 12)])), (((ad 8) 2), .inl (G.2.1, 40, .inl (zz.2.2.2.1.2.1 1))), (((ad 8) 3), .inl (G.2.1, 40, .inl (zz.2.2.2.1.2.1 2))), (((ad 8) 5), .inl (G.2.1, 5, .inl (zz.2.2.2.1.2.1 4))), (((ad 8) 6), .inl (G.2.1, 5, .inl (zz.2.2.2.1.2.1 5))), (((ad 8) 7), .inl (G.2.1, 5, .inl (zz.2.2.2.1.2.1 6))), (((ad 8) 8), .inl (G.2.1, 5, .inl (zz.2.2.2.1.2.1 7))), (((ad 8) 12), .inl (G.2.1, 5, .inl (zz.2.2.2.1.2.1 11))), (((ad 9) 0), .inr (0, [.int (zz.2.2.2.2.1 0), .ref ((ad 9) 2), .ref ((ad 9) 3), .ref ((ad 9) 4), .ref ((ad 9) 5), .ref ((ad 9) 6), .ref ((ad 9) 7), .ref ((ad 9) 8), .ref ((ad 9) 9), .ref ((ad 9) 10), .ref ((ad 9) 11), .ref ((ad 9) 12)])), (((ad 9) 2), .inl (G.2.1, 4, .inl (zz.2.2.2.2.2.1 1))), (((ad 9) 3), .inl (G.2.1, 5, .inl (zz.2.2.2.2.2.1 2))), (((ad 9) 4), .inl (G.2.1, 4, .inl (zz.2.2.2.2.2.1 3))), (((ad 9) 5), .inl (G.2.1, 5, .inl (zz.2.2.2.2.2.1 4))), (((ad 9) 6), .inl (G.2.1, 4, .inl (zz.2.2.2.2.2.1 5))), (((ad 9) 7), .inl (G.2.1, 24, .inl (zz.2.2.2.2.2.1 6))), (((ad 9) 8), .inl (G.2.1, 24, .inl (zz.2.2.2.2.2.1 7))), (((ad 9) 9), .inl (G.2.1, 6, .inl (zz.2.2.2.2.2.1 8))), (((ad 9) 10), .inl (G.2.1, 175, .inl (zz.2.2.2.2.2.1 9))), (((ad 9) 11), .inl (G.2.1, 128, .inl (zz.2.2.2.2.2.1 10))), (((ad 9) 12), .inl (G.2.1, 128, .inl (zz.2.2.2.2.2.1 11)))]) (wn := (fun u9 => wO G a ad zt ++ w5 G (ad 0) (((zz.1, u9, zz.2.2.1, zz.2.2.2.1, zz.2.2.2.2))).1 ++ w6 G (ad (10 + tq9)) (((zz.1, u9, zz.2.2.1, zz.2.2.2.1, zz.2.2.2.2))).2.1 ++ wFo G ad (((zz.1, u9, zz.2.2.1, zz.2.2.2.1, zz.2.2.2.2))).2.2.1 ++ w5 G (ad 8) (((zz.1, u9, zz.2.2.1, zz.2.2.2.1, zz.2.2.2.2))).2.2.2.1 ++ w0 G (ad 9) (((zz.1, u9, zz.2.2.1, zz.2.2.2.1, zz.2.2.2.2))).2.2.2.2)) X hml hl.1 (c6_put l G (ad (10 + tq9)) zz.2.1 (ia9 + i) (nI (sp_byv S 0 i)).toInt64 L N9 (pw_put I9 tq9 ia9 i (fun q => pw_low (L tq9) (nI (sp_byv S 0 q)).toInt64)) tq9 hsz (by omega)) ok6_put wm_X7_272 ⟨Nat.le_of_ble_eq_true rfl, Nat.le_of_ble_eq_true rfl⟩ ⟨Nat.le_refl _, Nat.le_refl _⟩ w [10, 11] [0, 1, 2, 3, 4, 5, 6, 7, 8, 9, 12, 13, 14, 15, 16, 17, 18, 19, 20, 21, 22, 23, 24, 25, 26, 27, 28, 29, 30, 31, 32, 33] [0, 1, 2, 3, 4, 5, 6, 7, 8, 9, 32, 33, 10, 11, 12, 13, 14, 15, 16, 17, 18, 19, 20, 21, 22, 23, 24, 25, 26, 27, 28, 29, 30, 31] rfl (by decide) rfl (by decide) (by decide) (fun _ => rfl) (by decide) rfl rfl rfl (Nat.le_of_ble_eq_true rfl) dX7_film_109 (fun u_109 H locs hr_109 w => ?_)
                  obtain ⟨z_109, ez_109⟩ : ∃ q9 : RS × RS × RS × RS × RS, q9 = (zz.1, u_109, zz.2.2.1, zz.2.2.2.1, zz.2.2.2.2) := ⟨_, rfl⟩
                  have w : cW G A s (wO G a ad zt ++ w5 G (ad 0) z_109.1 ++ w6 G (ad (10 + tq9)) z_109.2.1 ++ wFo G ad z_109.2.2.1 ++ w5 G (ad 8) z_109.2.2.2.1 ++ w0 G (ad 9) z_109.2.2.2.2) H locs := by rw [ez_109]; exact w
                  have eu_109_sh : z_109.2.1 = u_109 := by rw [ez_109]
                  rw [← eu_109_sh] at hr_109
                  have ek_109_sc : z_109.1 = zz.1 := by rw [ez_109]
                  have ek_109_fo : z_109.2.2.1 = zz.2.2.1 := by rw [ez_109]
                  have ek_109_tr : z_109.2.2.2.1 = zz.2.2.2.1 := by rw [ez_109]
                  have ek_109_ch : z_109.2.2.2.2 = zz.2.2.2.2 := by rw [ez_109]
                  refine lv_iinc (v := (nI (i + 1))) (lv' := [(7, .int (nI (i + 1))), (0, .ref (a 0)), (1, .int (nI kn)), (2, .int (nI tq9)), (3, .int (nI kl)), (4, .int (nI ia9)), (5, .ref ((ad (10 + tq9)) 0)), (6, .int (iZ (pw_why L N9 tq9 kl xi9.toInt kn)))]) hx hb dX7_film_112 hl (k := 7) rfl (by first | exact nI_1 _ | (rw [show Int32.ofInt 1 = nI 1 from by decide, nI_add])) (by decide) rfl (fun ls hl => ?_)
                  refine lv_goto (tgt := 86) hx hb dX7_film_115 (by decide) ?_
                  exact ih_86 (i + 1) (by omega) (by omega) ls z_109 _ _ w (st_ps hr_109) (by rw [ez_109]; exact hfo) (by rw [ek_109_sc]; exact hqk) (lv_sub hl [1, 2, 3, 4, 5, 6, 7, 0] rfl)
            exact lp_86 _ 0 (Nat.zero_le _) (Nat.lt_succ_self _) ls z_79 _ _ w (st_p0 hs_79) rfl hk_79 (lv_sub hl [3, 4, 5, 6, 7, 2, 1, 0] rfl)
          · skip
            refine lv_iload hx hb dX7_film_60 (lv_at hl 0 rfl) ?_
            exact ce_i (w := (fun q9 : RS × RS × RS × RS × RS => wO G a ad zt ++ w5 G (ad 0) q9.1 ++ w6 G (ad (10 + tq9)) q9.2.1 ++ wFo G ad q9.2.2.1 ++ w5 G (ad 8) q9.2.2.2.1 ++ w0 G (ad 9) q9.2.2.2.2)) (z := z) X hr hk w (⟨by unfold an_film; rw [if_pos (by omega), if_pos (by omega), show xt9.toInt.toNat = tq9 by omega, show xl9.toInt.toNat = kl by omega, show xn9.toInt.toNat = kn by omega, if_pos (by omega)], by unfold ni_film; rw [show xt9.toInt.toNat = tq9 by omega, show xl9.toInt.toNat = kl by omega, show xn9.toInt.toNat = kn by omega, if_neg (by omega)]; exact hs, rfl⟩) dX7_film_62
        · skip
          refine lv_bipush (v := (iZ (-2))) hx hb dX7_film_33 (by decide) ?_
          exact ce_i (w := (fun q9 : RS × RS × RS × RS × RS => wO G a ad zt ++ w5 G (ad 0) q9.1 ++ w6 G (ad (10 + tq9)) q9.2.1 ++ wFo G ad q9.2.2.1 ++ w5 G (ad 8) q9.2.2.2.1 ++ w0 G (ad 9) q9.2.2.2.2)) (z := z) X hr hk w (⟨by unfold an_film; rw [if_pos (by omega), if_neg (by omega)], by unfold ni_film; rw [if_neg (by omega)]; exact hs, rfl⟩) dX7_film_35
      · skip
        refine lv_iconst (v := (iZ (-1))) hx hb dX7_film_24 (by decide) ?_
        exact ce_i (w := (fun q9 : RS × RS × RS × RS × RS => wO G a ad zt ++ w5 G (ad 0) q9.1 ++ w6 G (ad (10 + tq9)) q9.2.1 ++ wFo G ad q9.2.2.1 ++ w5 G (ad 8) q9.2.2.2.1 ++ w0 G (ad 9) q9.2.2.2.2)) (z := z) X hr hk w (⟨by unfold an_film; rw [if_neg (by omega)], by unfold ni_film; rw [if_neg (by omega)]; exact hs, rfl⟩) dX7_film_25

section Lm_c7_copy
variable {p : Program} {l : Launch} {e : Env} {R : Room} {s : State} {m : MethodId} {args : Array Value} {below : List Frame} {meth : Method} {c : Code} {H : Heap} {locs : List Loc} {cells slots : Nat} {Q : State → Prop}
variable {cc : ByteArray} {pc : Nat} {ls : Array Slot} {rest : List Value} {G : CG} {A : Nat → Prop}
theorem ag_X2S_X7_45_this {a : Nat → Nat} {ad : Nat → Nat → Nat} {zt : RS} {tq9 : Nat} {tr9 : Nat} {z : RS × RS} (X : cX RX7 G A p c cc s args m) (w : va_P G.1 vwCl (wO G a ad zt ++ w6 G (ad (10 + tq9)) z.1 ++ w6 G (ad (10 + tr9)) z.2) H) (hdg : decode cc pc = .ok (.getfield 45, 3)) (kk : W p l e R s m args below meth c H locs cells slots Q (F0 m (pc + 3) ls (.ref (a 8) :: rest))) : W p l e R s m args below meth c H locs cells slots Q (F0 m pc ls (.ref (a 0) :: rest)) :=
  va_get (D := G.1) (ci := 6) (v := .ref (a 8)) (C := RX7) (T := TX7) (N := 8) X.1 X.2.1 X.2.2.1 gX7 X.2.2.2.1 X.2.2.2.2.1.1 w 0 rfl rfl 7 (by decide) (X.2.2.1 _ wf_X7_45) (fun _ h9 => h9) rfl hdg kk
theorem aq_X2S {own : String} {a : Nat → Nat} {ad : Nat → Nat → Nat} {zt : RS} {tq9 : Nat} {tr9 : Nat} {z : RS × RS} {j : Nat} (X : cX own G A p c cc s args m) (w : va_P G.1 vwCl (wO G a ad zt ++ w6 G (ad (10 + tq9)) z.1 ++ w6 G (ad (10 + tr9)) z.2) H) (hj : j < 4) (hdg : decode cc pc = .ok (.aaload, 1)) (kk : W p l e R s m args below meth c H locs cells slots Q (F0 m (pc + 1) ls (.ref (ad (10 + j) 0) :: rest))) : W p l e R s m args below meth c H locs cells slots Q (F0 m pc ls (.int (nI j) :: .ref (a 8) :: rest)) :=
  va_aldq X.1 X.2.1 X.2.2.2.2.1.1 w 1 2 rfl rfl (vp_in_nI hj (by decide)) hdg (by rw [nI_clamp (by omega)]; exact kk)
theorem ag_X2S_X7_288_sh {a : Nat → Nat} {ad : Nat → Nat → Nat} {zt : RS} {tq9 : Nat} {tr9 : Nat} {z : RS × RS} (X : cX RX7 G A p c cc s args m) (w : va_P G.1 vwCl (wO G a ad zt ++ w6 G (ad (10 + tq9)) z.1 ++ w6 G (ad (10 + tr9)) z.2) H) (hdg : decode cc pc = .ok (.getfield 288, 3)) (kk : W p l e R s m args below meth c H locs cells slots Q (F0 m (pc + 3) ls (.int (z.1.1 0) :: rest))) : W p l e R s m args below meth c H locs cells slots Q (F0 m pc ls (.ref ((ad (10 + tq9)) 0) :: rest)) :=
  va_getN (own := RX7) (ref := RX6) (host := "RunningThree") (D := G.1) (ci := 5) (v := .int (z.1.1 0)) (C := RX6) (T := TX6) (N := 3) X.1 X.2.1 X.2.2.1 gX6 X.2.2.2.1 X.2.2.2.2.1.1 w 2 rfl rfl 0 (by decide) (va_Nw.use rfl (X.2.2.2.2.1.2 _ wq_X7_288)) (fun _ h9 => h9) rfl hdg kk
theorem ag_X2S_X7_288_sk {a : Nat → Nat} {ad : Nat → Nat → Nat} {zt : RS} {tq9 : Nat} {tr9 : Nat} {z : RS × RS} (X : cX RX7 G A p c cc s args m) (w : va_P G.1 vwCl (wO G a ad zt ++ w6 G (ad (10 + tq9)) z.1 ++ w6 G (ad (10 + tr9)) z.2) H) (hdg : decode cc pc = .ok (.getfield 288, 3)) (kk : W p l e R s m args below meth c H locs cells slots Q (F0 m (pc + 3) ls (.int (z.2.1 0) :: rest))) : W p l e R s m args below meth c H locs cells slots Q (F0 m pc ls (.ref ((ad (10 + tr9)) 0) :: rest)) :=
  va_getN (own := RX7) (ref := RX6) (host := "RunningThree") (D := G.1) (ci := 5) (v := .int (z.2.1 0)) (C := RX6) (T := TX6) (N := 3) X.1 X.2.1 X.2.2.1 gX6 X.2.2.2.1 X.2.2.2.2.1.1 w 4 rfl rfl 0 (by decide) (va_Nw.use rfl (X.2.2.2.2.1.2 _ wq_X7_288)) (fun _ h9 => h9) rfl hdg kk
theorem ag_X2S_X7_295_sh {a : Nat → Nat} {ad : Nat → Nat → Nat} {zt : RS} {tq9 : Nat} {tr9 : Nat} {z : RS × RS} (X : cX RX7 G A p c cc s args m) (w : va_P G.1 vwCl (wO G a ad zt ++ w6 G (ad (10 + tq9)) z.1 ++ w6 G (ad (10 + tr9)) z.2) H) (hdg : decode cc pc = .ok (.getfield 295, 3)) (kk : W p l e R s m args below meth c H locs cells slots Q (F0 m (pc + 3) ls (.ref ((ad (10 + tq9)) 3) :: rest))) : W p l e R s m args below meth c H locs cells slots Q (F0 m pc ls (.ref ((ad (10 + tq9)) 0) :: rest)) :=
  va_getN (own := RX7) (ref := RX6) (host := "RunningThree") (D := G.1) (ci := 5) (v := .ref ((ad (10 + tq9)) 3)) (C := RX6) (T := TX6) (N := 3) X.1 X.2.1 X.2.2.1 gX6 X.2.2.2.1 X.2.2.2.2.1.1 w 2 rfl rfl 2 (by decide) (va_Nw.use rfl (X.2.2.2.2.1.2 _ wq_X7_295)) (fun _ h9 => h9) rfl hdg kk
theorem ag_X2S_X7_295_sk {a : Nat → Nat} {ad : Nat → Nat → Nat} {zt : RS} {tq9 : Nat} {tr9 : Nat} {z : RS × RS} (X : cX RX7 G A p c cc s args m) (w : va_P G.1 vwCl (wO G a ad zt ++ w6 G (ad (10 + tq9)) z.1 ++ w6 G (ad (10 + tr9)) z.2) H) (hdg : decode cc pc = .ok (.getfield 295, 3)) (kk : W p l e R s m args below meth c H locs cells slots Q (F0 m (pc + 3) ls (.ref ((ad (10 + tr9)) 3) :: rest))) : W p l e R s m args below meth c H locs cells slots Q (F0 m pc ls (.ref ((ad (10 + tr9)) 0) :: rest)) :=
  va_getN (own := RX7) (ref := RX6) (host := "RunningThree") (D := G.1) (ci := 5) (v := .ref ((ad (10 + tr9)) 3)) (C := RX6) (T := TX6) (N := 3) X.1 X.2.1 X.2.2.1 gX6 X.2.2.2.1 X.2.2.2.2.1.1 w 4 rfl rfl 2 (by decide) (va_Nw.use rfl (X.2.2.2.2.1.2 _ wq_X7_295)) (fun _ h9 => h9) rfl hdg kk
end Lm_c7_copy
theorem ok7_copy : cOk RX7 yX7_copy cX7_copy 8 (some .int) 5 := ⟨wc_X7_copy, wi_X7_copy, ws_X7_copy, wn_X7, rfl, by decide, by decide, by decide +kernel⟩
set_option maxHeartbeats 4000000 in
set_option maxRecDepth 100000 in
theorem c7_copy (l : Launch) (G : CG) (a : Nat → Nat) (ad : Nat → Nat → Nat) (zt : RS) (tq9 : Nat) (tr9 : Nat) (z : RS × RS) (xa9 : Int32) (xi9 : Int32) (xb9 : Int32) (xj9 : Int32) (xn9 : Int32) (L N9 : Nat → Nat) (I9 : Nat → Nat → Int64) (hs : cSt z.1 (L tq9) (N9 tq9) (I9 tq9)) (hk9 : cSt z.2 (L tr9) (N9 tr9) (I9 tr9)) (hq4 : tq9 < 4) (hr4 : tr9 < 4) (hx9 : 0 ≤ xa9.toInt ∧ xa9.toInt ≤ 3 → xa9 = nI tq9) (hy9 : 0 ≤ xb9.toInt ∧ xb9.toInt ≤ 3 → xb9 = nI tr9) : cMi G l yX7_copy cX7_copy 8 (some .int) 2 100 [.ref (a 0), .int xa9, .int xi9, .int xb9, .int xj9, .int xn9] (fun q9 : RS × RS => wO G a ad zt ++ w6 G (ad (10 + tq9)) q9.1 ++ w6 G (ad (10 + tr9)) q9.2) z (fun r z9 => r = an_copy L N9 xa9 xi9 xb9 xj9 xn9 ∧ cSt z9.2 (L tr9) (N9 tr9) (ni_copy L N9 I9 xa9 xi9 xb9 xj9 xn9 tr9) ∧ z9.1 = z.1) := by
  refine cMi_in (by decide) rfl (Nat.le_of_ble_eq_true rfl) ?_
  intro p e s m args below meth c A ls X hml hr hk hl w
  have hx := X.1
  have hb := X.2.1
  have hts := X.2.2.1
  have hown := X.2.2.2.1
  have hl : lv_has ls 8 [(0, .ref (a 0)), (1, .int xa9), (2, .int xi9), (3, .int xb9), (4, .int xj9), (5, .int xn9)] := hl
  obtain ⟨s1, s2, s3, s4, s5⟩ := id hs
  obtain ⟨t1, t2, t3, t4, t5⟩ := id hk9
  refine lv_iload_n hx hb dX7_copy_0 rfl (lv_at hl 1 rfl) ?_
  refine gc_s (C := RX7) (rest := []) ⟨X.1, X.2.1, X.2.2.1, X.2.2.2.1⟩ hml hl.1 (c7_isSheet l xa9) ok7_isSheet wm_X7_216 ⟨Nat.le_of_ble_eq_true rfl, Nat.le_of_ble_eq_true rfl⟩ ⟨Nat.le_refl _, Nat.le_refl _⟩ rfl (Nat.le_of_ble_eq_true rfl) dX7_copy_1 (fun r_1 hr_1 => ?_) rfl
  subst hr_1
  have d_1 := pc_inI_ok xa9.toInt 0 3
  refine n_if_eq (tgt := 14) hx hb dX7_copy_4 (by decide) (by omega) (fun c_4_1 => ?_) (fun c_4_1 => ?_)
  · skip
    refine lv_iconst (v := (iZ (-1))) hx hb dX7_copy_14 (by decide) ?_
    exact ce_i (w := (fun q9 : RS × RS => wO G a ad zt ++ w6 G (ad (10 + tq9)) q9.1 ++ w6 G (ad (10 + tr9)) q9.2)) (z := z) X hr hk w (⟨by unfold an_copy; rw [if_neg (by omega)], by unfold ni_copy; rw [if_neg (by omega)]; exact hk9, rfl⟩) dX7_copy_15
  · skip
    refine lv_iload_n hx hb dX7_copy_7 rfl (lv_at hl 3 rfl) ?_
    refine gc_s (C := RX7) (rest := []) ⟨X.1, X.2.1, X.2.2.1, X.2.2.2.1⟩ hml hl.1 (c7_isSheet l xb9) ok7_isSheet wm_X7_216 ⟨Nat.le_of_ble_eq_true rfl, Nat.le_of_ble_eq_true rfl⟩ ⟨Nat.le_refl _, Nat.le_refl _⟩ rfl (Nat.le_of_ble_eq_true rfl) dX7_copy_8 (fun r_8 hr_8 => ?_) rfl
    subst hr_8
    have d_8 := pc_inI_ok xb9.toInt 0 3
    refine n_if_ne (tgt := 16) hx hb dX7_copy_11 (by decide) (by omega) (fun c_11_2 => ?_) (fun c_11_2 => ?_)
    · skip
      have et_tq9 := hx9 (by omega)
      have eu_tq9 : xa9.toInt = (tq9 : Int) := by rw [et_tq9]; exact nI_toInt (by omega)
      have hl : lv_has ls 8 [(0, .ref (a 0)), (1, .int (nI tq9)), (2, .int xi9), (3, .int xb9), (4, .int xj9), (5, .int xn9)] := by rw [← et_tq9]; exact hl
      have et_tr9 := hy9 (by omega)
      have eu_tr9 : xb9.toInt = (tr9 : Int) := by rw [et_tr9]; exact nI_toInt (by omega)
      have hl : lv_has ls 8 [(0, .ref (a 0)), (1, .int (nI tq9)), (2, .int xi9), (3, .int (nI tr9)), (4, .int xj9), (5, .int xn9)] := by rw [← et_tr9]; exact hl
      refine lv_aload_n hx hb dX7_copy_16 rfl (lv_at hl 0 rfl) ?_
      refine ag_X2S_X7_45_this X w.1 dX7_copy_17 ?_
      refine lv_iload_n hx hb dX7_copy_20 rfl (lv_at hl 1 rfl) ?_
      refine aq_X2S X w.1 (by omega) dX7_copy_21 ?_
      refine lv_astore (lv' := [(6, .ref ((ad (10 + tq9)) 0)), (0, .ref (a 0)), (1, .int (nI tq9)), (2, .int xi9), (3, .int (nI tr9)), (4, .int xj9), (5, .int xn9)]) hx hb dX7_copy_22 hl (by decide) rfl (fun ls hl => ?_)
      refine lv_aload_n hx hb dX7_copy_24 rfl (lv_at hl 1 rfl) ?_
      refine ag_X2S_X7_45_this X w.1 dX7_copy_25 ?_
      refine lv_iload_n hx hb dX7_copy_28 rfl (lv_at hl 4 rfl) ?_
      refine aq_X2S X w.1 (by omega) dX7_copy_29 ?_
      refine lv_astore (lv' := [(7, .ref ((ad (10 + tr9)) 0)), (6, .ref ((ad (10 + tq9)) 0)), (0, .ref (a 0)), (1, .int (nI tq9)), (2, .int xi9), (3, .int (nI tr9)), (4, .int xj9), (5, .int xn9)]) hx hb dX7_copy_30 hl (by decide) rfl (fun ls hl => ?_)
      refine lv_aload hx hb dX7_copy_32 (lv_at hl 1 rfl) ?_
      refine gc_p (C := RX6) (ci := 5) (rest := []) X hml hl.1 (c6_isThere l G (ad (10 + tq9)) z.1  L N9 I9 tq9 hs ) ok6_isThere wm_X7_279 ⟨Nat.le_of_ble_eq_true rfl, Nat.le_of_ble_eq_true rfl⟩ ⟨Nat.le_refl _, Nat.le_refl _⟩ w.1 [2, 3] rfl rfl rfl rfl (Nat.le_of_ble_eq_true rfl) dX7_copy_34 (fun r_34 hr_34 => ?_)
      subst hr_34
      have d_34 : ((if L tq9 = 0 then 0 else 1) = 0 ∧ L tq9 = 0) ∨ ((if L tq9 = 0 then 0 else 1) = 1 ∧ ¬ L tq9 = 0) := by by_cases q : L tq9 = 0; rw [if_pos q]; exact Or.inl ⟨rfl, q⟩; rw [if_neg q]; exact Or.inr ⟨rfl, q⟩
      refine n_if_eq (tgt := 48) hx hb dX7_copy_37 (by decide) (by omega) (fun c_37_3 => ?_) (fun c_37_3 => ?_)
      · skip
        refine lv_bipush (v := (iZ (-11))) hx hb dX7_copy_48 (by decide) ?_
        exact ce_i (w := (fun q9 : RS × RS => wO G a ad zt ++ w6 G (ad (10 + tq9)) q9.1 ++ w6 G (ad (10 + tr9)) q9.2)) (z := z) X hr hk w (⟨by unfold an_copy; rw [if_pos (by omega), show xa9.toInt.toNat = tq9 by omega, show xb9.toInt.toNat = tr9 by omega, if_pos (by omega)], by unfold ni_copy; rw [if_neg (by rw [show xa9.toInt.toNat = tq9 by omega, show xb9.toInt.toNat = tr9 by omega]; omega)]; exact hk9, rfl⟩) dX7_copy_50
      · skip
        refine lv_aload hx hb dX7_copy_40 (lv_at hl 0 rfl) ?_
        refine gc_p (C := RX6) (ci := 5) (rest := []) X hml hl.1 (c6_isThere l G (ad (10 + tr9)) z.2  L N9 I9 tr9 hk9 ) ok6_isThere wm_X7_279 ⟨Nat.le_of_ble_eq_true rfl, Nat.le_of_ble_eq_true rfl⟩ ⟨Nat.le_refl _, Nat.le_refl _⟩ w.1 [4, 5] rfl rfl rfl rfl (Nat.le_of_ble_eq_true rfl) dX7_copy_42 (fun r_42 hr_42 => ?_)
        subst hr_42
        have d_42 : ((if L tr9 = 0 then 0 else 1) = 0 ∧ L tr9 = 0) ∨ ((if L tr9 = 0 then 0 else 1) = 1 ∧ ¬ L tr9 = 0) := by by_cases q : L tr9 = 0; rw [if_pos q]; exact Or.inl ⟨rfl, q⟩; rw [if_neg q]; exact Or.inr ⟨rfl, q⟩
        refine n_if_ne (tgt := 51) hx hb dX7_copy_45 (by decide) (by omega) (fun c_45_4 => ?_) (fun c_45_4 => ?_)
        · skip
          refine lv_aload hx hb dX7_copy_51 (lv_at hl 1 rfl) ?_
          refine ag_X2S_X7_288_sh X w.1 dX7_copy_53 ?_
          refine tp_i (show z.1.1 0 = (iZ (((L tq9 : Nat) : Int) - (1 : Int))) from s1) ?_
          refine lv_aload hx hb dX7_copy_56 (lv_at hl 0 rfl) ?_
          refine ag_X2S_X7_288_sk X w.1 dX7_copy_58 ?_
          refine tp_i (show z.2.1 0 = (iZ (((L tr9 : Nat) : Int) - (1 : Int))) from t1) ?_
          refine z_icmp_eq (tgt := 67) hx hb dX7_copy_61 (by decide) (by omega) (by omega) (by omega) (by omega) (fun c_61_5 => ?_) (fun c_61_5 => ?_)
          · skip
            refine lv_aload hx hb dX7_copy_67 (lv_at hl 1 rfl) ?_
            refine lv_iload_n hx hb dX7_copy_69 rfl (lv_at hl 4 rfl) ?_
            refine lv_iload hx hb dX7_copy_70 (lv_at hl 7 rfl) ?_
            refine gc_p (C := RX6) (ci := 5) (rest := []) X hml hl.1 (c6_holds l G (ad (10 + tq9)) z.1 xi9 xn9 L N9 I9 tq9 hs) ok6_holds wm_X7_291 ⟨Nat.le_of_ble_eq_true rfl, Nat.le_of_ble_eq_true rfl⟩ ⟨Nat.le_refl _, Nat.le_refl _⟩ w.1 [2, 3] rfl rfl rfl rfl (Nat.le_of_ble_eq_true rfl) dX7_copy_72 (fun r_72 hr_72 => ?_)
            subst hr_72
            refine tp_i (congrArg nI (by rw [show (xi9).toInt = xi9.toInt from rfl, show (xn9).toInt = xn9.toInt from rfl] : _ = pw_h (N9 tq9) xi9.toInt xn9.toInt)) ?_
            have d_72 := h_ok (N9 tq9) xi9.toInt xn9.toInt
            refine n_if_eq (tgt := 90) hx hb dX7_copy_75 (by decide) (by omega) (fun c_75_6 => ?_) (fun c_75_6 => ?_)
            · skip
              refine lv_bipush (v := (iZ (-13))) hx hb dX7_copy_90 (by decide) ?_
              exact ce_i (w := (fun q9 : RS × RS => wO G a ad zt ++ w6 G (ad (10 + tq9)) q9.1 ++ w6 G (ad (10 + tr9)) q9.2)) (z := z) X hr hk w (⟨by unfold an_copy; rw [if_pos (by omega), show xa9.toInt.toNat = tq9 by omega, show xb9.toInt.toNat = tr9 by omega, if_neg (by omega), if_pos (by omega), if_neg (by omega)], by unfold ni_copy; rw [if_neg (by rw [show xa9.toInt.toNat = tq9 by omega, show xb9.toInt.toNat = tr9 by omega]; omega)]; exact hk9, rfl⟩) dX7_copy_92
            · skip
              refine lv_aload hx hb dX7_copy_78 (lv_at hl 0 rfl) ?_
              refine lv_iload hx hb dX7_copy_80 (lv_at hl 6 rfl) ?_
              refine lv_iload hx hb dX7_copy_82 (lv_at hl 7 rfl) ?_
              refine gc_p (C := RX6) (ci := 5) (rest := []) X hml hl.1 (c6_holds l G (ad (10 + tr9)) z.2 xj9 xn9 L N9 I9 tr9 hk9) ok6_holds wm_X7_291 ⟨Nat.le_of_ble_eq_true rfl, Nat.le_of_ble_eq_true rfl⟩ ⟨Nat.le_refl _, Nat.le_refl _⟩ w.1 [4, 5] rfl rfl rfl rfl (Nat.le_of_ble_eq_true rfl) dX7_copy_84 (fun r_84 hr_84 => ?_)
              subst hr_84
              refine tp_i (congrArg nI (by rw [show (xj9).toInt = xj9.toInt from rfl, show (xn9).toInt = xn9.toInt from rfl] : _ = pw_h (N9 tr9) xj9.toInt xn9.toInt)) ?_
              have d_84 := h_ok (N9 tr9) xj9.toInt xn9.toInt
              refine n_if_ne (tgt := 93) hx hb dX7_copy_87 (by decide) (by omega) (fun c_87_7 => ?_) (fun c_87_7 => ?_)
              · skip
                obtain ⟨ki, hk_ki, ek_ki⟩ := iv_n (x := xi9) (by omega)
                have hl : lv_has ls 8 [(7, .ref ((ad (10 + tr9)) 0)), (6, .ref ((ad (10 + tq9)) 0)), (0, .ref (a 0)), (1, .int (nI tq9)), (2, .int (nI ki)), (3, .int (nI tr9)), (4, .int xj9), (5, .int xn9)] := by rw [← ek_ki]; exact hl
                obtain ⟨kj, hk_kj, ek_kj⟩ := iv_n (x := xj9) (by omega)
                have hl : lv_has ls 8 [(7, .ref ((ad (10 + tr9)) 0)), (6, .ref ((ad (10 + tq9)) 0)), (0, .ref (a 0)), (1, .int (nI tq9)), (2, .int (nI ki)), (3, .int (nI tr9)), (4, .int (nI kj)), (5, .int xn9)] := by rw [← ek_kj]; exact hl
                obtain ⟨kn, hk_kn, ek_kn⟩ := iv_n (x := xn9) (by omega)
                have hl : lv_has ls 8 [(7, .ref ((ad (10 + tr9)) 0)), (6, .ref ((ad (10 + tq9)) 0)), (0, .ref (a 0)), (1, .int (nI tq9)), (2, .int (nI ki)), (3, .int (nI tr9)), (4, .int (nI kj)), (5, .int (nI kn))] := by rw [← ek_kn]; exact hl
                refine lv_aload hx hb dX7_copy_93 (lv_at hl 1 rfl) ?_
                refine ag_X2S_X7_295_sh X w.1 dX7_copy_95 ?_
                refine lv_iload_n hx hb dX7_copy_98 rfl (lv_at hl 4 rfl) ?_
                refine lv_aload hx hb dX7_copy_99 (lv_at hl 0 rfl) ?_
                refine ag_X2S_X7_295_sk X w.1 dX7_copy_101 ?_
                refine lv_iload hx hb dX7_copy_104 (lv_at hl 6 rfl) ?_
                refine lv_iload hx hb dX7_copy_106 (lv_at hl 7 rfl) ?_
                refine gcp_l (rest := []) X hml hl.1 wm_X7_299 ⟨Nat.le_of_ble_eq_true rfl, Nat.le_of_ble_eq_true rfl⟩ w 3 5 rfl rfl (by omega) (by omega) (by decide) (Nat.le_of_ble_eq_true rfl) dX7_copy_108 (fun H locs w => ?_)
                obtain ⟨z_108, ez_108⟩ : ∃ q9 : RS × RS, q9 = (z.1, (sCL z.2 2 (va_cpy (z.1.2.2 2) (z.2.2.2 2) ki kj kn))) := ⟨_, rfl⟩
                have w : cW G A s (wO G a ad zt ++ w6 G (ad (10 + tq9)) z_108.1 ++ w6 G (ad (10 + tr9)) z_108.2) H locs := by rw [ez_108]; exact w
                refine lv_iload hx hb dX7_copy_111 (lv_at hl 7 rfl) ?_
                exact ce_i (w := (fun q9 : RS × RS => wO G a ad zt ++ w6 G (ad (10 + tq9)) q9.1 ++ w6 G (ad (10 + tr9)) q9.2)) (z := z_108) X hr hk w (⟨by unfold an_copy; rw [if_pos (by omega), show xa9.toInt.toNat = tq9 by omega, show xb9.toInt.toNat = tr9 by omega, if_neg (by omega), if_pos (by omega), if_pos (by omega)]; exact ek_kn.symm, by unfold ni_copy; rw [show xa9.toInt.toNat = tq9 by omega, show xb9.toInt.toNat = tr9 by omega, show xi9.toInt.toNat = ki by omega, show xj9.toInt.toNat = kj by omega, show xn9.toInt.toNat = kn by omega, if_pos (by omega), put_at, ez_108]; exact st_cp hs hk9 (by omega) (by omega), by rw [ez_108]⟩) dX7_copy_113
              · skip
                refine lv_bipush (v := (iZ (-13))) hx hb dX7_copy_90 (by decide) ?_
                exact ce_i (w := (fun q9 : RS × RS => wO G a ad zt ++ w6 G (ad (10 + tq9)) q9.1 ++ w6 G (ad (10 + tr9)) q9.2)) (z := z) X hr hk w (⟨by unfold an_copy; rw [if_pos (by omega), show xa9.toInt.toNat = tq9 by omega, show xb9.toInt.toNat = tr9 by omega, if_neg (by omega), if_pos (by omega), if_neg (by omega)], by unfold ni_copy; rw [if_neg (by rw [show xa9.toInt.toNat = tq9 by omega, show xb9.toInt.toNat = tr9 by omega]; omega)]; exact hk9, rfl⟩) dX7_copy_92
          · skip
            refine lv_bipush (v := (iZ (-12))) hx hb dX7_copy_64 (by decide) ?_
            exact ce_i (w := (fun q9 : RS × RS => wO G a ad zt ++ w6 G (ad (10 + tq9)) q9.1 ++ w6 G (ad (10 + tr9)) q9.2)) (z := z) X hr hk w (⟨by unfold an_copy; rw [if_pos (by omega), show xa9.toInt.toNat = tq9 by omega, show xb9.toInt.toNat = tr9 by omega, if_neg (by omega), if_neg (by omega)], by unfold ni_copy; rw [if_neg (by rw [show xa9.toInt.toNat = tq9 by omega, show xb9.toInt.toNat = tr9 by omega]; omega)]; exact hk9, rfl⟩) dX7_copy_66
        · skip
          refine lv_bipush (v := (iZ (-11))) hx hb dX7_copy_48 (by decide) ?_
          exact ce_i (w := (fun q9 : RS × RS => wO G a ad zt ++ w6 G (ad (10 + tq9)) q9.1 ++ w6 G (ad (10 + tr9)) q9.2)) (z := z) X hr hk w (⟨by unfold an_copy; rw [if_pos (by omega), show xa9.toInt.toNat = tq9 by omega, show xb9.toInt.toNat = tr9 by omega, if_pos (by omega)], by unfold ni_copy; rw [if_neg (by rw [show xa9.toInt.toNat = tq9 by omega, show xb9.toInt.toNat = tr9 by omega]; omega)]; exact hk9, rfl⟩) dX7_copy_50
    · skip
      refine lv_iconst (v := (iZ (-1))) hx hb dX7_copy_14 (by decide) ?_
      exact ce_i (w := (fun q9 : RS × RS => wO G a ad zt ++ w6 G (ad (10 + tq9)) q9.1 ++ w6 G (ad (10 + tr9)) q9.2)) (z := z) X hr hk w (⟨by unfold an_copy; rw [if_neg (by omega)], by unfold ni_copy; rw [if_neg (by omega)]; exact hk9, rfl⟩) dX7_copy_15

section Lm_c7_copy1
variable {p : Program} {l : Launch} {e : Env} {R : Room} {s : State} {m : MethodId} {args : Array Value} {below : List Frame} {meth : Method} {c : Code} {H : Heap} {locs : List Loc} {cells slots : Nat} {Q : State → Prop}
variable {cc : ByteArray} {pc : Nat} {ls : Array Slot} {rest : List Value} {G : CG} {A : Nat → Prop}
theorem ag_XH_X7_288_sh {a : Nat → Nat} {ad : Nat → Nat → Nat} {zt : RS} {tq9 : Nat} {z : RS} (X : cX RX7 G A p c cc s args m) (w : va_P G.1 vwCl (wO G a ad zt ++ w6 G (ad (10 + tq9)) z) H) (hdg : decode cc pc = .ok (.getfield 288, 3)) (kk : W p l e R s m args below meth c H locs cells slots Q (F0 m (pc + 3) ls (.int (z.1 0) :: rest))) : W p l e R s m args below meth c H locs cells slots Q (F0 m pc ls (.ref ((ad (10 + tq9)) 0) :: rest)) :=
  va_getN (own := RX7) (ref := RX6) (host := "RunningThree") (D := G.1) (ci := 5) (v := .int (z.1 0)) (C := RX6) (T := TX6) (N := 3) X.1 X.2.1 X.2.2.1 gX6 X.2.2.2.1 X.2.2.2.2.1.1 w 2 rfl rfl 0 (by decide) (va_Nw.use rfl (X.2.2.2.2.1.2 _ wq_X7_288)) (fun _ h9 => h9) rfl hdg kk
theorem ag_XH_X7_295_sh {a : Nat → Nat} {ad : Nat → Nat → Nat} {zt : RS} {tq9 : Nat} {z : RS} (X : cX RX7 G A p c cc s args m) (w : va_P G.1 vwCl (wO G a ad zt ++ w6 G (ad (10 + tq9)) z) H) (hdg : decode cc pc = .ok (.getfield 295, 3)) (kk : W p l e R s m args below meth c H locs cells slots Q (F0 m (pc + 3) ls (.ref ((ad (10 + tq9)) 3) :: rest))) : W p l e R s m args below meth c H locs cells slots Q (F0 m pc ls (.ref ((ad (10 + tq9)) 0) :: rest)) :=
  va_getN (own := RX7) (ref := RX6) (host := "RunningThree") (D := G.1) (ci := 5) (v := .ref ((ad (10 + tq9)) 3)) (C := RX6) (T := TX6) (N := 3) X.1 X.2.1 X.2.2.1 gX6 X.2.2.2.1 X.2.2.2.2.1.1 w 2 rfl rfl 2 (by decide) (va_Nw.use rfl (X.2.2.2.2.1.2 _ wq_X7_295)) (fun _ h9 => h9) rfl hdg kk
end Lm_c7_copy1
set_option maxHeartbeats 4000000 in
set_option maxRecDepth 100000 in
theorem c7_copy1 (l : Launch) (G : CG) (a : Nat → Nat) (ad : Nat → Nat → Nat) (zt : RS) (tq9 : Nat) (z : RS) (xa9 : Int32) (xi9 : Int32) (xb9 : Int32) (xj9 : Int32) (xn9 : Int32) (L N9 : Nat → Nat) (I9 : Nat → Nat → Int64) (hs : cSt z (L tq9) (N9 tq9) (I9 tq9)) (hq4 : tq9 < 4) (hx9 : 0 ≤ xa9.toInt ∧ xa9.toInt ≤ 3 → xa9 = nI tq9) (hy9 : 0 ≤ xb9.toInt ∧ xb9.toInt ≤ 3 → xb9 = nI tq9) : cMi G l yX7_copy cX7_copy 8 (some .int) 2 100 [.ref (a 0), .int xa9, .int xi9, .int xb9, .int xj9, .int xn9] (fun q9 : RS => wO G a ad zt ++ w6 G (ad (10 + tq9)) q9) z (fun r z9 => r = an_copy L N9 xa9 xi9 xb9 xj9 xn9 ∧ cSt z9 (L tq9) (N9 tq9) (ni_copy L N9 I9 xa9 xi9 xb9 xj9 xn9 tq9)) := by
  refine cMi_in (by decide) rfl (Nat.le_of_ble_eq_true rfl) ?_
  intro p e s m args below meth c A ls X hml hr hk hl w
  have hx := X.1
  have hb := X.2.1
  have hts := X.2.2.1
  have hown := X.2.2.2.1
  have hl : lv_has ls 8 [(0, .ref (a 0)), (1, .int xa9), (2, .int xi9), (3, .int xb9), (4, .int xj9), (5, .int xn9)] := hl
  obtain ⟨s1, s2, s3, s4, s5⟩ := id hs
  obtain ⟨t1, t2, t3, t4, t5⟩ := id hs
  refine lv_iload_n hx hb dX7_copy_0 rfl (lv_at hl 1 rfl) ?_
  refine gc_s (C := RX7) (rest := []) ⟨X.1, X.2.1, X.2.2.1, X.2.2.2.1⟩ hml hl.1 (c7_isSheet l xa9) ok7_isSheet wm_X7_216 ⟨Nat.le_of_ble_eq_true rfl, Nat.le_of_ble_eq_true rfl⟩ ⟨Nat.le_refl _, Nat.le_refl _⟩ rfl (Nat.le_of_ble_eq_true rfl) dX7_copy_1 (fun r_1 hr_1 => ?_) rfl
  subst hr_1
  have d_1 := pc_inI_ok xa9.toInt 0 3
  refine n_if_eq (tgt := 14) hx hb dX7_copy_4 (by decide) (by omega) (fun c_4_1 => ?_) (fun c_4_1 => ?_)
  · skip
    refine lv_iconst (v := (iZ (-1))) hx hb dX7_copy_14 (by decide) ?_
    exact ce_i (w := (fun q9 : RS => wO G a ad zt ++ w6 G (ad (10 + tq9)) q9)) (z := z) X hr hk w (⟨by unfold an_copy; rw [if_neg (by omega)], by unfold ni_copy; rw [if_neg (by omega)]; exact hs⟩) dX7_copy_15
  · skip
    refine lv_iload_n hx hb dX7_copy_7 rfl (lv_at hl 3 rfl) ?_
    refine gc_s (C := RX7) (rest := []) ⟨X.1, X.2.1, X.2.2.1, X.2.2.2.1⟩ hml hl.1 (c7_isSheet l xb9) ok7_isSheet wm_X7_216 ⟨Nat.le_of_ble_eq_true rfl, Nat.le_of_ble_eq_true rfl⟩ ⟨Nat.le_refl _, Nat.le_refl _⟩ rfl (Nat.le_of_ble_eq_true rfl) dX7_copy_8 (fun r_8 hr_8 => ?_) rfl
    subst hr_8
    have d_8 := pc_inI_ok xb9.toInt 0 3
    refine n_if_ne (tgt := 16) hx hb dX7_copy_11 (by decide) (by omega) (fun c_11_2 => ?_) (fun c_11_2 => ?_)
    · skip
      have et_tq9 := hx9 (by omega)
      have eu_tq9 : xa9.toInt = (tq9 : Int) := by rw [et_tq9]; exact nI_toInt (by omega)
      have hl : lv_has ls 8 [(0, .ref (a 0)), (1, .int (nI tq9)), (2, .int xi9), (3, .int xb9), (4, .int xj9), (5, .int xn9)] := by rw [← et_tq9]; exact hl
      have et_b := hy9 (by omega)
      have eu_b : xb9.toInt = (tq9 : Int) := by rw [et_b]; exact nI_toInt (by omega)
      have hl : lv_has ls 8 [(0, .ref (a 0)), (1, .int (nI tq9)), (2, .int xi9), (3, .int (nI tq9)), (4, .int xj9), (5, .int xn9)] := by have e9 : xb9 = nI tq9 := et_b; rw [e9] at hl; exact hl
      refine lv_aload_n hx hb dX7_copy_16 rfl (lv_at hl 0 rfl) ?_
      refine ag_XH_X7_45_this X w.1 dX7_copy_17 ?_
      refine lv_iload_n hx hb dX7_copy_20 rfl (lv_at hl 1 rfl) ?_
      refine aq_XH X w.1 (by omega) dX7_copy_21 ?_
      refine lv_astore (lv' := [(6, .ref ((ad (10 + tq9)) 0)), (0, .ref (a 0)), (1, .int (nI tq9)), (2, .int xi9), (3, .int (nI tq9)), (4, .int xj9), (5, .int xn9)]) hx hb dX7_copy_22 hl (by decide) rfl (fun ls hl => ?_)
      refine lv_aload_n hx hb dX7_copy_24 rfl (lv_at hl 1 rfl) ?_
      refine ag_XH_X7_45_this X w.1 dX7_copy_25 ?_
      refine lv_iload_n hx hb dX7_copy_28 rfl (lv_at hl 4 rfl) ?_
      refine aq_XH X w.1 (by omega) dX7_copy_29 ?_
      refine lv_astore (lv' := [(7, .ref ((ad (10 + tq9)) 0)), (6, .ref ((ad (10 + tq9)) 0)), (0, .ref (a 0)), (1, .int (nI tq9)), (2, .int xi9), (3, .int (nI tq9)), (4, .int xj9), (5, .int xn9)]) hx hb dX7_copy_30 hl (by decide) rfl (fun ls hl => ?_)
      refine lv_aload hx hb dX7_copy_32 (lv_at hl 1 rfl) ?_
      refine gc_p (C := RX6) (ci := 5) (rest := []) X hml hl.1 (c6_isThere l G (ad (10 + tq9)) z  L N9 I9 tq9 hs ) ok6_isThere wm_X7_279 ⟨Nat.le_of_ble_eq_true rfl, Nat.le_of_ble_eq_true rfl⟩ ⟨Nat.le_refl _, Nat.le_refl _⟩ w.1 [2, 3] rfl rfl rfl rfl (Nat.le_of_ble_eq_true rfl) dX7_copy_34 (fun r_34 hr_34 => ?_)
      subst hr_34
      have d_34 : ((if L tq9 = 0 then 0 else 1) = 0 ∧ L tq9 = 0) ∨ ((if L tq9 = 0 then 0 else 1) = 1 ∧ ¬ L tq9 = 0) := by by_cases q : L tq9 = 0; rw [if_pos q]; exact Or.inl ⟨rfl, q⟩; rw [if_neg q]; exact Or.inr ⟨rfl, q⟩
      refine n_if_eq (tgt := 48) hx hb dX7_copy_37 (by decide) (by omega) (fun c_37_3 => ?_) (fun c_37_3 => ?_)
      · skip
        refine lv_bipush (v := (iZ (-11))) hx hb dX7_copy_48 (by decide) ?_
        exact ce_i (w := (fun q9 : RS => wO G a ad zt ++ w6 G (ad (10 + tq9)) q9)) (z := z) X hr hk w (⟨by unfold an_copy; rw [if_pos (by omega), show xa9.toInt.toNat = tq9 by omega, show xb9.toInt.toNat = tq9 by omega, if_pos (by omega)], by unfold ni_copy; rw [if_neg (by rw [show xa9.toInt.toNat = tq9 by omega, show xb9.toInt.toNat = tq9 by omega]; omega)]; exact hs⟩) dX7_copy_50
      · skip
        refine lv_aload hx hb dX7_copy_40 (lv_at hl 0 rfl) ?_
        refine gc_p (C := RX6) (ci := 5) (rest := []) X hml hl.1 (c6_isThere l G (ad (10 + tq9)) z  L N9 I9 tq9 hs ) ok6_isThere wm_X7_279 ⟨Nat.le_of_ble_eq_true rfl, Nat.le_of_ble_eq_true rfl⟩ ⟨Nat.le_refl _, Nat.le_refl _⟩ w.1 [2, 3] rfl rfl rfl rfl (Nat.le_of_ble_eq_true rfl) dX7_copy_42 (fun r_42 hr_42 => ?_)
        subst hr_42
        have d_42 : ((if L tq9 = 0 then 0 else 1) = 0 ∧ L tq9 = 0) ∨ ((if L tq9 = 0 then 0 else 1) = 1 ∧ ¬ L tq9 = 0) := by by_cases q : L tq9 = 0; rw [if_pos q]; exact Or.inl ⟨rfl, q⟩; rw [if_neg q]; exact Or.inr ⟨rfl, q⟩
        refine n_if_ne (tgt := 51) hx hb dX7_copy_45 (by decide) (by omega) (fun c_45_4 => ?_) (fun c_45_4 => ?_)
        · skip
          refine lv_aload hx hb dX7_copy_51 (lv_at hl 1 rfl) ?_
          refine ag_XH_X7_288_sh X w.1 dX7_copy_53 ?_
          refine tp_i (show z.1 0 = (iZ (((L tq9 : Nat) : Int) - (1 : Int))) from s1) ?_
          refine lv_aload hx hb dX7_copy_56 (lv_at hl 0 rfl) ?_
          refine ag_XH_X7_288_sh X w.1 dX7_copy_58 ?_
          refine tp_i (show z.1 0 = (iZ (((L tq9 : Nat) : Int) - (1 : Int))) from s1) ?_
          refine z_icmp_eq (tgt := 67) hx hb dX7_copy_61 (by decide) (by omega) (by omega) (by omega) (by omega) (fun c_61_5 => ?_) (fun c_61_5 => ?_)
          · skip
            refine lv_aload hx hb dX7_copy_67 (lv_at hl 1 rfl) ?_
            refine lv_iload_n hx hb dX7_copy_69 rfl (lv_at hl 4 rfl) ?_
            refine lv_iload hx hb dX7_copy_70 (lv_at hl 7 rfl) ?_
            refine gc_p (C := RX6) (ci := 5) (rest := []) X hml hl.1 (c6_holds l G (ad (10 + tq9)) z xi9 xn9 L N9 I9 tq9 hs) ok6_holds wm_X7_291 ⟨Nat.le_of_ble_eq_true rfl, Nat.le_of_ble_eq_true rfl⟩ ⟨Nat.le_refl _, Nat.le_refl _⟩ w.1 [2, 3] rfl rfl rfl rfl (Nat.le_of_ble_eq_true rfl) dX7_copy_72 (fun r_72 hr_72 => ?_)
            subst hr_72
            refine tp_i (congrArg nI (by rw [show (xi9).toInt = xi9.toInt from rfl, show (xn9).toInt = xn9.toInt from rfl] : _ = pw_h (N9 tq9) xi9.toInt xn9.toInt)) ?_
            have d_72 := h_ok (N9 tq9) xi9.toInt xn9.toInt
            refine n_if_eq (tgt := 90) hx hb dX7_copy_75 (by decide) (by omega) (fun c_75_6 => ?_) (fun c_75_6 => ?_)
            · skip
              refine lv_bipush (v := (iZ (-13))) hx hb dX7_copy_90 (by decide) ?_
              exact ce_i (w := (fun q9 : RS => wO G a ad zt ++ w6 G (ad (10 + tq9)) q9)) (z := z) X hr hk w (⟨by unfold an_copy; rw [if_pos (by omega), show xa9.toInt.toNat = tq9 by omega, show xb9.toInt.toNat = tq9 by omega, if_neg (by omega), if_pos (by omega), if_neg (by omega)], by unfold ni_copy; rw [if_neg (by rw [show xa9.toInt.toNat = tq9 by omega, show xb9.toInt.toNat = tq9 by omega]; omega)]; exact hs⟩) dX7_copy_92
            · skip
              refine lv_aload hx hb dX7_copy_78 (lv_at hl 0 rfl) ?_
              refine lv_iload hx hb dX7_copy_80 (lv_at hl 6 rfl) ?_
              refine lv_iload hx hb dX7_copy_82 (lv_at hl 7 rfl) ?_
              refine gc_p (C := RX6) (ci := 5) (rest := []) X hml hl.1 (c6_holds l G (ad (10 + tq9)) z xj9 xn9 L N9 I9 tq9 hs) ok6_holds wm_X7_291 ⟨Nat.le_of_ble_eq_true rfl, Nat.le_of_ble_eq_true rfl⟩ ⟨Nat.le_refl _, Nat.le_refl _⟩ w.1 [2, 3] rfl rfl rfl rfl (Nat.le_of_ble_eq_true rfl) dX7_copy_84 (fun r_84 hr_84 => ?_)
              subst hr_84
              refine tp_i (congrArg nI (by rw [show (xj9).toInt = xj9.toInt from rfl, show (xn9).toInt = xn9.toInt from rfl] : _ = pw_h (N9 tq9) xj9.toInt xn9.toInt)) ?_
              have d_84 := h_ok (N9 tq9) xj9.toInt xn9.toInt
              refine n_if_ne (tgt := 93) hx hb dX7_copy_87 (by decide) (by omega) (fun c_87_7 => ?_) (fun c_87_7 => ?_)
              · skip
                obtain ⟨ki, hk_ki, ek_ki⟩ := iv_n (x := xi9) (by omega)
                have hl : lv_has ls 8 [(7, .ref ((ad (10 + tq9)) 0)), (6, .ref ((ad (10 + tq9)) 0)), (0, .ref (a 0)), (1, .int (nI tq9)), (2, .int (nI ki)), (3, .int (nI tq9)), (4, .int xj9), (5, .int xn9)] := by rw [← ek_ki]; exact hl
                obtain ⟨kj, hk_kj, ek_kj⟩ := iv_n (x := xj9) (by omega)
                have hl : lv_has ls 8 [(7, .ref ((ad (10 + tq9)) 0)), (6, .ref ((ad (10 + tq9)) 0)), (0, .ref (a 0)), (1, .int (nI tq9)), (2, .int (nI ki)), (3, .int (nI tq9)), (4, .int (nI kj)), (5, .int xn9)] := by rw [← ek_kj]; exact hl
                obtain ⟨kn, hk_kn, ek_kn⟩ := iv_n (x := xn9) (by omega)
                have hl : lv_has ls 8 [(7, .ref ((ad (10 + tq9)) 0)), (6, .ref ((ad (10 + tq9)) 0)), (0, .ref (a 0)), (1, .int (nI tq9)), (2, .int (nI ki)), (3, .int (nI tq9)), (4, .int (nI kj)), (5, .int (nI kn))] := by rw [← ek_kn]; exact hl
                refine lv_aload hx hb dX7_copy_93 (lv_at hl 1 rfl) ?_
                refine ag_XH_X7_295_sh X w.1 dX7_copy_95 ?_
                refine lv_iload_n hx hb dX7_copy_98 rfl (lv_at hl 4 rfl) ?_
                refine lv_aload hx hb dX7_copy_99 (lv_at hl 0 rfl) ?_
                refine ag_XH_X7_295_sh X w.1 dX7_copy_101 ?_
                refine lv_iload hx hb dX7_copy_104 (lv_at hl 6 rfl) ?_
                refine lv_iload hx hb dX7_copy_106 (lv_at hl 7 rfl) ?_
                refine gcp_l (rest := []) X hml hl.1 wm_X7_299 ⟨Nat.le_of_ble_eq_true rfl, Nat.le_of_ble_eq_true rfl⟩ w 3 3 rfl rfl (by omega) (by omega) (by decide) (Nat.le_of_ble_eq_true rfl) dX7_copy_108 (fun H locs w => ?_)
                obtain ⟨z_108, ez_108⟩ : ∃ q9 : RS, q9 = (sCL z 2 (va_cpy (z.2.2 2) (z.2.2 2) ki kj kn)) := ⟨_, rfl⟩
                have w : cW G A s (wO G a ad zt ++ w6 G (ad (10 + tq9)) z_108) H locs := by rw [ez_108]; exact w
                refine lv_iload hx hb dX7_copy_111 (lv_at hl 7 rfl) ?_
                exact ce_i (w := (fun q9 : RS => wO G a ad zt ++ w6 G (ad (10 + tq9)) q9)) (z := z_108) X hr hk w (⟨by unfold an_copy; rw [if_pos (by omega), show xa9.toInt.toNat = tq9 by omega, show xb9.toInt.toNat = tq9 by omega, if_neg (by omega), if_pos (by omega), if_pos (by omega)]; exact ek_kn.symm, by unfold ni_copy; rw [show xa9.toInt.toNat = tq9 by omega, show xb9.toInt.toNat = tq9 by omega, show xi9.toInt.toNat = ki by omega, show xj9.toInt.toNat = kj by omega, show xn9.toInt.toNat = kn by omega, if_pos (by omega), put_at, ez_108]; exact st_cp hs hs (by omega) (by omega)⟩) dX7_copy_113
              · skip
                refine lv_bipush (v := (iZ (-13))) hx hb dX7_copy_90 (by decide) ?_
                exact ce_i (w := (fun q9 : RS => wO G a ad zt ++ w6 G (ad (10 + tq9)) q9)) (z := z) X hr hk w (⟨by unfold an_copy; rw [if_pos (by omega), show xa9.toInt.toNat = tq9 by omega, show xb9.toInt.toNat = tq9 by omega, if_neg (by omega), if_pos (by omega), if_neg (by omega)], by unfold ni_copy; rw [if_neg (by rw [show xa9.toInt.toNat = tq9 by omega, show xb9.toInt.toNat = tq9 by omega]; omega)]; exact hs⟩) dX7_copy_92
          · skip
            refine lv_bipush (v := (iZ (-12))) hx hb dX7_copy_64 (by decide) ?_
            exact ce_i (w := (fun q9 : RS => wO G a ad zt ++ w6 G (ad (10 + tq9)) q9)) (z := z) X hr hk w (⟨by unfold an_copy; rw [if_pos (by omega), show xa9.toInt.toNat = tq9 by omega, show xb9.toInt.toNat = tq9 by omega, if_neg (by omega), if_neg (by omega)], by unfold ni_copy; rw [if_neg (by rw [show xa9.toInt.toNat = tq9 by omega, show xb9.toInt.toNat = tq9 by omega]; omega)]; exact hs⟩) dX7_copy_66
        · skip
          refine lv_bipush (v := (iZ (-11))) hx hb dX7_copy_48 (by decide) ?_
          exact ce_i (w := (fun q9 : RS => wO G a ad zt ++ w6 G (ad (10 + tq9)) q9)) (z := z) X hr hk w (⟨by unfold an_copy; rw [if_pos (by omega), show xa9.toInt.toNat = tq9 by omega, show xb9.toInt.toNat = tq9 by omega, if_pos (by omega)], by unfold ni_copy; rw [if_neg (by rw [show xa9.toInt.toNat = tq9 by omega, show xb9.toInt.toNat = tq9 by omega]; omega)]; exact hs⟩) dX7_copy_50
    · skip
      refine lv_iconst (v := (iZ (-1))) hx hb dX7_copy_14 (by decide) ?_
      exact ce_i (w := (fun q9 : RS => wO G a ad zt ++ w6 G (ad (10 + tq9)) q9)) (z := z) X hr hk w (⟨by unfold an_copy; rw [if_neg (by omega)], by unfold ni_copy; rw [if_neg (by omega)]; exact hs⟩) dX7_copy_15
