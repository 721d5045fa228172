/-! the law, the calls 10 to 14 -/
set_option maxRecDepth 20000 in
theorem la_10 {p : Program} {l : Launch} {e : Env} {s : State} {m : MethodId} {args : Array Value} {below : List Frame} {meth : Method} {c : Code} {H : Heap} {locs : List Loc} {cells slots : Nat} {Q : State → Prop} {ls : Array Slot} {G : CG} {A : Nat → Prop} {b0 L i b : Nat} {xs : Nat → Int32} {a : Nat → Nat} {ad : Nat → Nat → Nat} {rd : Nat → Nat} {zt sc pa ks kp ta dr fo tr ch : RS} {sh : Nat → RS} {zr : RS} (U : lU p s m args c G A b0 L xs i cells slots a b ls) (hI : iV zt sc pa ks kp ta sh zr) (w : cW G A s (bLs G a ad b rd zt sc pa ks kp ta dr fo tr ch sh zr).flatten H locs) (kk : lG p l e s m args below meth c cells slots Q ls G A a ad b rd) : W p l e room_1 s m args below meth c H locs cells slots Q (F0 m 438 ls []) := by
  obtain ⟨X, hml, hT, hX, hbl, hbA, hL, hi, hf, hl⟩ := U
  obtain ⟨⟨S, u, x, P, hv, hsc, hrs, hcp, hrp, hlp⟩, ⟨n, T, hct⟩, ⟨Lh, N9, I9, hih⟩, h6, hlt, hM⟩ := hI
  have hx := X.1
  have hb := X.2.1
  refine lv_aload_n hx hb dL_law_438 rfl (lv_at hl 1 rfl) ?_
  obtain ⟨wr, w1, bk⟩ := bq_c2 w
  refine gl_i (own := RL) (C := RX7) (ci := 6) (rest := []) X hml hl.1 (c7_moment l G a ad zt (sc, pa) S hsc hv.1 u x P hcp hv.2.1 (zr.2.1 5) (rSc_nw hrs)) ok7_moment wm_L_57 ⟨Nat.le_of_ble_eq_true rfl, Nat.le_of_ble_eq_true rfl⟩ hf w1 rfl rfl rfl (Nat.le_of_ble_eq_true rfl) dL_law_439 (fun r1 z1 H locs hr1 w1 => ?_)
  have w := bk z1.1 z1.2 H locs w1
  refine lv_aload_n hx hb dL_law_442 rfl (lv_at hl 2 rfl) ?_
  obtain ⟨wr2, w3, bk2⟩ := bq_cR w
  refine gr_i (own := RL) (rest := [.int r1]) X hml hl.1 (k_moment l (gR G b rd) zr S hrs hv.1 h6 hv.2.1 u P hrp) ok_moment wm_L_60 ⟨Nat.le_of_ble_eq_true rfl, Nat.le_of_ble_eq_true rfl⟩ hf w3 rfl (Nat.le_of_ble_eq_true rfl) dL_law_443 (fun r2 z2 H locs hr2 w3 => ?_)
  have w := bk2 z2 H locs w3
  have hF := fx_of hr2.2.2.2
  have hW : ∃ (S : Sc) (u x : Nat) (P : Nat → Nat → Int32), iW z1.1 z1.2 z2 S u x P := by
    have g1 := hr1.2.2
    have g2 := hr2.2.2.1
    unfold np_mom at g2
    by_cases q9 : sp_over S = 0 ∧ ¬ S.1 3 = 400
    · rw [if_pos q9] at g1 g2
      exact ⟨nx_mom S, pa_n u, (x + 1) % 8, pa_put u P (zr.2.1 5), vS_mom hv, hr1.2.1, hr2.2.1, (by rw [(lE_mom S).1]; exact g1), g2, lP_mom hv hlp hrp.2.1 (rSc_nw hrs)⟩
    · rw [if_neg q9] at g1 g2
      have e9 : nx_mom S = S := if_neg q9
      exact ⟨nx_mom S, u, x, P, vS_mom hv, hr1.2.1, hr2.2.1, (by rw [(lE_mom S).1]; exact g1), g2, (by rw [e9]; exact hlp)⟩
  refine lv_icmp_eq (tgt := 1078) hx hb dL_law_446 (by decide) (fun _ => ?_) (fun c9 => absurd (hr1.1.trans hr2.1.symm) c9)
  exact kk _ _ _ _ _ _ _ _ _ _ _ _ _ _ (⟨hW, ⟨n, T, iT_fx hct hF (by decide) (by decide)⟩, ⟨Lh, N9, I9, iH_fx hih hF (by decide) (by decide) (by decide)⟩, (hF.1 6 (by decide)).trans h6, iL_fx hlt hF (by decide), iM_fx hM hF (by decide) (by decide)⟩) w
set_option maxRecDepth 20000 in
theorem la_11 {p : Program} {l : Launch} {e : Env} {s : State} {m : MethodId} {args : Array Value} {below : List Frame} {meth : Method} {c : Code} {H : Heap} {locs : List Loc} {cells slots : Nat} {Q : State → Prop} {ls : Array Slot} {G : CG} {A : Nat → Prop} {b0 L i b : Nat} {xs : Nat → Int32} {a : Nat → Nat} {ad : Nat → Nat → Nat} {rd : Nat → Nat} {zt sc pa ks kp ta dr fo tr ch : RS} {sh : Nat → RS} {zr : RS} (U : lU p s m args c G A b0 L xs i cells slots a b ls) (hI : iV zt sc pa ks kp ta sh zr) (w : cW G A s (bLs G a ad b rd zt sc pa ks kp ta dr fo tr ch sh zr).flatten H locs) (kk : lG p l e s m args below meth c cells slots Q ls G A a ad b rd) : W p l e room_1 s m args below meth c H locs cells slots Q (F0 m 451 ls []) := by
  obtain ⟨X, hml, hT, hX, hbl, hbA, hL, hi, hf, hl⟩ := U
  obtain ⟨⟨S, u, x, P, hv, hsc, hrs, hcp, hrp, hlp⟩, ⟨n, T, hct⟩, ⟨Lh, N9, I9, hih⟩, h6, hlt, hM⟩ := hI
  have hx := X.1
  have hb := X.2.1
  refine lv_aload_n hx hb dL_law_451 rfl (lv_at hl 1 rfl) ?_
  obtain ⟨wr, w1, bk⟩ := bq_c1 w
  refine gl_i (own := RL) (C := RX7) (ci := 6) (rest := []) X hml hl.1 (c7_turn l G a ad zt sc S hsc hv.1) ok7_turn wm_L_61 ⟨Nat.le_of_ble_eq_true rfl, Nat.le_of_ble_eq_true rfl⟩ hf w1 rfl rfl rfl (Nat.le_of_ble_eq_true rfl) dL_law_452 (fun r1 z1 H locs hr1 w1 => ?_)
  have w := bk z1 H locs w1
  refine lv_aload_n hx hb dL_law_455 rfl (lv_at hl 2 rfl) ?_
  obtain ⟨wr2, w3, bk2⟩ := bq_cR w
  refine gr_i (own := RL) (rest := [.int r1]) X hml hl.1 (k_turn l (gR G b rd) zr S hrs hv.1 h6) ok_turn wm_L_64 ⟨Nat.le_of_ble_eq_true rfl, Nat.le_of_ble_eq_true rfl⟩ hf w3 rfl (Nat.le_of_ble_eq_true rfl) dL_law_456 (fun r2 z2 H locs hr2 w3 => ?_)
  have w := bk2 z2 H locs w3
  have hF := fx_of hr2.2.2
  refine lv_icmp_eq (tgt := 1078) hx hb dL_law_459 (by decide) (fun _ => ?_) (fun c9 => absurd (hr1.1.trans hr2.1.symm) c9)
  exact kk _ _ _ _ _ _ _ _ _ _ _ _ _ _ (⟨⟨nx_turn S , u, x, P, vS_turn hv , hr1.2, hr2.2.1, (by rw [(lE_turn S).1]; exact hcp), fx_pa hrp hF (by decide) (by decide), lP_turn hlp ⟩, ⟨n, T, iT_fx hct hF (by decide) (by decide)⟩, ⟨Lh, N9, I9, iH_fx hih hF (by decide) (by decide) (by decide)⟩, (hF.1 6 (by decide)).trans h6, iL_fx hlt hF (by decide), iM_fx hM hF (by decide) (by decide)⟩) w
set_option maxRecDepth 20000 in
theorem la_12 {p : Program} {l : Launch} {e : Env} {s : State} {m : MethodId} {args : Array Value} {below : List Frame} {meth : Method} {c : Code} {H : Heap} {locs : List Loc} {cells slots : Nat} {Q : State → Prop} {ls : Array Slot} {G : CG} {A : Nat → Prop} {b0 L i b : Nat} {xs : Nat → Int32} {a : Nat → Nat} {ad : Nat → Nat → Nat} {rd : Nat → Nat} {zt sc pa ks kp ta dr fo tr ch : RS} {sh : Nat → RS} {zr : RS} (U : lU p s m args c G A b0 L xs i cells slots a b ls) (hI : iV zt sc pa ks kp ta sh zr) (w : cW G A s (bLs G a ad b rd zt sc pa ks kp ta dr fo tr ch sh zr).flatten H locs) (kk : lG p l e s m args below meth c cells slots Q ls G A a ad b rd) : W p l e room_1 s m args below meth c H locs cells slots Q (F0 m 464 ls []) := by
  obtain ⟨X, hml, hT, hX, hbl, hbA, hL, hi, hf, hl⟩ := U
  obtain ⟨⟨S, u, x, P, hv, hsc, hrs, hcp, hrp, hlp⟩, ⟨n, T, hct⟩, ⟨Lh, N9, I9, hih⟩, h6, hlt, hM⟩ := hI
  have hx := X.1
  have hb := X.2.1
  refine lv_aload_n hx hb dL_law_464 rfl (lv_at hl 1 rfl) ?_
  obtain ⟨Qa9, hQa, hQb⟩ : ∃ Q : Sc, (¬ u = 0 → rNw (P (u - 1)) Q) ∧ (¬ u = 0 → vS (sc_at S Q) ∧ lE (S.1 1) Q S ∧ lP (sc_at S Q) (u - 1) P) := by
    by_cases q9 : u = 0
    · exact ⟨S, fun h9 => absurd q9 h9, fun h9 => absurd q9 h9⟩
    · obtain ⟨Q9, o1, o2, o3, o4⟩ := lP_undo hlp q9
      exact ⟨Q9, fun _ => o1, fun _ => ⟨o2, o3, o4⟩⟩
  obtain ⟨wr, w1, bk⟩ := bq_c2 w
  refine gl_i (own := RL) (C := RX7) (ci := 6) (rest := []) X hml hl.1 (c7_undo l G a ad zt (sc, pa) S hsc hv.1 u x P hcp) ok7_undo wm_L_65 ⟨Nat.le_of_ble_eq_true rfl, Nat.le_of_ble_eq_true rfl⟩ hf w1 rfl rfl rfl (Nat.le_of_ble_eq_true rfl) dL_law_465 (fun r1 z1 H locs hr1 w1 => ?_)
  have w := bk z1.1 z1.2 H locs w1
  refine lv_aload_n hx hb dL_law_468 rfl (lv_at hl 2 rfl) ?_
  obtain ⟨wr2, w3, bk2⟩ := bq_cR w
  refine gr_i (own := RL) (rest := [.int r1]) X hml hl.1 (k_undo l (gR G b rd) zr S Qa9 hrs u P hrp hQa) ok_undo wm_L_68 ⟨Nat.le_of_ble_eq_true rfl, Nat.le_of_ble_eq_true rfl⟩ hf w3 rfl (Nat.le_of_ble_eq_true rfl) dL_law_469 (fun r2 z2 H locs hr2 w3 => ?_)
  have w := bk2 z2 H locs w3
  have hF := fx_of hr2.2.2.2
  have hW : ∃ (S : Sc) (u x : Nat) (P : Nat → Nat → Int32), iW z1.1 z1.2 z2 S u x P := by
    have g2 := hr2.2.1
    have g3 := hr2.2.2.1
    by_cases q9 : u = 0
    · rw [if_pos q9] at g2
      obtain ⟨f1, f2⟩ := hr1.2.1 q9
      exact ⟨S, u, x, P, hv, f1, g2, f2, (by rw [q9] at g3 ⊢; exact g3), hlp⟩
    · rw [if_neg q9] at g2
      obtain ⟨f1, f2⟩ := hr1.2.2 q9
      obtain ⟨o2, o3, o4⟩ := hQb q9
      exact ⟨sc_at S Qa9, u - 1, (x + 8 - 1) % 8, P, o2, bk_sc f2 hsc (hQa q9) hcp.2.2.2.2.1 o3.2, g2, f1, g3, o4⟩
  refine lv_icmp_eq (tgt := 1078) hx hb dL_law_472 (by decide) (fun _ => ?_) (fun c9 => absurd (hr1.1.trans hr2.1.symm) c9)
  exact kk _ _ _ _ _ _ _ _ _ _ _ _ _ _ (⟨hW, ⟨n, T, iT_fx hct hF (by decide) (by decide)⟩, ⟨Lh, N9, I9, iH_fx hih hF (by decide) (by decide) (by decide)⟩, (hF.1 6 (by decide)).trans h6, iL_fx hlt hF (by decide), iM_fx hM hF (by decide) (by decide)⟩) w
set_option maxRecDepth 20000 in
theorem la_13 {p : Program} {l : Launch} {e : Env} {s : State} {m : MethodId} {args : Array Value} {below : List Frame} {meth : Method} {c : Code} {H : Heap} {locs : List Loc} {cells slots : Nat} {Q : State → Prop} {ls : Array Slot} {G : CG} {A : Nat → Prop} {b0 L i b : Nat} {xs : Nat → Int32} {a : Nat → Nat} {ad : Nat → Nat → Nat} {rd : Nat → Nat} {zt sc pa ks kp ta dr fo tr ch : RS} {sh : Nat → RS} {zr : RS} (U : lU p s m args c G A b0 L xs i cells slots a b ls) (hI : iV zt sc pa ks kp ta sh zr) (w : cW G A s (bLs G a ad b rd zt sc pa ks kp ta dr fo tr ch sh zr).flatten H locs) (kk : lG p l e s m args below meth c cells slots Q ls G A a ad b rd) : W p l e room_1 s m args below meth c H locs cells slots Q (F0 m 477 ls []) := by
  obtain ⟨X, hml, hT, hX, hbl, hbA, hL, hi, hf, hl⟩ := U
  obtain ⟨⟨S, u, x, P, hv, hsc, hrs, hcp, hrp, hlp⟩, ⟨n, T, hct⟩, ⟨Lh, N9, I9, hih⟩, h6, hlt, hM⟩ := hI
  have hx := X.1
  have hb := X.2.1
  refine lv_aload_n hx hb dL_law_477 rfl (lv_at hl 1 rfl) ?_
  refine la_ld X hX hbl hbA w hl (k := 1) (by decide) (by omega) hL dL_law_478 dL_law_479 dL_law_480 dL_law_481 dL_law_482 ?_
  obtain ⟨wr, w1, bk⟩ := bq_c1 w
  refine gl_i (own := RL) (C := RX7) (ci := 6) (rest := []) X hml hl.1 (c7_seed l G a ad zt sc (xs (i + 1)) S hsc hv.1) ok7_seed wm_L_69 ⟨Nat.le_of_ble_eq_true rfl, Nat.le_of_ble_eq_true rfl⟩ hf w1 rfl rfl rfl (Nat.le_of_ble_eq_true rfl) dL_law_483 (fun r1 z1 H locs hr1 w1 => ?_)
  have w := bk z1 H locs w1
  refine lv_aload_n hx hb dL_law_486 rfl (lv_at hl 2 rfl) ?_
  refine la_ld X hX hbl hbA w hl (k := 1) (by decide) (by omega) hL dL_law_487 dL_law_488 dL_law_489 dL_law_490 dL_law_491 ?_
  obtain ⟨wr2, w3, bk2⟩ := bq_cR w
  refine gr_i (own := RL) (rest := [.int r1]) X hml hl.1 (k_seed l (gR G b rd) zr (xs (i + 1)) S hrs hv.1) ok_seed wm_L_72 ⟨Nat.le_of_ble_eq_true rfl, Nat.le_of_ble_eq_true rfl⟩ hf w3 rfl (Nat.le_of_ble_eq_true rfl) dL_law_492 (fun r2 z2 H locs hr2 w3 => ?_)
  have w := bk2 z2 H locs w3
  have hF := fx_of hr2.2.2
  refine lv_icmp_eq (tgt := 1078) hx hb dL_law_495 (by decide) (fun _ => ?_) (fun c9 => absurd (hr1.1.trans hr2.1.symm) c9)
  exact kk _ _ _ _ _ _ _ _ _ _ _ _ _ _ (⟨⟨nx_seed S (xs (i + 1)), u, x, P, vS_seed hv _, hr1.2, hr2.2.1, (by rw [(lE_seed S _).1]; exact hcp), fx_pa hrp hF (by decide) (by decide), lP_seed hlp _⟩, ⟨n, T, iT_fx hct hF (by decide) (by decide)⟩, ⟨Lh, N9, I9, iH_fx hih hF (by decide) (by decide) (by decide)⟩, (hF.1 6 (by decide)).trans h6, iL_fx hlt hF (by decide), iM_fx hM hF (by decide) (by decide)⟩) w
set_option maxRecDepth 20000 in
theorem la_14 {p : Program} {l : Launch} {e : Env} {s : State} {m : MethodId} {args : Array Value} {below : List Frame} {meth : Method} {c : Code} {H : Heap} {locs : List Loc} {cells slots : Nat} {Q : State → Prop} {ls : Array Slot} {G : CG} {A : Nat → Prop} {b0 L i b : Nat} {xs : Nat → Int32} {a : Nat → Nat} {ad : Nat → Nat → Nat} {rd : Nat → Nat} {zt sc pa ks kp ta dr fo tr ch : RS} {sh : Nat → RS} {zr : RS} (U : lU p s m args c G A b0 L xs i cells slots a b ls) (hI : iV zt sc pa ks kp ta sh zr) (w : cW G A s (bLs G a ad b rd zt sc pa ks kp ta dr fo tr ch sh zr).flatten H locs) (kk : lG p l e s m args below meth c cells slots Q ls G A a ad b rd) : W p l e room_1 s m args below meth c H locs cells slots Q (F0 m 500 ls []) := by
  obtain ⟨X, hml, hT, hX, hbl, hbA, hL, hi, hf, hl⟩ := U
  obtain ⟨⟨S, u, x, P, hv, hsc, hrs, hcp, hrp, hlp⟩, ⟨n, T, hct⟩, ⟨Lh, N9, I9, hih⟩, h6, hlt, hM⟩ := hI
  have hx := X.1
  have hb := X.2.1
  refine lv_aload_n hx hb dL_law_500 rfl (lv_at hl 1 rfl) ?_
  refine la_ld X hX hbl hbA w hl (k := 1) (by decide) (by omega) hL dL_law_501 dL_law_502 dL_law_503 dL_law_504 dL_law_505 ?_
  obtain ⟨wr, w1, bk⟩ := bq_c5 w
  refine gl_i (own := RL) (C := RX7) (ci := 6) (rest := []) X hml hl.1 (c7_chance l G a ad zt (sc, fo, tr, ch) (xs (i + 1)) S hsc hv.1 hv.2.1 (fun h9 => vS_cm hv h9)) ok7_chance wm_L_73 ⟨Nat.le_of_ble_eq_true rfl, Nat.le_of_ble_eq_true rfl⟩ hf w1 rfl rfl rfl (Nat.le_of_ble_eq_true rfl) dL_law_506 (fun r1 z1 H locs hr1 w1 => ?_)
  have w := bk z1.1 z1.2.1 z1.2.2.1 z1.2.2.2 H locs w1
  obtain ⟨U9, hU9⟩ := hlt
  refine lv_aload_n hx hb dL_law_509 rfl (lv_at hl 2 rfl) ?_
  refine la_ld X hX hbl hbA w hl (k := 1) (by decide) (by omega) hL dL_law_510 dL_law_511 dL_law_512 dL_law_513 dL_law_514 ?_
  obtain ⟨wr2, w3, bk2⟩ := bq_cR w
  refine gr_i (own := RL) (rest := [.int r1]) X hml hl.1 (k_chance l (gR G b rd) zr (xs (i + 1)) S hrs hv.1 h6 U9 hU9 (Nat.le_trans hv.2.1 (by decide))) ok_chance wm_L_76 ⟨Nat.le_of_ble_eq_true rfl, Nat.le_of_ble_eq_true rfl⟩ hf w3 rfl (Nat.le_of_ble_eq_true rfl) dL_law_515 (fun r2 z2 H locs hr2 w3 => ?_)
  have w := bk2 z2 H locs w3
  have hF := fx_of hr2.2.2.2
  refine lv_icmp_eq (tgt := 1078) hx hb dL_law_518 (by decide) (fun _ => ?_) (fun c9 => absurd (hr1.1.trans hr2.1.symm) c9)
  exact kk _ _ _ _ _ _ _ _ _ _ _ _ _ _ (⟨⟨S, u, x, P, hv, (by rw [hr1.2]; exact hsc), hr2.2.1, hcp, fx_pa hrp hF (by decide) (by decide), hlp⟩, ⟨n, T, iT_fx hct hF (by decide) (by decide)⟩, ⟨Lh, N9, I9, iH_fx hih hF (by decide) (by decide) (by decide)⟩, (hF.1 6 (by decide)).trans h6, hr2.2.2.1, iM_fx hM hF (by decide) (by decide)⟩) w
