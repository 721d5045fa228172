/-! the law, the calls 15 to 19 -/
set_option maxRecDepth 20000 in
theorem la_15 {p : Program} {l : Launch} {e : Env} {s : State} {m : MethodId} {args : Array Value} {below : List Frame} {meth : Method} {c : Code} {H : Heap} {locs : List Loc} {cells slots : Nat} {Q : State → Prop} {ls : Array Slot} {G : CG} {A : Nat → Prop} {b0 L i b : Nat} {xs : Nat → Int32} {a : Nat → Nat} {ad : Nat → Nat → Nat} {rd : Nat → Nat} {zt sc pa ks kp ta dr fo tr ch : RS} {sh : Nat → RS} {zr : RS} (U : lU p s m args c G A b0 L xs i cells slots a b ls) (hI : iV zt sc pa ks kp ta sh zr) (w : cW G A s (bLs G a ad b rd zt sc pa ks kp ta dr fo tr ch sh zr).flatten H locs) (kk : lG p l e s m args below meth c cells slots Q ls G A a ad b rd) : W p l e room_1 s m args below meth c H locs cells slots Q (F0 m 523 ls []) := by
  obtain ⟨X, hml, hT, hX, hbl, hbA, hL, hi, hf, hl⟩ := U
  obtain ⟨⟨S, u, x, P, hv, hsc, hrs, hcp, hrp, hlp⟩, ⟨n, T, hct⟩, ⟨Lh, N9, I9, hih⟩, h6, hlt, hM⟩ := hI
  have hx := X.1
  have hb := X.2.1
  refine lv_aload_n hx hb dL_law_523 rfl (lv_at hl 1 rfl) ?_
  refine la_ld X hX hbl hbA w hl (k := 1) (by decide) (by omega) hL dL_law_524 dL_law_525 dL_law_526 dL_law_527 dL_law_528 ?_
  obtain ⟨wr, w1, bk⟩ := bq_c5 w
  refine gl_i (own := RL) (C := RX7) (ci := 6) (rest := []) X hml hl.1 (c7_best l G a ad zt (sc, fo, tr, ch) (xs (i + 1)) S hsc hv.1 hv.2.1) ok7_best wm_L_77 ⟨Nat.le_of_ble_eq_true rfl, Nat.le_of_ble_eq_true rfl⟩ hf w1 rfl rfl rfl (Nat.le_of_ble_eq_true rfl) dL_law_529 (fun r1 z1 H locs hr1 w1 => ?_)
  have w := bk z1.1 z1.2.1 z1.2.2.1 z1.2.2.2 H locs w1
  refine lv_aload_n hx hb dL_law_532 rfl (lv_at hl 2 rfl) ?_
  refine la_ld X hX hbl hbA w hl (k := 1) (by decide) (by omega) hL dL_law_533 dL_law_534 dL_law_535 dL_law_536 dL_law_537 ?_
  obtain ⟨wr2, w3, bk2⟩ := bq_cR w
  refine gr_i (own := RL) (rest := [.int r1]) X hml hl.1 (k_best l (gR G b rd) zr (xs (i + 1)) S hrs hv.1 h6 hlt hv.2.1) ok_best wm_L_80 ⟨Nat.le_of_ble_eq_true rfl, Nat.le_of_ble_eq_true rfl⟩ hf w3 rfl (Nat.le_of_ble_eq_true rfl) dL_law_538 (fun r2 z2 H locs hr2 w3 => ?_)
  have w := bk2 z2 H locs w3
  have hF := fx_of hr2.2.2.2
  refine lv_icmp_eq (tgt := 1078) hx hb dL_law_541 (by decide) (fun _ => ?_) (fun c9 => absurd (hr1.1.trans hr2.1.symm) c9)
  exact kk _ _ _ _ _ _ _ _ _ _ _ _ _ _ (⟨⟨S, u, x, P, hv, (by rw [hr1.2]; exact hsc), hr2.2.1, hcp, fx_pa hrp hF (by decide) (by decide), hlp⟩, ⟨n, T, iT_fx hct hF (by decide) (by decide)⟩, ⟨Lh, N9, I9, iH_fx hih hF (by decide) (by decide) (by decide)⟩, (hF.1 6 (by decide)).trans h6, hr2.2.2.1, iM_fx hM hF (by decide) (by decide)⟩) w
set_option maxRecDepth 20000 in
theorem la_16 {p : Program} {l : Launch} {e : Env} {s : State} {m : MethodId} {args : Array Value} {below : List Frame} {meth : Method} {c : Code} {H : Heap} {locs : List Loc} {cells slots : Nat} {Q : State → Prop} {ls : Array Slot} {G : CG} {A : Nat → Prop} {b0 L i b : Nat} {xs : Nat → Int32} {a : Nat → Nat} {ad : Nat → Nat → Nat} {rd : Nat → Nat} {zt sc pa ks kp ta dr fo tr ch : RS} {sh : Nat → RS} {zr : RS} (U : lU p s m args c G A b0 L xs i cells slots a b ls) (hI : iV zt sc pa ks kp ta sh zr) (w : cW G A s (bLs G a ad b rd zt sc pa ks kp ta dr fo tr ch sh zr).flatten H locs) (kk : lG p l e s m args below meth c cells slots Q ls G A a ad b rd) : W p l e room_1 s m args below meth c H locs cells slots Q (F0 m 546 ls []) := by
  obtain ⟨X, hml, hT, hX, hbl, hbA, hL, hi, hf, hl⟩ := U
  obtain ⟨⟨S, u, x, P, hv, hsc, hrs, hcp, hrp, hlp⟩, ⟨n, T, hct⟩, ⟨Lh, N9, I9, hih⟩, h6, hlt, hM⟩ := hI
  have hx := X.1
  have hb := X.2.1
  refine lv_aload_n hx hb dL_law_546 rfl (lv_at hl 1 rfl) ?_
  refine la_ld X hX hbl hbA w hl (k := 1) (by decide) (by omega) hL dL_law_547 dL_law_548 dL_law_549 dL_law_550 dL_law_551 ?_
  obtain ⟨wr, w1, bk⟩ := bq_c5 w
  refine gl_i (own := RL) (C := RX7) (ci := 6) (rest := []) X hml hl.1 (c7_late l G a ad zt (sc, fo, tr, ch) (xs (i + 1)) S hsc hv.1 hv.2.1) ok7_late wm_L_81 ⟨Nat.le_of_ble_eq_true rfl, Nat.le_of_ble_eq_true rfl⟩ hf w1 rfl rfl rfl (Nat.le_of_ble_eq_true rfl) dL_law_552 (fun r1 z1 H locs hr1 w1 => ?_)
  have w := bk z1.1 z1.2.1 z1.2.2.1 z1.2.2.2 H locs w1
  refine lv_aload_n hx hb dL_law_555 rfl (lv_at hl 2 rfl) ?_
  refine la_ld X hX hbl hbA w hl (k := 1) (by decide) (by omega) hL dL_law_556 dL_law_557 dL_law_558 dL_law_559 dL_law_560 ?_
  obtain ⟨wr2, w3, bk2⟩ := bq_cR w
  refine gr_i (own := RL) (rest := [.int r1]) X hml hl.1 (k_late l (gR G b rd) zr (xs (i + 1)) S hrs hv.1 h6 hlt hv.2.1) ok_late wm_L_84 ⟨Nat.le_of_ble_eq_true rfl, Nat.le_of_ble_eq_true rfl⟩ hf w3 rfl (Nat.le_of_ble_eq_true rfl) dL_law_561 (fun r2 z2 H locs hr2 w3 => ?_)
  have w := bk2 z2 H locs w3
  have hF := fx_of hr2.2.2.2
  refine lv_icmp_eq (tgt := 1078) hx hb dL_law_564 (by decide) (fun _ => ?_) (fun c9 => absurd (hr1.1.trans hr2.1.symm) c9)
  exact kk _ _ _ _ _ _ _ _ _ _ _ _ _ _ (⟨⟨S, u, x, P, hv, (by rw [hr1.2]; exact hsc), hr2.2.1, hcp, fx_pa hrp hF (by decide) (by decide), hlp⟩, ⟨n, T, iT_fx hct hF (by decide) (by decide)⟩, ⟨Lh, N9, I9, iH_fx hih hF (by decide) (by decide) (by decide)⟩, (hF.1 6 (by decide)).trans h6, hr2.2.2.1, iM_fx hM hF (by decide) (by decide)⟩) w
set_option maxRecDepth 20000 in
theorem la_17 {p : Program} {l : Launch} {e : Env} {s : State} {m : MethodId} {args : Array Value} {below : List Frame} {meth : Method} {c : Code} {H : Heap} {locs : List Loc} {cells slots : Nat} {Q : State → Prop} {ls : Array Slot} {G : CG} {A : Nat → Prop} {b0 L i b : Nat} {xs : Nat → Int32} {a : Nat → Nat} {ad : Nat → Nat → Nat} {rd : Nat → Nat} {zt sc pa ks kp ta dr fo tr ch : RS} {sh : Nat → RS} {zr : RS} (U : lU p s m args c G A b0 L xs i cells slots a b ls) (hI : iV zt sc pa ks kp ta sh zr) (w : cW G A s (bLs G a ad b rd zt sc pa ks kp ta dr fo tr ch sh zr).flatten H locs) (kk : lG p l e s m args below meth c cells slots Q ls G A a ad b rd) : W p l e room_1 s m args below meth c H locs cells slots Q (F0 m 569 ls []) := by
  obtain ⟨X, hml, hT, hX, hbl, hbA, hL, hi, hf, hl⟩ := U
  obtain ⟨⟨S, u, x, P, hv, hsc, hrs, hcp, hrp, hlp⟩, ⟨n, T, hct⟩, ⟨Lh, N9, I9, hih⟩, h6, hlt, hM⟩ := hI
  have hx := X.1
  have hb := X.2.1
  refine lv_aload_n hx hb dL_law_569 rfl (lv_at hl 1 rfl) ?_
  refine la_ld X hX hbl hbA w hl (k := 1) (by decide) (by omega) hL dL_law_570 dL_law_571 dL_law_572 dL_law_573 dL_law_574 ?_
  refine la_ld X hX hbl hbA w hl (k := 2) (by decide) (by omega) hL dL_law_575 dL_law_576 dL_law_577 dL_law_578 dL_law_579 ?_
  obtain ⟨wr, w1, bk⟩ := bq_c5 w
  refine gl_i (own := RL) (C := RX7) (ci := 6) (rest := []) X hml hl.1 (c7_together l G a ad zt (sc, fo, tr, ch) (xs (i + 1)) (xs (i + 2)) S hsc hv.1 hv.2.1) ok7_together wm_L_85 ⟨Nat.le_of_ble_eq_true rfl, Nat.le_of_ble_eq_true rfl⟩ hf w1 rfl rfl rfl (Nat.le_of_ble_eq_true rfl) dL_law_580 (fun r1 z1 H locs hr1 w1 => ?_)
  have w := bk z1.1 z1.2.1 z1.2.2.1 z1.2.2.2 H locs w1
  refine lv_aload_n hx hb dL_law_583 rfl (lv_at hl 2 rfl) ?_
  refine la_ld X hX hbl hbA w hl (k := 1) (by decide) (by omega) hL dL_law_584 dL_law_585 dL_law_586 dL_law_587 dL_law_588 ?_
  refine la_ld X hX hbl hbA w hl (k := 2) (by decide) (by omega) hL dL_law_589 dL_law_590 dL_law_591 dL_law_592 dL_law_593 ?_
  obtain ⟨wr2, w3, bk2⟩ := bq_cR w
  refine gr_i (own := RL) (rest := [.int r1]) X hml hl.1 (k_together l (gR G b rd) zr (xs (i + 1)) (xs (i + 2)) S hrs hv.1 h6 hlt hv.2.1) ok_together wm_L_88 ⟨Nat.le_of_ble_eq_true rfl, Nat.le_of_ble_eq_true rfl⟩ hf w3 rfl (Nat.le_of_ble_eq_true rfl) dL_law_594 (fun r2 z2 H locs hr2 w3 => ?_)
  have w := bk2 z2 H locs w3
  have hF := fx_of hr2.2.2.2.2
  refine lv_icmp_eq (tgt := 1078) hx hb dL_law_597 (by decide) (fun _ => ?_) (fun c9 => absurd (hr1.1.trans hr2.1.symm) c9)
  exact kk _ _ _ _ _ _ _ _ _ _ _ _ _ _ (⟨⟨S, u, x, P, hv, (by rw [hr1.2]; exact hsc), hr2.2.1, hcp, fx_pa hrp hF (by decide) (by decide), hlp⟩, ⟨n, T, iT_fx hct hF (by decide) (by decide)⟩, ⟨Lh, N9, I9, iH_fx hih hF (by decide) (by decide) (by decide)⟩, hr2.2.2.2.1, hr2.2.2.1, iM_fx hM hF (by decide) (by decide)⟩) w
set_option maxRecDepth 20000 in
theorem la_18 {p : Program} {l : Launch} {e : Env} {s : State} {m : MethodId} {args : Array Value} {below : List Frame} {meth : Method} {c : Code} {H : Heap} {locs : List Loc} {cells slots : Nat} {Q : State → Prop} {ls : Array Slot} {G : CG} {A : Nat → Prop} {b0 L i b : Nat} {xs : Nat → Int32} {a : Nat → Nat} {ad : Nat → Nat → Nat} {rd : Nat → Nat} {zt sc pa ks kp ta dr fo tr ch : RS} {sh : Nat → RS} {zr : RS} (U : lU p s m args c G A b0 L xs i cells slots a b ls) (hI : iV zt sc pa ks kp ta sh zr) (w : cW G A s (bLs G a ad b rd zt sc pa ks kp ta dr fo tr ch sh zr).flatten H locs) (kk : lG p l e s m args below meth c cells slots Q ls G A a ad b rd) : W p l e room_1 s m args below meth c H locs cells slots Q (F0 m 602 ls []) := by
  obtain ⟨X, hml, hT, hX, hbl, hbA, hL, hi, hf, hl⟩ := U
  obtain ⟨⟨S, u, x, P, hv, hsc, hrs, hcp, hrp, hlp⟩, ⟨n, T, hct⟩, ⟨Lh, N9, I9, hih⟩, h6, hlt, hM⟩ := hI
  have hx := X.1
  have hb := X.2.1
  refine lv_aload_n hx hb dL_law_602 rfl (lv_at hl 1 rfl) ?_
  obtain ⟨wr, w1, bk⟩ := bq_c5 w
  refine gl_i (own := RL) (C := RX7) (ci := 6) (rest := []) X hml hl.1 (c7_ditched l G a ad zt (sc, fo, tr, ch) S hsc hv.1 hv.2.1) ok7_ditched wm_L_89 ⟨Nat.le_of_ble_eq_true rfl, Nat.le_of_ble_eq_true rfl⟩ hf w1 rfl rfl rfl (Nat.le_of_ble_eq_true rfl) dL_law_603 (fun r1 z1 H locs hr1 w1 => ?_)
  have w := bk z1.1 z1.2.1 z1.2.2.1 z1.2.2.2 H locs w1
  refine lv_aload_n hx hb dL_law_606 rfl (lv_at hl 2 rfl) ?_
  obtain ⟨wr2, w3, bk2⟩ := bq_cR w
  refine gr_i (own := RL) (rest := [.int r1]) X hml hl.1 (k_ditched l (gR G b rd) zr S hrs hv.1 h6 hlt hv.2.1) ok_ditched wm_L_92 ⟨Nat.le_of_ble_eq_true rfl, Nat.le_of_ble_eq_true rfl⟩ hf w3 rfl (Nat.le_of_ble_eq_true rfl) dL_law_607 (fun r2 z2 H locs hr2 w3 => ?_)
  have w := bk2 z2 H locs w3
  have hF := fx_of hr2.2.2.2
  refine lv_icmp_eq (tgt := 1078) hx hb dL_law_610 (by decide) (fun _ => ?_) (fun c9 => absurd (hr1.1.trans hr2.1.symm) c9)
  exact kk _ _ _ _ _ _ _ _ _ _ _ _ _ _ (⟨⟨S, u, x, P, hv, (by rw [hr1.2]; exact hsc), hr2.2.1, hcp, fx_pa hrp hF (by decide) (by decide), hlp⟩, ⟨n, T, iT_fx hct hF (by decide) (by decide)⟩, ⟨Lh, N9, I9, iH_fx hih hF (by decide) (by decide) (by decide)⟩, (hF.1 6 (by decide)).trans h6, hr2.2.2.1, iM_fx hM hF (by decide) (by decide)⟩) w
set_option maxRecDepth 20000 in
theorem la_19 {p : Program} {l : Launch} {e : Env} {s : State} {m : MethodId} {args : Array Value} {below : List Frame} {meth : Method} {c : Code} {H : Heap} {locs : List Loc} {cells slots : Nat} {Q : State → Prop} {ls : Array Slot} {G : CG} {A : Nat → Prop} {b0 L i b : Nat} {xs : Nat → Int32} {a : Nat → Nat} {ad : Nat → Nat → Nat} {rd : Nat → Nat} {zt sc pa ks kp ta dr fo tr ch : RS} {sh : Nat → RS} {zr : RS} (U : lU p s m args c G A b0 L xs i cells slots a b ls) (hI : iV zt sc pa ks kp ta sh zr) (w : cW G A s (bLs G a ad b rd zt sc pa ks kp ta dr fo tr ch sh zr).flatten H locs) (kk : lG p l e s m args below meth c cells slots Q ls G A a ad b rd) : W p l e room_1 s m args below meth c H locs cells slots Q (F0 m 615 ls []) := by
  obtain ⟨X, hml, hT, hX, hbl, hbA, hL, hi, hf, hl⟩ := U
  obtain ⟨⟨S, u, x, P, hv, hsc, hrs, hcp, hrp, hlp⟩, ⟨n, T, hct⟩, ⟨Lh, N9, I9, hih⟩, h6, hlt, hM⟩ := hI
  have hx := X.1
  have hb := X.2.1
  refine lv_aload_n hx hb dL_law_615 rfl (lv_at hl 1 rfl) ?_
  refine la_ld X hX hbl hbA w hl (k := 1) (by decide) (by omega) hL dL_law_616 dL_law_617 dL_law_618 dL_law_619 dL_law_620 ?_
  obtain ⟨wr, w1, bk⟩ := bq_c5 w
  refine gl_i (own := RL) (C := RX7) (ci := 6) (rest := []) X hml hl.1 (c7_ahead l G a ad zt (sc, fo, tr, ch) (xs (i + 1)) S hsc hv.1 hv.2.1) ok7_ahead wm_L_93 ⟨Nat.le_of_ble_eq_true rfl, Nat.le_of_ble_eq_true rfl⟩ hf w1 rfl rfl rfl (Nat.le_of_ble_eq_true rfl) dL_law_621 (fun r1 z1 H locs hr1 w1 => ?_)
  have w := bk z1.1 z1.2.1 z1.2.2.1 z1.2.2.2 H locs w1
  refine lv_aload_n hx hb dL_law_624 rfl (lv_at hl 2 rfl) ?_
  refine la_ld X hX hbl hbA w hl (k := 1) (by decide) (by omega) hL dL_law_625 dL_law_626 dL_law_627 dL_law_628 dL_law_629 ?_
  obtain ⟨wr2, w3, bk2⟩ := bq_cR w
  refine gr_i (own := RL) (rest := [.int r1]) X hml hl.1 (k_ahead l (gR G b rd) zr (xs (i + 1)) S hrs hv.1 h6 hlt hv.2.1) ok_ahead wm_L_96 ⟨Nat.le_of_ble_eq_true rfl, Nat.le_of_ble_eq_true rfl⟩ hf w3 rfl (Nat.le_of_ble_eq_true rfl) dL_law_630 (fun r2 z2 H locs hr2 w3 => ?_)
  have w := bk2 z2 H locs w3
  have hF := fx_of hr2.2.2.2
  refine lv_icmp_eq (tgt := 1078) hx hb dL_law_633 (by decide) (fun _ => ?_) (fun c9 => absurd (hr1.1.trans hr2.1.symm) c9)
  exact kk _ _ _ _ _ _ _ _ _ _ _ _ _ _ (⟨⟨S, u, x, P, hv, (by rw [hr1.2]; exact hsc), hr2.2.1, hcp, fx_pa hrp hF (by decide) (by decide), hlp⟩, ⟨n, T, iT_fx hct hF (by decide) (by decide)⟩, ⟨Lh, N9, I9, iH_fx hih hF (by decide) (by decide) (by decide)⟩, (hF.1 6 (by decide)).trans h6, hr2.2.2.1, iM_fx hM hF (by decide) (by decide)⟩) w
