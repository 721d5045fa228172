/-! the law, the calls 5 to 9 -/
set_option maxRecDepth 20000 in
theorem la_5 {p : Program} {l : Launch} {e : Env} {s : State} {m : MethodId} {args : Array Value} {below : List Frame} {meth : Method} {c : Code} {H : Heap} {locs : List Loc} {cells slots : Nat} {Q : State → Prop} {ls : Array Slot} {G : CG} {A : Nat → Prop} {b0 L i b : Nat} {xs : Nat → Int32} {a : Nat → Nat} {ad : Nat → Nat → Nat} {rd : Nat → Nat} {zt sc pa ks kp ta dr fo tr ch : RS} {sh : Nat → RS} {zr : RS} (U : lU p s m args c G A b0 L xs i cells slots a b ls) (hI : iV zt sc pa ks kp ta sh zr) (w : cW G A s (bLs G a ad b rd zt sc pa ks kp ta dr fo tr ch sh zr).flatten H locs) (kk : lG p l e s m args below meth c cells slots Q ls G A a ad b rd) : W p l e room_1 s m args below meth c H locs cells slots Q (F0 m 323 ls []) := by
  obtain ⟨X, hml, hT, hX, hbl, hbA, hL, hi, hf, hl⟩ := U
  obtain ⟨⟨S, u, x, P, hv, hsc, hrs, hcp, hrp, hlp⟩, ⟨n, T, hct⟩, ⟨Lh, N9, I9, hih⟩, h6, hlt, hM⟩ := hI
  have hx := X.1
  have hb := X.2.1
  refine lv_aload_n hx hb dL_law_323 rfl (lv_at hl 1 rfl) ?_
  refine la_ld X hX hbl hbA w hl (k := 1) (by decide) (by omega) hL dL_law_324 dL_law_325 dL_law_326 dL_law_327 dL_law_328 ?_
  obtain ⟨wr, w1, bk⟩ := bq_c1 w
  refine gl_p (own := RL) (C := RX7) (ci := 6) (rest := []) X hml hl.1 (c7_cost l G a ad zt sc (xs (i + 1)) S hsc hv.1) ok7_cost wm_L_36 ⟨Nat.le_of_ble_eq_true rfl, Nat.le_of_ble_eq_true rfl⟩ hf w1 rfl rfl rfl (Nat.le_of_ble_eq_true rfl) dL_law_329 (fun r1 hr1 => ?_)
  refine lv_aload_n hx hb dL_law_332 rfl (lv_at hl 2 rfl) ?_
  refine la_ld X hX hbl hbA w hl (k := 1) (by decide) (by omega) hL dL_law_333 dL_law_334 dL_law_335 dL_law_336 dL_law_337 ?_
  obtain ⟨wr2, w3, bk2⟩ := bq_cR w
  refine gr_p (own := RL) (rest := [.int r1]) X hml hl.1 (k_cost l (gR G b rd) zr (xs (i + 1)) S hrs hv.1) ok_cost wm_L_39 ⟨Nat.le_of_ble_eq_true rfl, Nat.le_of_ble_eq_true rfl⟩ hf w3 rfl (Nat.le_of_ble_eq_true rfl) dL_law_338 (fun r2 hr2 => ?_)
  refine lv_icmp_eq (tgt := 1078) hx hb dL_law_341 (by decide) (fun _ => ?_) (fun c9 => absurd (hr1.trans hr2.symm) c9)
  exact kk _ _ _ _ _ _ _ _ _ _ _ _ _ _ (⟨⟨S, u, x, P, hv, hsc, hrs, hcp, hrp, hlp⟩, ⟨n, T, hct⟩, ⟨Lh, N9, I9, hih⟩, h6, hlt, hM⟩) w
set_option maxRecDepth 20000 in
theorem la_6 {p : Program} {l : Launch} {e : Env} {s : State} {m : MethodId} {args : Array Value} {below : List Frame} {meth : Method} {c : Code} {H : Heap} {locs : List Loc} {cells slots : Nat} {Q : State → Prop} {ls : Array Slot} {G : CG} {A : Nat → Prop} {b0 L i b : Nat} {xs : Nat → Int32} {a : Nat → Nat} {ad : Nat → Nat → Nat} {rd : Nat → Nat} {zt sc pa ks kp ta dr fo tr ch : RS} {sh : Nat → RS} {zr : RS} (U : lU p s m args c G A b0 L xs i cells slots a b ls) (hI : iV zt sc pa ks kp ta sh zr) (w : cW G A s (bLs G a ad b rd zt sc pa ks kp ta dr fo tr ch sh zr).flatten H locs) (kk : lG p l e s m args below meth c cells slots Q ls G A a ad b rd) : W p l e room_1 s m args below meth c H locs cells slots Q (F0 m 346 ls []) := by
  obtain ⟨X, hml, hT, hX, hbl, hbA, hL, hi, hf, hl⟩ := U
  obtain ⟨⟨S, u, x, P, hv, hsc, hrs, hcp, hrp, hlp⟩, ⟨n, T, hct⟩, ⟨Lh, N9, I9, hih⟩, h6, hlt, hM⟩ := hI
  have hx := X.1
  have hb := X.2.1
  refine lv_aload_n hx hb dL_law_346 rfl (lv_at hl 1 rfl) ?_
  refine la_ld X hX hbl hbA w hl (k := 1) (by decide) (by omega) hL dL_law_347 dL_law_348 dL_law_349 dL_law_350 dL_law_351 ?_
  refine la_ld X hX hbl hbA w hl (k := 2) (by decide) (by omega) hL dL_law_352 dL_law_353 dL_law_354 dL_law_355 dL_law_356 ?_
  obtain ⟨wr, w1, bk⟩ := bq_c1 w
  refine gl_p (own := RL) (C := RX7) (ci := 6) (rest := []) X hml hl.1 (c7_points l G a ad zt sc (xs (i + 1)) (xs (i + 2)) S hsc hv.1) ok7_points wm_L_40 ⟨Nat.le_of_ble_eq_true rfl, Nat.le_of_ble_eq_true rfl⟩ hf w1 rfl rfl rfl (Nat.le_of_ble_eq_true rfl) dL_law_357 (fun r1 hr1 => ?_)
  refine lv_aload_n hx hb dL_law_360 rfl (lv_at hl 2 rfl) ?_
  refine la_ld X hX hbl hbA w hl (k := 1) (by decide) (by omega) hL dL_law_361 dL_law_362 dL_law_363 dL_law_364 dL_law_365 ?_
  refine la_ld X hX hbl hbA w hl (k := 2) (by decide) (by omega) hL dL_law_366 dL_law_367 dL_law_368 dL_law_369 dL_law_370 ?_
  obtain ⟨wr2, w3, bk2⟩ := bq_cR w
  refine gr_p (own := RL) (rest := [.int r1]) X hml hl.1 (k_points l (gR G b rd) zr (xs (i + 1)) (xs (i + 2)) S hrs hv.1) ok_points wm_L_43 ⟨Nat.le_of_ble_eq_true rfl, Nat.le_of_ble_eq_true rfl⟩ hf w3 rfl (Nat.le_of_ble_eq_true rfl) dL_law_371 (fun r2 hr2 => ?_)
  refine lv_icmp_eq (tgt := 1078) hx hb dL_law_374 (by decide) (fun _ => ?_) (fun c9 => absurd (hr1.trans hr2.symm) c9)
  exact kk _ _ _ _ _ _ _ _ _ _ _ _ _ _ (⟨⟨S, u, x, P, hv, hsc, hrs, hcp, hrp, hlp⟩, ⟨n, T, hct⟩, ⟨Lh, N9, I9, hih⟩, h6, hlt, hM⟩) w
set_option maxRecDepth 20000 in
theorem la_7 {p : Program} {l : Launch} {e : Env} {s : State} {m : MethodId} {args : Array Value} {below : List Frame} {meth : Method} {c : Code} {H : Heap} {locs : List Loc} {cells slots : Nat} {Q : State → Prop} {ls : Array Slot} {G : CG} {A : Nat → Prop} {b0 L i b : Nat} {xs : Nat → Int32} {a : Nat → Nat} {ad : Nat → Nat → Nat} {rd : Nat → Nat} {zt sc pa ks kp ta dr fo tr ch : RS} {sh : Nat → RS} {zr : RS} (U : lU p s m args c G A b0 L xs i cells slots a b ls) (hI : iV zt sc pa ks kp ta sh zr) (w : cW G A s (bLs G a ad b rd zt sc pa ks kp ta dr fo tr ch sh zr).flatten H locs) (kk : lG p l e s m args below meth c cells slots Q ls G A a ad b rd) : W p l e room_1 s m args below meth c H locs cells slots Q (F0 m 379 ls []) := by
  obtain ⟨X, hml, hT, hX, hbl, hbA, hL, hi, hf, hl⟩ := U
  obtain ⟨⟨S, u, x, P, hv, hsc, hrs, hcp, hrp, hlp⟩, ⟨n, T, hct⟩, ⟨Lh, N9, I9, hih⟩, h6, hlt, hM⟩ := hI
  have hx := X.1
  have hb := X.2.1
  refine lv_aload_n hx hb dL_law_379 rfl (lv_at hl 1 rfl) ?_
  refine la_ld X hX hbl hbA w hl (k := 1) (by decide) (by omega) hL dL_law_380 dL_law_381 dL_law_382 dL_law_383 dL_law_384 ?_
  obtain ⟨wr, w1, bk⟩ := bq_c3 w
  refine gl_i (own := RL) (C := RX7) (ci := 6) (rest := []) X hml hl.1 (c7_type l G a ad zt ta (xs (i + 1)) n T hct.1) ok7_type wm_L_44 ⟨Nat.le_of_ble_eq_true rfl, Nat.le_of_ble_eq_true rfl⟩ hf w1 rfl rfl rfl (Nat.le_of_ble_eq_true rfl) dL_law_385 (fun r1 z1 H locs hr1 w1 => ?_)
  have w := bk z1 H locs w1
  refine lv_aload_n hx hb dL_law_388 rfl (lv_at hl 2 rfl) ?_
  refine la_ld X hX hbl hbA w hl (k := 1) (by decide) (by omega) hL dL_law_389 dL_law_390 dL_law_391 dL_law_392 dL_law_393 ?_
  obtain ⟨wr2, w3, bk2⟩ := bq_cR w
  refine gr_i (own := RL) (rest := [.int r1]) X hml hl.1 (k_type l (gR G b rd) zr (xs (i + 1)) n T hct.2) ok_type wm_L_47 ⟨Nat.le_of_ble_eq_true rfl, Nat.le_of_ble_eq_true rfl⟩ hf w3 rfl (Nat.le_of_ble_eq_true rfl) dL_law_394 (fun r2 z2 H locs hr2 w3 => ?_)
  have w := bk2 z2 H locs w3
  have hF := fx_of hr2.2.2
  refine lv_icmp_eq (tgt := 1078) hx hb dL_law_397 (by decide) (fun _ => ?_) (fun c9 => absurd (hr1.1.trans hr2.1.symm) c9)
  exact kk _ _ _ _ _ _ _ _ _ _ _ _ _ _ (⟨⟨S, u, x, P, hv, hsc, fx_sc hrs hF (by decide) (by decide) (by decide) (by decide) (by decide) (by decide), hcp, fx_pa hrp hF (by decide) (by decide), hlp⟩, ⟨nn_type n (xs (i + 1)), nt_type n T (xs (i + 1)), hr1.2, hr2.2.1⟩, ⟨Lh, N9, I9, iH_fx hih hF (by decide) (by decide) (by decide)⟩, (hF.1 6 (by decide)).trans h6, iL_fx hlt hF (by decide), iM_fx hM hF (by decide) (by decide)⟩) w
set_option maxRecDepth 20000 in
theorem la_8 {p : Program} {l : Launch} {e : Env} {s : State} {m : MethodId} {args : Array Value} {below : List Frame} {meth : Method} {c : Code} {H : Heap} {locs : List Loc} {cells slots : Nat} {Q : State → Prop} {ls : Array Slot} {G : CG} {A : Nat → Prop} {b0 L i b : Nat} {xs : Nat → Int32} {a : Nat → Nat} {ad : Nat → Nat → Nat} {rd : Nat → Nat} {zt sc pa ks kp ta dr fo tr ch : RS} {sh : Nat → RS} {zr : RS} (U : lU p s m args c G A b0 L xs i cells slots a b ls) (hI : iV zt sc pa ks kp ta sh zr) (w : cW G A s (bLs G a ad b rd zt sc pa ks kp ta dr fo tr ch sh zr).flatten H locs) (kk : lG p l e s m args below meth c cells slots Q ls G A a ad b rd) : W p l e room_1 s m args below meth c H locs cells slots Q (F0 m 402 ls []) := by
  obtain ⟨X, hml, hT, hX, hbl, hbA, hL, hi, hf, hl⟩ := U
  obtain ⟨⟨S, u, x, P, hv, hsc, hrs, hcp, hrp, hlp⟩, ⟨n, T, hct⟩, ⟨Lh, N9, I9, hih⟩, h6, hlt, hM⟩ := hI
  have hx := X.1
  have hb := X.2.1
  refine lv_aload_n hx hb dL_law_402 rfl (lv_at hl 1 rfl) ?_
  obtain ⟨wr, w1, bk⟩ := bq_c4 w
  refine gl_ti (own := RL) (C := RX7) (ci := 6) (rest := []) hT X hml hl.1 (c7_field l G a ad zt (sc, pa, ta, dr) S hsc u x P hcp n T hct.1) ok7_field wm_L_48 ⟨Nat.le_of_ble_eq_true rfl, Nat.le_of_ble_eq_true rfl⟩ hf w1 rfl rfl rfl (Nat.le_of_ble_eq_true rfl) dL_law_403 (fun r1 z1 H locs hr1 w1 => ?_)
  have w := bk z1.1 z1.2.1 z1.2.2.1 z1.2.2.2 H locs w1
  refine lv_aload_n hx hb dL_law_406 rfl (lv_at hl 2 rfl) ?_
  obtain ⟨wr2, w3, bk2⟩ := bq_cR w
  refine gr_i (own := RL) (rest := [.int r1]) X hml hl.1 (k_field l (gR G b rd) zr S hrs hv.1 T n hct.2) ok_field wm_L_52 ⟨Nat.le_of_ble_eq_true rfl, Nat.le_of_ble_eq_true rfl⟩ hf w3 rfl (Nat.le_of_ble_eq_true rfl) dL_law_407 (fun r2 z2 H locs hr2 w3 => ?_)
  have w := bk2 z2 H locs w3
  have hF := fx_of hr2.2.2.2.2.2
  have hW : ∃ (S : Sc) (u x : Nat) (P : Nat → Nat → Int32), iW z1.1 z1.2.1 z2 S u x P := by
    by_cases q9 : ps_W T n = 0
    · have e9 : nx_fld S T n = fd_S S T n (ps_K T n) := if_pos q9
      refine ⟨nx_fld S T n, 0, x, P, vS_fld hv T n, ?_, hr2.2.1, ?_, ⟨hr2.2.2.2.1 q9, Nat.zero_le _, fun j hj => absurd hj (Nat.not_lt_zero _)⟩, lP_0 _ _⟩
      · rw [e9]; exact (hr1.2.2.1 q9).1
      · rw [e9]; exact (hr1.2.2.1 q9).2
    · have e9 : nx_fld S T n = S := if_neg q9
      have g9 := hr2.2.1
      rw [e9] at g9
      obtain ⟨f1, f2⟩ := hr1.2.2.2 q9
      refine ⟨S, u, x, P, hv, (by rw [f1]; exact hsc), g9, (by rw [f2]; exact hcp), ⟨(hr2.2.2.2.2.1 q9).trans hrp.1, hrp.2.1, fun j hj k hk => ?_⟩, hlp⟩
      rw [hF.2.1 15 (by decide)]
      exact hrp.2.2 j hj k hk
  refine lv_icmp_eq (tgt := 1078) hx hb dL_law_410 (by decide) (fun _ => ?_) (fun c9 => absurd (hr1.1.trans hr2.1.symm) c9)
  exact kk _ _ _ _ _ _ _ _ _ _ _ _ _ _ (⟨hW, ⟨0, T, hr1.2.1, hr2.2.2.1, Nat.zero_le _, (by rw [hF.2.1 7 (by decide)]; exact hct.2.2.2.1), hct.2.2.2.2⟩, ⟨Lh, N9, I9, iH_fx hih hF (by decide) (by decide) (by decide)⟩, (hF.1 6 (by decide)).trans h6, iL_fx hlt hF (by decide), iM_fx hM hF (by decide) (by decide)⟩) w
set_option maxRecDepth 20000 in
theorem la_9 {p : Program} {l : Launch} {e : Env} {s : State} {m : MethodId} {args : Array Value} {below : List Frame} {meth : Method} {c : Code} {H : Heap} {locs : List Loc} {cells slots : Nat} {Q : State → Prop} {ls : Array Slot} {G : CG} {A : Nat → Prop} {b0 L i b : Nat} {xs : Nat → Int32} {a : Nat → Nat} {ad : Nat → Nat → Nat} {rd : Nat → Nat} {zt sc pa ks kp ta dr fo tr ch : RS} {sh : Nat → RS} {zr : RS} (U : lU p s m args c G A b0 L xs i cells slots a b ls) (hI : iV zt sc pa ks kp ta sh zr) (w : cW G A s (bLs G a ad b rd zt sc pa ks kp ta dr fo tr ch sh zr).flatten H locs) (kk : lG p l e s m args below meth c cells slots Q ls G A a ad b rd) : W p l e room_1 s m args below meth c H locs cells slots Q (F0 m 415 ls []) := by
  obtain ⟨X, hml, hT, hX, hbl, hbA, hL, hi, hf, hl⟩ := U
  obtain ⟨⟨S, u, x, P, hv, hsc, hrs, hcp, hrp, hlp⟩, ⟨n, T, hct⟩, ⟨Lh, N9, I9, hih⟩, h6, hlt, hM⟩ := hI
  have hx := X.1
  have hb := X.2.1
  refine lv_aload_n hx hb dL_law_415 rfl (lv_at hl 1 rfl) ?_
  refine la_ld X hX hbl hbA w hl (k := 1) (by decide) (by omega) hL dL_law_416 dL_law_417 dL_law_418 dL_law_419 dL_law_420 ?_
  obtain ⟨wr, w1, bk⟩ := bq_c2 w
  refine gl_p (own := RL) (C := RX7) (ci := 6) (rest := []) X hml hl.1 (c7_count l G a ad zt (sc, pa) (xs (i + 1)) S hsc hv.1 u x P hcp) ok7_count wm_L_53 ⟨Nat.le_of_ble_eq_true rfl, Nat.le_of_ble_eq_true rfl⟩ hf w1 rfl rfl rfl (Nat.le_of_ble_eq_true rfl) dL_law_421 (fun r1 hr1 => ?_)
  refine lv_aload_n hx hb dL_law_424 rfl (lv_at hl 2 rfl) ?_
  refine la_ld X hX hbl hbA w hl (k := 1) (by decide) (by omega) hL dL_law_425 dL_law_426 dL_law_427 dL_law_428 dL_law_429 ?_
  obtain ⟨wr2, w3, bk2⟩ := bq_cR w
  refine gr_p (own := RL) (rest := [.int r1]) X hml hl.1 (k_count l (gR G b rd) zr (xs (i + 1)) S hrs hv.1 u hrp.1) ok_count wm_L_56 ⟨Nat.le_of_ble_eq_true rfl, Nat.le_of_ble_eq_true rfl⟩ hf w3 rfl (Nat.le_of_ble_eq_true rfl) dL_law_430 (fun r2 hr2 => ?_)
  refine lv_icmp_eq (tgt := 1078) hx hb dL_law_433 (by decide) (fun _ => ?_) (fun c9 => absurd (hr1.trans hr2.symm) c9)
  exact kk _ _ _ _ _ _ _ _ _ _ _ _ _ _ (⟨⟨S, u, x, P, hv, hsc, hrs, hcp, hrp, hlp⟩, ⟨n, T, hct⟩, ⟨Lh, N9, I9, hih⟩, h6, hlt, hM⟩) w
