/-! the law, the calls 0 to 4 -/
set_option maxRecDepth 20000 in
theorem la_0 {p : Program} {l : Launch} {e : Env} {s : State} {m : MethodId} {args : Array Value} {below : List Frame} {meth : Method} {c : Code} {H : Heap} {locs : List Loc} {cells slots : Nat} {Q : State → Prop} {ls : Array Slot} {G : CG} {A : Nat → Prop} {b0 L i b : Nat} {xs : Nat → Int32} {a : Nat → Nat} {ad : Nat → Nat → Nat} {rd : Nat → Nat} {zt sc pa ks kp ta dr fo tr ch : RS} {sh : Nat → RS} {zr : RS} (U : lU p s m args c G A b0 L xs i cells slots a b ls) (hI : iV zt sc pa ks kp ta sh zr) (w : cW G A s (bLs G a ad b rd zt sc pa ks kp ta dr fo tr ch sh zr).flatten H locs) (kk : lG p l e s m args below meth c cells slots Q ls G A a ad b rd) : W p l e room_1 s m args below meth c H locs cells slots Q (F0 m 168 ls []) := by
  obtain ⟨X, hml, hT, hX, hbl, hbA, hL, hi, hf, hl⟩ := U
  obtain ⟨⟨S, u, x, P, hv, hsc, hrs, hcp, hrp, hlp⟩, ⟨n, T, hct⟩, ⟨Lh, N9, I9, hih⟩, h6, hlt, hM⟩ := hI
  have hx := X.1
  have hb := X.2.1
  refine lv_aload_n hx hb dL_law_168 rfl (lv_at hl 1 rfl) ?_
  refine la_ld X hX hbl hbA w hl (k := 1) (by decide) (by omega) hL dL_law_169 dL_law_170 dL_law_171 dL_law_172 dL_law_173 ?_
  refine la_ld X hX hbl hbA w hl (k := 2) (by decide) (by omega) hL dL_law_174 dL_law_175 dL_law_176 dL_law_177 dL_law_178 ?_
  refine la_ld X hX hbl hbA w hl (k := 3) (by decide) (by omega) hL dL_law_179 dL_law_180 dL_law_181 dL_law_182 dL_law_183 ?_
  obtain ⟨wr, w1, bk⟩ := bq_c2 w
  refine gl_i (own := RL) (C := RX7) (ci := 6) (rest := []) X hml hl.1 (c7_fighter l G a ad zt (sc, pa) (xs (i + 1)) (xs (i + 2)) (xs (i + 3)) S hsc hv.1 u x P hcp) ok7_fighter wm_L_13 ⟨Nat.le_of_ble_eq_true rfl, Nat.le_of_ble_eq_true rfl⟩ hf w1 rfl rfl rfl (Nat.le_of_ble_eq_true rfl) dL_law_184 (fun r1 z1 H locs hr1 w1 => ?_)
  have w := bk z1.1 z1.2 H locs w1
  refine lv_aload_n hx hb dL_law_187 rfl (lv_at hl 2 rfl) ?_
  refine la_ld X hX hbl hbA w hl (k := 1) (by decide) (by omega) hL dL_law_188 dL_law_189 dL_law_190 dL_law_191 dL_law_192 ?_
  refine la_ld X hX hbl hbA w hl (k := 2) (by decide) (by omega) hL dL_law_193 dL_law_194 dL_law_195 dL_law_196 dL_law_197 ?_
  refine la_ld X hX hbl hbA w hl (k := 3) (by decide) (by omega) hL dL_law_198 dL_law_199 dL_law_200 dL_law_201 dL_law_202 ?_
  obtain ⟨wr2, w3, bk2⟩ := bq_cR w
  refine gr_i (own := RL) (rest := [.int r1]) X hml hl.1 (k_fighter l (gR G b rd) zr (xs (i + 1)) (xs (i + 2)) (xs (i + 3)) S hrs hv.1 u P hrp) ok_fighter wm_L_17 ⟨Nat.le_of_ble_eq_true rfl, Nat.le_of_ble_eq_true rfl⟩ hf w3 rfl (Nat.le_of_ble_eq_true rfl) dL_law_203 (fun r2 z2 H locs hr2 w3 => ?_)
  have w := bk2 z2 H locs w3
  have hF := fx_of hr2.2.2.2
  refine lv_icmp_eq (tgt := 1078) hx hb dL_law_206 (by decide) (fun _ => ?_) (fun c9 => absurd (hr1.1.trans hr2.1.symm) c9)
  exact kk _ _ _ _ _ _ _ _ _ _ _ _ _ _ (⟨⟨nx_fig S (xs (i + 1)) (xs (i + 2)) (xs (i + 3)), nu_fig S u (xs (i + 1)) (xs (i + 2)) (xs (i + 3)), x, P, vS_fig hv _ _ _, hr1.2.1, hr2.2.1, hr1.2.2, hr2.2.2.1, lP_fig hlp _ _ _⟩, ⟨n, T, iT_fx hct hF (by decide) (by decide)⟩, ⟨Lh, N9, I9, iH_fx hih hF (by decide) (by decide) (by decide)⟩, (hF.1 6 (by decide)).trans h6, iL_fx hlt hF (by decide), iM_fx hM hF (by decide) (by decide)⟩) w
set_option maxRecDepth 20000 in
theorem la_1 {p : Program} {l : Launch} {e : Env} {s : State} {m : MethodId} {args : Array Value} {below : List Frame} {meth : Method} {c : Code} {H : Heap} {locs : List Loc} {cells slots : Nat} {Q : State → Prop} {ls : Array Slot} {G : CG} {A : Nat → Prop} {b0 L i b : Nat} {xs : Nat → Int32} {a : Nat → Nat} {ad : Nat → Nat → Nat} {rd : Nat → Nat} {zt sc pa ks kp ta dr fo tr ch : RS} {sh : Nat → RS} {zr : RS} (U : lU p s m args c G A b0 L xs i cells slots a b ls) (hI : iV zt sc pa ks kp ta sh zr) (w : cW G A s (bLs G a ad b rd zt sc pa ks kp ta dr fo tr ch sh zr).flatten H locs) (kk : lG p l e s m args below meth c cells slots Q ls G A a ad b rd) : W p l e room_1 s m args below meth c H locs cells slots Q (F0 m 211 ls []) := by
  obtain ⟨X, hml, hT, hX, hbl, hbA, hL, hi, hf, hl⟩ := U
  obtain ⟨⟨S, u, x, P, hv, hsc, hrs, hcp, hrp, hlp⟩, ⟨n, T, hct⟩, ⟨Lh, N9, I9, hih⟩, h6, hlt, hM⟩ := hI
  have hx := X.1
  have hb := X.2.1
  refine lv_aload_n hx hb dL_law_211 rfl (lv_at hl 1 rfl) ?_
  refine la_ld X hX hbl hbA w hl (k := 1) (by decide) (by omega) hL dL_law_212 dL_law_213 dL_law_214 dL_law_215 dL_law_216 ?_
  refine la_ld X hX hbl hbA w hl (k := 2) (by decide) (by omega) hL dL_law_217 dL_law_218 dL_law_219 dL_law_220 dL_law_221 ?_
  obtain ⟨wr, w1, bk⟩ := bq_c1 w
  refine gl_p (own := RL) (C := RX7) (ci := 6) (rest := []) X hml hl.1 (c7_of l G a ad zt sc (xs (i + 1)) (xs (i + 2)) S hsc hv.1 (Nat.lt_of_le_of_lt hv.2.1 (by decide)) hv.2.2.1) ok7_of wm_L_18 ⟨Nat.le_of_ble_eq_true rfl, Nat.le_of_ble_eq_true rfl⟩ hf w1 rfl rfl rfl (Nat.le_of_ble_eq_true rfl) dL_law_222 (fun r1 hr1 => ?_)
  refine lv_aload_n hx hb dL_law_225 rfl (lv_at hl 2 rfl) ?_
  refine la_ld X hX hbl hbA w hl (k := 1) (by decide) (by omega) hL dL_law_226 dL_law_227 dL_law_228 dL_law_229 dL_law_230 ?_
  refine la_ld X hX hbl hbA w hl (k := 2) (by decide) (by omega) hL dL_law_231 dL_law_232 dL_law_233 dL_law_234 dL_law_235 ?_
  obtain ⟨wr2, w3, bk2⟩ := bq_cR w
  refine gr_p (own := RL) (rest := [.int r1]) X hml hl.1 (k_of l (gR G b rd) zr (xs (i + 1)) (xs (i + 2)) S hrs hv.1) ok_of wm_L_22 ⟨Nat.le_of_ble_eq_true rfl, Nat.le_of_ble_eq_true rfl⟩ hf w3 rfl (Nat.le_of_ble_eq_true rfl) dL_law_236 (fun r2 hr2 => ?_)
  refine lv_icmp_eq (tgt := 1078) hx hb dL_law_239 (by decide) (fun _ => ?_) (fun c9 => absurd (hr1.trans hr2.symm) c9)
  exact kk _ _ _ _ _ _ _ _ _ _ _ _ _ _ (⟨⟨S, u, x, P, hv, hsc, hrs, hcp, hrp, hlp⟩, ⟨n, T, hct⟩, ⟨Lh, N9, I9, hih⟩, h6, hlt, hM⟩) w
set_option maxRecDepth 20000 in
theorem la_2 {p : Program} {l : Launch} {e : Env} {s : State} {m : MethodId} {args : Array Value} {below : List Frame} {meth : Method} {c : Code} {H : Heap} {locs : List Loc} {cells slots : Nat} {Q : State → Prop} {ls : Array Slot} {G : CG} {A : Nat → Prop} {b0 L i b : Nat} {xs : Nat → Int32} {a : Nat → Nat} {ad : Nat → Nat → Nat} {rd : Nat → Nat} {zt sc pa ks kp ta dr fo tr ch : RS} {sh : Nat → RS} {zr : RS} (U : lU p s m args c G A b0 L xs i cells slots a b ls) (hI : iV zt sc pa ks kp ta sh zr) (w : cW G A s (bLs G a ad b rd zt sc pa ks kp ta dr fo tr ch sh zr).flatten H locs) (kk : lG p l e s m args below meth c cells slots Q ls G A a ad b rd) : W p l e room_1 s m args below meth c H locs cells slots Q (F0 m 244 ls []) := by
  obtain ⟨X, hml, hT, hX, hbl, hbA, hL, hi, hf, hl⟩ := U
  obtain ⟨⟨S, u, x, P, hv, hsc, hrs, hcp, hrp, hlp⟩, ⟨n, T, hct⟩, ⟨Lh, N9, I9, hih⟩, h6, hlt, hM⟩ := hI
  have hx := X.1
  have hb := X.2.1
  refine lv_aload_n hx hb dL_law_244 rfl (lv_at hl 1 rfl) ?_
  refine la_ld X hX hbl hbA w hl (k := 1) (by decide) (by omega) hL dL_law_245 dL_law_246 dL_law_247 dL_law_248 dL_law_249 ?_
  refine la_ld X hX hbl hbA w hl (k := 2) (by decide) (by omega) hL dL_law_250 dL_law_251 dL_law_252 dL_law_253 dL_law_254 ?_
  obtain ⟨wr, w1, bk⟩ := bq_c1 w
  refine gl_i (own := RL) (C := RX7) (ci := 6) (rest := []) X hml hl.1 (c7_hurt l G a ad zt sc (xs (i + 1)) (xs (i + 2)) S hsc hv.1) ok7_hurt wm_L_23 ⟨Nat.le_of_ble_eq_true rfl, Nat.le_of_ble_eq_true rfl⟩ hf w1 rfl rfl rfl (Nat.le_of_ble_eq_true rfl) dL_law_255 (fun r1 z1 H locs hr1 w1 => ?_)
  have w := bk z1 H locs w1
  refine lv_aload_n hx hb dL_law_258 rfl (lv_at hl 2 rfl) ?_
  refine la_ld X hX hbl hbA w hl (k := 1) (by decide) (by omega) hL dL_law_259 dL_law_260 dL_law_261 dL_law_262 dL_law_263 ?_
  refine la_ld X hX hbl hbA w hl (k := 2) (by decide) (by omega) hL dL_law_264 dL_law_265 dL_law_266 dL_law_267 dL_law_268 ?_
  obtain ⟨wr2, w3, bk2⟩ := bq_cR w
  refine gr_i (own := RL) (rest := [.int r1]) X hml hl.1 (k_hurt l (gR G b rd) zr (xs (i + 1)) (xs (i + 2)) S hrs hv.1) ok_hurt wm_L_26 ⟨Nat.le_of_ble_eq_true rfl, Nat.le_of_ble_eq_true rfl⟩ hf w3 rfl (Nat.le_of_ble_eq_true rfl) dL_law_269 (fun r2 z2 H locs hr2 w3 => ?_)
  have w := bk2 z2 H locs w3
  have hF := fx_of hr2.2.2
  refine lv_icmp_eq (tgt := 1078) hx hb dL_law_272 (by decide) (fun _ => ?_) (fun c9 => absurd (hr1.1.trans hr2.1.symm) c9)
  exact kk _ _ _ _ _ _ _ _ _ _ _ _ _ _ (⟨⟨nx_hurt S (xs (i + 1)) (xs (i + 2)), u, x, P, vS_hurt hv _ _, hr1.2, hr2.2.1, (by rw [(lE_hurt S _ _).1]; exact hcp), fx_pa hrp hF (by decide) (by decide), lP_hurt hlp _ _⟩, ⟨n, T, iT_fx hct hF (by decide) (by decide)⟩, ⟨Lh, N9, I9, iH_fx hih hF (by decide) (by decide) (by decide)⟩, (hF.1 6 (by decide)).trans h6, iL_fx hlt hF (by decide), iM_fx hM hF (by decide) (by decide)⟩) w
set_option maxRecDepth 20000 in
theorem la_3 {p : Program} {l : Launch} {e : Env} {s : State} {m : MethodId} {args : Array Value} {below : List Frame} {meth : Method} {c : Code} {H : Heap} {locs : List Loc} {cells slots : Nat} {Q : State → Prop} {ls : Array Slot} {G : CG} {A : Nat → Prop} {b0 L i b : Nat} {xs : Nat → Int32} {a : Nat → Nat} {ad : Nat → Nat → Nat} {rd : Nat → Nat} {zt sc pa ks kp ta dr fo tr ch : RS} {sh : Nat → RS} {zr : RS} (U : lU p s m args c G A b0 L xs i cells slots a b ls) (hI : iV zt sc pa ks kp ta sh zr) (w : cW G A s (bLs G a ad b rd zt sc pa ks kp ta dr fo tr ch sh zr).flatten H locs) (kk : lG p l e s m args below meth c cells slots Q ls G A a ad b rd) : W p l e room_1 s m args below meth c H locs cells slots Q (F0 m 277 ls []) := by
  obtain ⟨X, hml, hT, hX, hbl, hbA, hL, hi, hf, hl⟩ := U
  obtain ⟨⟨S, u, x, P, hv, hsc, hrs, hcp, hrp, hlp⟩, ⟨n, T, hct⟩, ⟨Lh, N9, I9, hih⟩, h6, hlt, hM⟩ := hI
  have hx := X.1
  have hb := X.2.1
  refine lv_aload_n hx hb dL_law_277 rfl (lv_at hl 1 rfl) ?_
  refine la_ld X hX hbl hbA w hl (k := 1) (by decide) (by omega) hL dL_law_278 dL_law_279 dL_law_280 dL_law_281 dL_law_282 ?_
  obtain ⟨wr, w1, bk⟩ := bq_c1 w
  refine gl_i (own := RL) (C := RX7) (ci := 6) (rest := []) X hml hl.1 (c7_start l G a ad zt sc (xs (i + 1)) S hsc hv.1) ok7_start wm_L_27 ⟨Nat.le_of_ble_eq_true rfl, Nat.le_of_ble_eq_true rfl⟩ hf w1 rfl rfl rfl (Nat.le_of_ble_eq_true rfl) dL_law_283 (fun r1 z1 H locs hr1 w1 => ?_)
  have w := bk z1 H locs w1
  refine lv_aload_n hx hb dL_law_286 rfl (lv_at hl 2 rfl) ?_
  refine la_ld X hX hbl hbA w hl (k := 1) (by decide) (by omega) hL dL_law_287 dL_law_288 dL_law_289 dL_law_290 dL_law_291 ?_
  obtain ⟨wr2, w3, bk2⟩ := bq_cR w
  refine gr_i (own := RL) (rest := [.int r1]) X hml hl.1 (k_start l (gR G b rd) zr (xs (i + 1)) S hrs hv.1) ok_start wm_L_31 ⟨Nat.le_of_ble_eq_true rfl, Nat.le_of_ble_eq_true rfl⟩ hf w3 rfl (Nat.le_of_ble_eq_true rfl) dL_law_292 (fun r2 z2 H locs hr2 w3 => ?_)
  have w := bk2 z2 H locs w3
  have hF := fx_of hr2.2.2
  refine lv_icmp_eq (tgt := 1078) hx hb dL_law_295 (by decide) (fun _ => ?_) (fun c9 => absurd (hr1.1.trans hr2.1.symm) c9)
  exact kk _ _ _ _ _ _ _ _ _ _ _ _ _ _ (⟨⟨nx_start S (xs (i + 1)), u, x, P, vS_start hv _, hr1.2, hr2.2.1, (by rw [n1_start S _]; exact hcp), fx_pa hrp hF (by decide) (by decide), lP_start hlp _⟩, ⟨n, T, iT_fx hct hF (by decide) (by decide)⟩, ⟨Lh, N9, I9, iH_fx hih hF (by decide) (by decide) (by decide)⟩, (hF.1 6 (by decide)).trans h6, iL_fx hlt hF (by decide), iM_fx hM hF (by decide) (by decide)⟩) w
set_option maxRecDepth 20000 in
theorem la_4 {p : Program} {l : Launch} {e : Env} {s : State} {m : MethodId} {args : Array Value} {below : List Frame} {meth : Method} {c : Code} {H : Heap} {locs : List Loc} {cells slots : Nat} {Q : State → Prop} {ls : Array Slot} {G : CG} {A : Nat → Prop} {b0 L i b : Nat} {xs : Nat → Int32} {a : Nat → Nat} {ad : Nat → Nat → Nat} {rd : Nat → Nat} {zt sc pa ks kp ta dr fo tr ch : RS} {sh : Nat → RS} {zr : RS} (U : lU p s m args c G A b0 L xs i cells slots a b ls) (hI : iV zt sc pa ks kp ta sh zr) (w : cW G A s (bLs G a ad b rd zt sc pa ks kp ta dr fo tr ch sh zr).flatten H locs) (kk : lG p l e s m args below meth c cells slots Q ls G A a ad b rd) : W p l e room_1 s m args below meth c H locs cells slots Q (F0 m 300 ls []) := by
  obtain ⟨X, hml, hT, hX, hbl, hbA, hL, hi, hf, hl⟩ := U
  obtain ⟨⟨S, u, x, P, hv, hsc, hrs, hcp, hrp, hlp⟩, ⟨n, T, hct⟩, ⟨Lh, N9, I9, hih⟩, h6, hlt, hM⟩ := hI
  have hx := X.1
  have hb := X.2.1
  refine lv_aload_n hx hb dL_law_300 rfl (lv_at hl 1 rfl) ?_
  refine la_ld X hX hbl hbA w hl (k := 1) (by decide) (by omega) hL dL_law_301 dL_law_302 dL_law_303 dL_law_304 dL_law_305 ?_
  obtain ⟨wr, w1, bk⟩ := bq_c1 w
  refine gl_p (own := RL) (C := RX7) (ci := 6) (rest := []) X hml hl.1 (c7_sort l G a ad zt sc (xs (i + 1)) S hsc hv.1) ok7_sort wm_L_32 ⟨Nat.le_of_ble_eq_true rfl, Nat.le_of_ble_eq_true rfl⟩ hf w1 rfl rfl rfl (Nat.le_of_ble_eq_true rfl) dL_law_306 (fun r1 hr1 => ?_)
  refine lv_aload_n hx hb dL_law_309 rfl (lv_at hl 2 rfl) ?_
  refine la_ld X hX hbl hbA w hl (k := 1) (by decide) (by omega) hL dL_law_310 dL_law_311 dL_law_312 dL_law_313 dL_law_314 ?_
  obtain ⟨wr2, w3, bk2⟩ := bq_cR w
  refine gr_p (own := RL) (rest := [.int r1]) X hml hl.1 (k_sort l (gR G b rd) zr (xs (i + 1)) S hrs hv.1) ok_sort wm_L_35 ⟨Nat.le_of_ble_eq_true rfl, Nat.le_of_ble_eq_true rfl⟩ hf w3 rfl (Nat.le_of_ble_eq_true rfl) dL_law_315 (fun r2 hr2 => ?_)
  refine lv_icmp_eq (tgt := 1078) hx hb dL_law_318 (by decide) (fun _ => ?_) (fun c9 => absurd (hr1.trans hr2.symm) c9)
  exact kk _ _ _ _ _ _ _ _ _ _ _ _ _ _ (⟨⟨S, u, x, P, hv, hsc, hrs, hcp, hrp, hlp⟩, ⟨n, T, hct⟩, ⟨Lh, N9, I9, hih⟩, h6, hlt, hM⟩) w
