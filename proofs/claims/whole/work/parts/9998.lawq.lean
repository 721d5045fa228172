/-! the law's loop and its entry -/
theorem wL_RL_7 : Cond.classLink RL 7 RX7 ∈ gT := gT_t (i := 17) (by decide +kernel) rfl
theorem wL_RL_10 : Cond.classLink RL 10 RX8 ∈ gT := gT_t (i := 895) (by decide +kernel) rfl
theorem okn_X7 : Cond.code yX7_init cX7_init 2 none ∈ gT ∧ Cond.instanceMethod yX7_init ∈ gT ∧ Cond.initialized yX7_init.cls ∈ gT ∧ yX7_init.name = "<init>" ∧ yX7_init.cls ≠ "java/lang/invoke/MethodHandle" ∧ yX7_init.cls ≠ "java/lang/invoke/VarHandle" ∧ (parseMethodDescriptor yX7_init.desc).map (fun d => d.parameters.length) = some 0 := ⟨wc_X7_init, wi_X7_init, wn_X7, rfl, by decide, by decide, by decide +kernel⟩
theorem okn_X8 : Cond.code yX8_init cX8_init 2 none ∈ gT ∧ Cond.instanceMethod yX8_init ∈ gT ∧ Cond.initialized yX8_init.cls ∈ gT ∧ yX8_init.name = "<init>" ∧ yX8_init.cls ≠ "java/lang/invoke/MethodHandle" ∧ yX8_init.cls ≠ "java/lang/invoke/VarHandle" ∧ (parseMethodDescriptor yX8_init.desc).map (fun d => d.parameters.length) = some 0 := ⟨wc_X8_init, wi_X8_init, wn_X8, rfl, by decide, by decide, by decide +kernel⟩
theorem an_31 (v : Int32) : ∃ k9 : Nat, k9 < 32 ∧ v &&& nI 31 = nI k9 := by
  obtain ⟨k9, rfl⟩ := nI_sj v
  refine ⟨k9 &&& 31, ?_, fa_and _ _⟩
  have h := @Nat.and_le_right k9 31
  omega
theorem wN_fl (xa9 ya9 : Nat × va_E) (Ba Bb Bc Bd Be Bf Bg Bh Bi Bj Bk Bl Bm Bn : va_W) : (xa9 :: ya9 :: (([] : va_W) ++ Ba ++ Bb ++ Bc ++ Bd ++ (Be ++ Bf) ++ (Bg ++ Bh ++ Bi) ++ Bj ++ Bk ++ Bl ++ Bm)) ++ Bn = [[xa9, ya9], Ba, Bb, Bc, Bd, Be, Bf, Bg, Bh, Bi, Bj, Bk, Bl, Bm, Bn].flatten := by
  simp
def zT0 : RS := (fun _ => 0, fun _ _ => 0, fun _ _ => 0)
theorem wN_bl (G : CG) (u9 : (Nat → Nat) × (Nat → Nat → Nat)) (v9 : Nat × (Nat → Nat)) : wN7 G u9 ++ wR (G.1, G.2.1, G.2.2.1, v9.1, v9.2) zN8 = (bLs G u9.1 u9.2 v9.1 v9.2 zT0 zN5 zN4 zN5 zN4 zN1 zN5 zN2 zN5 zN0 (fun _ => zN6) zN8).flatten :=
  wN_fl (u9.1 0, .inr (6, [.ref (u9.2 0 0), .ref (u9.2 1 0), .ref (u9.2 2 0), .ref (u9.2 3 0), .int 0, .ref (u9.2 5 0), .ref (u9.2 6 0), .ref (u9.1 8)])) (u9.1 8, .inl (G.2.2.2, 4, .inr (.inr (.inr (.inr (fun j => some (u9.2 (10 + j) 0))))))) (w5 G (u9.2 0) zN5) (w4 G (u9.2 1) zN4) (w5 G (u9.2 2) zN5) (w4 G (u9.2 3) zN4) (wT1 G (u9.2 5) (u9.2 7) zN1) (w5 G (u9.2 7) zN5) (wFo G u9.2 zN2) (w5 G (u9.2 8) zN5) (w0 G (u9.2 9) zN0) (w6 G (u9.2 10) zN6) (w6 G (u9.2 11) zN6) (w6 G (u9.2 12) zN6) (w6 G (u9.2 13) zN6) (wR (G.1, G.2.1, G.2.2.1, v9.1, v9.2) zN8)
section LawF
variable {p : Program} {l : Launch} {e : Env} {R : Room} {s : State} {m : MethodId} {args : Array Value} {below : List Frame} {meth : Method} {c : Code} {H : Heap} {locs : List Loc} {cells slots : Nat} {Q : State → Prop}
variable {cc : ByteArray} {pc : Nat} {ls : Array Slot} {rest : List Value} {G : CG} {A : Nat → Prop} {own : String}
variable {y : MethodName} {cc1 : ByteArray} {mx nL fr lo idx nc ns : Nat}
/-- a public constructor -/
theorem ni_callL {σ : Type} {post : σ → Prop} {y9 : Nat × va_E} {L : va_W} {w : σ → va_W} {b : Nat} (X : nX own G A p c cc s args m) (hml : c.maxLocals = nL) (hls : ls.size = nL) (hM : cNv G l y cc1 mx fr lo nc ns [.ref b] [y9] w post) (ok : Cond.code y cc1 mx none ∈ gT ∧ Cond.instanceMethod y ∈ gT ∧ Cond.initialized y.cls ∈ gT ∧ y.name = "<init>" ∧ y.cls ≠ "java/lang/invoke/MethodHandle" ∧ y.cls ≠ "java/lang/invoke/VarHandle" ∧ (parseMethodDescriptor y.desc).map (fun d => d.parameters.length) = some 0) (hlk : Cond.methodLink own idx y ∈ gT) (hR : fr + 1 ≤ R.frames ∧ 8 + (mx + 11) + lo ≤ R.locals) (hf : cells + nc ≤ R.cells ∧ slots + ns ≤ R.slots) (h : cW G A s (L ++ [y9]) H locs) (hrm : (rest.map fun v => v.category).sum ≤ 8) (hdg : decode cc pc = .ok (.invokespecial idx, 3))
    (kk : ∀ (u : σ) (H : Heap) (locs : List Loc), post u → cW G A s (L ++ w u) H locs → W p l e R s m args below meth c H locs (cells + nc) (slots + ns) Q (F0 m (pc + 3) ls rest)) : W p l e R s m args below meth c H locs cells slots Q (F0 m pc ls (.ref b :: rest)) := by
  have hC := one9 L y9
  have wP := h.1.sub [L.length] (map_fm hC)
  have wD := h.2.1.sub [L.length] (nd_of _ (List.nodup_cons.mpr ⟨List.not_mem_nil, List.nodup_nil⟩)) hC
  have hFc := va_free (wc := [y9]) h.2.1 h.2.2 X.2.2.2.2.2 [L.length] hC
  refine va_callv (va_runI (b := b) (As := []) (rest := rest) ⟨X.1, X.2.1, hml, X.2.2.2.1, X.2.2.1⟩ (hM H.size) (cwI 0 X.2.2.1 (gCc ok.1) rfl rfl rfl (X.2.2.1 _ ok.2.2.1) (X.2.2.1 _ hlk) (X.2.2.1 _ ok.2.1) ok.2.2.2.1 ok.2.2.2.2 hR) ⟨fun a U g mk q => ⟨q.1, q.2.1, q.2.2.1, ⟨va_K.moved (u := U) (U := U.calling g mk a) (Vm.Alike.refl U.vm) q.2.2.2.1.1, nN_same (u := U) (U := U.calling g mk a) rfl q.2.2.2.1.2.1, va_AO.moved (u := U) (U := U.calling g mk a) (Vm.Alike.refl U.vm) q.2.2.2.1.2.2⟩, q.2.2.2.2⟩, fun U hU hW => ⟨rfl, by rw [hU], by rw [hU]; exact wP, ⟨va_K.moved hW.alike X.2.2.2.2.1.1, nN_warm hW X.2.2.2.2.1.2.1, va_AO.moved hW.alike X.2.2.2.2.1.2.2⟩, wD.weaken (fun _ _ _ _ => trivial)⟩⟩ rfl rfl hls rfl (lv_room hrm) hdg hf) h.2.2 (fun q _ h => hFc q h) hFc (fun u t H1 locs1 ht hvm hw hB hz1 hk1 hS => ?_)
  obtain ⟨jP, jD⟩ := va_join (wr := L) (w1 := w u) h.1 h.2.1 [L.length] (List.range L.length) hC (rng9 L [y9]) (nd_of _ List.nodup_range) (dis9 _) hk1 hFc (by rw [← ht]; exact hB.1) hB.2
  exact kk u H1 locs1 hw ⟨jP, jD, hS⟩
end LawF
