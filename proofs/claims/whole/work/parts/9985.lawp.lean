/-! calls from the law: the callee's cells first, the rest unopened -/
theorem vD_pw {A : Nat → Prop} {ws : va_W} (h : va_D A ws) : ws.Pairwise (fun p9 q9 => p9.1 ≠ q9.1) := by
  rw [List.pairwise_iff_getElem]
  intro i j hi hj hij e9
  have h1 := h.1 i j ws[i] ws[j] (List.getElem?_eq_getElem hi) (List.getElem?_eq_getElem hj) e9
  omega
theorem pw_vD {A : Nat → Prop} {ws : va_W} (h : ws.Pairwise (fun p9 q9 => p9.1 ≠ q9.1)) (hA : ∀ x ∈ ws, A x.1) : va_D A ws := by
  rw [List.pairwise_iff_getElem] at h
  refine ⟨fun i j p9 q9 hi hj e9 => ?_, fun k q9 hq => hA q9 (List.mem_of_getElem? hq)⟩
  obtain ⟨hi1, hi2⟩ := List.getElem?_eq_some_iff.mp hi
  obtain ⟨hj1, hj2⟩ := List.getElem?_eq_some_iff.mp hj
  by_cases q1 : i < j
  · exact absurd (by rw [hi2, hj2]; exact e9) (h i j hi1 hj1 q1)
  · by_cases q2 : j < i
    · exact absurd (by rw [hi2, hj2]; exact e9.symm) (h j i hj1 hi1 q2)
    · omega
theorem rng8 (L M : va_W) : ((List.range M.length).map (· + L.length)).map (fun i => (L ++ M)[i]?) = M.map some := by
  apply List.ext_getElem
  · simp
  · intro k h1 h2
    have h3 : k < M.length := by simpa using h1
    simp only [List.getElem_map, List.getElem_range]
    rw [List.getElem?_append_right (by omega), Nat.add_sub_cancel, List.getElem?_eq_getElem h3]
theorem nd8 (n m : Nat) : va_nd ((List.range n).map (· + m)) = true := by
  refine nd_of _ ?_
  have h2 := @List.nodup_range n
  exact (List.pairwise_map.mpr (h2.imp (fun h9 h8 => h9 (by omega))))
theorem dis8 (n m : Nat) : ∀ i ∈ (List.range n).map (· + m), i ∉ List.range m := by
  intro i hi h9
  obtain ⟨j, hj, rfl⟩ := List.mem_map.mp hi
  have h1 := List.mem_range.mp h9
  omega
section LawC
variable {p : Program} {l : Launch} {e : Env} {R : Room} {s : State} {m : MethodId} {args : Array Value} {below : List Frame} {meth : Method} {c : Code} {H : Heap} {locs : List Loc} {cells slots : Nat} {Q : State → Prop}
variable {cc : ByteArray} {pc : Nat} {ls : Array Slot} {rest : List Value} {G : CG} {A : Nat → Prop} {own : String}
variable {y : MethodName} {cc1 : ByteArray} {mx nL fr lo idx : Nat} {ret : Option FieldType} {av : List Value} {st0 : List Value} {C : String} {ci : Nat} {cT : u_T} {cN b : Nat} {fs : List Value}
theorem cW_perm {ws ws9 : va_W} (hp : ws.Perm ws9) (w : cW G A s ws H locs) : cW G A s ws9 H locs := by
  refine ⟨fun k q9 hq => ?_, pw_vD ((hp.pairwise_iff (fun h9 => h9.symm)).mp (vD_pw w.2.1)) (fun x hx => ?_), w.2.2⟩
  · obtain ⟨j, hj⟩ := List.getElem?_of_mem (hp.mem_iff.mpr (List.mem_of_getElem? hq))
    exact w.1 j q9 hj
  · obtain ⟨j, hj⟩ := List.getElem?_of_mem (hp.mem_iff.mpr hx)
    exact w.2.1.2 j x hj
theorem gl_p {post : Int32 → Prop} {wc wr : va_W} (X : cX own G A p c cc s args m) (hml : c.maxLocals = nL) (hls : ls.size = nL) (hM : cMp G l y cc1 mx ret fr lo (.ref b :: av) wc post) (ok : cOk C y cc1 mx ret av.length) (hlk : Cond.methodLink own idx y ∈ gT) (hR : fr + 1 ≤ R.frames ∧ 8 + (mx + 11) + lo ≤ R.locals) (hf : cells ≤ R.cells ∧ slots ≤ R.slots) (w : cW G A s (wc ++ wr) H locs) (hcl : vwCl[ci]? = some (C, cT, cN)) (hth : wc[0]? = some (b, .inr (ci, fs))) (hst : st0 = av.reverse ++ .ref b :: rest) (hrm : (rest.map fun v => v.category).sum ≤ 8) (hdg : decode cc pc = .ok (.invokevirtual idx, 3))
    (kk : ∀ r : Int32, post r → W p l e R s m args below meth c H locs cells slots Q (F0 m (pc + 3) ls (.int r :: rest))) : W p l e R s m args below meth c H locs cells slots Q (F0 m pc ls st0) :=
  gc_p X hml hls hM ok hlk hR hf w.1 (List.range wc.length) (rng9 wc wr) hcl hth hst hrm hdg kk
theorem gl_i {σ : Type} {post : Int32 → σ → Prop} {wr : va_W} {w : σ → va_W} {z : σ} (X : cX own G A p c cc s args m) (hml : c.maxLocals = nL) (hls : ls.size = nL) (hM : cMi G l y cc1 mx ret fr lo (.ref b :: av) w z post) (ok : cOk C y cc1 mx ret av.length) (hlk : Cond.methodLink own idx y ∈ gT) (hR : fr + 1 ≤ R.frames ∧ 8 + (mx + 11) + lo ≤ R.locals) (hf : cells ≤ R.cells ∧ slots ≤ R.slots) (h : cW G A s (w z ++ wr) H locs) (hcl : vwCl[ci]? = some (C, cT, cN)) (hth : (w z)[0]? = some (b, .inr (ci, fs))) (hst : st0 = av.reverse ++ .ref b :: rest) (hrm : (rest.map fun v => v.category).sum ≤ 8) (hdg : decode cc pc = .ok (.invokevirtual idx, 3))
    (kk : ∀ (r : Int32) (u : σ) (H : Heap) (locs : List Loc), post r u → cW G A s (w u ++ wr) H locs → W p l e R s m args below meth c H locs cells slots Q (F0 m (pc + 3) ls (.int r :: rest))) : W p l e R s m args below meth c H locs cells slots Q (F0 m pc ls st0) := by
  subst hst
  have hC := rng9 (w z) wr
  have wP := h.1.sub _ (map_fm hC)
  have wD := h.2.1.sub _ (nd_of _ List.nodup_range) hC
  have hFc := va_free (wc := w z) h.2.1 h.2.2 X.2.2.2.2.2 _ hC
  refine va_calli (va_runV (C := C) (b := b) (As := av) (rest := rest) ⟨X.1, X.2.1, hml, X.2.2.2.1, X.2.2.1⟩ (hM H.size) (cwV av.length X.2.2.1 (gV hlk ok.2.1 ok.2.2.1 ok.2.2.2.1 ok.1) rfl rfl rfl ok.2.2.2.2 hR) ⟨fun a U g mk q => ⟨q.1, q.2.1, q.2.2.1, ⟨va_K.moved (u := U) (U := U.calling g mk a) (Vm.Alike.refl U.vm) q.2.2.2.1.1, nN_same (u := U) (U := U.calling g mk a) rfl q.2.2.2.1.2⟩, q.2.2.2.2⟩, va_recv X.2.2.2.2.1.1 wP (ci := ci) (q0 := 0) hcl hth, fun U hU hW => ⟨rfl, by rw [hU], by rw [hU]; exact wP, ⟨va_K.moved hW.alike X.2.2.2.2.1.1, nN_warm hW X.2.2.2.2.1.2⟩, wD.weaken (fun _ _ _ _ => trivial)⟩⟩ rfl rfl hls rfl (lv_room hrm) hdg hf) h.2.2 (fun q _ h => hFc q h) hFc (fun r u t H1 locs1 ht hvm hw hB hz1 hk1 hS => ?_)
  obtain ⟨jP, jD⟩ := va_join (wr := wr) (w1 := w u) h.1 h.2.1 _ _ hC (rng8 (w z) wr) (nd8 _ _) (dis8 _ _) hk1 hFc (by rw [← ht]; exact hB.1) hB.2
  exact kk r u H1 locs1 hw (cW_perm List.perm_append_comm ⟨jP, jD, hS⟩)
theorem gl_ti {σ : Type} {post : Int32 → σ → Prop} {wr : va_W} {w : σ → va_W} {z : σ} (hT : sT A s s.heap) (X : cX own G A p c cc s args m) (hml : c.maxLocals = nL) (hls : ls.size = nL) (hM : cTi G l y cc1 mx ret fr lo (.ref b :: av) w z post) (ok : cOk C y cc1 mx ret av.length) (hlk : Cond.methodLink own idx y ∈ gT) (hR : fr + 1 ≤ R.frames ∧ 8 + (mx + 11) + lo ≤ R.locals) (hf : cells ≤ R.cells ∧ slots ≤ R.slots) (h : cW G A s (w z ++ wr) H locs) (hcl : vwCl[ci]? = some (C, cT, cN)) (hth : (w z)[0]? = some (b, .inr (ci, fs))) (hst : st0 = av.reverse ++ .ref b :: rest) (hrm : (rest.map fun v => v.category).sum ≤ 8) (hdg : decode cc pc = .ok (.invokevirtual idx, 3))
    (kk : ∀ (r : Int32) (u : σ) (H : Heap) (locs : List Loc), post r u → cW G A s (w u ++ wr) H locs → W p l e R s m args below meth c H locs cells slots Q (F0 m (pc + 3) ls (.int r :: rest))) : W p l e R s m args below meth c H locs cells slots Q (F0 m pc ls st0) := by
  subst hst
  have hC := rng9 (w z) wr
  have wP := h.1.sub _ (map_fm hC)
  have wD := h.2.1.sub _ (nd_of _ List.nodup_range) hC
  have hFc := va_free (wc := w z) h.2.1 h.2.2 X.2.2.2.2.2 _ hC
  have hTH : sT (va_A (w z) H.size) s H := sT_narrow (sT_kept hT h.2.2.2.1) hFc
  refine va_calli (va_runV (C := C) (b := b) (As := av) (rest := rest) ⟨X.1, X.2.1, hml, X.2.2.2.1, X.2.2.1⟩ (hM H.size) (cwV av.length X.2.2.1 (gV hlk ok.2.1 ok.2.2.1 ok.2.2.2.1 ok.1) rfl rfl rfl ok.2.2.2.2 hR) ⟨fun a U g mk q => ⟨q.1, ⟨q.2.1.1, q.2.1.2.1, ⟨va_K.moved (u := U) (U := U.calling g mk a) (Vm.Alike.refl U.vm) q.2.1.2.2.1.1, nN_same (u := U) (U := U.calling g mk a) rfl q.2.1.2.2.1.2⟩, q.2.1.2.2.2⟩, sT_same (s := U) (U := U.calling g mk a) rfl q.2.2⟩, va_recv X.2.2.2.2.1.1 wP (ci := ci) (q0 := 0) hcl hth, fun U hU hW => ⟨rfl, ⟨by rw [hU], by rw [hU]; exact wP, ⟨va_K.moved hW.alike X.2.2.2.2.1.1, nN_warm hW X.2.2.2.2.1.2⟩, wD.weaken (fun _ _ _ _ => trivial)⟩, by rw [hU]; exact sT_warm hW hTH⟩⟩ rfl rfl hls rfl (lv_room hrm) hdg hf) h.2.2 (fun q _ h => hFc q h) hFc (fun r u t H1 locs1 ht hvm hw hB hz1 hk1 hS => ?_)
  obtain ⟨jP, jD⟩ := va_join (wr := wr) (w1 := w u) h.1 h.2.1 _ _ hC (rng8 (w z) wr) (nd8 _ _) (dis8 _ _) hk1 hFc (by rw [← ht]; exact hB.1) hB.2
  exact kk r u H1 locs1 hw (cW_perm List.perm_append_comm ⟨jP, jD, hS⟩)
/-- the reference's place, by the class's -/
abbrev gR (G : CG) (b : Nat) (ad : Nat → Nat) : RG := (G.1, G.2.1, G.2.2.1, b, ad)
theorem gK {U : State} (ad : Nat → Nat) (h : cK G U) : rK (gR G b ad) U := h.1.sub [0, 1] rfl
theorem gr_p {post : Int32 → Prop} {wr : va_W} {z : RS} {ad : Nat → Nat} (X : cX own G A p c cc s args m) (hml : c.maxLocals = nL) (hls : ls.size = nL) (hM : rMp (gR G b ad) l y cc1 mx ret fr lo av z post) (ok : rOk y cc1 mx ret av.length) (hlk : Cond.methodLink own idx y ∈ gT) (hR : fr + 1 ≤ R.frames ∧ 8 + (mx + 11) + lo ≤ R.locals) (hf : cells ≤ R.cells ∧ slots ≤ R.slots) (h : cW G A s (wR (gR G b ad) z ++ wr) H locs) (hst : st0 = av.reverse ++ .ref b :: rest) (hrm : (rest.map fun v => v.category).sum ≤ 8) (hdg : decode cc pc = .ok (.invokevirtual idx, 3))
    (kk : ∀ r : Int32, post r → W p l e R s m args below meth c H locs cells slots Q (F0 m (pc + 3) ls (.int r :: rest))) : W p l e R s m args below meth c H locs cells slots Q (F0 m pc ls st0) := by
  subst hst
  have wP : rP (gR G b ad) z H := h.1.sub _ (map_fm (rng9 (wR (gR G b ad) z) wr))
  have hK := gK (b := b) ad X.2.2.2.2.1
  refine vp_callSi (W.runV (C := RX8) (b := b) (As := av) (rest := rest) ⟨X.1, X.2.1, hml, X.2.2.2.1, X.2.2.1⟩ hM (cwV av.length X.2.2.1 (gV hlk ok.2.1 ok.2.2.1 wn_X8 ok.1) rfl rfl rfl ok.2.2.2 hR) ⟨fun a U g mk q => ⟨q.1, q.2.1, va_K.moved (u := U) (U := U.calling g mk a) (Vm.Alike.refl U.vm) q.2.2⟩, va_recv hK wP (ci := 7) (q0 := 0) rfl rfl, fun U hU hW => ⟨rfl, by rw [hU]; exact wP, va_K.moved hW.alike hK⟩⟩ rfl rfl hls rfl (lv_room hrm) hdg hf) kk
theorem gr_i {post : Int32 → RS → Prop} {wr : va_W} {z : RS} {ad : Nat → Nat} (X : cX own G A p c cc s args m) (hml : c.maxLocals = nL) (hls : ls.size = nL) (hM : rMi (gR G b ad) l y cc1 mx ret fr lo av z post) (ok : rOk y cc1 mx ret av.length) (hlk : Cond.methodLink own idx y ∈ gT) (hR : fr + 1 ≤ R.frames ∧ 8 + (mx + 11) + lo ≤ R.locals) (hf : cells ≤ R.cells ∧ slots ≤ R.slots) (h : cW G A s (wR (gR G b ad) z ++ wr) H locs) (hst : st0 = av.reverse ++ .ref b :: rest) (hrm : (rest.map fun v => v.category).sum ≤ 8) (hdg : decode cc pc = .ok (.invokevirtual idx, 3))
    (kk : ∀ (r : Int32) (z : RS) (H : Heap) (locs : List Loc), post r z → cW G A s (wR (gR G b ad) z ++ wr) H locs → W p l e R s m args below meth c H locs cells slots Q (F0 m (pc + 3) ls (.int r :: rest))) : W p l e R s m args below meth c H locs cells slots Q (F0 m pc ls st0) := by
  subst hst
  have hC := rng9 (wR (gR G b ad) z) wr
  have wP : rP (gR G b ad) z H := h.1.sub _ (map_fm hC)
  have wD := h.2.1.sub _ (nd_of _ List.nodup_range) hC
  have hFc := va_free (wc := wR (gR G b ad) z) h.2.1 h.2.2 X.2.2.2.2.2 _ hC
  have hK := gK (b := b) ad X.2.2.2.2.1
  refine va_calli (va_runV (C := RX8) (b := b) (As := av) (rest := rest) ⟨X.1, X.2.1, hml, X.2.2.2.1, X.2.2.1⟩ (hM H.size) (cwV av.length X.2.2.1 (gV hlk ok.2.1 ok.2.2.1 wn_X8 ok.1) rfl rfl rfl ok.2.2.2 hR) ⟨fun a U g mk q => ⟨q.1, q.2.1, q.2.2.1, va_K.moved (u := U) (U := U.calling g mk a) (Vm.Alike.refl U.vm) q.2.2.2.1, q.2.2.2.2⟩, va_recv hK wP (ci := 7) (q0 := 0) rfl rfl, fun U hU hW => ⟨rfl, by rw [hU], by rw [hU]; exact wP, va_K.moved hW.alike hK, wD.weaken (fun _ _ _ _ => trivial)⟩⟩ rfl rfl hls rfl (lv_room hrm) hdg hf) h.2.2 (fun q _ h => hFc q h) hFc (fun r u t H1 locs1 ht hvm hw hB hz1 hk1 hS => ?_)
  obtain ⟨jP, jD⟩ := va_join (wr := wr) (w1 := wR (gR G b ad) u) h.1 h.2.1 _ _ hC (rng8 (wR (gR G b ad) z) wr) (nd8 _ _) (dis8 _ _) hk1 hFc (by rw [← ht]; exact hB.1) hB.2.2
  exact kk r u H1 locs1 hw (cW_perm List.perm_append_comm ⟨jP, jD, hS⟩)
end LawC
