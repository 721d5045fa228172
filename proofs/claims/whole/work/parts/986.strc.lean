/-! contracts of methods that read the String constants -/
def sK0 (j : Nat) : Nat := if j = 0 then 46 else (if j = 1 then 47 else 118)
def sK1 (j : Nat) : Nat := if j = 0 then 112 else (if j = 1 then 115 else (if j = 2 then 108 else 102))
theorem sK0_le (j : Nat) : sK0 j ≤ 127 := by
  unfold sK0
  split
  · decide
  · split <;> decide
theorem sK1_le (j : Nat) : sK1 j ≤ 127 := by
  unfold sK1
  split
  · decide
  · split
    · decide
    · split <;> decide
def sT (A : Nat → Prop) (U : State) (H : Heap) : Prop := sC1 A U H ∧ (∃ k v, vk_R RX1 60 "./v" k U ∧ sStr A k v 3 (fun j => nI (sK0 j)) U H) ∧ ∃ k v, vk_R RX1 78 "pslf" k U ∧ sStr A k v 4 (fun j => nI (sK1 j)) U H
theorem sT_warm {A : Nat → Prop} {s U : State} {H : Heap} (hW : s.WarmedH U.vm) (h : sT A s H) : sT A U H := by
  obtain ⟨h1, ⟨k, v, h2, h3⟩, k2, v2, h4, h5⟩ := h
  exact ⟨va_Z.moved hW.alike h1, ⟨k, v, h2.warm hW, sStr_moved hW.alike h3⟩, k2, v2, h4.warm hW, sStr_moved hW.alike h5⟩
theorem sT_same {A : Nat → Prop} {s U : State} {H : Heap} (hW : U.vm = s.vm) (h : sT A s H) : sT A U H := by
  obtain ⟨h1, ⟨k, v, h2, h3⟩, k2, v2, h4, h5⟩ := h
  have hA : s.vm.Alike U.vm := by rw [hW]; exact Vm.Alike.refl _
  exact ⟨va_Z.moved hA h1, ⟨k, v, h2.same hW, sStr_moved hA h3⟩, k2, v2, h4.same hW, sStr_moved hA h5⟩
theorem sT_kept {A : Nat → Prop} {U : State} {H H1 : Heap} (h : sT A U H) (hq : ∀ a : Nat, a < H.size → ¬ A a → H1[a]? = H[a]?) : sT A U H1 := by
  obtain ⟨h1, ⟨k, v, h2, h3⟩, k2, v2, h4, h5⟩ := h
  exact ⟨h1.kept hq, ⟨k, v, h2, sStr_kept h3 hq⟩, k2, v2, h4, sStr_kept h5 hq⟩
theorem sT_narrow {A B : Nat → Prop} {U : State} {H : Heap} (h : sT A U H) (hAB : ∀ q, B q → A q) : sT B U H := by
  obtain ⟨h1, ⟨k, v, h2, h3⟩, k2, v2, h4, h5⟩ := h
  exact ⟨h1.narrow hAB, ⟨k, v, h2, sStr_narrow h3 hAB⟩, k2, v2, h4, sStr_narrow h5 hAB⟩
def cPreT (G : CG) (av : List Value) (ws : va_W) (sz : Nat) : Array Value → State → Prop := va_Pc av (fun U => (U.heap.size = sz ∧ va_P G.1 vwCl ws U.heap ∧ cK G U ∧ va_D (fun _ => True) ws) ∧ sT (va_A ws sz) U U.heap)
def cTi {σ : Type} (G : CG) (l : Launch) (y : MethodName) (cc : ByteArray) (mx : Nat) (ret : Option FieldType) (fr lo : Nat) (av : List Value) (w : σ → va_W) (z : σ) (post : Int32 → σ → Prop) : Prop :=
  ∀ sz, Met l y (Cond.code y cc mx ret :: gT) (ro_m fr lo) (cPreT G av (w z) sz) (va_Qi post (cB G w (va_A (w z) sz)) (va_A (w z) sz)) 0 0 (va_A (w z) sz)
section StrT
variable {l : Launch} {y : MethodName} {cc : ByteArray} {mx : Nat} {ret : Option FieldType} {fr lo : Nat} {av : List Value} {G : CG} {own : String}
theorem cTi_in {σ : Type} {w : σ → va_W} {z : σ} {post : Int32 → σ → Prop} (hy : plainName y.cls = true) (hc : y.cls = own) (hav : (lg_sl av).length ≤ mx)
    (body : ∀ (p : Program) (e : Env) (s : State) (m : MethodId) (args : Array Value) (below : List Frame) (meth : Method) (c : Code) (A : Nat → Prop) (ls : Array Slot), cX own G A p c cc s args m → sT A s s.heap → c.maxLocals = mx → meth.sig.returnType = ret → meth.locks = false → lv_has ls mx (lv_args 0 av) → cW G A s (w z) s.heap [] →
      W p l e (ro_m fr lo) s m args below meth c s.heap [] 0 0 (MQ below (va_Qi post (cB G w A) A) args s 0 0 A) (F0 m 0 ls [])) : cTi G l y cc mx ret fr lo av w z post := by
  intro sz
  refine Met.ofW (cc := cc) (maxL := mx) (ret := ret) hy rfl ?_
  intro p e s m args below meth c s₁ B hml hv
  obtain ⟨rfl, ⟨hsz, hP, hK, hD0⟩, hT⟩ := hv
  subst hsz
  have hts := atoms_spec (ws := Cond.code y cc mx ret :: gT) B.pre
  have hown : s.vm.findClass y.cls = some m.cls := findClass_of_methodNamed B.named
  rw [lg_entry_eq]
  exact body p e s m _ below meth c _ _ ⟨B.exec, B.bytes, fun w h => hts w (List.mem_cons_of_mem _ h), hc ▸ hown, hK, fun _ h => Or.inr h⟩ hT hml B.returns B.notSynchronized (lv_entry _ hav) ⟨hP, hD0.self, va_S.rf⟩
end StrT
section StrU
variable {p : Program} {l : Launch} {e : Env} {R : Room} {s : State} {m : MethodId} {args : Array Value} {below : List Frame} {meth : Method} {c : Code} {H : Heap} {locs : List Loc} {cells slots : Nat} {Q : State → Prop}
variable {cc : ByteArray} {pc : Nat} {ls : Array Slot} {rest : List Value} {G : CG} {A : Nat → Prop} {v : Int32} {own : String}
variable {y : MethodName} {cc1 : ByteArray} {mx nL fr lo idx : Nat} {ret : Option FieldType} {av : List Value} {st0 : List Value} {C : String} {ci : Nat} {cT : u_T} {cN b : Nat} {fs : List Value}
theorem gc_ti {σ : Type} {post : Int32 → σ → Prop} {ws wr : va_W} {w : σ → va_W} {z : σ} {wn : σ → va_W} (hT : sT A s s.heap) (X : cX own G A p c cc s args m) (hml : c.maxLocals = nL) (hls : ls.size = nL) (hM : cTi G l y cc1 mx ret fr lo (.ref b :: av) w z post) (ok : cOk C y cc1 mx ret av.length) (hlk : Cond.methodLink own idx y ∈ gT) (hR : fr + 1 ≤ R.frames ∧ 8 + (mx + 11) + lo ≤ R.locals) (hf : cells ≤ R.cells ∧ slots ≤ R.slots) (h : cW G A s ws H locs) (is rs ks : List Nat) (hC : is.map (fun i => ws[i]?) = (w z).map some) (hi : va_nd is = true) (hrs : rs.map (fun i => ws[i]?) = wr.map some) (hrn : va_nd rs = true) (hdis : ∀ i ∈ rs, i ∉ is) (hk : ∀ u, ks.map (fun i => (wr ++ w u)[i]?) = (wn u).map some) (hkn : va_nd ks = true) (hcl : vwCl[ci]? = some (C, cT, cN)) (hth : (w z)[0]? = some (b, .inr (ci, fs))) (hst : st0 = av.reverse ++ .ref b :: rest) (hrm : (rest.map fun v => v.category).sum ≤ 8) (hdg : decode cc pc = .ok (.invokevirtual idx, 3))
    (kk : ∀ (r : Int32) (u : σ) (H : Heap) (locs : List Loc), post r u → cW G A s (wn u) H locs → W p l e R s m args below meth c H locs cells slots Q (F0 m (pc + 3) ls (.int r :: rest))) : W p l e R s m args below meth c H locs cells slots Q (F0 m pc ls st0) := by
  subst hst
  have wP := h.1.sub is (map_fm hC)
  have wD := h.2.1.sub is hi hC
  have hFc := va_free (wc := w z) h.2.1 h.2.2 X.2.2.2.2.2 is hC
  have hTH : sT (va_A (w z) H.size) s H := sT_narrow (sT_kept hT h.2.2.2.1) hFc
  refine va_calli (va_runV (C := C) (b := b) (As := av) (rest := rest) ⟨X.1, X.2.1, hml, X.2.2.2.1, X.2.2.1⟩ (hM H.size) (cwV av.length X.2.2.1 (gV hlk ok.2.1 ok.2.2.1 ok.2.2.2.1 ok.1) rfl rfl rfl ok.2.2.2.2 hR) ⟨fun a U g mk q => ⟨q.1, ⟨q.2.1.1, q.2.1.2.1, ⟨va_K.moved (u := U) (U := U.calling g mk a) (Vm.Alike.refl U.vm) q.2.1.2.2.1.1, nN_same (u := U) (U := U.calling g mk a) rfl q.2.1.2.2.1.2⟩, q.2.1.2.2.2⟩, sT_same (s := U) (U := U.calling g mk a) rfl q.2.2⟩, va_recv X.2.2.2.2.1.1 wP (ci := ci) (q0 := 0) hcl hth, fun U hU hW => ⟨rfl, ⟨by rw [hU], by rw [hU]; exact wP, ⟨va_K.moved hW.alike X.2.2.2.2.1.1, nN_warm hW X.2.2.2.2.1.2⟩, wD.weaken (fun _ _ _ _ => trivial)⟩, by rw [hU]; exact sT_warm hW hTH⟩⟩ rfl rfl hls rfl (lv_room hrm) hdg hf) h.2.2 (fun q _ h => hFc q h) hFc (fun r u t H1 locs1 ht hvm hw hB hz1 hk1 hS => ?_)
  obtain ⟨jP, jD⟩ := va_join (wr := wr) (w1 := w u) h.1 h.2.1 is rs hC hrs hrn hdis hk1 hFc (by rw [← ht]; exact hB.1) hB.2
  exact kk r u H1 locs1 hw ⟨jP.sub ks (map_fm (hk u)), jD.sub ks hkn (hk u), hS⟩
/-- indexOf of a constant, whatever was written meanwhile -/
theorem sc_x {post : Int32 → Prop} {k v n : Nat} {f : Nat → Int32} (X : p.tables.exec = Jvm.exec ∧ c.code = cc ∧ (∀ w ∈ gT, w.before args s = true) ∧ s.vm.findClass own = some m.cls) (hml : c.maxLocals = nL) (hls : ls.size = nL) (hM : sMp l y cc1 mx ret fr lo (.ref k :: av) k v n f post) (ok : cOk RJ0 y cc1 mx ret av.length) (hlk : Cond.methodLink own idx y ∈ gT) (hR : fr + 1 ≤ R.frames ∧ 8 + (mx + 11) + lo ≤ R.locals) (hf : cells ≤ R.cells ∧ slots ≤ R.slots) (hZ : sC1 A s s.heap) (hS : sStr A k v n f s s.heap) (hw : va_S A s.heap H locs) (hst : st0 = av.reverse ++ .ref k :: rest) (hrm : (rest.map fun v => v.category).sum ≤ 8) (hdg : decode cc pc = .ok (.invokevirtual idx, 3))
    (kk : ∀ r : Int32, post r → W p l e R s m args below meth c H locs cells slots Q (F0 m (pc + 3) ls (.int r :: rest))) : W p l e R s m args below meth c H locs cells slots Q (F0 m pc ls st0) := by
  subst hst
  have hZ1 : sC1 sN0 s H := va_Z.narrow (va_Z.kept hZ hw.2.1) (fun _ h => h.elim)
  have hS1 : sStr sN0 k v n f s H := sStr_narrow (sStr_kept hS hw.2.1) (fun _ h => h.elim)
  obtain ⟨cell, h1, h2, h3, -⟩ := hS1.1
  refine vp_callSi (W.runV (C := RJ0) (b := k) (As := av) (rest := rest) ⟨X.1, X.2.1, hml, X.2.2.2, X.2.2.1⟩ hM (cwV av.length X.2.2.1 (gV hlk ok.2.1 ok.2.2.1 ok.2.2.2.1 ok.1) rfl rfl rfl ok.2.2.2.2 hR) ⟨fun a U g mk q => ⟨q.1, va_Z.moved (u := U) (U := U.calling g mk a) (Vm.Alike.refl U.vm) q.2.1, sStr_moved (u := U) (U := U.calling g mk a) (Vm.Alike.refl U.vm) q.2.2⟩, ⟨cell, h1, h2, h3⟩, fun U hU hW => ⟨rfl, by rw [show sC1 sN0 U U.heap = sC1 sN0 U H by rw [hU]]; exact va_Z.moved hW.alike hZ1, by rw [hU]; exact sStr_moved hW.alike hS1⟩⟩ rfl rfl hls rfl (lv_room hrm) hdg hf) kk
end StrU
theorem i16_nI {xa9 : Nat} (h : xa9 ≤ 127) : ((nI xa9).toUInt32 % 65536).toInt32 = nI xa9 := by
  have d9 : ∀ y9 : Fin 128, ((nI y9.1).toUInt32 % 65536).toInt32 = nI y9.1 := by decide +kernel
  exact d9 ⟨xa9, by omega⟩
/-- where a letter lies in the constants, -1 for nowhere -/
def sJ0 (h : Nat) : Int := if h = 46 then 0 else (if h = 47 then 1 else (if h = 118 then 2 else -1))
def sJ1 (h : Nat) : Int := if h = 112 then 0 else (if h = 115 then 1 else (if h = 108 then 2 else (if h = 102 then 3 else -1)))
theorem sP_0 {h : Nat} {r : Int32} (hp : sP sK0 h 3 r) : r = iZ (sJ0 h) := by
  unfold sJ0
  rcases hp with ⟨e, h1⟩ | ⟨j, hj, e, h1, h2⟩
  · rw [e, if_neg (fun w => h1 0 (by decide) w.symm), if_neg (fun w => h1 1 (by decide) w.symm), if_neg (fun w => h1 2 (by decide) w.symm)]
  · rw [e]
    rcases (show j = 0 ∨ j = 1 ∨ j = 2 by omega) with rfl | rfl | rfl <;> (rw [← h1]; decide)
theorem sP_1 {h : Nat} {r : Int32} (hp : sP sK1 h 4 r) : r = iZ (sJ1 h) := by
  unfold sJ1
  rcases hp with ⟨e, h1⟩ | ⟨j, hj, e, h1, h2⟩
  · rw [e, if_neg (fun w => h1 0 (by decide) w.symm), if_neg (fun w => h1 1 (by decide) w.symm), if_neg (fun w => h1 2 (by decide) w.symm), if_neg (fun w => h1 3 (by decide) w.symm)]
  · rw [e]
    rcases (show j = 0 ∨ j = 1 ∨ j = 2 ∨ j = 3 by omega) with rfl | rfl | rfl | rfl <;> (rw [← h1]; decide)
theorem sJ0_ok (h : Nat) : (h = 46 ∧ sJ0 h = 0 ∧ tk_sg h = 0) ∨ (h = 47 ∧ sJ0 h = 1 ∧ tk_sg h = 1) ∨ (h = 118 ∧ sJ0 h = 2 ∧ tk_sg h = 2) ∨ (¬ h = 46 ∧ ¬ h = 47 ∧ ¬ h = 118 ∧ sJ0 h = -1 ∧ tk_sg h = -4) := by
  unfold sJ0 tk_sg
  by_cases q1 : h = 46
  · exact Or.inl ⟨q1, if_pos q1, if_pos q1⟩
  · rw [if_neg q1, if_neg q1]
    by_cases q2 : h = 47
    · exact Or.inr (Or.inl ⟨q2, if_pos q2, if_pos q2⟩)
    · rw [if_neg q2, if_neg q2]
      by_cases q3 : h = 118
      · exact Or.inr (Or.inr (Or.inl ⟨q3, if_pos q3, if_pos q3⟩))
      · rw [if_neg q3, if_neg q3]
        exact Or.inr (Or.inr (Or.inr ⟨q1, q2, q3, rfl, rfl⟩))
theorem sJ1_ok (h : Nat) : (sJ1 h = ((tk_kd h : Nat) : Int) ∧ fk_w0 h = 0 ∧ tk_kd h ≤ 3) ∨ (sJ1 h = -1 ∧ fk_w0 h = 1) := by
  unfold sJ1 tk_kd fk_w0
  by_cases q1 : h = 112
  · rw [if_pos q1, if_pos q1, if_pos q1]
    exact Or.inl ⟨rfl, rfl, by decide⟩
  · rw [if_neg q1, if_neg q1, if_neg q1]
    by_cases q2 : h = 115
    · rw [if_pos q2, if_pos q2, if_pos q2]
      exact Or.inl ⟨rfl, rfl, by decide⟩
    · rw [if_neg q2, if_neg q2, if_neg q2]
      by_cases q3 : h = 108
      · rw [if_pos q3, if_pos q3, if_pos q3]
        exact Or.inl ⟨rfl, rfl, by decide⟩
      · rw [if_neg q3, if_neg q3, if_neg q3]
        by_cases q4 : h = 102
        · rw [if_pos q4, if_pos q4]
          exact Or.inl ⟨rfl, rfl, by decide⟩
        · rw [if_neg q4, if_neg q4]
          exact Or.inr ⟨rfl, rfl⟩
