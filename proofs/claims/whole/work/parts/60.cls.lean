/-! the class: words of its nest, contracts over worlds, calls with a world cut out of the caller's -/
def isN : Cond → Bool
  | .fieldLinkNest _ _ _ _ _ _ => true
  | .methodLinkNest _ _ _ _ => true
  | _ => false
def nW : List Cond := tables_1.filter isN
def nN (U : State) : Prop := ∀ w ∈ nW, va_Nw w U
theorem nW_t {w : Cond} {i : Nat} (h : tables_1[i]? = some w) (hg : isN w = true) : w ∈ nW := List.mem_filter.mpr ⟨List.mem_of_getElem? h, hg⟩
theorem nN_warm {s U : State} (hW : s.WarmedH U.vm) (h : nN s) : nN U := by
  intro w hw
  have hg := (List.mem_filter.mp hw).2
  have hz := h w hw
  cases w
  all_goals first | exact va_Nw.warmF hW hz | exact va_Nw.warmM hW hz | exact absurd (show false = true from hg) Bool.false_ne_true
theorem nN_same {u U : State} (hv : u.vm = U.vm) (h : nN u) : nN U := by
  intro w hw
  have hg := (List.mem_filter.mp hw).2
  have hz := h w hw
  cases w
  all_goals first | exact va_Nw.same rfl hv hz | exact absurd (show false = true from hg) Bool.false_ne_true
abbrev CG : Type := va_G × ClassId × ClassId × ClassId
abbrev ct (G : CG) : List (ClassId × FieldType) := [(G.2.1, .int), (G.2.2.1, .long), (G.2.2.2, .object "RunningThree$Sheet")]
def cK (G : CG) (U : State) : Prop := va_K G.1 vwCl (ct G) U ∧ nN U
def cX (own : String) (G : CG) (A : Nat → Prop) (p : Program) (c : Code) (cc : ByteArray) (s : State) (args : Array Value) (m : MethodId) : Prop :=
  p.tables.exec = Jvm.exec ∧ c.code = cc ∧ (∀ w ∈ gT, w.before args s = true) ∧ s.vm.findClass own = some m.cls ∧ cK G s ∧ ∀ q, s.heap.size ≤ q → A q
def cW (G : CG) (A : Nat → Prop) (s : State) (ws : va_W) (H : Heap) (locs : List Loc) : Prop := va_P G.1 vwCl ws H ∧ va_D A ws ∧ va_S A s.heap H locs
def cMp (G : CG) (l : Launch) (y : MethodName) (cc : ByteArray) (mx : Nat) (ret : Option FieldType) (fr lo : Nat) (av : List Value) (ws : va_W) (post : Int32 → Prop) : Prop :=
  Met l y (Cond.code y cc mx ret :: gT) (ro_m fr lo) (va_Pc av (fun U => va_P G.1 vwCl ws U.heap ∧ cK G U)) (vp_Si post) 0 0 (fun _ => False)
def cPre (G : CG) (av : List Value) (ws : va_W) (sz : Nat) : Array Value → State → Prop := va_Pc av (fun U => U.heap.size = sz ∧ va_P G.1 vwCl ws U.heap ∧ cK G U ∧ va_D (fun _ => True) ws)
def cB {σ : Type} (G : CG) (w : σ → va_W) (A : Nat → Prop) (z' : σ) (t : State) : Prop := va_P G.1 vwCl (w z') t.heap ∧ va_D A (w z')
def cMi {σ : Type} (G : CG) (l : Launch) (y : MethodName) (cc : ByteArray) (mx : Nat) (ret : Option FieldType) (fr lo : Nat) (av : List Value) (w : σ → va_W) (z : σ) (post : Int32 → σ → Prop) : Prop :=
  ∀ sz, Met l y (Cond.code y cc mx ret :: gT) (ro_m fr lo) (cPre G av (w z) sz) (va_Qi post (cB G w (va_A (w z) sz)) (va_A (w z) sz)) 0 0 (va_A (w z) sz)
def cMv {σ : Type} (G : CG) (l : Launch) (y : MethodName) (cc : ByteArray) (mx : Nat) (ret : Option FieldType) (fr lo : Nat) (av : List Value) (w : σ → va_W) (z : σ) (post : σ → Prop) : Prop :=
  ∀ sz, Met l y (Cond.code y cc mx ret :: gT) (ro_m fr lo) (cPre G av (w z) sz) (va_Qv post (cB G w (va_A (w z) sz)) (va_A (w z) sz)) 0 0 (va_A (w z) sz)
section ClsB
variable {l : Launch} {y : MethodName} {cc : ByteArray} {mx : Nat} {ret : Option FieldType} {fr lo : Nat} {av : List Value} {G : CG} {own : String}
theorem cMs_in {post : Int32 → Prop} (hy : plainName y.cls = true) (hc : y.cls = own) (hav : (lg_sl av).length ≤ mx)
    (body : ∀ (p : Program) (e : Env) (s : State) (m : MethodId) (args : Array Value) (below : List Frame) (meth : Method) (c : Code) (ls : Array Slot), p.tables.exec = Jvm.exec ∧ c.code = cc ∧ (∀ w ∈ gT, w.before args s = true) ∧ s.vm.findClass own = some m.cls → c.maxLocals = mx → meth.sig.returnType = ret → meth.locks = false → lv_has ls mx (lv_args 0 av) →
      W p l e (ro_m fr lo) s m args below meth c s.heap [] 0 0 (MQ below (vp_Si post) args s 0 0 (fun _ => False)) (F0 m 0 ls [])) : rMs l y cc mx ret fr lo av post := by
  unfold rMs
  refine Met.ofW (cc := cc) (maxL := mx) (ret := ret) hy rfl ?_
  intro p e s m args below meth c s₁ B hml hv
  obtain ⟨rfl, -⟩ := hv
  have hts := atoms_spec (ws := Cond.code y cc mx ret :: gT) B.pre
  have hown : s.vm.findClass y.cls = some m.cls := findClass_of_methodNamed B.named
  rw [lg_entry_eq]
  exact body p e s m _ below meth c _ ⟨B.exec, B.bytes, fun w h => hts w (List.mem_cons_of_mem _ h), hc ▸ hown⟩ hml B.returns B.notSynchronized (lv_entry av hav)
theorem cMp_in {post : Int32 → Prop} {ws : va_W} (hy : plainName y.cls = true) (hc : y.cls = own) (hav : (lg_sl av).length ≤ mx)
    (body : ∀ (p : Program) (e : Env) (s : State) (m : MethodId) (args : Array Value) (below : List Frame) (meth : Method) (c : Code) (ls : Array Slot), cX own G (fun _ => True) p c cc s args m → c.maxLocals = mx → meth.sig.returnType = ret → meth.locks = false → lv_has ls mx (lv_args 0 av) → va_P G.1 vwCl ws s.heap →
      W p l e (ro_m fr lo) s m args below meth c s.heap [] 0 0 (MQ below (vp_Si post) args s 0 0 (fun _ => False)) (F0 m 0 ls [])) : cMp G l y cc mx ret fr lo av ws post := by
  unfold cMp
  refine Met.ofW (cc := cc) (maxL := mx) (ret := ret) hy rfl ?_
  intro p e s m args below meth c s₁ B hml hv
  obtain ⟨rfl, hP, hK⟩ := hv
  have hts := atoms_spec (ws := Cond.code y cc mx ret :: gT) B.pre
  have hown : s.vm.findClass y.cls = some m.cls := findClass_of_methodNamed B.named
  rw [lg_entry_eq]
  exact body p e s m _ below meth c _ ⟨B.exec, B.bytes, fun w h => hts w (List.mem_cons_of_mem _ h), hc ▸ hown, hK, fun _ _ => trivial⟩ hml B.returns B.notSynchronized (lv_entry _ hav) hP
theorem cMi_in {σ : Type} {w : σ → va_W} {z : σ} {post : Int32 → σ → Prop} (hy : plainName y.cls = true) (hc : y.cls = own) (hav : (lg_sl av).length ≤ mx)
    (body : ∀ (p : Program) (e : Env) (s : State) (m : MethodId) (args : Array Value) (below : List Frame) (meth : Method) (c : Code) (A : Nat → Prop) (ls : Array Slot), cX own G A p c cc s args m → c.maxLocals = mx → meth.sig.returnType = ret → meth.locks = false → lv_has ls mx (lv_args 0 av) → cW G A s (w z) s.heap [] →
      W p l e (ro_m fr lo) s m args below meth c s.heap [] 0 0 (MQ below (va_Qi post (cB G w A) A) args s 0 0 A) (F0 m 0 ls [])) : cMi G l y cc mx ret fr lo av w z post := by
  intro sz
  refine Met.ofW (cc := cc) (maxL := mx) (ret := ret) hy rfl ?_
  intro p e s m args below meth c s₁ B hml hv
  obtain ⟨rfl, hsz, hP, hK, hD0⟩ := hv
  subst hsz
  have hts := atoms_spec (ws := Cond.code y cc mx ret :: gT) B.pre
  have hown : s.vm.findClass y.cls = some m.cls := findClass_of_methodNamed B.named
  rw [lg_entry_eq]
  exact body p e s m _ below meth c _ _ ⟨B.exec, B.bytes, fun w h => hts w (List.mem_cons_of_mem _ h), hc ▸ hown, hK, fun _ h => Or.inr h⟩ hml B.returns B.notSynchronized (lv_entry _ hav) ⟨hP, hD0.self, va_S.rf⟩
theorem cMv_in {σ : Type} {w : σ → va_W} {z : σ} {post : σ → Prop} (hy : plainName y.cls = true) (hc : y.cls = own) (hav : (lg_sl av).length ≤ mx)
    (body : ∀ (p : Program) (e : Env) (s : State) (m : MethodId) (args : Array Value) (below : List Frame) (meth : Method) (c : Code) (A : Nat → Prop) (ls : Array Slot), cX own G A p c cc s args m → c.maxLocals = mx → meth.sig.returnType = ret → meth.locks = false → lv_has ls mx (lv_args 0 av) → cW G A s (w z) s.heap [] →
      W p l e (ro_m fr lo) s m args below meth c s.heap [] 0 0 (MQ below (va_Qv post (cB G w A) A) args s 0 0 A) (F0 m 0 ls [])) : cMv G l y cc mx ret fr lo av w z post := by
  intro sz
  refine Met.ofW (cc := cc) (maxL := mx) (ret := ret) hy rfl ?_
  intro p e s m args below meth c s₁ B hml hv
  obtain ⟨rfl, hsz, hP, hK, hD0⟩ := hv
  subst hsz
  have hts := atoms_spec (ws := Cond.code y cc mx ret :: gT) B.pre
  have hown : s.vm.findClass y.cls = some m.cls := findClass_of_methodNamed B.named
  rw [lg_entry_eq]
  exact body p e s m _ below meth c _ _ ⟨B.exec, B.bytes, fun w h => hts w (List.mem_cons_of_mem _ h), hc ▸ hown, hK, fun _ h => Or.inr h⟩ hml B.returns B.notSynchronized (lv_entry _ hav) ⟨hP, hD0.self, va_S.rf⟩
end ClsB
theorem map_fm {α β : Type} {f : α → Option β} : ∀ {is : List α} {ws : List β}, is.map f = ws.map some → is.filterMap f = ws
  | [], [], _ => rfl
  | [], _ :: _, h => by cases h
  | _ :: _, [], h => by cases h
  | i :: is, w :: ws, h => by
    have h1 := (List.cons.inj h).1
    have h2 := map_fm (List.cons.inj h).2
    rw [List.filterMap_cons, h1]
    exact congrArg (w :: ·) h2
section ClsC
variable {p : Program} {l : Launch} {e : Env} {R : Room} {s : State} {m : MethodId} {args : Array Value} {below : List Frame} {meth : Method} {c : Code} {H : Heap} {locs : List Loc} {cells slots : Nat} {Q : State → Prop}
variable {cc : ByteArray} {pc : Nat} {ls : Array Slot} {rest : List Value} {G : CG} {A : Nat → Prop} {v : Int32} {own : String}
theorem ce_i {σ : Type} {w : σ → va_W} {z : σ} {post : Int32 → σ → Prop} (X : cX own G A p c cc s args m) (hr : meth.sig.returnType = some .int) (hk : meth.locks = false) (h : cW G A s (w z) H locs) (hp : post v z) (hdg : decode cc pc = .ok (.ireturn, 1)) : W p l e R s m args below meth c H locs 0 0 (MQ below (va_Qi post (cB G w A) A) args s 0 0 A) (F0 m pc ls [.int v]) :=
  W.iret X.1 X.2.1 hr (fun t ht hW => ⟨⟨v, z, rfl, hp, by rw [ht]; exact h.1, h.2.1⟩, h.2.2.F ht⟩) h.2.2.2.2 hdg hk
theorem ce_iz {σ : Type} {w : σ → va_W} {z : σ} {post : Int32 → σ → Prop} (X : cX own G A p c cc s args m) (hr : meth.sig.returnType = some .boolean) (hk : meth.locks = false) (h : cW G A s (w z) H locs) (h01 : v = 0 ∨ v = 1) (hp : post v z) (hdg : decode cc pc = .ok (.ireturn, 1)) : W p l e R s m args below meth c H locs 0 0 (MQ below (va_Qi post (cB G w A) A) args s 0 0 A) (F0 m pc ls [.int v]) :=
  W.zret X.1 X.2.1 hr (by rcases h01 with rfl | rfl <;> rfl) (fun t ht hW => ⟨⟨v, z, rfl, hp, by rw [ht]; exact h.1, h.2.1⟩, h.2.2.F ht⟩) h.2.2.2.2 hdg hk
theorem ce_v {σ : Type} {w : σ → va_W} {z : σ} {post : σ → Prop} (X : cX own G A p c cc s args m) (hr : meth.sig.returnType = none) (hk : meth.locks = false) (h : cW G A s (w z) H locs) (hp : post z) (hdg : decode cc pc = .ok (.return_, 1)) : W p l e R s m args below meth c H locs 0 0 (MQ below (va_Qv post (cB G w A) A) args s 0 0 A) (F0 m pc ls []) :=
  W.vret X.1 X.2.1 hr (fun t ht hW => ⟨⟨z, rfl, hp, by rw [ht]; exact h.1, h.2.1⟩, h.2.2.F ht⟩) h.2.2.2.2 hdg hk
variable {y : MethodName} {cc1 : ByteArray} {mx nL fr lo idx : Nat} {ret : Option FieldType} {av : List Value} {st0 : List Value} {C : String} {ci : Nat} {cT : u_T} {cN b : Nat} {fs : List Value}
def cOk (C : String) (y : MethodName) (cc : ByteArray) (mx : Nat) (ret : Option FieldType) (n : Nat) : Prop :=
  Cond.code y cc mx ret ∈ gT ∧ Cond.instanceMethod y ∈ gT ∧ Cond.selects C y y ∈ gT ∧ Cond.initialized C ∈ gT ∧ y.cls = C ∧ y.cls ≠ "java/lang/invoke/MethodHandle" ∧ y.cls ≠ "java/lang/invoke/VarHandle" ∧ (parseMethodDescriptor y.desc).map (fun d => d.parameters.length) = some n
def cOkS (C : String) (y : MethodName) (cc : ByteArray) (mx : Nat) (ret : Option FieldType) (n : Nat) : Prop :=
  Cond.code y cc mx ret ∈ gT ∧ Cond.static y ∈ gT ∧ Cond.initialized C ∈ gT ∧ y.cls = C ∧ y.cls ≠ "java/lang/invoke/MethodHandle" ∧ y.cls ≠ "java/lang/invoke/VarHandle" ∧ (parseMethodDescriptor y.desc).map (fun d => d.parameters.length) = some n
theorem gc_p {post : Int32 → Prop} {ws wc : va_W} (X : cX own G A p c cc s args m) (hml : c.maxLocals = nL) (hls : ls.size = nL) (hM : cMp G l y cc1 mx ret fr lo (.ref b :: av) wc post) (ok : cOk C y cc1 mx ret av.length) (hlk : Cond.methodLink own idx y ∈ gT) (hR : fr + 1 ≤ R.frames ∧ 8 + (mx + 11) + lo ≤ R.locals) (hf : cells ≤ R.cells ∧ slots ≤ R.slots) (w : va_P G.1 vwCl ws H) (is : List Nat) (hC : is.map (fun i => ws[i]?) = wc.map some) (hcl : vwCl[ci]? = some (C, cT, cN)) (hth : wc[0]? = some (b, .inr (ci, fs))) (hst : st0 = av.reverse ++ .ref b :: rest) (hrm : (rest.map fun v => v.category).sum ≤ 8) (hdg : decode cc pc = .ok (.invokevirtual idx, 3))
    (kk : ∀ r : Int32, post r → W p l e R s m args below meth c H locs cells slots Q (F0 m (pc + 3) ls (.int r :: rest))) : W p l e R s m args below meth c H locs cells slots Q (F0 m pc ls st0) := by
  subst hst
  have wP := w.sub is (map_fm hC)
  refine vp_callSi (W.runV (C := C) (b := b) (As := av) (rest := rest) ⟨X.1, X.2.1, hml, X.2.2.2.1, X.2.2.1⟩ hM (cwV av.length X.2.2.1 (gV hlk ok.2.1 ok.2.2.1 ok.2.2.2.1 ok.1) rfl rfl rfl ok.2.2.2.2 hR) ⟨fun a U g mk q => ⟨q.1, q.2.1, va_K.moved (u := U) (U := U.calling g mk a) (Vm.Alike.refl U.vm) q.2.2.1, nN_same (u := U) (U := U.calling g mk a) rfl q.2.2.2⟩, va_recv X.2.2.2.2.1.1 wP (ci := ci) (q0 := 0) hcl hth, fun U hU hW => ⟨rfl, by rw [hU]; exact wP, va_K.moved hW.alike X.2.2.2.2.1.1, nN_warm hW X.2.2.2.2.1.2⟩⟩ rfl rfl hls rfl (lv_room hrm) hdg hf) kk
theorem gc_i {σ : Type} {post : Int32 → σ → Prop} {ws wr : va_W} {w : σ → va_W} {z : σ} {wn : σ → va_W} (X : cX own G A p c cc s args m) (hml : c.maxLocals = nL) (hls : ls.size = nL) (hM : cMi G l y cc1 mx ret fr lo (.ref b :: av) w z post) (ok : cOk C y cc1 mx ret av.length) (hlk : Cond.methodLink own idx y ∈ gT) (hR : fr + 1 ≤ R.frames ∧ 8 + (mx + 11) + lo ≤ R.locals) (hf : cells ≤ R.cells ∧ slots ≤ R.slots) (h : cW G A s ws H locs) (is rs ks : List Nat) (hC : is.map (fun i => ws[i]?) = (w z).map some) (hi : va_nd is = true) (hrs : rs.map (fun i => ws[i]?) = wr.map some) (hrn : va_nd rs = true) (hdis : ∀ i ∈ rs, i ∉ is) (hk : ∀ u, ks.map (fun i => (wr ++ w u)[i]?) = (wn u).map some) (hkn : va_nd ks = true) (hcl : vwCl[ci]? = some (C, cT, cN)) (hth : (w z)[0]? = some (b, .inr (ci, fs))) (hst : st0 = av.reverse ++ .ref b :: rest) (hrm : (rest.map fun v => v.category).sum ≤ 8) (hdg : decode cc pc = .ok (.invokevirtual idx, 3))
    (kk : ∀ (r : Int32) (u : σ) (H : Heap) (locs : List Loc), post r u → cW G A s (wn u) H locs → W p l e R s m args below meth c H locs cells slots Q (F0 m (pc + 3) ls (.int r :: rest))) : W p l e R s m args below meth c H locs cells slots Q (F0 m pc ls st0) := by
  subst hst
  have wP := h.1.sub is (map_fm hC)
  have wD := h.2.1.sub is hi hC
  have hFc := va_free (wc := w z) h.2.1 h.2.2 X.2.2.2.2.2 is hC
  refine va_calli (va_runV (C := C) (b := b) (As := av) (rest := rest) ⟨X.1, X.2.1, hml, X.2.2.2.1, X.2.2.1⟩ (hM H.size) (cwV av.length X.2.2.1 (gV hlk ok.2.1 ok.2.2.1 ok.2.2.2.1 ok.1) rfl rfl rfl ok.2.2.2.2 hR) ⟨fun a U g mk q => ⟨q.1, q.2.1, q.2.2.1, ⟨va_K.moved (u := U) (U := U.calling g mk a) (Vm.Alike.refl U.vm) q.2.2.2.1.1, nN_same (u := U) (U := U.calling g mk a) rfl q.2.2.2.1.2⟩, q.2.2.2.2⟩, va_recv X.2.2.2.2.1.1 wP (ci := ci) (q0 := 0) hcl hth, fun U hU hW => ⟨rfl, by rw [hU], by rw [hU]; exact wP, ⟨va_K.moved hW.alike X.2.2.2.2.1.1, nN_warm hW X.2.2.2.2.1.2⟩, wD.weaken (fun _ _ _ _ => trivial)⟩⟩ rfl rfl hls rfl (lv_room hrm) hdg hf) h.2.2 (fun q _ h => hFc q h) hFc (fun r u t H1 locs1 ht hvm hw hB hz1 hk1 hS => ?_)
  obtain ⟨jP, jD⟩ := va_join (wr := wr) (w1 := w u) h.1 h.2.1 is rs hC hrs hrn hdis hk1 hFc (by rw [← ht]; exact hB.1) hB.2
  exact kk r u H1 locs1 hw ⟨jP.sub ks (map_fm (hk u)), jD.sub ks hkn (hk u), hS⟩
theorem gc_v {σ : Type} {post : σ → Prop} {ws wr : va_W} {w : σ → va_W} {z : σ} {wn : σ → va_W} (X : cX own G A p c cc s args m) (hml : c.maxLocals = nL) (hls : ls.size = nL) (hM : cMv G l y cc1 mx ret fr lo (.ref b :: av) w z post) (ok : cOk C y cc1 mx ret av.length) (hlk : Cond.methodLink own idx y ∈ gT) (hR : fr + 1 ≤ R.frames ∧ 8 + (mx + 11) + lo ≤ R.locals) (hf : cells ≤ R.cells ∧ slots ≤ R.slots) (h : cW G A s ws H locs) (is rs ks : List Nat) (hC : is.map (fun i => ws[i]?) = (w z).map some) (hi : va_nd is = true) (hrs : rs.map (fun i => ws[i]?) = wr.map some) (hrn : va_nd rs = true) (hdis : ∀ i ∈ rs, i ∉ is) (hk : ∀ u, ks.map (fun i => (wr ++ w u)[i]?) = (wn u).map some) (hkn : va_nd ks = true) (hcl : vwCl[ci]? = some (C, cT, cN)) (hth : (w z)[0]? = some (b, .inr (ci, fs))) (hst : st0 = av.reverse ++ .ref b :: rest) (hrm : (rest.map fun v => v.category).sum ≤ 8) (hdg : decode cc pc = .ok (.invokevirtual idx, 3))
    (kk : ∀ (u : σ) (H : Heap) (locs : List Loc), post u → cW G A s (wn u) H locs → W p l e R s m args below meth c H locs cells slots Q (F0 m (pc + 3) ls rest)) : W p l e R s m args below meth c H locs cells slots Q (F0 m pc ls st0) := by
  subst hst
  have wP := h.1.sub is (map_fm hC)
  have wD := h.2.1.sub is hi hC
  have hFc := va_free (wc := w z) h.2.1 h.2.2 X.2.2.2.2.2 is hC
  refine va_callv (va_runV (C := C) (b := b) (As := av) (rest := rest) ⟨X.1, X.2.1, hml, X.2.2.2.1, X.2.2.1⟩ (hM H.size) (cwV av.length X.2.2.1 (gV hlk ok.2.1 ok.2.2.1 ok.2.2.2.1 ok.1) rfl rfl rfl ok.2.2.2.2 hR) ⟨fun a U g mk q => ⟨q.1, q.2.1, q.2.2.1, ⟨va_K.moved (u := U) (U := U.calling g mk a) (Vm.Alike.refl U.vm) q.2.2.2.1.1, nN_same (u := U) (U := U.calling g mk a) rfl q.2.2.2.1.2⟩, q.2.2.2.2⟩, va_recv X.2.2.2.2.1.1 wP (ci := ci) (q0 := 0) hcl hth, fun U hU hW => ⟨rfl, by rw [hU], by rw [hU]; exact wP, ⟨va_K.moved hW.alike X.2.2.2.2.1.1, nN_warm hW X.2.2.2.2.1.2⟩, wD.weaken (fun _ _ _ _ => trivial)⟩⟩ rfl rfl hls rfl (lv_room hrm) hdg hf) h.2.2 (fun q _ h => hFc q h) hFc (fun u t H1 locs1 ht hvm hw hB hz1 hk1 hS => ?_)
  obtain ⟨jP, jD⟩ := va_join (wr := wr) (w1 := w u) h.1 h.2.1 is rs hC hrs hrn hdis hk1 hFc (by rw [← ht]; exact hB.1) hB.2
  exact kk u H1 locs1 hw ⟨jP.sub ks (map_fm (hk u)), jD.sub ks hkn (hk u), hS⟩
/-- statics, of the class itself and of a nest mate -/
theorem gc_s {post : Int32 → Prop} (X : p.tables.exec = Jvm.exec ∧ c.code = cc ∧ (∀ w ∈ gT, w.before args s = true) ∧ s.vm.findClass own = some m.cls) (hml : c.maxLocals = nL) (hls : ls.size = nL) (hM : rMs l y cc1 mx ret fr lo av post) (ok : cOkS C y cc1 mx ret av.length) (hlk : Cond.methodLink own idx y ∈ gT) (hR : fr + 1 ≤ R.frames ∧ 8 + (mx + 11) + lo ≤ R.locals) (hf : cells ≤ R.cells ∧ slots ≤ R.slots) (hst : st0 = av.reverse ++ rest) (hrm : (rest.map fun v => v.category).sum ≤ 8) (hdg : decode cc pc = .ok (.invokestatic idx, 3))
    (kk : ∀ r : Int32, post r → W p l e R s m args below meth c H locs cells slots Q (F0 m (pc + 3) ls (.int r :: rest))) (hoc : own = C) : W p l e R s m args below meth c H locs cells slots Q (F0 m pc ls st0) := by
  subst hst
  subst hoc
  refine vp_callSi (W.runS (As := av) (rest := rest) ⟨X.1, X.2.1, hml, X.2.2.2, X.2.2.1⟩ hM (cwS av.length X.2.2.1 (gS hlk ok.2.1 ok.2.2.1 ok.1) rfl rfl rfl ⟨ok.2.2.2.1, ok.2.2.2.2⟩ hR) ⟨fun a U g mk q => q, fun U hU hW => ⟨rfl, trivial⟩⟩ rfl rfl hls rfl (lv_room hrm) hdg hf) kk
end ClsC
