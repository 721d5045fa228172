/-! constructors -/
theorem wB_X7 : Cond.instantiable RX7 8 ∈ gT := gT_t (i := 18) (by decide +kernel) rfl
theorem wO_X7 : Cond.methodLink RX7 1 Lib.objectInit ∈ gT := gT_t (i := 22) (by decide +kernel) rfl
theorem wO_i : Cond.instanceMethod Lib.objectInit ∈ gT := gT_t (i := 23) (by decide +kernel) rfl
theorem wO_c : Cond.code Lib.objectInit ⟨#[0xb1]⟩ 1 none ∈ gT := gT_t (i := 24) (by decide +kernel) rfl
theorem wL_X7_7 : Cond.classLink RX7 7 RX5 ∈ gT := gT_t (i := 25) (by decide +kernel) rfl
theorem wB_X5 : Cond.instantiable RX5 13 ∈ gT := gT_t (i := 26) (by decide +kernel) rfl
theorem wO_X5 : Cond.methodLink RX5 3 Lib.objectInit ∈ gT := gT_t (i := 30) (by decide +kernel) rfl
theorem wA_i : Cond.arrayClass .int ∈ gT := gT_t (i := 99) (by decide +kernel) rfl
theorem wL_X7_16 : Cond.classLink RX7 16 RX4 ∈ gT := gT_t (i := 100) (by decide +kernel) rfl
theorem wB_X4 : Cond.instantiable RX4 6 ∈ gT := gT_t (i := 101) (by decide +kernel) rfl
theorem wO_X4 : Cond.methodLink RX4 3 Lib.objectInit ∈ gT := gT_t (i := 105) (by decide +kernel) rfl
theorem wL_X7_29 : Cond.classLink RX7 29 RX1 ∈ gT := gT_t (i := 126) (by decide +kernel) rfl
theorem wB_X1 : Cond.instantiable RX1 4 ∈ gT := gT_t (i := 127) (by decide +kernel) rfl
theorem wO_X1 : Cond.methodLink RX1 3 Lib.objectInit ∈ gT := gT_t (i := 131) (by decide +kernel) rfl
theorem wL_X1_15 : Cond.classLink RX1 15 RX5 ∈ gT := gT_t (i := 132) (by decide +kernel) rfl
theorem wL_X7_36 : Cond.classLink RX7 36 RX2 ∈ gT := gT_t (i := 149) (by decide +kernel) rfl
theorem wB_X2 : Cond.instantiable RX2 3 ∈ gT := gT_t (i := 150) (by decide +kernel) rfl
theorem wO_X2 : Cond.methodLink RX2 3 Lib.objectInit ∈ gT := gT_t (i := 154) (by decide +kernel) rfl
theorem wL_X2_9 : Cond.classLink RX2 9 RX5 ∈ gT := gT_t (i := 155) (by decide +kernel) rfl
theorem wL_X2_18 : Cond.classLink RX2 18 RX0 ∈ gT := gT_t (i := 157) (by decide +kernel) rfl
theorem wB_X0 : Cond.instantiable RX0 12 ∈ gT := gT_t (i := 158) (by decide +kernel) rfl
theorem wO_X0 : Cond.methodLink RX0 5 Lib.objectInit ∈ gT := gT_t (i := 162) (by decide +kernel) rfl
theorem wL_X7_43 : Cond.classLink RX7 43 RX6 ∈ gT := gT_t (i := 210) (by decide +kernel) rfl
theorem wB_X6 : Cond.instantiable RX6 3 ∈ gT := gT_t (i := 212) (by decide +kernel) rfl
theorem wO_X6 : Cond.methodLink RX6 3 Lib.objectInit ∈ gT := gT_t (i := 216) (by decide +kernel) rfl
theorem wA_l : Cond.arrayClass .long ∈ gT := gT_t (i := 230) (by decide +kernel) rfl
theorem wB_X8 : Cond.instantiable RX8 30 ∈ gT := gT_t (i := 896) (by decide +kernel) rfl
theorem wO_X8 : Cond.methodLink RX8 1 Lib.objectInit ∈ gT := gT_t (i := 900) (by decide +kernel) rfl
def nK (G : CG) (U : State) : Prop := va_K G.1 vwCl (ct G) U ∧ nN U ∧ va_AO "RunningThree$Sheet" U
def nX (own : String) (G : CG) (A : Nat → Prop) (p : Program) (c : Code) (cc : ByteArray) (s : State) (args : Array Value) (m : MethodId) : Prop :=
  p.tables.exec = Jvm.exec ∧ c.code = cc ∧ (∀ w ∈ gT, w.before args s = true) ∧ s.vm.findClass own = some m.cls ∧ nK G s ∧ ∀ q, s.heap.size ≤ q → A q
abbrev ro_n (fr lo nc ns : Nat) : Room := { frames := fr, cells := nc, slots := ns, locals := lo }
def nPre (G : CG) (av : List Value) (ws : va_W) (sz : Nat) : Array Value → State → Prop := va_Pc av (fun U => U.heap.size = sz ∧ va_P G.1 vwCl ws U.heap ∧ nK G U ∧ va_D (fun _ => True) ws)
/-- a constructor: from the bare object to the object with its rows -/
def cNv {σ : Type} (G : CG) (l : Launch) (y : MethodName) (cc : ByteArray) (mx fr lo nc ns : Nat) (av : List Value) (wc : va_W) (w : σ → va_W) (post : σ → Prop) : Prop :=
  ∀ sz, Met l y (Cond.code y cc mx none :: gT) (ro_n fr lo nc ns) (nPre G av wc sz) (va_Qv post (cB G w (va_A wc sz)) (va_A wc sz)) nc ns (va_A wc sz)
section IniA
variable {l : Launch} {y : MethodName} {cc : ByteArray} {mx fr lo nc ns : Nat} {av : List Value} {G : CG} {own : String}
theorem cNv_in {σ : Type} {wc : va_W} {w : σ → va_W} {post : σ → Prop} (hy : plainName y.cls = true) (hc : y.cls = own) (hyn : y.name = "<init>") (hav : (lg_sl av).length ≤ mx)
    (body : ∀ (p : Program) (e : Env) (s : State) (m : MethodId) (args : Array Value) (below : List Frame) (meth : Method) (c : Code) (A : Nat → Prop) (ls : Array Slot), nX own G A p c cc s args m → meth.name = "<init>" → c.maxLocals = mx → meth.sig.returnType = none → meth.locks = false → lv_has ls mx (lv_args 0 av) → cW G A s wc s.heap [] →
      W p l e (ro_n fr lo nc ns) s m args below meth c s.heap [] 0 0 (MQ below (va_Qv post (cB G w A) A) args s nc ns A) (F0 m 0 ls [])) : cNv G l y cc mx fr lo nc ns av wc w post := by
  intro sz
  refine Met.ofW (cc := cc) (maxL := mx) (ret := none) hy rfl ?_
  intro p e s m args below meth c s₁ B hml hv
  obtain ⟨rfl, hsz, hP, hK, hD0⟩ := hv
  subst hsz
  have hts := atoms_spec (ws := Cond.code y cc mx none :: gT) B.pre
  have hown : s.vm.findClass y.cls = some m.cls := findClass_of_methodNamed B.named
  have hin : meth.name = "<init>" := (name_of_methodNamed B.named B.method).1.trans hyn
  rw [lg_entry_eq]
  exact body p e s m _ below meth c _ _ ⟨B.exec, B.bytes, fun w h => hts w (List.mem_cons_of_mem _ h), hc ▸ hown, hK, fun _ h => Or.inr h⟩ hin hml B.returns B.notSynchronized (lv_entry _ hav) ⟨hP, hD0.self, va_S.rf⟩
end IniA
section IniB
variable {p : Program} {l : Launch} {e : Env} {R : Room} {s : State} {m : MethodId} {args : Array Value} {below : List Frame} {meth : Method} {c : Code} {H : Heap} {locs : List Loc} {cells slots : Nat} {Q : State → Prop}
variable {cc : ByteArray} {pc : Nat} {ls : Array Slot} {rest : List Value} {G : CG} {A : Nat → Prop} {own : String} {ws : va_W}
theorem ni_obj {idx b nL : Nat} (X : nX own G A p c cc s args m) (hml : c.maxLocals = nL) (hls : ls.size = nL) (hlk : Cond.methodLink own idx Lib.objectInit ∈ gT) (hR : 1 ≤ R.frames ∧ 20 ≤ R.locals) (hrm : (rest.map fun v => v.category).sum ≤ 8) (hdg : decode cc pc = .ok (.invokespecial idx, 3))
    (kk : W p l e R s m args below meth c H locs cells slots Q (F0 m (pc + 3) ls rest)) : W p l e R s m args below meth c H locs cells slots Q (F0 m pc ls (.ref b :: rest)) := by
  refine W.objInit X.1 X.2.1 X.2.2.2.1 (X.2.2.1 _ hlk) (X.2.2.1 _ wO_i) (X.2.2.1 _ wO_c) (g := F0 m pc ls (.ref b :: rest)) rfl (by rw [hml]; exact hls) rfl hdg hR.1 (by have h9 : 2 * (F0 m pc ls (.ref b :: rest)).monitorRoom + (rest.map fun v => v.category).sum ≤ 8 := lv_room hrm; omega) kk
theorem ni_ai {n : Nat} (X : nX own G A p c cc s args m) (w : cW G A s ws H locs) (hn : n ≤ 1000) (hf : cells + 1 ≤ R.cells ∧ slots + n ≤ R.slots) (hdg : decode cc pc = .ok (.newarray .int, 2))
    (kk : ∀ (q : Nat) (H : Heap), cW G A s (ws ++ [(q, .inl (G.2.1, n, .inl (fun _ => 0)))]) H locs → W p l e R s m args below meth c H locs (cells + 1) (slots + n) Q (F0 m (pc + 2) ls (.ref q :: rest))) : W p l e R s m args below meth c H locs cells slots Q (F0 m pc ls (.int (nI n) :: rest)) := by
  refine va_newa (atype := .int) (D := G.1) (cl := vwCl) (tys := ct G) (ty := .int) (a0 := (n, .inl (fun _ => 0))) X.1 X.2.1 (X.2.2.1 _ wA_i) rfl X.2.2.2.2.1.1 w.1 w.2.1 w.2.2 X.2.2.2.2.2 (fun _ => rfl) (by rw [Int32.not_lt]; exact (nI_leI (by decide) (by omega)).mpr (Nat.zero_le n)) (nI_clamp (by omega)) (by show n * 4 ≤ _; omega) hf.1 hf.2 hdg (fun q cA H1 hK hP hD hS => ?_)
  have e1 : s.vm.findClass ("[" ++ FieldType.int.toString) = some cA := (hK.2 3 (cA, .int) rfl).2
  have e2 : s.vm.findClass ("[" ++ FieldType.int.toString) = some G.2.1 := (hK.2 0 (G.2.1, .int) rfl).2
  have e3 : cA = G.2.1 := Option.some.inj (e1.symm.trans e2)
  subst e3
  exact kk q H1 ⟨hP, hD, hS⟩
theorem ni_al {n : Nat} (X : nX own G A p c cc s args m) (w : cW G A s ws H locs) (hn : n ≤ 1000) (hf : cells + 1 ≤ R.cells ∧ slots + n ≤ R.slots) (hdg : decode cc pc = .ok (.newarray .long, 2))
    (kk : ∀ (q : Nat) (H : Heap), cW G A s (ws ++ [(q, .inl (G.2.2.1, n, .inr (.inl (fun _ => 0))))]) H locs → W p l e R s m args below meth c H locs (cells + 1) (slots + n) Q (F0 m (pc + 2) ls (.ref q :: rest))) : W p l e R s m args below meth c H locs cells slots Q (F0 m pc ls (.int (nI n) :: rest)) := by
  refine va_newa (atype := .long) (D := G.1) (cl := vwCl) (tys := ct G) (ty := .long) (a0 := (n, .inr (.inl (fun _ => 0)))) X.1 X.2.1 (X.2.2.1 _ wA_l) rfl X.2.2.2.2.1.1 w.1 w.2.1 w.2.2 X.2.2.2.2.2 (fun _ => rfl) (by rw [Int32.not_lt]; exact (nI_leI (by decide) (by omega)).mpr (Nat.zero_le n)) (nI_clamp (by omega)) (by show n * 8 ≤ _; omega) hf.1 hf.2 hdg (fun q cA H1 hK hP hD hS => ?_)
  have e1 : s.vm.findClass ("[" ++ FieldType.long.toString) = some cA := (hK.2 3 (cA, .long) rfl).2
  have e2 : s.vm.findClass ("[" ++ FieldType.long.toString) = some G.2.2.1 := (hK.2 1 (G.2.2.1, .long) rfl).2
  have e3 : cA = G.2.2.1 := Option.some.inj (e1.symm.trans e2)
  subst e3
  exact kk q H1 ⟨hP, hD, hS⟩
theorem ni_aq {n idx : Nat} (X : nX own G A p c cc s args m) (w : cW G A s ws H locs) (hlk : Cond.classLink own idx "RunningThree$Sheet" ∈ gT) (hn : n ≤ 1000) (hf : cells + 1 ≤ R.cells ∧ slots + n ≤ R.slots) (hdg : decode cc pc = .ok (.anewarray idx, 3))
    (kk : ∀ (q : Nat) (H : Heap), cW G A s (ws ++ [(q, .inl (G.2.2.2, n, .inr (.inr (.inr (.inr (fun _ => none))))))]) H locs → W p l e R s m args below meth c H locs (cells + 1) (slots + n) Q (F0 m (pc + 3) ls (.ref q :: rest))) : W p l e R s m args below meth c H locs cells slots Q (F0 m pc ls (.int (nI n) :: rest)) := by
  refine va_newq (D := G.1) (cl := vwCl) (tys := ct G) X.1 X.2.1 X.2.2.2.1 (X.2.2.1 _ hlk) X.2.2.2.2.1.2.2 X.2.2.2.2.1.1 w.1 w.2.1 w.2.2 X.2.2.2.2.2 (by rw [Int32.not_lt]; exact (nI_leI (by decide) (by omega)).mpr (Nat.zero_le n)) (nI_clamp (by omega)) (by omega) hf.1 hf.2 hdg (fun q cA H1 hK hP hD hS => ?_)
  obtain ⟨ka9, co9, -, -, -, e1⟩ := (hK.2 3 (cA, .object "RunningThree$Sheet") rfl).2
  obtain ⟨kb9, cp9, -, -, -, e2⟩ := (hK.2 2 (G.2.2.2, .object "RunningThree$Sheet") rfl).2
  have e3 : cA = G.2.2.2 := Option.some.inj (e1.symm.trans e2)
  subst e3
  exact kk q H1 ⟨hP, hD, hS⟩
/-- a row of references that reads the same is the same -/
theorem cW_row {i a n : Nat} {cA : ClassId} {fa ga : Nat → Option Nat} (w : cW G A s ws H locs) (h : ws[i]? = some (a, .inl (cA, n, .inr (.inr (.inr (.inr fa)))))) (hfg : ∀ j, j < n → fa j = ga j) : cW G A s (ws.set i (a, .inl (cA, n, .inr (.inr (.inr (.inr ga)))))) H locs := by
  have e1 : (fun j : Fin n => va_rf (fa j.val)) = (fun j : Fin n => va_rf (ga j.val)) := funext fun j => by rw [hfg j.val j.isLt]
  have e2 : vp_cell cA (n, .inr (.inr (.inr (.inr fa)))) = vp_cell cA (n, .inr (.inr (.inr (.inr ga)))) := by
    rw [vp_cell_q, vp_cell_q]
    unfold arrV
    rw [e1]
  have e4 : H[a]? = some (vp_cell cA (n, .inr (.inr (.inr (.inr ga))))) := by
    rw [← e2]
    exact w.1 i _ h
  exact ⟨w.1.set w.2.1 h e4 (fun q _ => rfl), w.2.1.set h, w.2.2⟩
theorem ni_end {σ : Type} {w : σ → va_W} {post : σ → Prop} (u : σ) (X : nX own G A p c cc s args m) (hr : meth.sig.returnType = none) (hk : meth.locks = false) (h : cW G A s (w u) H locs) (hp : post u) (hdg : decode cc pc = .ok (.return_, 1)) : W p l e R s m args below meth c H locs cells slots (MQ below (va_Qv post (cB G w A) A) args s cells slots A) (F0 m pc ls []) :=
  W.vret X.1 X.2.1 hr (fun t ht hW => ⟨⟨u, rfl, hp, by rw [ht]; exact h.1, h.2.1⟩, h.2.2.F ht⟩) h.2.2.2.2 hdg hk
variable {y : MethodName} {cc1 : ByteArray} {mx nL fr lo idx nc ns : Nat}
/-- a nest mate's constructor -/
theorem ni_call {σ : Type} {host : String} {post : σ → Prop} {wc wr : va_W} {w : σ → va_W} {b : Nat} (X : nX own G A p c cc s args m) (hml : c.maxLocals = nL) (hls : ls.size = nL) (hM : cNv G l y cc1 mx fr lo nc ns [.ref b] wc w post) (ok : Cond.code y cc1 mx none ∈ gT ∧ Cond.instanceMethod y ∈ gT ∧ Cond.initialized y.cls ∈ gT ∧ y.name = "<init>" ∧ y.cls ≠ "java/lang/invoke/MethodHandle" ∧ y.cls ≠ "java/lang/invoke/VarHandle" ∧ (parseMethodDescriptor y.desc).map (fun d => d.parameters.length) = some 0) (hlk : Cond.methodLinkNest own idx y host ∈ nW) (hR : fr + 1 ≤ R.frames ∧ 8 + (mx + 11) + lo ≤ R.locals) (hf : cells + nc ≤ R.cells ∧ slots + ns ≤ R.slots) (h : cW G A s ws H locs) (is rs : List Nat) (hC : is.map (fun i => ws[i]?) = wc.map some) (hi : va_nd is = true) (hrs : rs.map (fun i => ws[i]?) = wr.map some) (hrn : va_nd rs = true) (hdis : ∀ i ∈ rs, i ∉ is) (hrm : (rest.map fun v => v.category).sum ≤ 8) (hdg : decode cc pc = .ok (.invokespecial idx, 3))
    (kk : ∀ (u : σ) (H : Heap) (locs : List Loc), post u → cW G A s (wr ++ w u) H locs → W p l e R s m args below meth c H locs (cells + nc) (slots + ns) Q (F0 m (pc + 3) ls rest)) : W p l e R s m args below meth c H locs cells slots Q (F0 m pc ls (.ref b :: rest)) := by
  have wP := h.1.sub is (map_fm hC)
  have wD := h.2.1.sub is hi hC
  have hFc := va_free (wc := wc) h.2.1 h.2.2 X.2.2.2.2.2 is hC
  refine va_callv (va_runIN (host := host) (b := b) (As := []) (rest := rest) ⟨X.1, X.2.1, hml, X.2.2.2.1, X.2.2.1⟩ (hM H.size) ⟨va_cnB 0 X.2.2.1 (gCc ok.1) rfl rfl rfl (X.2.2.2.2.1.2.1 _ hlk) (X.2.2.1 _ ok.2.2.1) ok.2.2.2.2 hR, ok.2.2.2.1, X.2.2.1 _ ok.2.1⟩ ⟨fun a U g mk q => ⟨q.1, q.2.1, q.2.2.1, ⟨va_K.moved (u := U) (U := U.calling g mk a) (Vm.Alike.refl U.vm) q.2.2.2.1.1, nN_same (u := U) (U := U.calling g mk a) rfl q.2.2.2.1.2.1, va_AO.moved (u := U) (U := U.calling g mk a) (Vm.Alike.refl U.vm) q.2.2.2.1.2.2⟩, q.2.2.2.2⟩, fun U hU hW => ⟨rfl, by rw [hU], by rw [hU]; exact wP, ⟨va_K.moved hW.alike X.2.2.2.2.1.1, nN_warm hW X.2.2.2.2.1.2.1, va_AO.moved hW.alike X.2.2.2.2.1.2.2⟩, wD.weaken (fun _ _ _ _ => trivial)⟩⟩ rfl rfl hls rfl (lv_room hrm) hdg hf) h.2.2 (fun q _ h => hFc q h) hFc (fun u t H1 locs1 ht hvm hw hB hz1 hk1 hS => ?_)
  obtain ⟨jP, jD⟩ := va_join (wr := wr) (w1 := w u) h.1 h.2.1 is rs hC hrs hrn hdis hk1 hFc (by rw [← ht]; exact hB.1) hB.2
  exact kk u H1 locs1 hw ⟨jP, jD, hS⟩
end IniB

