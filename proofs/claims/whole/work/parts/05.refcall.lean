/-! entries, ends and calls of the reference's methods -/
section RefB
variable {l : Launch} {y : MethodName} {cc : ByteArray} {mx : Nat} {ret : Option FieldType} {fr lo : Nat} {av : List Value} {g : RG} {z : RS}
theorem rMs_in {post : Int32 → Prop} (hy : plainName y.cls = true) (hc : y.cls = RX8) (hav : (lg_sl av).length ≤ mx)
    (body : ∀ (p : Program) (e : Env) (s : State) (m : MethodId) (args : Array Value) (below : List Frame) (meth : Method) (c : Code) (ls : Array Slot), p.tables.exec = Jvm.exec ∧ c.code = cc ∧ (∀ w ∈ gT, w.before args s = true) ∧ s.vm.findClass RX8 = some m.cls → c.maxLocals = mx → meth.sig.returnType = ret → meth.locks = false → lv_has ls mx (lv_args 0 av) →
      W p l e (ro_m fr lo) s m args below meth c s.heap [] 0 0 (MQ below (vp_Si post) args s 0 0 (fun _ => False)) (F0 m 0 ls [])) : rMs l y cc mx ret fr lo av post := by
  unfold rMs
  refine Met.ofW (cc := cc) (maxL := mx) (ret := ret) hy rfl ?_
  intro p e s m args below meth c s₁ B hml hv
  obtain ⟨rfl, -⟩ := hv
  have hts := atoms_spec (ws := Cond.code y cc mx ret :: gT) B.pre
  have hown : s.vm.findClass y.cls = some m.cls := findClass_of_methodNamed B.named
  rw [lg_entry_eq]
  exact body p e s m _ below meth c _ ⟨B.exec, B.bytes, fun w h => hts w (List.mem_cons_of_mem _ h), hc ▸ hown⟩ hml B.returns B.notSynchronized (lv_entry av hav)
theorem rMp_in {post : Int32 → Prop} (hy : plainName y.cls = true) (hc : y.cls = RX8) (hav : (lg_sl (.ref g.2.2.2.1 :: av)).length ≤ mx)
    (body : ∀ (p : Program) (e : Env) (s : State) (m : MethodId) (args : Array Value) (below : List Frame) (meth : Method) (c : Code) (ls : Array Slot), rX g (fun _ => True) p c cc s args m → c.maxLocals = mx → meth.sig.returnType = ret → meth.locks = false → lv_has ls mx (lv_args 0 (.ref g.2.2.2.1 :: av)) → rP g z s.heap →
      W p l e (ro_m fr lo) s m args below meth c s.heap [] 0 0 (MQ below (vp_Si post) args s 0 0 (fun _ => False)) (F0 m 0 ls [])) : rMp g l y cc mx ret fr lo av z post := by
  unfold rMp
  refine Met.ofW (cc := cc) (maxL := mx) (ret := ret) hy rfl ?_
  intro p e s m args below meth c s₁ B hml hv
  obtain ⟨rfl, hP, hK⟩ := hv
  have hts := atoms_spec (ws := Cond.code y cc mx ret :: gT) B.pre
  have hown : s.vm.findClass y.cls = some m.cls := findClass_of_methodNamed B.named
  rw [lg_entry_eq]
  exact body p e s m _ below meth c _ ⟨B.exec, B.bytes, fun w h => hts w (List.mem_cons_of_mem _ h), hc ▸ hown, hK, fun _ _ => trivial⟩ hml B.returns B.notSynchronized (lv_entry _ hav) hP
theorem rMi_in {post : Int32 → RS → Prop} (hy : plainName y.cls = true) (hc : y.cls = RX8) (hav : (lg_sl (.ref g.2.2.2.1 :: av)).length ≤ mx)
    (body : ∀ (p : Program) (e : Env) (s : State) (m : MethodId) (args : Array Value) (below : List Frame) (meth : Method) (c : Code) (A : Nat → Prop) (ls : Array Slot), rX g A p c cc s args m → c.maxLocals = mx → meth.sig.returnType = ret → meth.locks = false → lv_has ls mx (lv_args 0 (.ref g.2.2.2.1 :: av)) → rW g A s z s.heap [] →
      W p l e (ro_m fr lo) s m args below meth c s.heap [] 0 0 (MQ below (va_Qi post (rB g A) A) args s 0 0 A) (F0 m 0 ls [])) : rMi g l y cc mx ret fr lo av z post := by
  intro sz
  refine Met.ofW (cc := cc) (maxL := mx) (ret := ret) hy rfl ?_
  intro p e s m args below meth c s₁ B hml hv
  obtain ⟨rfl, hsz, hP, hK, hD0⟩ := hv
  subst hsz
  have hts := atoms_spec (ws := Cond.code y cc mx ret :: gT) B.pre
  have hown : s.vm.findClass y.cls = some m.cls := findClass_of_methodNamed B.named
  rw [lg_entry_eq]
  exact body p e s m _ below meth c _ _ ⟨B.exec, B.bytes, fun w h => hts w (List.mem_cons_of_mem _ h), hc ▸ hown, hK, fun _ h => Or.inr h⟩ hml B.returns B.notSynchronized (lv_entry _ hav) ⟨hP, hD0.self, va_S.rf⟩
theorem rMv_in {post : RS → Prop} (hy : plainName y.cls = true) (hc : y.cls = RX8) (hav : (lg_sl (.ref g.2.2.2.1 :: av)).length ≤ mx)
    (body : ∀ (p : Program) (e : Env) (s : State) (m : MethodId) (args : Array Value) (below : List Frame) (meth : Method) (c : Code) (A : Nat → Prop) (ls : Array Slot), rX g A p c cc s args m → c.maxLocals = mx → meth.sig.returnType = ret → meth.locks = false → lv_has ls mx (lv_args 0 (.ref g.2.2.2.1 :: av)) → rW g A s z s.heap [] →
      W p l e (ro_m fr lo) s m args below meth c s.heap [] 0 0 (MQ below (va_Qv post (rB g A) A) args s 0 0 A) (F0 m 0 ls [])) : rMv g l y cc mx ret fr lo av z post := by
  intro sz
  refine Met.ofW (cc := cc) (maxL := mx) (ret := ret) hy rfl ?_
  intro p e s m args below meth c s₁ B hml hv
  obtain ⟨rfl, hsz, hP, hK, hD0⟩ := hv
  subst hsz
  have hts := atoms_spec (ws := Cond.code y cc mx ret :: gT) B.pre
  have hown : s.vm.findClass y.cls = some m.cls := findClass_of_methodNamed B.named
  rw [lg_entry_eq]
  exact body p e s m _ below meth c _ _ ⟨B.exec, B.bytes, fun w h => hts w (List.mem_cons_of_mem _ h), hc ▸ hown, hK, fun _ h => Or.inr h⟩ hml B.returns B.notSynchronized (lv_entry _ hav) ⟨hP, hD0.self, va_S.rf⟩
end RefB
section RefC
variable {p : Program} {l : Launch} {e : Env} {R : Room} {s : State} {m : MethodId} {args : Array Value} {below : List Frame} {meth : Method} {c : Code} {H : Heap} {locs : List Loc} {cells slots : Nat} {Q : State → Prop}
variable {cc : ByteArray} {pc : Nat} {ls : Array Slot} {rest : List Value} {g : RG} {A : Nat → Prop} {z : RS} {v : Int32}
/-- ends -/
theorem re_p {post : Int32 → Prop} (hx : p.tables.exec = Jvm.exec) (hb : c.code = cc) (hr : meth.sig.returnType = some .int) (hk : meth.locks = false) (hp : post v) (hdg : decode cc pc = .ok (.ireturn, 1)) : W p l e R s m args below meth c s.heap [] 0 0 (MQ below (vp_Si post) args s 0 0 (fun _ => False)) (F0 m pc ls [.int v]) :=
  W.iret hx hb hr (fun t ht _ => ⟨v, rfl, hp, ht⟩) (fun q h => by cases h) hdg hk
theorem re_pz {post : Int32 → Prop} (hx : p.tables.exec = Jvm.exec) (hb : c.code = cc) (hr : meth.sig.returnType = some .boolean) (hk : meth.locks = false) (h01 : v = 0 ∨ v = 1) (hp : post v) (hdg : decode cc pc = .ok (.ireturn, 1)) : W p l e R s m args below meth c s.heap [] 0 0 (MQ below (vp_Si post) args s 0 0 (fun _ => False)) (F0 m pc ls [.int v]) :=
  W.zret hx hb hr (by rcases h01 with rfl | rfl <;> rfl) (fun t ht _ => ⟨v, rfl, hp, ht⟩) (fun q h => by cases h) hdg hk
theorem re_i {post : Int32 → RS → Prop} (X : rX g A p c cc s args m) (hr : meth.sig.returnType = some .int) (hk : meth.locks = false) (w : rW g A s z H locs) (hp : post v z) (hdg : decode cc pc = .ok (.ireturn, 1)) : W p l e R s m args below meth c H locs 0 0 (MQ below (va_Qi post (rB g A) A) args s 0 0 A) (F0 m pc ls [.int v]) :=
  W.iret X.1 X.2.1 hr (fun t ht hW => ⟨⟨v, z, rfl, hp, by rw [ht]; exact w.1, va_K.moved hW.alike X.2.2.2.2.1, w.2.1⟩, w.2.2.F ht⟩) w.2.2.2.2 hdg hk
theorem re_iz {post : Int32 → RS → Prop} (X : rX g A p c cc s args m) (hr : meth.sig.returnType = some .boolean) (hk : meth.locks = false) (w : rW g A s z H locs) (h01 : v = 0 ∨ v = 1) (hp : post v z) (hdg : decode cc pc = .ok (.ireturn, 1)) : W p l e R s m args below meth c H locs 0 0 (MQ below (va_Qi post (rB g A) A) args s 0 0 A) (F0 m pc ls [.int v]) :=
  W.zret X.1 X.2.1 hr (by rcases h01 with rfl | rfl <;> rfl) (fun t ht hW => ⟨⟨v, z, rfl, hp, by rw [ht]; exact w.1, va_K.moved hW.alike X.2.2.2.2.1, w.2.1⟩, w.2.2.F ht⟩) w.2.2.2.2 hdg hk
theorem re_v {post : RS → Prop} (X : rX g A p c cc s args m) (hr : meth.sig.returnType = none) (hk : meth.locks = false) (w : rW g A s z H locs) (hp : post z) (hdg : decode cc pc = .ok (.return_, 1)) : W p l e R s m args below meth c H locs 0 0 (MQ below (va_Qv post (rB g A) A) args s 0 0 A) (F0 m pc ls []) :=
  W.vret X.1 X.2.1 hr (fun t ht hW => ⟨⟨z, rfl, hp, by rw [ht]; exact w.1, va_K.moved hW.alike X.2.2.2.2.1, w.2.1⟩, w.2.2.F ht⟩) w.2.2.2.2 hdg hk
variable {y : MethodName} {cc1 : ByteArray} {mx nL fr lo idx : Nat} {ret : Option FieldType} {av : List Value} {st0 : List Value}
/-- calls -/
theorem rc_s {post : Int32 → Prop} (X : p.tables.exec = Jvm.exec ∧ c.code = cc ∧ (∀ w ∈ gT, w.before args s = true) ∧ s.vm.findClass RX8 = some m.cls) (hml : c.maxLocals = nL) (hls : ls.size = nL) (hM : rMs l y cc1 mx ret fr lo av post) (ok : rOkS y cc1 mx ret av.length) (hlk : Cond.methodLink RX8 idx y ∈ gT) (hR : fr + 1 ≤ R.frames ∧ 8 + (mx + 11) + lo ≤ R.locals) (hf : cells ≤ R.cells ∧ slots ≤ R.slots) (hst : st0 = av.reverse ++ rest) (hrm : (rest.map fun v => v.category).sum ≤ 8) (hdg : decode cc pc = .ok (.invokestatic idx, 3))
    (kk : ∀ r : Int32, post r → W p l e R s m args below meth c H locs cells slots Q (F0 m (pc + 3) ls (.int r :: rest))) : W p l e R s m args below meth c H locs cells slots Q (F0 m pc ls st0) := by
  subst hst
  refine vp_callSi (W.runS (As := av) (rest := rest) ⟨X.1, X.2.1, hml, X.2.2.2, X.2.2.1⟩ hM (cwS av.length X.2.2.1 (gS hlk ok.2.1 wn_X8 ok.1) rfl rfl rfl ⟨ok.2.2.1, ok.2.2.2⟩ hR) ⟨fun a U g mk q => q, fun U hU hW => ⟨rfl, trivial⟩⟩ rfl rfl hls rfl (lv_room hrm) hdg hf) kk
theorem rc_p {post : Int32 → Prop} (X : rX g A p c cc s args m) (hml : c.maxLocals = nL) (hls : ls.size = nL) (hM : rMp g l y cc1 mx ret fr lo av z post) (ok : rOk y cc1 mx ret av.length) (hlk : Cond.methodLink RX8 idx y ∈ gT) (hR : fr + 1 ≤ R.frames ∧ 8 + (mx + 11) + lo ≤ R.locals) (hf : cells ≤ R.cells ∧ slots ≤ R.slots) (w : rP g z H) (hst : st0 = av.reverse ++ .ref g.2.2.2.1 :: rest) (hrm : (rest.map fun v => v.category).sum ≤ 8) (hdg : decode cc pc = .ok (.invokevirtual idx, 3))
    (kk : ∀ r : Int32, post r → W p l e R s m args below meth c H locs cells slots Q (F0 m (pc + 3) ls (.int r :: rest))) : W p l e R s m args below meth c H locs cells slots Q (F0 m pc ls st0) := by
  subst hst
  refine vp_callSi (W.runV (C := RX8) (b := g.2.2.2.1) (As := av) (rest := rest) ⟨X.1, X.2.1, hml, X.2.2.2.1, X.2.2.1⟩ hM (cwV av.length X.2.2.1 (gV hlk ok.2.1 ok.2.2.1 wn_X8 ok.1) rfl rfl rfl ok.2.2.2 hR) ⟨fun a U g mk q => ⟨q.1, q.2.1, va_K.moved (u := U) (U := U.calling g mk a) (Vm.Alike.refl U.vm) q.2.2⟩, va_recv X.2.2.2.2.1 w (ci := 7) (q0 := 0) rfl rfl, fun U hU hW => ⟨rfl, by rw [hU]; exact w, va_K.moved hW.alike X.2.2.2.2.1⟩⟩ rfl rfl hls rfl (lv_room hrm) hdg hf) kk
theorem rc_i {post : Int32 → RS → Prop} (X : rX g A p c cc s args m) (hml : c.maxLocals = nL) (hls : ls.size = nL) (hM : rMi g l y cc1 mx ret fr lo av z post) (ok : rOk y cc1 mx ret av.length) (hlk : Cond.methodLink RX8 idx y ∈ gT) (hR : fr + 1 ≤ R.frames ∧ 8 + (mx + 11) + lo ≤ R.locals) (hf : cells ≤ R.cells ∧ slots ≤ R.slots) (w : rW g A s z H locs) (hst : st0 = av.reverse ++ .ref g.2.2.2.1 :: rest) (hrm : (rest.map fun v => v.category).sum ≤ 8) (hdg : decode cc pc = .ok (.invokevirtual idx, 3))
    (kk : ∀ (r : Int32) (z : RS) (H : Heap) (locs : List Loc), post r z → rW g A s z H locs → W p l e R s m args below meth c H locs cells slots Q (F0 m (pc + 3) ls (.int r :: rest))) : W p l e R s m args below meth c H locs cells slots Q (F0 m pc ls st0) := by
  subst hst
  have hFc : ∀ q, va_A (wR g z) H.size q → A q := fun q h => h.elim (fun ⟨k, e, h⟩ => w.2.1.2 k _ h) (fun h => X.2.2.2.2.2 q (Nat.le_trans w.2.2.1 h))
  refine va_calli (va_runV (C := RX8) (b := g.2.2.2.1) (As := av) (rest := rest) ⟨X.1, X.2.1, hml, X.2.2.2.1, X.2.2.1⟩ (hM H.size) (cwV av.length X.2.2.1 (gV hlk ok.2.1 ok.2.2.1 wn_X8 ok.1) rfl rfl rfl ok.2.2.2 hR) ⟨fun a U g mk q => ⟨q.1, q.2.1, q.2.2.1, va_K.moved (u := U) (U := U.calling g mk a) (Vm.Alike.refl U.vm) q.2.2.2.1, q.2.2.2.2⟩, va_recv X.2.2.2.2.1 w.1 (ci := 7) (q0 := 0) rfl rfl, fun U hU hW => ⟨rfl, by rw [hU], by rw [hU]; exact w.1, va_K.moved hW.alike X.2.2.2.2.1, w.2.1.weaken (fun _ _ _ _ => trivial)⟩⟩ rfl rfl hls rfl (lv_room hrm) hdg hf) w.2.2 (fun q _ h => hFc q h) hFc (fun r u t H1 locs1 ht hvm hw hB hz1 hk1 hS => ?_)
  exact kk r u H1 locs1 hw ⟨by rw [← ht]; exact hB.1, hB.2.2.weaken (fun k q _ h => hFc q.1 h), hS⟩
theorem rc_v {post : RS → Prop} (X : rX g A p c cc s args m) (hml : c.maxLocals = nL) (hls : ls.size = nL) (hM : rMv g l y cc1 mx ret fr lo av z post) (ok : rOk y cc1 mx ret av.length) (hlk : Cond.methodLink RX8 idx y ∈ gT) (hR : fr + 1 ≤ R.frames ∧ 8 + (mx + 11) + lo ≤ R.locals) (hf : cells ≤ R.cells ∧ slots ≤ R.slots) (w : rW g A s z H locs) (hst : st0 = av.reverse ++ .ref g.2.2.2.1 :: rest) (hrm : (rest.map fun v => v.category).sum ≤ 8) (hdg : decode cc pc = .ok (.invokevirtual idx, 3))
    (kk : ∀ (z : RS) (H : Heap) (locs : List Loc), post z → rW g A s z H locs → W p l e R s m args below meth c H locs cells slots Q (F0 m (pc + 3) ls rest)) : W p l e R s m args below meth c H locs cells slots Q (F0 m pc ls st0) := by
  subst hst
  have hFc : ∀ q, va_A (wR g z) H.size q → A q := fun q h => h.elim (fun ⟨k, e, h⟩ => w.2.1.2 k _ h) (fun h => X.2.2.2.2.2 q (Nat.le_trans w.2.2.1 h))
  refine va_callv (va_runV (C := RX8) (b := g.2.2.2.1) (As := av) (rest := rest) ⟨X.1, X.2.1, hml, X.2.2.2.1, X.2.2.1⟩ (hM H.size) (cwV av.length X.2.2.1 (gV hlk ok.2.1 ok.2.2.1 wn_X8 ok.1) rfl rfl rfl ok.2.2.2 hR) ⟨fun a U g mk q => ⟨q.1, q.2.1, q.2.2.1, va_K.moved (u := U) (U := U.calling g mk a) (Vm.Alike.refl U.vm) q.2.2.2.1, q.2.2.2.2⟩, va_recv X.2.2.2.2.1 w.1 (ci := 7) (q0 := 0) rfl rfl, fun U hU hW => ⟨rfl, by rw [hU], by rw [hU]; exact w.1, va_K.moved hW.alike X.2.2.2.2.1, w.2.1.weaken (fun _ _ _ _ => trivial)⟩⟩ rfl rfl hls rfl (lv_room hrm) hdg hf) w.2.2 (fun q _ h => hFc q h) hFc (fun u t H1 locs1 ht hvm hw hB hz1 hk1 hS => ?_)
  exact kk u H1 locs1 hw ⟨by rw [← ht]; exact hB.1, hB.2.2.weaken (fun k q _ h => hFc q.1 h), hS⟩
end RefC
