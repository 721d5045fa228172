/-! methods that read and answer a long; the past in a ring; a sheet -/
def cMl (G : CG) (l : Launch) (y : MethodName) (cc : ByteArray) (mx : Nat) (ret : Option FieldType) (fr lo : Nat) (av : List Value) (ws : va_W) (post : Int64 → Prop) : Prop :=
  Met l y (Cond.code y cc mx ret :: gT) (ro_m fr lo) (va_Pc av (fun U => va_P G.1 vwCl ws U.heap ∧ cK G U)) (vp_Sl post) 0 0 (fun _ => False)
section LgA
variable {l : Launch} {y : MethodName} {cc : ByteArray} {mx : Nat} {ret : Option FieldType} {fr lo : Nat} {av : List Value} {G : CG} {own : String}
theorem cMl_in {post : Int64 → Prop} {ws : va_W} (hy : plainName y.cls = true) (hc : y.cls = own) (hav : (lg_sl av).length ≤ mx)
    (body : ∀ (p : Program) (e : Env) (s : State) (m : MethodId) (args : Array Value) (below : List Frame) (meth : Method) (c : Code) (ls : Array Slot), cX own G (fun _ => True) p c cc s args m → c.maxLocals = mx → meth.sig.returnType = ret → meth.locks = false → lv_has ls mx (lv_args 0 av) → va_P G.1 vwCl ws s.heap →
      W p l e (ro_m fr lo) s m args below meth c s.heap [] 0 0 (MQ below (vp_Sl post) args s 0 0 (fun _ => False)) (F0 m 0 ls [])) : cMl G l y cc mx ret fr lo av ws post := by
  unfold cMl
  refine Met.ofW (cc := cc) (maxL := mx) (ret := ret) hy rfl ?_
  intro p e s m args below meth c s₁ B hml hv
  obtain ⟨rfl, hP, hK⟩ := hv
  have hts := atoms_spec (ws := Cond.code y cc mx ret :: gT) B.pre
  have hown : s.vm.findClass y.cls = some m.cls := findClass_of_methodNamed B.named
  rw [lg_entry_eq]
  exact body p e s m _ below meth c _ ⟨B.exec, B.bytes, fun w h => hts w (List.mem_cons_of_mem _ h), hc ▸ hown, hK, fun _ _ => trivial⟩ hml B.returns B.notSynchronized (lv_entry _ hav) hP
end LgA
section LgB
variable {p : Program} {l : Launch} {e : Env} {R : Room} {s : State} {m : MethodId} {args : Array Value} {below : List Frame} {meth : Method} {c : Code} {H : Heap} {locs : List Loc} {cells slots : Nat} {Q : State → Prop}
variable {cc : ByteArray} {pc : Nat} {ls : Array Slot} {rest : List Value} {G : CG} {A : Nat → Prop} {v : Int64} {own : String}
theorem re_l {post : Int64 → Prop} (hx : p.tables.exec = Jvm.exec) (hb : c.code = cc) (hr : meth.sig.returnType = some .long) (hk : meth.locks = false) (hp : post v) (hdg : decode cc pc = .ok (.lreturn, 1)) : W p l e R s m args below meth c s.heap [] 0 0 (MQ below (vp_Sl post) args s 0 0 (fun _ => False)) (F0 m pc ls [.long v]) :=
  W.lret hx hb hr (fun t ht _ => ⟨v, rfl, hp, ht⟩) (fun q h => by cases h) hdg hk
variable {y : MethodName} {cc1 : ByteArray} {mx nL fr lo idx : Nat} {ret : Option FieldType} {av : List Value} {st0 : List Value} {C : String} {ci : Nat} {cT : u_T} {cN b : Nat} {fs : List Value}
theorem gc_l {post : Int64 → Prop} {ws wc : va_W} (X : cX own G A p c cc s args m) (hml : c.maxLocals = nL) (hls : ls.size = nL) (hM : cMl G l y cc1 mx ret fr lo (.ref b :: av) wc post) (ok : cOk C y cc1 mx ret av.length) (hlk : Cond.methodLink own idx y ∈ gT) (hR : fr + 1 ≤ R.frames ∧ 8 + (mx + 11) + lo ≤ R.locals) (hf : cells ≤ R.cells ∧ slots ≤ R.slots) (w : va_P G.1 vwCl ws H) (is : List Nat) (hC : is.map (fun i => ws[i]?) = wc.map some) (hcl : vwCl[ci]? = some (C, cT, cN)) (hth : wc[0]? = some (b, .inr (ci, fs))) (hst : st0 = av.reverse ++ .ref b :: rest) (hrm : (rest.map fun v => v.category).sum ≤ 8) (hdg : decode cc pc = .ok (.invokevirtual idx, 3))
    (kk : ∀ r : Int64, post r → W p l e R s m args below meth c H locs cells slots Q (F0 m (pc + 3) ls (.long r :: rest))) : W p l e R s m args below meth c H locs cells slots Q (F0 m pc ls st0) := by
  subst hst
  have wP := w.sub is (map_fm hC)
  refine vp_callSl (W.runV (C := C) (b := b) (As := av) (rest := rest) ⟨X.1, X.2.1, hml, X.2.2.2.1, X.2.2.1⟩ hM (cwV av.length X.2.2.1 (gV hlk ok.2.1 ok.2.2.1 ok.2.2.2.1 ok.1) rfl rfl rfl ok.2.2.2.2 hR) ⟨fun a U g mk q => ⟨q.1, q.2.1, va_K.moved (u := U) (U := U.calling g mk a) (Vm.Alike.refl U.vm) q.2.2.1, nN_same (u := U) (U := U.calling g mk a) rfl q.2.2.2⟩, va_recv X.2.2.2.2.1.1 wP (ci := ci) (q0 := 0) hcl hth, fun U hU hW => ⟨rfl, by rw [hU]; exact wP, va_K.moved hW.alike X.2.2.2.2.1.1, nN_warm hW X.2.2.2.2.1.2⟩⟩ rfl rfl hls rfl (lv_room hrm) hdg hf) kk
end LgB
/-- u kept rows in a ring whose next place is x -/
def cPa (z : RS) (u x : Nat) (P : Nat → Nat → Int32) (nf : Nat) : Prop := z.1 0 = nI u ∧ u ≤ 8 ∧ z.1 1 = nI x ∧ x < 8 ∧ nf ≤ 5 ∧ ∀ j, j < u → z.2.1 3 ((x + 8 - u + j) % 8) = P j 0 ∧ z.2.1 4 ((x + 8 - u + j) % 8) = P j 1 ∧ z.2.1 5 ((x + 8 - u + j) % 8) = P j 2 ∧ ∀ f, f < nf → z.2.1 2 ((x + 8 - u + j) % 8 * 5 + f) = P j (3 + f)
theorem pa_rem {z zo : RS} {u x : Nat} {P : Nat → Nat → Int32} {nf : Nat} {r : Nat → Int32} (h : cPa z u x P nf) (h0 : zo.1 9 = r 0) (h1 : zo.1 10 = r 1) (h2 : zo.1 12 = r 2) (h3 : ∀ f, f < nf → zo.2.1 7 f = r (3 + f)) : cPa (sI (sI (sA (sA (sA (sC z 2 (va_cpy (zo.2.1 7) (z.2.1 2) 0 (x * 5) 5)) 3 x (zo.1 9)) 4 x (zo.1 10)) 5 x (zo.1 12)) 1 (nI ((x + 1) % 8))) 0 (nI (min 8 (u + 1)))) (pa_n u) ((x + 1) % 8) (pa_put u P r) nf := by
  obtain ⟨k0, k1, k2, k3, k4, k5⟩ := h
  have e : pa_n u = min 8 (u + 1) := by
    unfold pa_n
    split <;> omega
  rw [e]
  refine ⟨rfl, by omega, rfl, by omega, k4, fun j hj => ?_⟩
  by_cases hl : j + 1 = min 8 (u + 1)
  · have ep : ((x + 1) % 8 + 8 - min 8 (u + 1) + j) % 8 = x := by omega
    have er : pa_put u P r j = r := by
      unfold pa_put
      split
      · rw [if_pos (by omega)]
      · rw [if_pos (by omega)]
    rw [ep, er]
    refine ⟨?_, ?_, ?_, fun f hf => ?_⟩
    · exact (pk_us (f := z.2.1 3)).trans h0
    · exact (pk_us (f := z.2.1 4)).trans h1
    · exact (pk_us (f := z.2.1 5)).trans h2
    · refine Eq.trans ?_ (h3 f hf)
      show va_cpy (zo.2.1 7) (z.2.1 2) 0 (x * 5) 5 (x * 5 + f) = _
      rw [cpy_in (by omega), Nat.zero_add]
  · obtain ⟨j', hj', ej, er⟩ : ∃ j', j' < u ∧ ((x + 1) % 8 + 8 - min 8 (u + 1) + j) % 8 = (x + 8 - u + j') % 8 ∧ pa_put u P r j = P j' := by
      by_cases q : u = 8
      · refine ⟨j + 1, by omega, by omega, ?_⟩
        unfold pa_put
        rw [if_pos q, if_neg (by omega)]
      · refine ⟨j, by omega, by omega, ?_⟩
        unfold pa_put
        rw [if_neg q, if_neg (by omega)]
    obtain ⟨g0, g1, g2, g3⟩ := k5 j' hj'
    have en : ¬ (x + 8 - u + j') % 8 = x := by omega
    rw [ej, er]
    refine ⟨?_, ?_, ?_, fun f hf => ?_⟩
    · exact (pk_un (f := z.2.1 3) en).trans g0
    · exact (pk_un (f := z.2.1 4) en).trans g1
    · exact (pk_un (f := z.2.1 5) en).trans g2
    · refine Eq.trans ?_ (g3 f hf)
      show va_cpy (zo.2.1 7) (z.2.1 2) 0 (x * 5) 5 ((x + 8 - u + j') % 8 * 5 + f) = _
      exact cpy_out (by omega)
/-- the scene is as it was -/
def cBk (y y9 : RS) (r : Nat → Int32) (nf : Nat) : Prop := y9.1 9 = r 0 ∧ y9.1 10 = r 1 ∧ y9.1 12 = r 2 ∧ (∀ f, f < nf → y9.2.1 7 f = r (3 + f)) ∧ y9.1 0 = y.1 0 ∧ y9.1 3 = y.1 3 ∧ y9.1 8 = y.1 8 ∧ ∀ k, k ≠ 7 → y9.2.1 k = y.2.1 k
theorem pa_bk {z zo : RS} {u x : Nat} {P : Nat → Nat → Int32} {nf : Nat} (h : cPa z u x P nf) (hu : 0 < u) : cPa (sI (sI z 0 (nI (u - 1))) 1 (nI ((x + 8 - 1) % 8))) (u - 1) ((x + 8 - 1) % 8) P nf ∧ cBk zo (sI (sI (sI (sC zo 7 (va_cpy (z.2.1 2) (zo.2.1 7) ((x + 8 - 1) % 8 * 5) 0 5)) 9 (z.2.1 3 ((x + 8 - 1) % 8))) 10 (z.2.1 4 ((x + 8 - 1) % 8))) 12 (z.2.1 5 ((x + 8 - 1) % 8))) (P (u - 1)) nf := by
  obtain ⟨k0, k1, k2, k3, k4, k5⟩ := h
  refine ⟨⟨rfl, by omega, rfl, by omega, k4, fun j hj => ?_⟩, ?_⟩
  · have := k5 j (by omega)
    rw [show (x + 8 - u + j) % 8 = ((x + 8 - 1) % 8 + 8 - (u - 1) + j) % 8 by omega] at this
    exact this
  · have := k5 (u - 1) (by omega)
    rw [show (x + 8 - u + (u - 1)) % 8 = (x + 8 - 1) % 8 by omega] at this
    obtain ⟨g0, g1, g2, g3⟩ := this
    refine ⟨g0, g1, g2, fun f hf => ?_, rfl, rfl, rfl, fun k hk => va_up_ne _ _ hk⟩
    refine Eq.trans ?_ (g3 f hf)
    show va_cpy (z.2.1 2) (zo.2.1 7) ((x + 8 - 1) % 8 * 5) 0 5 f = _
    have := cpy_in (f := z.2.1 2) (g := zo.2.1 7) (sp := (x + 8 - 1) % 8 * 5) (dp := 0) (n := 5) (k := f) (by omega)
    rw [Nat.zero_add] at this
    exact this
theorem bk_sc {y y9 : RS} {r : Nat → Int32} {S T : Sc} (h : cBk y y9 r (S.1 1)) (hz : cSc y S) (hr : rNw r T) (hS : S.1 1 ≤ 5) (hc : ¬ T.1 4 = 0 → ¬ S.1 4 = 0 ∧ ∀ f, 1 ≤ f → f < S.1 1 → S.2.1 5 f = T.2.1 5 f) : cSc y9 (sc_at S T) := by
  obtain ⟨b0, b1, b2, b3, b4, b5, b6, b7⟩ := h
  obtain ⟨⟨h0, h1, h2, h3, h4, h5, h6, h7, h8, h9, h10, h11⟩, h12⟩ := hz
  obtain ⟨n0, n1, n2, n3, n4⟩ := hr
  refine ⟨⟨b4.trans h0, b5.trans h1, b6.trans h2, b0.trans n0, b1.trans n1, b2.trans n2, fun c hc => (congrFun (b7 1 (by decide)) c).trans (h6 c hc), fun c hc => (congrFun (b7 2 (by decide)) c).trans (h7 c hc), fun c hc => (congrFun (b7 4 (by decide)) c).trans (h8 c hc), fun c hc => (congrFun (b7 5 (by decide)) c).trans (h9 c hc), fun c hc => (congrFun (b7 6 (by decide)) c).trans (h10 c hc), fun f hf => (b3 f hf).trans (n3 f (Nat.lt_of_lt_of_le hf hS))⟩, fun ht f f1 f2 => ?_⟩
  obtain ⟨c1, c2⟩ := hc ht
  refine (congrFun (b7 11 (by decide)) f).trans ((h12 c1 f f1 f2).trans ?_)
  rw [c2 f f1 f2]
  rfl
def pEq (z y : RS) : Prop := z.1 0 = y.1 0 ∧ z.1 1 = y.1 1 ∧ (∀ c, c < 40 → z.2.1 2 c = y.2.1 2 c) ∧ (∀ c, c < 8 → z.2.1 3 c = y.2.1 3 c) ∧ (∀ c, c < 8 → z.2.1 4 c = y.2.1 4 c) ∧ ∀ c, c < 8 → z.2.1 5 c = y.2.1 5 c
theorem pEq_p {z y : RS} {u x : Nat} {P : Nat → Nat → Int32} {nf : Nat} (h : pEq z y) (hp : cPa y u x P nf) : cPa z u x P nf := by
  obtain ⟨e0, e1, e2, e3, e4, e5⟩ := h
  obtain ⟨k0, k1, k2, k3, k4, k5⟩ := hp
  refine ⟨e0.trans k0, k1, e1.trans k2, k3, k4, fun j hj => ?_⟩
  obtain ⟨g0, g1, g2, g3⟩ := k5 j hj
  exact ⟨(e3 _ (by omega)).trans g0, (e4 _ (by omega)).trans g1, (e5 _ (by omega)).trans g2, fun f hf => (e2 _ (by omega)).trans (g3 f hf)⟩
/-- a sheet: its LANE and one more (0: none), its size, its items -/
def cSt (z : RS) (L n : Nat) (I9 : Nat → Int64) : Prop := z.1 0 = iZ (((L : Nat) : Int) - (1 : Int)) ∧ z.1 1 = nI n ∧ L ≤ 4 ∧ n ≤ 24 ∧ ∀ i, i < 24 → z.2.2 2 i = I9 i
def pw_h (n : Nat) (i k : Int) : Nat := if (0 ≤ i ∧ 0 ≤ k) ∧ i + k ≤ (n : Int) then 1 else 0
theorem h_ok (n : Nat) (i k : Int) : (pw_h n i k = 1 ∧ 0 ≤ i ∧ 0 ≤ k ∧ i + k ≤ (n : Int)) ∨ (pw_h n i k = 0 ∧ (i < 0 ∨ k < 0 ∨ (n : Int) < i + k)) := by
  unfold pw_h
  by_cases q : (0 ≤ i ∧ 0 ≤ k) ∧ i + k ≤ (n : Int)
  · rw [if_pos q]
    exact Or.inl ⟨rfl, q.1.1, q.1.2, q.2⟩
  · rw [if_neg q]
    exact Or.inr ⟨rfl, by omega⟩
theorem h_x {n x : Nat} {i k : Int32} (hn : n ≤ 24) (ex : x = if i < 0 then 0 else (if k < 0 then 0 else (if nI n < k then 0 else (if nI n - k < i then 0 else 1)))) : x = pw_h n i.toInt k.toInt := by
  rw [ex]
  unfold pw_h
  have hni : (nI n).toInt = (n : Int) := nI_toInt (by omega)
  simp only [i_lt0]
  by_cases q1 : i.toInt < 0
  · rw [if_pos q1, if_neg (by omega)]
  · rw [if_neg q1]
    by_cases q2 : k.toInt < 0
    · rw [if_pos q2, if_neg (by omega)]
    · rw [if_neg q2]
      have e3 : nI n < k ↔ (n : Int) < k.toInt := by rw [Int32.lt_iff_toInt_lt, hni]
      by_cases q3 : (n : Int) < k.toInt
      · rw [if_pos (e3.mpr q3), if_neg (by omega)]
      · rw [if_neg (fun w => q3 (e3.mp w))]
        have e5 : (nI n - k).toInt = (n : Int) - k.toInt := by
          rw [Int32.toInt_sub, hni, Int.bmod_def]
          omega
        have e4 : nI n - k < i ↔ (n : Int) - k.toInt < i.toInt := by rw [Int32.lt_iff_toInt_lt, e5]
        by_cases q4 : (n : Int) - k.toInt < i.toInt
        · rw [if_pos (e4.mpr q4), if_neg (by omega)]
        · rw [if_neg (fun w => q4 (e4.mp w)), if_pos (by omega)]
theorem st_put {z : RS} {L n : Nat} {I9 : Nat → Int64} (h : cSt z L n I9) (i : Nat) (v : Int64) : cSt (sL z 2 i v) L n (va_up I9 i v) := by
  obtain ⟨h0, h1, h2, h3, h4⟩ := h
  refine ⟨h0, h1, h2, h3, fun j hj => ?_⟩
  show vp_updL (z.2.2 2) i v j = _
  by_cases e : j = i
  · subst e
    rw [pk_uLs, va_up_self]
  · rw [pk_uLn e, va_up_ne _ _ e]
    exact h4 j hj
theorem low_0 {L : Nat} {v : Int64} (h : ((L : Nat) : Int) - (1 : Int) = 0) : pw_low L v = ((v.toInt32).toInt8.toInt32).toInt64 := by
  unfold pw_low
  rw [if_pos h]
theorem low_1 {L : Nat} {v : Int64} (h : ((L : Nat) : Int) - (1 : Int) = 1) : pw_low L v = ((v.toInt32).toInt16.toInt32).toInt64 := by
  unfold pw_low
  rw [if_neg (by omega), if_pos h]
theorem low_2 {L : Nat} {v : Int64} (h : ((L : Nat) : Int) - (1 : Int) = 2) : pw_low L v = (v.toInt32).toInt64 := by
  unfold pw_low
  rw [if_neg (by omega), if_neg (by omega), if_pos h]
theorem low_3 {L : Nat} {v : Int64} (h : ((L : Nat) : Int) - (1 : Int) < 0 ∨ 2 < ((L : Nat) : Int) - (1 : Int)) : pw_low L v = v := by
  unfold pw_low
  rw [if_neg (by omega), if_neg (by omega), if_neg (by omega)]
