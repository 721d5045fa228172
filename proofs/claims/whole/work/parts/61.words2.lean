/-! words of the nest, of Math and of arraycopy -/
theorem wj_iMath : Cond.initialized "java/lang/Math" ∈ gT := gT_t (i := 10) (by decide +kernel) rfl
theorem wj_iSystem : Cond.initialized "java/lang/System" ∈ gT := gT_t (i := 16) (by decide +kernel) rfl
theorem wp_X7_9 : Cond.methodLinkNest RX7 9 yX5_init "RunningThree" ∈ nW := nW_t (i := 27) (by decide +kernel) rfl
theorem wq_X1_57 : Cond.fieldLinkNest RX1 57 "RunningThree$Scene" "cells" "I" "RunningThree" ∈ nW := nW_t (i := 32) (by decide +kernel) rfl
theorem wq_X7_131 : Cond.fieldLinkNest RX7 131 "RunningThree$Scene" "cells" "I" "RunningThree" ∈ nW := nW_t (i := 33) (by decide +kernel) rfl
theorem wq_X7_105 : Cond.fieldLinkNest RX7 105 "RunningThree$Scene" "sorts" "[I" "RunningThree" ∈ nW := nW_t (i := 35) (by decide +kernel) rfl
theorem wq_X7_108 : Cond.fieldLinkNest RX7 108 "RunningThree$Scene" "costs" "[I" "RunningThree" ∈ nW := nW_t (i := 37) (by decide +kernel) rfl
theorem wq_X7_58 : Cond.fieldLinkNest RX7 58 "RunningThree$Scene" "fighters" "I" "RunningThree" ∈ nW := nW_t (i := 39) (by decide +kernel) rfl
theorem wq_X0_58 : Cond.fieldLinkNest RX0 58 "RunningThree$Scene" "fighters" "I" "RunningThree" ∈ nW := nW_t (i := 40) (by decide +kernel) rfl
theorem wq_X1_72 : Cond.fieldLinkNest RX1 72 "RunningThree$Scene" "fighters" "I" "RunningThree" ∈ nW := nW_t (i := 41) (by decide +kernel) rfl
theorem wq_X7_73 : Cond.fieldLinkNest RX7 73 "RunningThree$Scene" "kinds" "[I" "RunningThree" ∈ nW := nW_t (i := 43) (by decide +kernel) rfl
theorem wq_X0_121 : Cond.fieldLinkNest RX0 121 "RunningThree$Scene" "kinds" "[I" "RunningThree" ∈ nW := nW_t (i := 44) (by decide +kernel) rfl
theorem wq_X7_77 : Cond.fieldLinkNest RX7 77 "RunningThree$Scene" "strengths" "[I" "RunningThree" ∈ nW := nW_t (i := 46) (by decide +kernel) rfl
theorem wq_X0_124 : Cond.fieldLinkNest RX0 124 "RunningThree$Scene" "strengths" "[I" "RunningThree" ∈ nW := nW_t (i := 47) (by decide +kernel) rfl
theorem wq_X7_80 : Cond.fieldLinkNest RX7 80 "RunningThree$Scene" "paces" "[I" "RunningThree" ∈ nW := nW_t (i := 49) (by decide +kernel) rfl
theorem wq_X7_83 : Cond.fieldLinkNest RX7 83 "RunningThree$Scene" "hurts" "[I" "RunningThree" ∈ nW := nW_t (i := 51) (by decide +kernel) rfl
theorem wq_X4_37 : Cond.fieldLinkNest RX4 37 "RunningThree$Scene" "hurts" "[I" "RunningThree" ∈ nW := nW_t (i := 52) (by decide +kernel) rfl
theorem wq_X0_103 : Cond.fieldLinkNest RX0 103 "RunningThree$Scene" "hurts" "[I" "RunningThree" ∈ nW := nW_t (i := 53) (by decide +kernel) rfl
theorem wq_X2_82 : Cond.fieldLinkNest RX2 82 "RunningThree$Scene" "hurts" "[I" "RunningThree" ∈ nW := nW_t (i := 54) (by decide +kernel) rfl
theorem wq_X1_26 : Cond.fieldLinkNest RX1 26 "RunningThree$Scene" "start" "I" "RunningThree" ∈ nW := nW_t (i := 56) (by decide +kernel) rfl
theorem wq_X7_99 : Cond.fieldLinkNest RX7 99 "RunningThree$Scene" "start" "I" "RunningThree" ∈ nW := nW_t (i := 57) (by decide +kernel) rfl
theorem wq_X2_36 : Cond.fieldLinkNest RX2 36 "RunningThree$Scene" "moment" "I" "RunningThree" ∈ nW := nW_t (i := 59) (by decide +kernel) rfl
theorem wq_X4_40 : Cond.fieldLinkNest RX4 40 "RunningThree$Scene" "moment" "I" "RunningThree" ∈ nW := nW_t (i := 60) (by decide +kernel) rfl
theorem wq_X7_96 : Cond.fieldLinkNest RX7 96 "RunningThree$Scene" "moment" "I" "RunningThree" ∈ nW := nW_t (i := 61) (by decide +kernel) rfl
theorem wq_X4_43 : Cond.fieldLinkNest RX4 43 "RunningThree$Scene" "stand" "I" "RunningThree" ∈ nW := nW_t (i := 63) (by decide +kernel) rfl
theorem wq_X7_134 : Cond.fieldLinkNest RX7 134 "RunningThree$Scene" "stand" "I" "RunningThree" ∈ nW := nW_t (i := 64) (by decide +kernel) rfl
theorem wq_X0_45 : Cond.fieldLinkNest RX0 45 "RunningThree$Scene" "coming" "[I" "RunningThree" ∈ nW := nW_t (i := 66) (by decide +kernel) rfl
theorem wq_X1_29 : Cond.fieldLinkNest RX1 29 "RunningThree$Scene" "draw" "I" "RunningThree" ∈ nW := nW_t (i := 68) (by decide +kernel) rfl
theorem wq_X4_46 : Cond.fieldLinkNest RX4 46 "RunningThree$Scene" "draw" "I" "RunningThree" ∈ nW := nW_t (i := 69) (by decide +kernel) rfl
theorem wq_X2_95 : Cond.fieldLinkNest RX2 95 "RunningThree$Scene" "draw" "I" "RunningThree" ∈ nW := nW_t (i := 70) (by decide +kernel) rfl
theorem wq_X7_170 : Cond.fieldLinkNest RX7 170 "RunningThree$Scene" "draw" "I" "RunningThree" ∈ nW := nW_t (i := 71) (by decide +kernel) rfl
theorem wp_X7_18 : Cond.methodLinkNest RX7 18 yX4_init "RunningThree" ∈ nW := nW_t (i := 102) (by decide +kernel) rfl
theorem wq_X7_137 : Cond.fieldLinkNest RX7 137 "RunningThree$Past" "known" "I" "RunningThree" ∈ nW := nW_t (i := 107) (by decide +kernel) rfl
theorem wp_X7_31 : Cond.methodLinkNest RX7 31 yX1_init "RunningThree" ∈ nW := nW_t (i := 128) (by decide +kernel) rfl
theorem wp_X1_17 : Cond.methodLinkNest RX1 17 yX5_init "RunningThree" ∈ nW := nW_t (i := 133) (by decide +kernel) rfl
theorem wq_X7_118 : Cond.fieldLinkNest RX7 118 "RunningThree$FieldText" "length" "I" "RunningThree" ∈ nW := nW_t (i := 136) (by decide +kernel) rfl
theorem wq_X7_124 : Cond.fieldLinkNest RX7 124 "RunningThree$FieldText" "at" "I" "RunningThree" ∈ nW := nW_t (i := 138) (by decide +kernel) rfl
theorem wp_X7_38 : Cond.methodLinkNest RX7 38 yX2_init "RunningThree" ∈ nW := nW_t (i := 151) (by decide +kernel) rfl
theorem wp_X2_11 : Cond.methodLinkNest RX2 11 yX5_init "RunningThree" ∈ nW := nW_t (i := 156) (by decide +kernel) rfl
theorem wp_X2_20 : Cond.methodLinkNest RX2 20 yX0_init "RunningThree" ∈ nW := nW_t (i := 159) (by decide +kernel) rfl
theorem wp_X7_49 : Cond.methodLinkNest RX7 49 yX6_init "RunningThree" ∈ nW := nW_t (i := 213) (by decide +kernel) rfl
theorem wq_X7_288 : Cond.fieldLinkNest RX7 288 "RunningThree$Sheet" "lane" "I" "RunningThree" ∈ nW := nW_t (i := 218) (by decide +kernel) rfl
theorem wq_X7_285 : Cond.fieldLinkNest RX7 285 "RunningThree$Sheet" "size" "I" "RunningThree" ∈ nW := nW_t (i := 220) (by decide +kernel) rfl
theorem wq_X7_295 : Cond.fieldLinkNest RX7 295 "RunningThree$Sheet" "items" "[J" "RunningThree" ∈ nW := nW_t (i := 222) (by decide +kernel) rfl
theorem wp_X5_70 : Cond.methodLinkNest RX5 70 yX7_within "RunningThree" ∈ nW := nW_t (i := 283) (by decide +kernel) rfl
theorem wm_X3_7 : Cond.methodLink RX3 7 Lib.Math.max.name ∈ gT := gT_t (i := 291) (by decide +kernel) rfl
theorem wj_smax : Cond.static Lib.Math.max.name ∈ gT := gT_t (i := 292) (by decide +kernel) rfl
theorem wj_cmax : Cond.code Lib.Math.max.name Lib.Math.max.code 2 (some .int) ∈ gT := gT_t (i := 293) (by decide +kernel) rfl
theorem wm_X5_103 : Cond.methodLink RX5 103 Lib.Math.max.name ∈ gT := gT_t (i := 311) (by decide +kernel) rfl
theorem wm_X3_15 : Cond.methodLink RX3 15 Lib.Math.min.name ∈ gT := gT_t (i := 322) (by decide +kernel) rfl
theorem wj_smin : Cond.static Lib.Math.min.name ∈ gT := gT_t (i := 323) (by decide +kernel) rfl
theorem wj_cmin : Cond.code Lib.Math.min.name Lib.Math.min.code 2 (some .int) ∈ gT := gT_t (i := 324) (by decide +kernel) rfl
theorem wp_X1_88 : Cond.methodLinkNest RX1 88 yX7_within "RunningThree" ∈ nW := nW_t (i := 498) (by decide +kernel) rfl
theorem wm_X5_52 : Cond.methodLink RX5 52 arraycopyName ∈ gT := gT_t (i := 508) (by decide +kernel) rfl
theorem wj_scopy : Cond.static arraycopyName ∈ gT := gT_t (i := 509) (by decide +kernel) rfl
theorem wj_ncopy : Cond.native arraycopyName ∈ gT := gT_t (i := 510) (by decide +kernel) rfl
theorem wm_X4_31 : Cond.methodLink RX4 31 arraycopyName ∈ gT := gT_t (i := 540) (by decide +kernel) rfl
theorem wm_X4_49 : Cond.methodLink RX4 49 Lib.Math.min.name ∈ gT := gT_t (i := 541) (by decide +kernel) rfl
theorem wm_X0_48 : Cond.methodLink RX0 48 arraycopyName ∈ gT := gT_t (i := 633) (by decide +kernel) rfl
theorem wm_X0_89 : Cond.methodLink RX0 89 Lib.Math.max.name ∈ gT := gT_t (i := 659) (by decide +kernel) rfl
theorem wm_X0_94 : Cond.methodLink RX0 94 Lib.Math.min.name ∈ gT := gT_t (i := 660) (by decide +kernel) rfl
theorem wm_X2_66 : Cond.methodLink RX2 66 Lib.Math.max.name ∈ gT := gT_t (i := 708) (by decide +kernel) rfl
theorem wm_X5_149 : Cond.methodLink RX5 149 Lib.Math.min.name ∈ gT := gT_t (i := 776) (by decide +kernel) rfl
theorem wp_X2_71 : Cond.methodLinkNest RX2 71 yX7_within "RunningThree" ∈ nW := nW_t (i := 859) (by decide +kernel) rfl
theorem wm_X7_299 : Cond.methodLink RX7 299 arraycopyName ∈ gT := gT_t (i := 894) (by decide +kernel) rfl
section ClsD
variable {p : Program} {l : Launch} {e : Env} {R : Room} {s : State} {m : MethodId} {args : Array Value} {below : List Frame} {meth : Method} {c : Code} {H : Heap} {locs : List Loc} {cells slots : Nat} {Q : State → Prop}
variable {cc : ByteArray} {pc : Nat} {ls : Array Slot} {rest : List Value} {G : CG} {A : Nat → Prop} {own : String}
variable {y : MethodName} {cc1 : ByteArray} {mx nL fr lo idx : Nat} {ret : Option FieldType} {av : List Value} {st0 : List Value} {C : String}
theorem run_of {g : JFrame} {mc ms : Nat} {Qa : State → Outcome → State → Prop} {free : Addr → Prop} (h : va_Run p l e R s m args below meth c H locs cells slots mc ms g rest Qa free) : CallRun p l e R s m args below meth c H locs cells slots mc ms g rest Qa free := by
  intro T hT X
  obtain ⟨v, st₀, t, T', L, h0, X', hL, e1, _, hq, st⟩ := h T hT X
  exact ⟨v, st₀, t, T', L, h0, X', hL, e1, hq, st⟩
theorem gSx {own : String} {idx mx : Nat} {y : MethodName} {cc : ByteArray} {ret : Option FieldType} (h1 : Cond.methodLink own idx y ∈ gT) (h2 : Cond.static y ∈ gT) (h4 : Cond.initialized y.cls ∈ gT) (h5 : Cond.code y cc mx ret ∈ gT) : GoodIn gT (va_wsS own idx y (Cond.code y cc mx ret :: gT)) := by
  intro w hw
  have hm : w ∈ gT := by
    unfold va_wsS at hw
    rcases List.mem_append.mp hw with h | h
    · simp only [List.mem_cons, List.not_mem_nil, or_false] at h
      rcases h with rfl | rfl | rfl
      · exact h1
      · exact h2
      · exact h4
    · rcases List.mem_cons.mp h with rfl | h
      · exact h5
      · exact h
  exact ⟨hm, gT_good hm⟩
/-- a static of another class; of a nest mate that keeps it to itself -/
theorem gc_sx {post : Int32 → Prop} (X : p.tables.exec = Jvm.exec ∧ c.code = cc ∧ (∀ w ∈ gT, w.before args s = true) ∧ s.vm.findClass own = some m.cls) (hml : c.maxLocals = nL) (hls : ls.size = nL) (hM : rMs l y cc1 mx ret fr lo av post) (ok : cOkS C y cc1 mx ret av.length) (hlk : Cond.methodLink own idx y ∈ gT) (hR : fr + 1 ≤ R.frames ∧ 8 + (mx + 11) + lo ≤ R.locals) (hf : cells ≤ R.cells ∧ slots ≤ R.slots) (hst : st0 = av.reverse ++ rest) (hrm : (rest.map fun v => v.category).sum ≤ 8) (hdg : decode cc pc = .ok (.invokestatic idx, 3))
    (kk : ∀ r : Int32, post r → W p l e R s m args below meth c H locs cells slots Q (F0 m (pc + 3) ls (.int r :: rest))) : W p l e R s m args below meth c H locs cells slots Q (F0 m pc ls st0) := by
  subst hst
  refine vp_callSi (W.runS (As := av) (rest := rest) ⟨X.1, X.2.1, hml, X.2.2.2, X.2.2.1⟩ hM (va_cwS av.length X.2.2.1 (gSx hlk ok.2.1 (ok.2.2.2.1 ▸ ok.2.2.1) ok.1) rfl rfl rfl ok.2.2.2.2 hR) ⟨fun a U g mk q => q, fun U hU hW => ⟨rfl, trivial⟩⟩ rfl rfl hls rfl (lv_room hrm) hdg hf) kk
theorem gCc {mx : Nat} {y : MethodName} {cc : ByteArray} {ret : Option FieldType} (h5 : Cond.code y cc mx ret ∈ gT) : GoodIn gT (Cond.code y cc mx ret :: gT) := by
  intro w hw
  have hm : w ∈ gT := by
    rcases List.mem_cons.mp hw with rfl | h
    · exact h5
    · exact h
  exact ⟨hm, gT_good hm⟩
theorem gc_sn {host : String} {post : Int32 → Prop} (X : p.tables.exec = Jvm.exec ∧ c.code = cc ∧ (∀ w ∈ gT, w.before args s = true) ∧ s.vm.findClass own = some m.cls) (hN : nN s) (hml : c.maxLocals = nL) (hls : ls.size = nL) (hM : rMs l y cc1 mx ret fr lo av post) (ok : cOkS C y cc1 mx ret av.length) (hlk : Cond.methodLinkNest own idx y host ∈ nW) (hR : fr + 1 ≤ R.frames ∧ 8 + (mx + 11) + lo ≤ R.locals) (hf : cells ≤ R.cells ∧ slots ≤ R.slots) (hst : st0 = av.reverse ++ rest) (hrm : (rest.map fun v => v.category).sum ≤ 8) (hdg : decode cc pc = .ok (.invokestatic idx, 3))
    (kk : ∀ r : Int32, post r → W p l e R s m args below meth c H locs cells slots Q (F0 m (pc + 3) ls (.int r :: rest))) : W p l e R s m args below meth c H locs cells slots Q (F0 m pc ls st0) := by
  subst hst
  refine vp_callSi (run_of (va_runSN (host := host) (As := av) (rest := rest) ⟨X.1, X.2.1, hml, X.2.2.2, X.2.2.1⟩ hM ⟨va_cnB av.length X.2.2.1 (gCc ok.1) rfl rfl rfl (hN _ hlk) (X.2.2.1 _ (ok.2.2.2.1 ▸ ok.2.2.1)) ok.2.2.2.2 hR, X.2.2.1 _ ok.2.1, trivial⟩ ⟨fun a U g mk q => q, fun U hU hW => ⟨rfl, trivial⟩⟩ rfl rfl hls rfl (lv_room hrm) hdg hf)) kk
theorem gm_max {a b : Int} (X : p.tables.exec = Jvm.exec ∧ c.code = cc ∧ (∀ w ∈ gT, w.before args s = true) ∧ s.vm.findClass own = some m.cls) (hml : c.maxLocals = nL) (hls : ls.size = nL) (hlk : Cond.methodLink own idx Lib.Math.max.name ∈ gT) (hR : 1 ≤ R.frames ∧ 21 ≤ R.locals) (hf : cells ≤ R.cells ∧ slots ≤ R.slots) (hrm : (rest.map fun v => v.category).sum ≤ 8) (h1 : -2147483648 ≤ a) (h2 : a < 2147483648) (h3 : -2147483648 ≤ b) (h4 : b < 2147483648) (hdg : decode cc pc = .ok (.invokestatic idx, 3))
    (kk : W p l e R s m args below meth c H locs cells slots Q (F0 m (pc + 3) ls (.int (iZ (max a b)) :: rest))) : W p l e R s m args below meth c H locs cells slots Q (F0 m pc ls (.int (iZ b) :: .int (iZ a) :: rest)) := by
  refine va_mmax X.1 X.2.1 (by rw [hml, hls]) X.2.2.2 (X.2.2.1 _ hlk) (X.2.2.1 _ wj_smax) (X.2.2.1 _ wj_iMath) (X.2.2.1 _ wj_cmax) hR.1 (by omega) hf.1 hf.2 hdg ?_
  have e9 : (if iZ a < iZ b then iZ b else iZ a) = iZ (max a b) := by
    by_cases q : a < b
    · rw [if_pos ((iZ_lt h1 h2 h3 h4).mpr q)]
      exact congrArg iZ (by omega)
    · rw [if_neg (fun w => q ((iZ_lt h1 h2 h3 h4).mp w))]
      exact congrArg iZ (by omega)
  rw [e9]
  exact kk
theorem gm_min {a b : Int} (X : p.tables.exec = Jvm.exec ∧ c.code = cc ∧ (∀ w ∈ gT, w.before args s = true) ∧ s.vm.findClass own = some m.cls) (hml : c.maxLocals = nL) (hls : ls.size = nL) (hlk : Cond.methodLink own idx Lib.Math.min.name ∈ gT) (hR : 1 ≤ R.frames ∧ 21 ≤ R.locals) (hf : cells ≤ R.cells ∧ slots ≤ R.slots) (hrm : (rest.map fun v => v.category).sum ≤ 8) (h1 : -2147483648 ≤ a) (h2 : a < 2147483648) (h3 : -2147483648 ≤ b) (h4 : b < 2147483648) (hdg : decode cc pc = .ok (.invokestatic idx, 3))
    (kk : W p l e R s m args below meth c H locs cells slots Q (F0 m (pc + 3) ls (.int (iZ (min a b)) :: rest))) : W p l e R s m args below meth c H locs cells slots Q (F0 m pc ls (.int (iZ b) :: .int (iZ a) :: rest)) := by
  refine va_mmin X.1 X.2.1 (by rw [hml, hls]) X.2.2.2 (X.2.2.1 _ hlk) (X.2.2.1 _ wj_smin) (X.2.2.1 _ wj_iMath) (X.2.2.1 _ wj_cmin) hR.1 (by omega) hf.1 hf.2 hdg ?_
  have e9 : (if iZ b < iZ a then iZ b else iZ a) = iZ (min a b) := by
    by_cases q : b < a
    · rw [if_pos ((iZ_lt h3 h4 h1 h2).mpr q)]
      exact congrArg iZ (by omega)
    · rw [if_neg (fun w => q ((iZ_lt h3 h4 h1 h2).mp w))]
      exact congrArg iZ (by omega)
  rw [e9]
  exact kk
end ClsD
