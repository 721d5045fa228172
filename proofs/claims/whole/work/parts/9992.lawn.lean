/-! the classes' numbers at the law's entry -/
theorem law_gT {s : State} {args : Array Value} (hts : ∀ w ∈ lw_tbl, w.before args s = true) : ∀ w ∈ gT, w.before args s = true := fun w hw => hts w (List.mem_filter.mp hw).1
theorem law_ar {s : State} {args : Array Value} {ty : FieldType} (h : (Cond.arrayClass ty).before args s = true) : ∃ cA : ClassId, s.vm.findClass ("[" ++ ty.toString) = some cA ∧ ArrOfT s cA ty := by
  obtain ⟨cA, kA, comp, h1, h2, h3⟩ := Cond.arrayClass_spec h
  exact ⟨cA, h1, fun n z => ⟨(fun k h => by cases h), kA, h2, comp, h3⟩⟩
theorem law_cl {s : State} {args : Array Value} (hg : ∀ w ∈ gT, w.before args s = true) : ∃ D : va_G, ∀ (k : Nat) (q : vw_C), vwCl[k]? = some q → u_Kn s q.1 q.2.1 q.2.2 (D.1 k) (D.2 k) := by
  obtain ⟨c0, i0, k0⟩ := u_known (C := RX0) (T := TX0) (N := 12) (n := 12) hg gX0 (hg _ wB_X0)
  obtain ⟨c1, i1, k1⟩ := u_known (C := RX1) (T := TX1) (N := 4) (n := 4) hg gX1 (hg _ wB_X1)
  obtain ⟨c2, i2, k2⟩ := u_known (C := RX2) (T := TX2) (N := 3) (n := 3) hg gX2 (hg _ wB_X2)
  obtain ⟨c3, i3, k3⟩ := u_known (C := RX4) (T := TX4) (N := 6) (n := 6) hg gX4 (hg _ wB_X4)
  obtain ⟨c4, i4, k4⟩ := u_known (C := RX5) (T := TX5) (N := 13) (n := 13) hg gX5 (hg _ wB_X5)
  obtain ⟨c5, i5, k5⟩ := u_known (C := RX6) (T := TX6) (N := 3) (n := 3) hg gX6 (hg _ wB_X6)
  obtain ⟨c6, i6, k6⟩ := u_known (C := RX7) (T := TX7) (N := 8) (n := 8) hg gX7 (hg _ wB_X7)
  obtain ⟨c7, i7, k7⟩ := u_known (C := RX8) (T := TX8) (N := 30) (n := 30) hg gX8 (hg _ wB_X8)
  refine ⟨(fun k => if k = 0 then c0 else if k = 1 then c1 else if k = 2 then c2 else if k = 3 then c3 else if k = 4 then c4 else if k = 5 then c5 else if k = 6 then c6 else c7, fun k => if k = 0 then i0 else if k = 1 then i1 else if k = 2 then i2 else if k = 3 then i3 else if k = 4 then i4 else if k = 5 then i5 else if k = 6 then i6 else i7), ?_⟩
  intro k q hq
  match k, hq with
  | 0, hq => cases hq; exact k0
  | 1, hq => cases hq; exact k1
  | 2, hq => cases hq; exact k2
  | 3, hq => cases hq; exact k3
  | 4, hq => cases hq; exact k4
  | 5, hq => cases hq; exact k5
  | 6, hq => cases hq; exact k6
  | 7, hq => cases hq; exact k7
  | k + 8, hq => simp at hq
theorem law_K {s : State} {args : Array Value} (hts : ∀ w ∈ lw_tbl, w.before args s = true) : ∃ G : CG, nK G s := by
  have hg := law_gT hts
  obtain ⟨D, hD⟩ := law_cl hg
  obtain ⟨ci9, e1, e2⟩ := law_ar (hg _ wA_i)
  obtain ⟨cl9, e3, e4⟩ := law_ar (hg _ wA_l)
  have hao : va_AO "RunningThree$Sheet" s := va_AO.of (hts (Cond.arrayOver (.object "RunningThree$Sheet")) (List.mem_append_right _ (List.mem_of_getElem? (i := 211) (by decide +kernel))))
  obtain ⟨co9, cs9, kk9, f1, f2, f3, f4, f5⟩ := Cond.arrayOver_spec hao
  refine ⟨(D, ci9, cl9, cs9), ⟨hD, ?_⟩, ?_, hao⟩
  · intro k9 q hq
    match k9, hq with
    | 0, hq => cases hq; exact ⟨e2, e1⟩
    | 1, hq => cases hq; exact ⟨e4, e3⟩
    | 2, hq => cases hq; exact ⟨fun n z => ⟨(fun k h => by cases h), kk9, f3, co9, f4⟩, kk9, co9, f3, f4, f1, f5⟩
    | k9 + 3, hq => simp at hq
  · intro w hw
    obtain ⟨h1, h2⟩ := List.mem_filter.mp hw
    have h3 := hts w (List.mem_append_right _ h1)
    cases w
    all_goals first | exact va_Nw.of rfl h3 | exact absurd (show false = true from h2) Bool.false_ne_true
