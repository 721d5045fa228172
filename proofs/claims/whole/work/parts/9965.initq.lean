/-! worlds with a head and a long rest: nothing of the rest is opened -/
theorem nd_of : ∀ (l : List Nat), l.Nodup → va_nd l = true
  | [], _ => rfl
  | a :: l, h => by
    obtain ⟨h1, h2⟩ := List.nodup_cons.mp h
    show (decide (a ∉ l) && va_nd l) = true
    rw [nd_of l h2, decide_eq_true h1]
    rfl
theorem rng9 (L M : va_W) : (List.range L.length).map (fun i => (L ++ M)[i]?) = L.map some := by
  apply List.ext_getElem
  · simp
  · intro k h1 h2
    have h3 : k < L.length := by simpa using h1
    simp [List.getElem?_append_left h3, h3]
theorem one9 (L : va_W) (y9 : Nat × va_E) : [L.length].map (fun i => (L ++ [y9])[i]?) = [y9].map some := by
  simp
theorem dis9 (n : Nat) : ∀ i ∈ List.range n, i ∉ [n] := by
  intro i hi h9
  have h1 := List.mem_range.mp hi
  have h2 := List.mem_singleton.mp h9
  omega
section IniC
variable {p : Program} {l : Launch} {e : Env} {R : Room} {s : State} {m : MethodId} {args : Array Value} {below : List Frame} {meth : Method} {c : Code} {H : Heap} {locs : List Loc} {cells slots : Nat} {Q : State → Prop}
variable {cc : ByteArray} {pc : Nat} {ls : Array Slot} {rest : List Value} {G : CG} {A : Nat → Prop} {own : String}
variable {y : MethodName} {cc1 : ByteArray} {mx nL fr lo idx nc ns : Nat}
theorem ni_callE {σ : Type} {host : String} {post : σ → Prop} {x9 y9 : Nat × va_E} {L : va_W} {w : σ → va_W} {b : Nat} (X : nX own G A p c cc s args m) (hml : c.maxLocals = nL) (hls : ls.size = nL) (hM : cNv G l y cc1 mx fr lo nc ns [.ref b] [y9] w post) (ok : Cond.code y cc1 mx none ∈ gT ∧ Cond.instanceMethod y ∈ gT ∧ Cond.initialized y.cls ∈ gT ∧ y.name = "<init>" ∧ y.cls ≠ "java/lang/invoke/MethodHandle" ∧ y.cls ≠ "java/lang/invoke/VarHandle" ∧ (parseMethodDescriptor y.desc).map (fun d => d.parameters.length) = some 0) (hlk : Cond.methodLinkNest own idx y host ∈ nW) (hR : fr + 1 ≤ R.frames ∧ 8 + (mx + 11) + lo ≤ R.locals) (hf : cells + nc ≤ R.cells ∧ slots + ns ≤ R.slots) (h : cW G A s (x9 :: L ++ [y9]) H locs) (hrm : (rest.map fun v => v.category).sum ≤ 8) (hdg : decode cc pc = .ok (.invokespecial idx, 3))
    (kk : ∀ (u : σ) (H : Heap) (locs : List Loc), post u → cW G A s (x9 :: (L ++ w u)) H locs → W p l e R s m args below meth c H locs (cells + nc) (slots + ns) Q (F0 m (pc + 3) ls rest)) : W p l e R s m args below meth c H locs cells slots Q (F0 m pc ls (.ref b :: rest)) :=
  ni_call X hml hls hM ok hlk hR hf h [(x9 :: L).length] (List.range (x9 :: L).length) (one9 _ y9) (nd_of _ (List.nodup_cons.mpr ⟨List.not_mem_nil, List.nodup_nil⟩)) (rng9 _ _) (nd_of _ List.nodup_range) (dis9 _) hrm hdg (fun u H locs hp w9 => kk u H locs hp w9)
theorem rot9 {x9 y9 : Nat × va_E} {L : va_W} (w : cW G A s (x9 :: L ++ [y9]) H locs) : cW G A s (x9 :: y9 :: L) H locs := by
  have hs : (0 :: (L.length + 1) :: (List.range L.length).map (· + 1)).map (fun i => (x9 :: L ++ [y9])[i]?) = (x9 :: y9 :: L).map some := by
    have h1 := rng9 L [y9]
    simp only [List.map_cons, List.map_map]
    refine congr (congrArg List.cons (by simp)) (congr (congrArg List.cons (by simp)) ?_)
    rw [← h1]
    refine List.map_congr_left (fun i hi => ?_)
    simp
  have hn : va_nd (0 :: (L.length + 1) :: (List.range L.length).map (· + 1)) = true := by
    refine nd_of _ (List.nodup_cons.mpr ⟨?_, List.nodup_cons.mpr ⟨?_, ?_⟩⟩)
    · simp
    · simp
    · have h2 := @List.nodup_range L.length
      exact (List.pairwise_map.mpr (h2.imp (fun h9 h8 => h9 (by omega))))
  exact ⟨w.1.sub _ (map_fm hs), w.2.1.sub _ hn hs, w.2.2⟩
theorem at9 (x9 y9 z9 : Nat × va_E) (L M : va_W) (h : M[0]? = some z9) : (x9 :: y9 :: (L ++ M))[L.length + 2]? = some z9 := by
  show (L ++ M)[L.length]? = some z9
  rw [List.getElem?_append_right (Nat.le_refl _), Nat.sub_self]
  exact h
theorem ni_ast {x9 : Nat × va_E} {q i : Nat} {fa : Nat → Option Nat} {L : va_W} {u : Nat → Nat} (X : nX own G A p c cc s args m) (w : cW G A s (x9 :: (q, .inl (G.2.2.2, 4, .inr (.inr (.inr (.inr fa))))) :: (L ++ w6 G u zN6)) H locs) (hi : i < 4) (hdg : decode cc pc = .ok (.aastore, 1))
    (kk : ∀ (H : Heap) (locs : List Loc), cW G A s (x9 :: (q, .inl (G.2.2.2, 4, .inr (.inr (.inr (.inr (va_up fa i (some (u 0)))))))) :: (L ++ w6 G u zN6)) H locs → W p l e R s m args below meth c H locs cells slots Q (F0 m (pc + 1) ls rest)) : W p l e R s m args below meth c H locs cells slots Q (F0 m pc ls (.ref (u 0) :: .int (nI i) :: .ref q :: rest)) := by
  refine va_astq (D := G.1) (cl := vwCl) (tys := ct G) X.1 X.2.1 X.2.2.2.2.1.1 w.1 w.2.1 w.2.2 1 2 (L.length + 2) 5 rfl rfl (at9 _ _ _ _ _ rfl) rfl (vp_in_nI hi (by decide)) hdg (fun H1 locs1 hP hD hS => ?_)
  rw [nI_clamp (by omega)] at hP hD
  exact kk H1 locs1 ⟨hP, hD, hS⟩
end IniC
