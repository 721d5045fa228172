/-! the scene in the class's cells -/
section CpA
variable {p : Program} {l : Launch} {e : Env} {R : Room} {s : State} {m : MethodId} {args : Array Value} {below : List Frame} {meth : Method} {c : Code} {H : Heap} {locs : List Loc} {cells slots : Nat} {Q : State → Prop}
variable {cc : ByteArray} {pc : Nat} {ls : Array Slot} {rest : List Value} {G : CG} {A : Nat → Prop} {own : String} {nL idx : Nat} {ws : va_W}
theorem nI_nn {n : Nat} (h : n < 2147483648) : ¬ nI n < 0 := by
  rw [Int32.lt_iff_toInt_lt, nI_toInt h]
  show ¬ (n : Int) < 0
  omega
theorem gcp_i (X : cX own G A p c cc s args m) (hml : c.maxLocals = nL) (hls : ls.size = nL) (hlk : Cond.methodLink own idx arraycopyName ∈ gT) (hR : 1 ≤ R.frames ∧ 100 ≤ R.locals) (w : cW G A s ws H locs) (q0 q1 : Nat) {a0 a1 n0 n1 : Nat} {f g : Nat → Int32} (ha0 : ws[q0]? = some (a0, .inl (G.2.1, n0, .inl f))) (ha1 : ws[q1]? = some (a1, .inl (G.2.1, n1, .inl g))) {sp dp n : Nat} (h4 : sp + n ≤ n0) (h5 : dp + n ≤ n1) (h6 : n0 < 1000 ∧ n1 < 1000) (hrm : (rest.map fun v => v.category).sum ≤ 8) (hdg : decode cc pc = .ok (.invokestatic idx, 3))
    (kk : ∀ (H : Heap) (locs : List Loc), cW G A s (ws.set q1 (a1, .inl (G.2.1, n1, .inl (va_cpy f g sp dp n)))) H locs → W p l e R s m args below meth c H locs cells slots Q (F0 m (pc + 3) ls rest)) : W p l e R s m args below meth c H locs cells slots Q (F0 m pc ls (.int (nI n) :: .int (nI dp) :: .ref a1 :: .int (nI sp) :: .ref a0 :: rest)) := by
  refine va_copyi X.1 X.2.1 (by rw [hml, hls]) X.2.2.2.1 (X.2.2.1 _ hlk) (X.2.2.1 _ wj_ncopy) (X.2.2.1 _ wj_scopy) (X.2.2.1 _ wj_iSystem) X.2.2.2.2.1.1 w.1 w.2.1 w.2.2 q0 q1 0 0 ha0 ha1 (ty := .int) rfl rfl rfl (nI_nn (by omega)) (nI_nn (by omega)) (nI_nn (by omega)) ?_ ?_ (fun _ _ => rfl) hR.1 ?_ hdg ?_
  · rw [nI_clamp (by omega), nI_clamp (by omega)]; exact h4
  · rw [nI_clamp (by omega), nI_clamp (by omega)]; exact h5
  · have e : nativeFrameWords "java/lang/System" "arraycopy" 5 + 11 ≤ 92 := by decide
    omega
  · rw [nI_clamp (by omega), nI_clamp (by omega), nI_clamp (by omega)]
    exact fun H1 locs1 hP hD hS => kk H1 locs1 ⟨hP, hD, hS⟩
theorem gcp_l (X : cX own G A p c cc s args m) (hml : c.maxLocals = nL) (hls : ls.size = nL) (hlk : Cond.methodLink own idx arraycopyName ∈ gT) (hR : 1 ≤ R.frames ∧ 100 ≤ R.locals) (w : cW G A s ws H locs) (q0 q1 : Nat) {a0 a1 n0 n1 : Nat} {f g : Nat → Int64} (ha0 : ws[q0]? = some (a0, .inl (G.2.2.1, n0, .inr (.inl f)))) (ha1 : ws[q1]? = some (a1, .inl (G.2.2.1, n1, .inr (.inl g)))) {sp dp n : Nat} (h4 : sp + n ≤ n0) (h5 : dp + n ≤ n1) (h6 : n0 < 1000 ∧ n1 < 1000) (hrm : (rest.map fun v => v.category).sum ≤ 8) (hdg : decode cc pc = .ok (.invokestatic idx, 3))
    (kk : ∀ (H : Heap) (locs : List Loc), cW G A s (ws.set q1 (a1, .inl (G.2.2.1, n1, .inr (.inl (va_cpy f g sp dp n))))) H locs → W p l e R s m args below meth c H locs cells slots Q (F0 m (pc + 3) ls rest)) : W p l e R s m args below meth c H locs cells slots Q (F0 m pc ls (.int (nI n) :: .int (nI dp) :: .ref a1 :: .int (nI sp) :: .ref a0 :: rest)) := by
  refine va_copyl X.1 X.2.1 (by rw [hml, hls]) X.2.2.2.1 (X.2.2.1 _ hlk) (X.2.2.1 _ wj_ncopy) (X.2.2.1 _ wj_scopy) (X.2.2.1 _ wj_iSystem) X.2.2.2.2.1.1 w.1 w.2.1 w.2.2 q0 q1 1 1 ha0 ha1 (ty := .long) rfl rfl rfl (nI_nn (by omega)) (nI_nn (by omega)) (nI_nn (by omega)) ?_ ?_ (fun _ _ => rfl) hR.1 ?_ hdg ?_
  · rw [nI_clamp (by omega), nI_clamp (by omega)]; exact h4
  · rw [nI_clamp (by omega), nI_clamp (by omega)]; exact h5
  · have e : nativeFrameWords "java/lang/System" "arraycopy" 5 + 11 ≤ 92 := by decide
    omega
  · rw [nI_clamp (by omega), nI_clamp (by omega), nI_clamp (by omega)]
    exact fun H1 locs1 hP hD hS => kk H1 locs1 ⟨hP, hD, hS⟩
end CpA
theorem cpy_in {α : Type} {f g : Nat → α} {sp dp n k : Nat} (h : k < n) : va_cpy f g sp dp n (dp + k) = f (sp + k) := by
  unfold va_cpy
  rw [if_pos (by omega), show dp + k - dp = k by omega]
theorem cpy_in0 {α : Type} {f g : Nat → α} {n k : Nat} (h : k < n) : va_cpy f g 0 0 n k = f k := by
  have := cpy_in (f := f) (g := g) (sp := 0) (dp := 0) h
  rw [Nat.zero_add] at this
  exact this
theorem cpy_out {α : Type} {f g : Nat → α} {sp dp n k : Nat} (h : k < dp ∨ dp + n ≤ k) : va_cpy f g sp dp n k = g k := by
  unfold va_cpy
  rw [if_neg (by omega)]
abbrev sC (z : RS) (k : Nat) (f : Nat → Int32) : RS := (z.1, va_up z.2.1 k f, z.2.2)
abbrev sCL (z : RS) (k : Nat) (f : Nat → Int64) : RS := (z.1, z.2.1, va_up z.2.2 k f)
/-- bounds -/
def pc_w3 (v a b : Int32) : Nat := if v < a then 0 else (if b < v then 0 else 1)
theorem w3_01 (v a b : Int32) : nI (pc_w3 v a b) = 0 ∨ nI (pc_w3 v a b) = 1 := by
  unfold pc_w3
  split
  · exact Or.inl rfl
  · split
    · exact Or.inl rfl
    · exact Or.inr rfl
theorem w3_I {v a b : Int32} {x lo hi : Int} (hx : v.toInt = x) (ha : a.toInt = lo) (hb : b.toInt = hi) : pc_w3 v a b = pc_inI x lo hi := by
  subst hx ha hb
  unfold pc_w3 pc_inI
  simp only [Int32.lt_iff_toInt_lt]
  by_cases h : v.toInt < a.toInt
  · rw [if_pos h, if_neg (by omega)]
  · rw [if_neg h]
    by_cases h2 : b.toInt < v.toInt
    · rw [if_pos h2, if_neg (by omega)]
    · rw [if_neg h2, if_pos (by omega)]
theorem inI_01 (x lo hi : Int) : nI (pc_inI x lo hi) = 0 ∨ nI (pc_inI x lo hi) = 1 := by
  unfold pc_inI
  split
  · exact Or.inr rfl
  · exact Or.inl rfl
/-- one that was DOWN when he TURNED never comes -/
def pc_nv (n : Nat) : Nat := if n = 99999 then 1073741824 else n
theorem nv_le {c m : Nat} (h1 : c ≤ 99999) (h2 : m < 99999) : pc_nv c ≤ m ↔ c ≤ m := by
  unfold pc_nv
  split <;> omega
theorem nv_lt {a b : Nat} (h1 : a ≤ 99999) (h2 : b ≤ 99999) : pc_nv a < pc_nv b ↔ a < b := by
  unfold pc_nv
  split
  · split <;> omega
  · split <;> omega
theorem nv_bd {a : Nat} (h1 : a ≤ 99999) : pc_nv a ≤ 1073741824 := by
  unfold pc_nv
  split <;> omega
theorem nv_id {a : Nat} (h1 : a < 99999) : pc_nv a = a := if_neg (by omega)
/-- the class's cells hold the scene, but for when they come -/
def cSn (z : RS) (S : Sc) : Prop := z.1 0 = nI (S.1 0) ∧ z.1 3 = nI (S.1 1) ∧ z.1 8 = nI (S.1 2) ∧ z.1 9 = nI (S.1 3) ∧ z.1 10 = pc_sd (S.1 4) ∧ z.1 12 = S.2.2 ∧ (∀ c, c < S.1 0 → z.2.1 1 c = nI (S.2.1 0 c)) ∧ (∀ c, c < S.1 0 → z.2.1 2 c = nI (pc_cost (S.2.1 0) c)) ∧ (∀ f, f < S.1 1 → z.2.1 4 f = nI (S.2.1 1 f)) ∧ (∀ f, f < S.1 1 → z.2.1 5 f = nI (S.2.1 2 f)) ∧ (∀ f, f < S.1 1 → z.2.1 6 f = nI (S.2.1 3 f)) ∧ (∀ f, f < S.1 1 → z.2.1 7 f = nI (S.2.1 4 f))
def cSc (z : RS) (S : Sc) : Prop := cSn z S ∧ (¬ S.1 4 = 0 → ∀ f, 1 ≤ f → f < S.1 1 → z.2.1 11 f = nI (pc_nv (S.2.1 5 f)))
section CAcc
variable {z : RS} {S : Sc}
theorem cs_ce (h : cSn z S) : z.1 0 = nI (S.1 0) := h.1
theorem cs_nf (h : cSn z S) : z.1 3 = nI (S.1 1) := h.2.1
theorem cs_st (h : cSn z S) : z.1 8 = nI (S.1 2) := h.2.2.1
theorem cs_mo (h : cSn z S) : z.1 9 = nI (S.1 3) := h.2.2.2.1
theorem cs_sd (h : cSn z S) : z.1 10 = pc_sd (S.1 4) := h.2.2.2.2.1
theorem cs_dr (h : cSn z S) : z.1 12 = S.2.2 := h.2.2.2.2.2.1
theorem cs_so (h : cSn z S) (c : Nat) (hc : c < S.1 0) : z.2.1 1 c = nI (S.2.1 0 c) := h.2.2.2.2.2.2.1 c hc
theorem cs_cs (h : cSn z S) (c : Nat) (hc : c < S.1 0) : z.2.1 2 c = nI (pc_cost (S.2.1 0) c) := h.2.2.2.2.2.2.2.1 c hc
theorem cs_ki (h : cSn z S) (f : Nat) (hf : f < S.1 1) : z.2.1 4 f = nI (S.2.1 1 f) := h.2.2.2.2.2.2.2.2.1 f hf
theorem cs_sr (h : cSn z S) (f : Nat) (hf : f < S.1 1) : z.2.1 5 f = nI (S.2.1 2 f) := h.2.2.2.2.2.2.2.2.2.1 f hf
theorem cs_pa (h : cSn z S) (f : Nat) (hf : f < S.1 1) : z.2.1 6 f = nI (S.2.1 3 f) := h.2.2.2.2.2.2.2.2.2.2.1 f hf
theorem cs_hu (h : cSn z S) (f : Nat) (hf : f < S.1 1) : z.2.1 7 f = nI (S.2.1 4 f) := h.2.2.2.2.2.2.2.2.2.2.2 f hf
theorem cs_co (h : cSc z S) (f : Nat) (ht : ¬ S.1 4 = 0) (h1 : 1 ≤ f) (hf : f < S.1 1) : z.2.1 11 f = nI (pc_nv (S.2.1 5 f)) := h.2 ht f h1 hf
theorem cs_sdn (h : cSn z S) (q : ¬ S.1 4 = 0) : z.1 10 = nI (S.1 4 - 1) := by
  rw [cs_sd h]
  unfold pc_sd
  rw [if_neg q]
end CAcc
theorem up_ok {S : Sc} {f : Nat} (h : S.2.1 4 f ≤ 6) : (if 6 ≤ S.2.1 4 f then 0 else 1) = 1 - pc_dn S f := by
  unfold pc_dn
  by_cases q : S.2.1 4 f = 6
  · rw [if_pos q, if_pos (by omega)]
  · rw [if_neg q, if_neg (by omega)]
theorem u01 {n : Nat} (h : n ≤ 1) : nI n = 0 ∨ nI n = 1 := by
  rcases (show n = 0 ∨ n = 1 by omega) with rfl | rfl
  · exact Or.inl rfl
  · exact Or.inr rfl
theorem oc_y {S : Sc} {i : Nat} (h : pc_dn S (i + 1) = 0) : sp_ou S (i + 1) = sp_ou S i + 1 := by
  show sp_ou S i + (if pc_dn S (i + 1) = 0 then 1 else 0) = _
  rw [if_pos h]
theorem oc_n {S : Sc} {i : Nat} (h : ¬ pc_dn S (i + 1) = 0) : sp_ou S (i + 1) = sp_ou S i := by
  show sp_ou S i + (if pc_dn S (i + 1) = 0 then 1 else 0) = _
  rw [if_neg h]
  rfl
theorem dnL_y {S : Sc} {i : Nat} (h : ¬ pc_dn S i = 0) : sp_dnL S (i + 1) = sp_dnL S i ||| 2 ^ i := by
  show sp_dnL S i ||| (if pc_dn S i = 0 then 0 else 2 ^ i) = _
  rw [if_neg h]
theorem dnL_n {S : Sc} {i : Nat} (h : pc_dn S i = 0) : sp_dnL S (i + 1) = sp_dnL S i := by
  show sp_dnL S i ||| (if pc_dn S i = 0 then 0 else 2 ^ i) = _
  rw [if_pos h, Nat.or_zero]
theorem dnL_bit {S : Sc} : ∀ n k, (sp_dnL S n).testBit k = decide (k < n ∧ ¬ pc_dn S k = 0)
  | 0, k => by
    show (0 : Nat).testBit k = _
    rw [Nat.zero_testBit]
    exact (decide_eq_false (by omega)).symm
  | n + 1, k => by
    have ih := dnL_bit (S := S) n k
    by_cases q : pc_dn S n = 0
    · rw [dnL_n q, ih]
      refine decide_eq_decide.mpr ⟨fun h => ⟨by omega, h.2⟩, fun h => ⟨?_, h.2⟩⟩
      rcases Nat.lt_or_ge k n with w | w
      · exact w
      · exact absurd (show pc_dn S k = 0 by rw [show k = n by omega]; exact q) h.2
    · rw [dnL_y q, Nat.testBit_or, ih, Nat.testBit_two_pow]
      by_cases e : n = k
      · subst e
        rw [decide_eq_true (rfl : n = n), Bool.or_true]
        exact (decide_eq_true ⟨by omega, q⟩).symm
      · rw [decide_eq_false e, Bool.or_false]
        exact decide_eq_decide.mpr ⟨fun h => ⟨by omega, h.2⟩, fun h => ⟨by omega, h.2⟩⟩
theorem ou_0 {S : Sc} : ∀ n, sp_ou S n = 0 ↔ ∀ f, 1 ≤ f → f ≤ n → ¬ pc_dn S f = 0
  | 0 => ⟨fun _ f h1 h2 => by omega, fun _ => rfl⟩
  | n + 1 => by
    have ih := ou_0 (S := S) n
    by_cases q : pc_dn S (n + 1) = 0
    · rw [oc_y q]
      exact ⟨fun h => by omega, fun h => absurd q (h (n + 1) (by omega) (by omega))⟩
    · rw [oc_n q, ih]
      refine ⟨fun h f h1 h2 => ?_, fun h f h1 h2 => h f h1 (by omega)⟩
      by_cases e : f = n + 1
      · rw [e]; exact q
      · exact h f h1 (by omega)
theorem over_ok {S : Sc} (h2 : 2 ≤ S.1 1) : sp_over S = if pc_dn S 0 = 0 then (if sp_ou S (S.1 1 - 1) = 0 then 1 else 0) else 2 := by
  unfold sp_over
  rw [if_pos h2]
  have b0 : (sp_dnL S (S.1 1) &&& 1 = 1) ↔ ¬ pc_dn S 0 = 0 := by
    have h := dnL_bit (S := S) (S.1 1) 0
    rw [Nat.testBit_zero] at h
    rw [Nat.and_one_is_mod]
    rw [decide_eq_decide] at h
    exact ⟨fun w => (h.mp w).2, fun w => h.mpr ⟨by omega, w⟩⟩
  by_cases q : pc_dn S 0 = 0
  · rw [if_neg (fun w => b0.mp w q), if_pos q]
    have e : (sp_dnL S (S.1 1) = 2 ^ S.1 1 - 2) ↔ sp_ou S (S.1 1 - 1) = 0 := by
      rw [ou_0]
      have hb : ∀ k, (2 ^ S.1 1 - 2).testBit k = decide (1 ≤ k ∧ k < S.1 1) := by
        intro k
        have e2 : 2 ^ S.1 1 - 2 = 2 * (2 ^ (S.1 1 - 1) - 1) := by
          have : 2 ^ S.1 1 = 2 ^ (S.1 1 - 1) * 2 := by
            rw [← Nat.pow_succ]
            congr 1
            omega
          omega
        rw [e2]
        cases k with
        | zero =>
          rw [Nat.testBit_zero, decide_eq_false (show ¬ (1 ≤ 0 ∧ 0 < S.1 1) by omega)]
          exact decide_eq_false (by omega)
        | succ k =>
          rw [Nat.testBit_succ, Nat.mul_div_cancel_left _ (by decide), Nat.testBit_two_pow_sub_one]
          exact decide_eq_decide.mpr ⟨fun h => ⟨by omega, by omega⟩, fun h => by omega⟩
      constructor
      · intro w f h1 hf
        have h3 := dnL_bit (S := S) (S.1 1) f
        rw [w, hb f, decide_eq_decide] at h3
        exact (h3.mp ⟨h1, by omega⟩).2
      · intro w
        apply Nat.eq_of_testBit_eq
        intro k
        rw [dnL_bit, hb]
        refine decide_eq_decide.mpr ⟨fun h => ⟨?_, h.1⟩, fun h => ⟨h.2, w k h.1 (by omega)⟩⟩
        rcases Nat.eq_zero_or_pos k with rfl | hk
        · exact absurd q h.2
        · exact hk
    by_cases q2 : sp_ou S (S.1 1 - 1) = 0
    · rw [if_pos (e.mpr q2), if_pos q2]
    · rw [if_neg (fun w => q2 (e.mp w)), if_neg q2]
  · rw [if_pos (b0.mpr q), if_neg q]
/-- the farthest CELL, from the near end -/
theorem cost_mono (so : Nat → Nat) : ∀ d i, pc_cost so i ≤ pc_cost so (i + d)
  | 0, i => Nat.le_refl _
  | d + 1, i => by
    have h := cost_mono so d i
    show _ ≤ pc_cost so (i + d) + (so (i + d + 1) + 1)
    omega
theorem far_eq {so : Nat → Nat} {pts : Nat} : ∀ n i, i ≤ n → (i = 0 ∨ pc_cost so i ≤ pts) → (i = n ∨ pts < pc_cost so (i + 1)) → pc_far so pts n = i
  | 0, i, h1, _, _ => by
    show 0 = i
    omega
  | n + 1, i, h1, h2, h3 => by
    show (if pts < pc_cost so n + (so (n + 1) + 1) then pc_far so pts n else n + 1) = i
    by_cases e : i = n + 1
    · subst e
      rw [if_neg]
      rcases h2 with h2 | h2
      · omega
      · have : pc_cost so (n + 1) = pc_cost so n + (so (n + 1) + 1) := rfl
        omega
    · have h4 : pts < pc_cost so (i + 1) := by omega
      have h5 := cost_mono so (n + 1 - (i + 1)) (i + 1)
      rw [show i + 1 + (n + 1 - (i + 1)) = n + 1 by omega] at h5
      have h6 : pc_cost so (n + 1) = pc_cost so n + (so (n + 1) + 1) := rfl
      rw [if_pos (by omega)]
      exact far_eq n i (by omega) h2 (Or.inr h4)
/-- where one is that runs in MOMENT m -/
def sp_cr (S : Sc) (f m : Nat) : Nat := if pc_dn S f = 0 then pc_far (S.2.1 0) (sp_pts S f (S.2.1 4 f) (if f = 0 then m else m - S.1 2)) (S.1 0 - 1) else 0
theorem cr_0 (S : Sc) (m : Nat) : sp_cr S 0 m = sp_run S m := rfl
theorem com_ok {S : Sc} (ho : oSc S) {f cell : Nat} (hc : cell < S.1 0) (h0 : ¬ pc_cost (S.2.1 0) cell = 0) : S.1 2 + pc_mfS (S.2.1 1 f) (pc_pace (S.2.1 1 f) (S.2.1 3 f) (S.2.1 4 f)) (pc_cost (S.2.1 0) cell) = sp_com S 0 f cell := by
  obtain ⟨o1, o2, o3, o4, o5, o6, oso, oki, osr, opa, ohu, oco⟩ := id ho
  have h1 := pc_cost_le oso cell
  unfold sp_com
  rw [if_neg h0, mfS_ok (oki f) (by omega) (by omega)]
  rfl
theorem pts_mono (k p h : Nat) {a b : Nat} (hab : a ≤ b) : pc_pts k p h a ≤ pc_pts k p h b := by
  have h1 : a * pc_pace k p h ≤ b * pc_pace k p h := Nat.mul_le_mul_right _ hab
  have h2 : (a - 6) * pc_pace k p h ≤ (b - 6) * pc_pace k p h := Nat.mul_le_mul_right _ (by omega)
  have h3 : a < 7 → a * pc_pace k p h ≤ 6 * pc_pace k p h := fun q => Nat.mul_le_mul_right _ (by omega)
  unfold pc_pts
  split
  · exact h1
  · split
    · omega
    · split
      · split
        · omega
        · have := h3 (by assumption)
          omega
      · rw [if_neg (by omega)]
        omega
theorem fst_ok {P : Nat → Nat} {cost : Nat} : ∀ (n i : Nat), cost ≤ P (i + n) → cost ≤ P (pc_fst P cost n i) ∧ ∀ t, i ≤ t → t < pc_fst P cost n i → P t < cost
  | 0, i, h => ⟨h, fun t h1 h2 => absurd h2 (by show ¬ t < i; omega)⟩
  | n + 1, i, h => by
    by_cases q : cost ≤ P i
    · rw [show pc_fst P cost (n + 1) i = i from if_pos q]
      exact ⟨q, fun t h1 h2 => by omega⟩
    · rw [show pc_fst P cost (n + 1) i = pc_fst P cost n (i + 1) from if_neg q]
      have ih := fst_ok (P := P) (cost := cost) n (i + 1) (by rw [show i + 1 + n = i + (n + 1) by omega]; exact h)
      refine ⟨ih.1, fun t h1 h2 => ?_⟩
      by_cases e : t = i
      · rw [e]; omega
      · exact ih.2 t (by omega) h2
theorem com_le {S : Sc} (ho : oSc S) {f cell m : Nat} (hc : cell < S.1 0) : sp_com S 0 f cell ≤ m ↔ pc_cost (S.2.1 0) cell = 0 ∨ (S.1 2 ≤ m ∧ pc_cost (S.2.1 0) cell ≤ sp_pur S 0 f (m - S.1 2)) := by
  obtain ⟨o1, o2, o3, o4, o5, o6, oso, oki, osr, opa, ohu, oco⟩ := id ho
  have h1 := pc_cost_le oso cell
  have hP : sp_pur S 0 f = pc_pts (S.2.1 1 f) (S.2.1 3 f) (S.2.1 4 f) := by
    funext t
    rfl
  have h2 := pc_pts_ge (S.2.1 1 f) (S.2.1 3 f) (S.2.1 4 f) 400
  have h3 := fst_ok (P := pc_pts (S.2.1 1 f) (S.2.1 3 f) (S.2.1 4 f)) (cost := pc_cost (S.2.1 0) cell) 400 0 (by rw [Nat.zero_add]; omega)
  unfold sp_com
  rw [hP]
  by_cases q : pc_cost (S.2.1 0) cell = 0
  · rw [if_pos q]
    exact ⟨fun _ => Or.inl q, fun _ => Nat.zero_le _⟩
  · rw [if_neg q]
    generalize pc_fst (pc_pts (S.2.1 1 f) (S.2.1 3 f) (S.2.1 4 f)) (pc_cost (S.2.1 0) cell) 400 0 = T at h3
    constructor
    · intro h
      refine Or.inr ⟨by omega, Nat.le_trans h3.1 (pts_mono _ _ _ (by omega))⟩
    · rintro (h | ⟨h4, h5⟩)
      · exact absurd h q
      · rcases Nat.lt_or_ge (m - S.1 2) T with w | w
        · have := h3.2 (m - S.1 2) (Nat.zero_le _) w
          omega
        · omega
theorem ct_s {S : Sc} (ho : oSc S) {m b i : Nat} (hr : sp_run S m < S.1 0) (h0 : sp_ctL S 0 (pc_cost (S.2.1 0) (sp_run S m)) m b i = 0) {x : Nat} (ex : x = if 1 - pc_dn S (i + 1) = 0 then 0 else (if m < sp_com S 0 (i + 1) (sp_run S m) then 0 else 1)) : x = sp_ctL S 0 (pc_cost (S.2.1 0) (sp_run S m)) m b (i + 1) := by
  have hc := com_le ho (f := i + 1) (cell := sp_run S m) (m := m) hr
  have h1 := pc_dn01 S (i + 1)
  show _ = (if sp_ctL S 0 (pc_cost (S.2.1 0) (sp_run S m)) m b i = 0 then (if pc_dn S (i + 1) = 0 then (if pc_cost (S.2.1 0) (sp_run S m) = 0 then 1 else (if m < S.1 2 then 0 else (if sp_pur S 0 (i + 1) (m - S.1 2) < pc_cost (S.2.1 0) (sp_run S m) then 0 else 1))) else 0) else 1)
  rw [if_pos h0, ex]
  by_cases q : pc_dn S (i + 1) = 0
  · rw [if_neg (by omega), if_pos q]
    by_cases q1 : pc_cost (S.2.1 0) (sp_run S m) = 0
    · rw [if_pos q1, if_neg (by have := hc.mpr (Or.inl q1); omega)]
    · rw [if_neg q1]
      by_cases q2 : m < S.1 2
      · rw [if_pos q2, if_pos]
        rcases Nat.lt_or_ge m (sp_com S 0 (i + 1) (sp_run S m)) with w | w
        · exact w
        · rcases hc.mp w with w | w
          · exact absurd w q1
          · omega
      · rw [if_neg q2]
        by_cases q3 : sp_pur S 0 (i + 1) (m - S.1 2) < pc_cost (S.2.1 0) (sp_run S m)
        · rw [if_pos q3, if_pos]
          rcases Nat.lt_or_ge m (sp_com S 0 (i + 1) (sp_run S m)) with w | w
          · exact w
          · rcases hc.mp w with w | w
            · exact absurd w q1
            · omega
        · rw [if_neg q3, if_neg (by have := hc.mpr (Or.inr ⟨by omega, by omega⟩); omega)]
  · rw [if_pos (by omega), if_neg q]
theorem ctL_st {S : Sc} {tg cost m b i : Nat} (h : ¬ sp_ctL S tg cost m b i = 0) (hb : b ≤ 1) : ∀ d, sp_ctL S tg cost m b (i + d) = sp_ctL S tg cost m b i
  | 0 => rfl
  | d + 1 => by
    have ih := ctL_st (tg := tg) h hb d
    have h1 := sp_ctL01 S tg cost m b hb i
    show (if sp_ctL S tg cost m b (i + d) = 0 then _ else 1) = _
    rw [if_neg (by rw [ih]; exact h)]
    omega
theorem tm_s {S : Sc} {tg m t : Nat} (h : m < t) : sp_tm S tg (t - m) m = if sp_ct S tg (m + 1) = 0 then sp_tm S tg (t - (m + 1)) (m + 1) else m + 1 := by
  rw [show t - m = (t - (m + 1)) + 1 by omega]
  rfl
