/-! the tape in the class's cells -/
abbrev wT1 (G : CG) (a d : Nat → Nat) (z : RS) : va_W := [(a 0, .inr (1, [.ref (a 1), .int (z.1 1), .int (z.1 2), .ref (d 0)])), (a 1, .inl (G.2.1, 100, .inl (z.2.1 0)))]
def cTp (z : RS) (n : Nat) (T : Nat → Nat) : Prop := z.1 1 = nI n ∧ n ≤ 100 ∧ (∀ j, j < n → z.2.1 0 j = nI (T j)) ∧ ∀ j, T j ≤ 126
/-- only the place has changed -/
def tkF (z z9 : RS) : Prop := z9.2 = z.2 ∧ ∀ k, k ≠ 2 → z9.1 k = z.1 k
theorem tkF_rf (z : RS) : tkF z z := ⟨rfl, fun _ _ => rfl⟩
theorem tkF_I (z : RS) (v : Int32) : tkF z (sI z 2 v) := ⟨rfl, fun _ hk => va_up_ne _ _ hk⟩
theorem tkF_tr {z z1 z2 : RS} (h : tkF z z1) (h2 : tkF z1 z2) : tkF z z2 := ⟨h2.1.trans h.1, fun k hk => (h2.2 k hk).trans (h.2 k hk)⟩
theorem cTp_F {z z9 : RS} {n : Nat} {T : Nat → Nat} (h : cTp z n T) (f9 : tkF z z9) : cTp z9 n T := ⟨(f9.2 1 (by decide)).trans h.1, h.2.1, fun j hj => by rw [f9.1]; exact h.2.2.1 j hj, h.2.2.2⟩
theorem cTp_a {z : RS} {n k : Nat} {T : Nat → Nat} (h : cTp z n T) (hn : n < 100) (hk : k ≤ 126) : cTp (sI (sA z 0 n (nI k)) 1 (nI (n + 1))) (n + 1) (va_up T n k) := by
  refine ⟨rfl, by omega, fun j hj => ?_, fun j => ?_⟩
  · show upd (z.2.1 0) n (nI k) j = _
    by_cases e : j = n
    · subst e
      rw [pk_us, va_up_self]
    · rw [pk_un e, va_up_ne _ _ e]
      exact h.2.2.1 j (by omega)
  · unfold va_up
    split
    · exact hk
    · exact h.2.2.2 j
theorem pk_0 {T : Nat → Nat} {n a9 i : Nat} {z zz : RS} (h : n ≤ i) (hi : tk_s T n i = tk_s T n a9) (hq : zz.1 2 = nI i ∧ tkF z zz) : nI 0 = nI (tk_h T n a9) ∧ zz.1 2 = nI (tk_s T n a9) ∧ tkF z zz := by
  have e : tk_s T n i = i := tk_n (by omega)
  rw [e] at hi
  refine ⟨?_, by rw [← hi]; exact hq.1, hq.2⟩
  unfold tk_h
  rw [← hi, if_pos h]
theorem pk_1 {T : Nat → Nat} {n a9 i : Nat} {z zz : RS} (h : ¬ n ≤ i) (h32 : ¬ T i = 32) (hi : tk_s T n i = tk_s T n a9) (hq : zz.1 2 = nI i ∧ tkF z zz) : nI (T i) = nI (tk_h T n a9) ∧ zz.1 2 = nI (tk_s T n a9) ∧ tkF z zz := by
  have e : tk_s T n i = i := tk_n (fun w9 => h32 w9.2)
  rw [e] at hi
  refine ⟨?_, by rw [← hi]; exact hq.1, hq.2⟩
  unfold tk_h
  rw [← hi, if_neg h]
