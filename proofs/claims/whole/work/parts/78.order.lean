/-! the row is put in order in its cells -/
theorem po_c {S : Sc} {cf : Nat → Nat} {z zy : RS} (hcf : ∀ f, 1 ≤ f → f < S.1 1 → z.2.1 2 f = nI (cf f)) (f9 : rFr [0] [1] z zy) (k : Nat) (h1 : 1 ≤ k) (h2 : k < S.1 1) : zy.2.1 2 k = nI (cf k) := (congrFun (f9.2.1 2 (by decide)) k).trans (hcf k h1 h2)
theorem dec_n {y : Nat} (h : 1 ≤ y) : nI y + -1 = nI (y - 1) := by
  have e := dec_z y
  rw [show Int32.ofInt (-1) = -1 from by decide] at e
  rw [e, ← iZ_n]
  exact congrArg iZ (by omega)
theorem po_s {z zy : RS} {ro : Nat → Nat} {na y : Nat} (h0 : 1 ≤ y) (hyn : y ≤ na) (hy : (∀ j, j < y → zy.2.1 1 j = nI (ro j)) ∧ (∀ j, y < j → j < na + 1 → zy.2.1 1 j = nI (ro (j - 1))) ∧ zy.1 0 = nI na ∧ rFr [0] [1] z zy) : (∀ j, j < y - 1 → (sA zy 1 y (nI (ro (y - 1)))).2.1 1 j = nI (ro j)) ∧ (∀ j, y - 1 < j → j < na + 1 → (sA zy 1 y (nI (ro (y - 1)))).2.1 1 j = nI (ro (j - 1))) ∧ (sA zy 1 y (nI (ro (y - 1)))).1 0 = nI na ∧ rFr [0] [1] z (sA zy 1 y (nI (ro (y - 1)))) := by
  refine ⟨fun j hj => ?_, fun j k1 k2 => ?_, hy.2.2.1, rFr_tr hy.2.2.2 (rFr_A _ (by decide))⟩
  · exact (pk_un (f := zy.2.1 1) (by omega)).trans (hy.1 j (by omega))
  · by_cases e9 : j = y
    · rw [e9]
      exact pk_us (f := zy.2.1 1)
    · exact (pk_un (f := zy.2.1 1) e9).trans (hy.2.1 j (by omega) k2)
theorem po_e {z zy : RS} {ro : Nat → Nat} {na y i : Nat} (hyn : y ≤ na) (hy : (∀ j, j < y → zy.2.1 1 j = nI (ro j)) ∧ (∀ j, y < j → j < na + 1 → zy.2.1 1 j = nI (ro (j - 1))) ∧ zy.1 0 = nI na ∧ rFr [0] [1] z zy) : (sI (sA zy 1 y (nI (i + 1))) 0 (nI (na + 1))).1 0 = nI (na + 1) ∧ (∀ j, j < na + 1 → (sI (sA zy 1 y (nI (i + 1))) 0 (nI (na + 1))).2.1 1 j = nI (insO ro y (i + 1) j)) ∧ rFr [0] [1] z (sI (sA zy 1 y (nI (i + 1))) 0 (nI (na + 1))) := by
  refine ⟨rfl, fun j hj => ?_, rFr_tr (rFr_tr hy.2.2.2 (rFr_A _ (by decide))) (rFr_I _ (by decide))⟩
  show upd (zy.2.1 1) y (nI (i + 1)) j = _
  unfold insO
  by_cases e9 : j = y
  · rw [e9, pk_us, if_neg (by omega), if_pos rfl]
  · rw [pk_un e9]
    by_cases g1 : j < y
    · rw [if_pos g1]
      exact hy.1 j g1
    · rw [if_neg g1, if_neg e9]
      exact hy.2.1 j (by omega) hj
