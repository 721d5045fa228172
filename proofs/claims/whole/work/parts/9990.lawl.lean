/-! what is remembered -/
def lE (nf : Nat) (Q S : Sc) : Prop := Q.1 3 ≤ S.1 3 ∧ (¬ Q.1 4 = 0 → ¬ S.1 4 = 0 ∧ ∀ f, 1 ≤ f → f < nf → S.2.1 5 f = Q.2.1 5 f)
theorem lE_tr {nf : Nat} {Q S V : Sc} (h : lE nf Q S) (h2 : lE nf S V) : lE nf Q V := by
  refine ⟨Nat.le_trans h.1 h2.1, fun ht => ?_⟩
  obtain ⟨h3, h4⟩ := h.2 ht
  obtain ⟨h5, h6⟩ := h2.2 h3
  exact ⟨h5, fun f f1 f2 => (h6 f f1 f2).trans (h4 f f1 f2)⟩
theorem lE_rf (nf : Nat) (S : Sc) : lE nf S S := ⟨Nat.le_refl _, fun h => ⟨h, fun _ _ _ => rfl⟩⟩
def lP (S : Sc) (u : Nat) (P : Nat → Nat → Int32) : Prop := ∃ Q : Nat → Sc, (∀ j, j < u → rNw (P j) (Q j) ∧ vS (sc_at S (Q j)) ∧ lE (S.1 1) (Q j) S) ∧ ∀ i j, i < j → j < u → lE (S.1 1) (Q i) (Q j)
theorem lP_0 (S : Sc) (P : Nat → Nat → Int32) : lP S 0 P := ⟨fun _ => S, fun j hj => absurd hj (Nat.not_lt_zero _), fun i j _ hj => absurd hj (Nat.not_lt_zero _)⟩
theorem lP_to {S V : Sc} {u : Nat} {P : Nat → Nat → Int32} (h : lP S u P) (hn : V.1 1 = S.1 1) (ha : ∀ Q, sc_at V Q = sc_at S Q) (hE : lE (S.1 1) S V) : lP V u P := by
  obtain ⟨Q, h1, h2⟩ := h
  refine ⟨Q, fun j hj => ?_, fun i j hi hj => ?_⟩
  · obtain ⟨g1, g2, g3⟩ := h1 j hj
    rw [ha, hn]
    exact ⟨g1, g2, lE_tr g3 hE⟩
  · rw [hn]
    exact h2 i j hi hj
theorem lE_hurt (S : Sc) (f v : Int32) : (nx_hurt S f v).1 1 = S.1 1 ∧ lE (S.1 1) S (nx_hurt S f v) := by
  unfold nx_hurt
  split
  · split
    · rename_i q2
      exact ⟨rfl, Nat.le_refl _, fun h => absurd q2 h⟩
    · exact ⟨rfl, lE_rf _ _⟩
  · exact ⟨rfl, lE_rf _ _⟩
theorem lE_seed (S : Sc) (v : Int32) : (nx_seed S v).1 1 = S.1 1 ∧ lE (S.1 1) S (nx_seed S v) := by
  unfold nx_seed
  split
  · exact ⟨rfl, lE_rf _ _⟩
  · exact ⟨rfl, lE_rf _ _⟩
theorem lE_flds (S : Sc) (t n : Int32) : (nx_flds S t n).1 1 = S.1 1 ∧ lE (S.1 1) S (nx_flds S t n) := by
  unfold nx_flds
  split
  · exact ⟨rfl, lE_rf _ _⟩
  · exact ⟨rfl, lE_rf _ _⟩
theorem lE_turn (S : Sc) : (nx_turn S).1 1 = S.1 1 ∧ lE (S.1 1) S (nx_turn S) := by
  unfold nx_turn
  split
  · rename_i q
    exact ⟨rfl, Nat.le_refl _, fun h => absurd q.2 h⟩
  · exact ⟨rfl, lE_rf _ _⟩
theorem lE_mom (S : Sc) : (nx_mom S).1 1 = S.1 1 ∧ lE (S.1 1) S (nx_mom S) := by
  unfold nx_mom
  split
  · split
    · rename_i q
      split
      · exact ⟨rfl, Nat.le_succ _, fun h => absurd q h⟩
      · exact ⟨rfl, Nat.le_succ _, fun h => absurd q h⟩
    · unfold sp_fgS
      split
      · exact ⟨rfl, Nat.le_succ _, fun h => ⟨h, fun _ _ _ => rfl⟩⟩
      · exact ⟨rfl, Nat.le_succ _, fun h => ⟨h, fun _ _ _ => rfl⟩⟩
  · exact ⟨rfl, lE_rf _ _⟩
theorem lP_hurt {S : Sc} {u : Nat} {P : Nat → Nat → Int32} (h : lP S u P) (f v : Int32) : lP (nx_hurt S f v) u P := lP_to h (lE_hurt S f v).1 (fun Q => at_hurt S Q f v) (lE_hurt S f v).2
theorem lP_seed {S : Sc} {u : Nat} {P : Nat → Nat → Int32} (h : lP S u P) (v : Int32) : lP (nx_seed S v) u P := lP_to h (lE_seed S v).1 (fun Q => at_seed S Q v) (lE_seed S v).2
theorem lP_flds {S : Sc} {u : Nat} {P : Nat → Nat → Int32} (h : lP S u P) (t n : Int32) : lP (nx_flds S t n) u P := lP_to h (lE_flds S t n).1 (fun Q => at_flds S Q t n) (lE_flds S t n).2
theorem lP_turn {S : Sc} {u : Nat} {P : Nat → Nat → Int32} (h : lP S u P) : lP (nx_turn S) u P := lP_to h (lE_turn S).1 (fun Q => at_trnx S Q) (lE_turn S).2
theorem lP_start {S : Sc} {u : Nat} {P : Nat → Nat → Int32} (h : lP S u P) (v : Int32) : lP (nx_start S v) u P := by
  by_cases q : S.1 3 = 0
  · have e1 : (nx_start S v).1 1 = S.1 1 ∧ (nx_start S v).1 3 = S.1 3 ∧ (nx_start S v).1 4 = S.1 4 ∧ (nx_start S v).2 = S.2 := by
      unfold nx_start
      split
      · exact ⟨rfl, rfl, rfl, rfl⟩
      · exact ⟨rfl, rfl, rfl, rfl⟩
    obtain ⟨Q, h1, h2⟩ := h
    refine ⟨Q, fun j hj => ?_, fun i j hi hj => ?_⟩
    · obtain ⟨g1, g2, g3⟩ := h1 j hj
      have e0 : (Q j).1 3 = 0 := by
        have g4 := g3.1
        omega
      refine ⟨g1, vS_at_start g2 e0 v, ?_⟩
      unfold lE
      rw [e1.1, e1.2.1, e1.2.2.1, e1.2.2.2]
      exact g3
    · rw [e1.1]
      exact h2 i j hi hj
  · have e1 : nx_start S v = S := by
      unfold nx_start
      split
      · rfl
      · rfl
    rw [e1]
    exact h
/-- back by one -/
theorem lP_undo {S : Sc} {u : Nat} {P : Nat → Nat → Int32} (h : lP S u P) (hu : ¬ u = 0) : ∃ Q, rNw (P (u - 1)) Q ∧ vS (sc_at S Q) ∧ lE (S.1 1) Q S ∧ lP (sc_at S Q) (u - 1) P := by
  obtain ⟨Q, h1, h2⟩ := h
  obtain ⟨g1, g2, g3⟩ := h1 (u - 1) (by omega)
  refine ⟨Q (u - 1), g1, g2, g3, Q, fun j hj => ?_, fun i j hi hj => h2 i j hi (by omega)⟩
  obtain ⟨k1, k2, k3⟩ := h1 j (by omega)
  rw [at_at]
  exact ⟨k1, k2, h2 j (u - 1) hj (by omega)⟩
theorem lP_mom {S : Sc} {u : Nat} {P : Nat → Nat → Int32} {rr : Nat → Int32} (hv : vS S) (h : lP S u P) (hu : u ≤ 8) (hr : rNw rr S) : lP (nx_mom S) (pa_n u) (pa_put u P rr) := by
  obtain ⟨Q, h1, h2⟩ := h
  have hE := lE_mom S
  unfold pa_n pa_put
  by_cases e8 : u = 8
  · rw [if_pos e8]
    simp only [if_pos e8]
    refine ⟨fun j => if j = 7 then S else Q (j + 1), fun j hj => ?_, fun i j hi hj => ?_⟩
    · by_cases e : j = 7
      · simp only [if_pos e]
        rw [at_mom, at_id, hE.1]
        exact ⟨hr, hv, hE.2⟩
      · simp only [if_neg e]
        obtain ⟨g1, g2, g3⟩ := h1 (j + 1) (by omega)
        rw [at_mom, hE.1]
        exact ⟨g1, g2, lE_tr g3 hE.2⟩
    · simp only [if_neg (show ¬ i = 7 by omega)]
      rw [hE.1]
      by_cases e : j = 7
      · simp only [if_pos e]
        exact (h1 (i + 1) (by omega)).2.2
      · simp only [if_neg e]
        exact h2 (i + 1) (j + 1) (by omega) (by omega)
  · rw [if_neg e8]
    simp only [if_neg e8]
    refine ⟨fun j => if j = u then S else Q j, fun j hj => ?_, fun i j hi hj => ?_⟩
    · by_cases e : j = u
      · simp only [if_pos e]
        rw [at_mom, at_id, hE.1]
        exact ⟨hr, hv, hE.2⟩
      · simp only [if_neg e]
        obtain ⟨g1, g2, g3⟩ := h1 j (by omega)
        rw [at_mom, hE.1]
        exact ⟨g1, g2, lE_tr g3 hE.2⟩
    · simp only [if_neg (show ¬ i = u by omega)]
      rw [hE.1]
      by_cases e : j = u
      · simp only [if_pos e]
        exact (h1 i (by omega)).2.2
      · simp only [if_neg e]
        exact h2 i j hi (by omega)
