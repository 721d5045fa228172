theorem fb_holes : ∀ (m n : Nat) (f : Nat → Nat), (∀ i, i < n → f i < m) → (∀ i j, i < j → j < n → f i ≠ f j) → n ≤ m := by
  intro m
  induction m with
  | zero =>
    intro n f h1 _
    rcases Nat.eq_zero_or_pos n with h | h
    · omega
    · exact absurd (h1 0 h) (Nat.not_lt_zero _)
  | succ m ih =>
    intro n f h1 h2
    by_cases hx : ∃ i, i < n ∧ f i = m
    · obtain ⟨a, ha, hfa⟩ := hx
      have hg := ih (n - 1) (fun i => if i < a then f i else f (i + 1)) (by
        intro i hi
        by_cases q : i < a
        · simp only [if_pos q]
          have b1 := h1 i (by omega)
          have b2 := h2 i a q ha
          omega
        · simp only [if_neg q]
          have b1 := h1 (i + 1) (by omega)
          have b2 := h2 a (i + 1) (by omega) (by omega)
          omega) (by
        intro i j hij hj
        by_cases q : i < a
        · by_cases r : j < a
          · simp only [if_pos q, if_pos r]
            exact h2 i j hij (by omega)
          · simp only [if_pos q, if_neg r]
            exact h2 i (j + 1) (by omega) (by omega)
        · have r : ¬ j < a := by omega
          simp only [if_neg q, if_neg r]
          exact h2 (i + 1) (j + 1) (by omega) (by omega))
      omega
    · have hg := ih n f (fun i hi => by
        have b1 := h1 i hi
        have b2 : f i ≠ m := fun e => hx ⟨i, hi, e⟩
        omega) h2
      omega
/-! those that come, one behind the other: by when they come, then by their numbers -/
def sp_is (S : Sc) (pa la f : Nat) : Nat := if pc_dn S f = 0 then (if pa ≤ S.2.1 5 f then 1 else (if S.2.1 5 f + 1 = pa then (if f < la then 0 else 1) else 0)) else 0
def sp_sl (S : Sc) (pa la : Nat) : Nat → Nat
  | 0 => 0
  | i + 1 => if sp_is S pa la (i + 1) = 0 then sp_sl S pa la i else (if sp_sl S pa la i = 0 then i + 1 else (if S.2.1 5 (sp_sl S pa la i) ≤ S.2.1 5 (i + 1) then sp_sl S pa la i else i + 1))
theorem sp_sl_le (S : Sc) (pa la : Nat) : ∀ i, sp_sl S pa la i ≤ i
  | 0 => Nat.le_refl 0
  | i + 1 => by
    have h := sp_sl_le S pa la i
    exact it_le (by omega) (it_le (Nat.le_refl _) (it_le (by omega) (Nat.le_refl _)))
theorem sp_sl_is (S : Sc) (pa la : Nat) : ∀ i, ¬ sp_sl S pa la i = 0 → ¬ sp_is S pa la (sp_sl S pa la i) = 0
  | 0, h => absurd rfl h
  | i + 1, h => by
    have ih := sp_sl_is S pa la i
    have e : sp_sl S pa la (i + 1) = if sp_is S pa la (i + 1) = 0 then sp_sl S pa la i else (if sp_sl S pa la i = 0 then i + 1 else (if S.2.1 5 (sp_sl S pa la i) ≤ S.2.1 5 (i + 1) then sp_sl S pa la i else i + 1)) := rfl
    by_cases q : sp_is S pa la (i + 1) = 0
    · rw [if_pos q] at e
      rw [e] at h ⊢
      exact ih h
    · rw [if_neg q] at e
      by_cases q2 : sp_sl S pa la i = 0
      · rw [if_pos q2] at e
        rw [e]
        exact q
      · rw [if_neg q2] at e
        by_cases q3 : S.2.1 5 (sp_sl S pa la i) ≤ S.2.1 5 (i + 1)
        · rw [if_pos q3] at e
          rw [e]
          exact ih q2
        · rw [if_neg q3] at e
          rw [e]
          exact q
theorem sp_is_ok {S : Sc} {pa la f : Nat} (h : ¬ sp_is S pa la f = 0) : pc_dn S f = 0 ∧ (pa ≤ S.2.1 5 f ∨ (S.2.1 5 f + 1 = pa ∧ la ≤ f)) := by
  unfold sp_is at h
  by_cases q : pc_dn S f = 0
  · rw [if_pos q] at h
    refine ⟨q, ?_⟩
    by_cases q2 : pa ≤ S.2.1 5 f
    · exact Or.inl q2
    · rw [if_neg q2] at h
      by_cases q3 : S.2.1 5 f + 1 = pa
      · rw [if_pos q3] at h
        by_cases q4 : f < la
        · rw [if_pos q4] at h
          exact absurd rfl h
        · exact Or.inr ⟨q3, by omega⟩
      · rw [if_neg q3] at h
        exact absurd rfl h
  · rw [if_neg q] at h
    exact absurd rfl h
/-- behind k of them: past and last, and one more -/
def sp_sq (S : Sc) : Nat → Nat × Nat
  | 0 => (0, 0)
  | k + 1 => (S.2.1 5 (sp_sl S (sp_sq S k).1 (sp_sq S k).2 (S.1 1 - 1)) + 1, sp_sl S (sp_sq S k).1 (sp_sq S k).2 (S.1 1 - 1) + 1)
def sp_ro (S : Sc) (k : Nat) : Nat := sp_sl S (sp_sq S k).1 (sp_sq S k).2 (S.1 1 - 1)
theorem ro_up {S : Sc} {k : Nat} (h : ¬ sp_ro S (k + 1) = 0) : S.2.1 5 (sp_ro S k) < S.2.1 5 (sp_ro S (k + 1)) ∨ (S.2.1 5 (sp_ro S k) = S.2.1 5 (sp_ro S (k + 1)) ∧ sp_ro S k < sp_ro S (k + 1)) := by
  have h1 := (sp_is_ok (sp_sl_is S _ _ _ h)).2
  have h2 : S.2.1 5 (sp_ro S k) + 1 ≤ S.2.1 5 (sp_ro S (k + 1)) ∨ (S.2.1 5 (sp_ro S (k + 1)) + 1 = S.2.1 5 (sp_ro S k) + 1 ∧ sp_ro S k + 1 ≤ sp_ro S (k + 1)) := h1
  omega
theorem ro_lt {S : Sc} {k : Nat} (h : ∀ j, j ≤ k → ¬ sp_ro S j = 0) : ∀ d i, i + d + 1 ≤ k → S.2.1 5 (sp_ro S i) < S.2.1 5 (sp_ro S (i + d + 1)) ∨ (S.2.1 5 (sp_ro S i) = S.2.1 5 (sp_ro S (i + d + 1)) ∧ sp_ro S i < sp_ro S (i + d + 1))
  | 0, i, hi => ro_up (h (i + 1) hi)
  | d + 1, i, hi => by
    have h1 := ro_lt h d i (by omega)
    have h2 := ro_up (k := i + d + 1) (h (i + d + 1 + 1) (by omega))
    show S.2.1 5 (sp_ro S i) < S.2.1 5 (sp_ro S (i + d + 1 + 1)) ∨ (S.2.1 5 (sp_ro S i) = S.2.1 5 (sp_ro S (i + d + 1 + 1)) ∧ sp_ro S i < sp_ro S (i + d + 1 + 1))
    omega
theorem ro_le (S : Sc) (k : Nat) : sp_ro S k ≤ S.1 1 - 1 := sp_sl_le S _ _ _
theorem ro_k {S : Sc} {k : Nat} (h : ∀ j, j ≤ k → ¬ sp_ro S j = 0) : k + 1 ≤ S.1 1 - 1 := by
  refine fb_holes (S.1 1 - 1) (k + 1) (fun j => sp_ro S j - 1) (fun i hi => ?_) (fun i j hij hj => ?_)
  · have h1 := ro_le S i
    have h2 := h i (by omega)
    show sp_ro S i - 1 < _
    omega
  · have h1 := ro_lt h (j - i - 1) i (by omega)
    rw [show i + (j - i - 1) + 1 = j by omega] at h1
    have h2 := h i (by omega)
    have h3 := h j (by omega)
    show sp_ro S i - 1 ≠ sp_ro S j - 1
    intro q
    have q2 : sp_ro S i = sp_ro S j := by omega
    rw [q2] at h1
    omega
/-- how many come -/
def sp_rn (S : Sc) : Nat := if sp_ro S 0 = 0 then 0 else (if sp_ro S 1 = 0 then 1 else (if sp_ro S 2 = 0 then 2 else (if sp_ro S 3 = 0 then 3 else 4)))
theorem rn_eq {S : Sc} {n : Nat} (hn : n ≤ 4) (h : ∀ j, j < n → ¬ sp_ro S j = 0) (h2 : sp_ro S n = 0 ∨ n = 4) : n = sp_rn S := by
  unfold sp_rn
  rcases (show n = 0 ∨ n = 1 ∨ n = 2 ∨ n = 3 ∨ n = 4 by omega) with rfl | rfl | rfl | rfl | rfl
  · rw [if_pos (by omega)]
  · rw [if_neg (h 0 (by omega)), if_pos (by omega)]
  · rw [if_neg (h 0 (by omega)), if_neg (h 1 (by omega)), if_pos (by omega)]
  · rw [if_neg (h 0 (by omega)), if_neg (h 1 (by omega)), if_neg (h 2 (by omega)), if_pos (by omega)]
  · rw [if_neg (h 0 (by omega)), if_neg (h 1 (by omega)), if_neg (h 2 (by omega)), if_neg (h 3 (by omega))]
theorem sl_s {S : Sc} {pa la i : Nat} (hi : i ≤ 5) {x : Nat} {y : Int32} (ex : x = if pc_dn S (i + 1) = 0 then (if ((pa : Nat) : Int) - (1 : Int) < ((S.2.1 5 (i + 1) : Nat) : Int) then 1 else (if ((S.2.1 5 (i + 1) : Nat) : Int) = ((pa : Nat) : Int) - (1 : Int) then (if ((i + 1 : Nat) : Int) ≤ ((la : Nat) : Int) - (1 : Int) then 0 else 1) else 0)) else 0) (ey : y = if x = 0 then pc_fd (sp_sl S pa la i) else (if pc_fd (sp_sl S pa la i) = iZ (-4) then nI (i + 1) else (if S.2.1 5 (sp_sl S pa la i) ≤ S.2.1 5 (i + 1) then pc_fd (sp_sl S pa la i) else nI (i + 1)))) : y = pc_fd (sp_sl S pa la (i + 1)) := by
  have h := sp_sl_le S pa la i
  have hx : x = sp_is S pa la (i + 1) := by
    rw [ex]
    unfold sp_is
    by_cases q : pc_dn S (i + 1) = 0
    · rw [if_pos q, if_pos q]
      by_cases q2 : pa ≤ S.2.1 5 (i + 1)
      · rw [if_pos q2, if_pos (by omega)]
      · rw [if_neg q2, if_neg (by omega)]
        by_cases q3 : S.2.1 5 (i + 1) + 1 = pa
        · rw [if_pos q3, if_pos (by omega)]
          by_cases q4 : i + 1 < la
          · rw [if_pos q4, if_pos (by omega)]
          · rw [if_neg q4, if_neg (by omega)]
        · rw [if_neg q3, if_neg (by omega)]
    · rw [if_neg q, if_neg q]
  simp only [pc_fd_4 (show sp_sl S pa la i ≤ 1000 by omega)] at ey
  rw [ey, hx]
  show _ = pc_fd (if sp_is S pa la (i + 1) = 0 then sp_sl S pa la i else (if sp_sl S pa la i = 0 then i + 1 else (if S.2.1 5 (sp_sl S pa la i) ≤ S.2.1 5 (i + 1) then sp_sl S pa la i else i + 1)))
  have hd : nI (i + 1) = pc_fd (i + 1) := by
    unfold pc_fd
    rw [if_neg (by omega)]
  rw [hd]
  by_cases q : sp_is S pa la (i + 1) = 0
  · rw [if_pos q, if_pos q]
  · rw [if_neg q, if_neg q]
    by_cases q2 : sp_sl S pa la i = 0
    · rw [if_pos q2, if_pos q2]
    · rw [if_neg q2, if_neg q2]
      by_cases q3 : S.2.1 5 (sp_sl S pa la i) ≤ S.2.1 5 (i + 1)
      · rw [if_pos q3, if_pos q3]
      · rw [if_neg q3, if_neg q3]
theorem zn1 (a : Nat) : nI a = iZ (((a + 1 : Nat) : Int) - (1 : Int)) := by
  rw [← iZ_n]
  congr 1
  omega
theorem sq_le1 (S : Sc) (h : ∀ f, S.2.1 5 f ≤ 99999) : ∀ k, (sp_sq S k).1 ≤ 100000
  | 0 => Nat.zero_le _
  | k + 1 => by
    have h1 := h (sp_sl S (sp_sq S k).1 (sp_sq S k).2 (S.1 1 - 1))
    show S.2.1 5 (sp_sl S (sp_sq S k).1 (sp_sq S k).2 (S.1 1 - 1)) + 1 ≤ 100000
    omega
theorem sq_le2 (S : Sc) (h : S.1 1 ≤ 5) : ∀ k, (sp_sq S k).2 ≤ 100
  | 0 => Nat.zero_le _
  | k + 1 => by
    have h1 := sp_sl_le S (sp_sq S k).1 (sp_sq S k).2 (S.1 1 - 1)
    show sp_sl S (sp_sq S k).1 (sp_sq S k).2 (S.1 1 - 1) + 1 ≤ 100
    omega
theorem ro_put {S : Sc} {zz : RS} {k : Nat} (h : ∀ j, j < k → zz.2.1 18 j = nI (sp_ro S j) ∧ ¬ sp_ro S j = 0) (hk : ¬ sp_ro S k = 0) : ∀ j, j < k + 1 → (sA zz 18 k (nI (sp_ro S k))).2.1 18 j = nI (sp_ro S j) ∧ ¬ sp_ro S j = 0 := by
  intro j hj
  by_cases e : j = k
  · rw [e]
    exact ⟨pk_us, hk⟩
  · have h1 := h j (by omega)
    refine ⟨?_, h1.2⟩
    show upd (zz.2.1 18) k (nI (sp_ro S k)) j = _
    rw [pk_un e]
    exact h1.1
