/-! what KIND, STRENGTH, PACE, HURT come to, as the class reckons -/
def pc_psS (k s t : Nat) : Nat := if k = 2 then t * s / 2 else (if k = 3 then min t 6 * s / 2 + (t - 6) * s else t * s)
def pc_shr (w s : Nat) : Nat := (w + s - 1) / s
def pc_mfS (k s cost : Nat) : Nat := if k = 2 then pc_shr (2 * cost) s else (if k = 3 then (if 6 * s / 2 < cost then 6 + pc_shr (cost - 6 * s / 2) s else pc_shr (2 * cost) s) else pc_shr cost s)
theorem psS_ok {k p h t : Nat} (hk : k ≤ 3) : pc_psS k (pc_pace k p h) t = pc_pts k p h t := by
  unfold pc_psS pc_pts
  rcases (show k = 0 ∨ k = 1 ∨ k = 2 ∨ k = 3 by omega) with rfl | rfl | rfl | rfl
  · rfl
  · rfl
  · rfl
  · rw [if_neg (by decide), if_pos rfl, if_neg (by decide), if_neg (by decide)]
    by_cases q : t < 7
    · rw [if_pos q, show min t 6 = t by omega, show t - 6 = 0 by omega]
      omega
    · rw [if_neg q, show min t 6 = 6 by omega]
theorem fst_eq {P : Nat → Nat} {cost : Nat} : ∀ (n i T : Nat), i ≤ T → T ≤ i + n → (∀ t, i ≤ t → t < T → P t < cost) → cost ≤ P T → pc_fst P cost n i = T
  | 0, i, T, h1, h2, _, _ => by
    show i = T
    omega
  | n + 1, i, T, h1, h2, h3, h4 => by
    by_cases e : i = T
    · subst e
      exact if_pos h4
    · have h5 := h3 i (Nat.le_refl _) (by omega)
      show (if cost ≤ P i then i else pc_fst P cost n (i + 1)) = T
      rw [if_neg (by omega)]
      exact fst_eq n (i + 1) T (by omega) (by omega) (fun t a b => h3 t (by omega) b) h4
theorem shr_ok {w s : Nat} (hs : 1 ≤ s) : w ≤ pc_shr w s * s ∧ ∀ t, t < pc_shr w s → t * s < w := by
  unfold pc_shr
  have h1 := Nat.div_add_mod (w + s - 1) s
  have h2 := Nat.mod_lt (w + s - 1) (show 0 < s by omega)
  rw [Nat.mul_comm] at h1
  refine ⟨by omega, fun t ht => ?_⟩
  have h3 : (t + 1) * s ≤ (w + s - 1) / s * s := Nat.mul_le_mul_right s ht
  rw [Nat.add_mul] at h3
  omega
theorem shr_le {w s : Nat} (hs : 1 ≤ s) : pc_shr w s ≤ w := by
  unfold pc_shr
  rcases Nat.eq_zero_or_pos w with rfl | hw
  · rw [Nat.div_eq_of_lt (by omega)]
    exact Nat.le_refl _
  · have h : w + s - 1 ≤ w * s := by
      obtain ⟨w', rfl⟩ : ∃ q, w = q + 1 := ⟨w - 1, by omega⟩
      obtain ⟨s', rfl⟩ : ∃ q, s = q + 1 := ⟨s - 1, by omega⟩
      rw [Nat.add_mul, Nat.mul_add]
      omega
    exact Nat.div_le_of_le_mul (by rw [Nat.mul_comm]; exact h)
theorem mfS_ok {k p h cost : Nat} (hk : k ≤ 3) (hc : 1 ≤ cost) (hc2 : cost ≤ 190) : pc_mfS k (pc_pace k p h) cost = pc_fst (pc_pts k p h) cost 400 0 := by
  have hs := pc_pace_ge k p h
  have hP : ∀ t, pc_pts k p h t = pc_psS k (pc_pace k p h) t := fun t => (psS_ok hk).symm
  generalize pc_pace k p h = s at *
  symm
  have c1 := shr_ok (w := cost) hs
  have c2 := shr_ok (w := 2 * cost) hs
  have c3 := shr_ok (w := cost - 6 * s / 2) hs
  have l1 := shr_le (w := cost) hs
  have l2 := shr_le (w := 2 * cost) hs
  have l3 := shr_le (w := cost - 6 * s / 2) hs
  unfold pc_mfS
  rcases (show k = 0 ∨ k = 1 ∨ k = 2 ∨ k = 3 by omega) with rfl | rfl | rfl | rfl
  · refine fst_eq 400 0 _ (Nat.zero_le _) (by simp only [if_neg (show ¬ (0 : Nat) = 2 by decide), if_neg (show ¬ (0 : Nat) = 3 by decide)]; omega) (fun t _ ht => ?_) ?_
    · rw [hP]
      exact c1.2 t ht
    · rw [hP]
      exact c1.1
  · refine fst_eq 400 0 _ (Nat.zero_le _) (by simp only [if_neg (show ¬ (1 : Nat) = 2 by decide), if_neg (show ¬ (1 : Nat) = 3 by decide)]; omega) (fun t _ ht => ?_) ?_
    · rw [hP]
      exact c1.2 t ht
    · rw [hP]
      exact c1.1
  · rw [if_pos rfl]
    refine fst_eq 400 0 _ (Nat.zero_le _) (by omega) (fun t _ ht => ?_) ?_
    · rw [hP]
      have := c2.2 t ht
      show t * s / 2 < cost
      omega
    · rw [hP]
      have := c2.1
      show cost ≤ pc_shr (2 * cost) s * s / 2
      omega
  · rw [if_neg (by decide), if_pos rfl]
    have hQ : ∀ t, pc_pts 3 p h t = min t 6 * s / 2 + (t - 6) * s := fun t => hP t
    by_cases q : 6 * s / 2 < cost
    · rw [if_pos q]
      refine fst_eq 400 0 _ (Nat.zero_le _) (by omega) (fun t _ ht => ?_) ?_
      · rw [hQ]
        by_cases q2 : t ≤ 6
        · have h9 : min t 6 * s ≤ 6 * s := Nat.mul_le_mul_right s (by omega)
          rw [show t - 6 = 0 by omega]
          omega
        · have := c3.2 (t - 6) (by omega)
          rw [show min t 6 = 6 by omega]
          omega
      · rw [hQ, show min (6 + pc_shr (cost - 6 * s / 2) s) 6 = 6 by omega, show 6 + pc_shr (cost - 6 * s / 2) s - 6 = pc_shr (cost - 6 * s / 2) s by omega]
        have := c3.1
        omega
    · rw [if_neg q]
      have h6 : pc_shr (2 * cost) s ≤ 6 := by
        rcases Nat.lt_or_ge 6 (pc_shr (2 * cost) s) with w | w
        · have := c2.2 6 w
          omega
        · exact w
      refine fst_eq 400 0 _ (Nat.zero_le _) (by omega) (fun t _ ht => ?_) ?_
      · have := c2.2 t ht
        rw [hQ, show min t 6 = t by omega, show t - 6 = 0 by omega]
        omega
      · have := c2.1
        rw [hQ, show min (pc_shr (2 * cost) s) 6 = pc_shr (2 * cost) s by omega, show pc_shr (2 * cost) s - 6 = 0 by omega]
        omega
