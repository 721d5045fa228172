/-! what sheets tell -/
theorem lc_lt {x y : Int64} {a b : Int} (hx : x.toInt = a) (hy : y.toInt = b) : lg_cmp x y < 0 ↔ a < b := by
  rw [lg_cmp_lt, Int64.lt_iff_toInt_lt, hx, hy]
theorem lc_gt {x y : Int64} {a b : Int} (hx : x.toInt = a) (hy : y.toInt = b) : 0 < lg_cmp x y ↔ b < a := by
  rw [lg_cmp_gt, Int64.lt_iff_toInt_lt, hx, hy]
theorem al_le (S : Sc) (R9 : Nat → Int64) : ∀ n, sp_al S R9 n ≤ 1
  | 0 => Nat.le_refl _
  | n + 1 => by
    show (if sp_al S R9 n = 0 then 0 else pw_okb S (R9 (2 * n)) (R9 (2 * n + 1))) ≤ 1
    split
    · omega
    · unfold pw_okb
      split <;> omega
theorem al_bad {S : Sc} {R9 : Nat → Int64} {i n : Nat} (h : ¬ sp_al S R9 i = 0) (hi : i < n) (q : ¬ ((0 ≤ (R9 (2 * i)).toInt ∧ (R9 (2 * i)).toInt ≤ 400) ∧ 0 ≤ (R9 (2 * i + 1)).toInt ∧ (R9 (2 * i + 1)).toInt < S.1 0)) : sp_al S R9 n = 0 := by
  have e : sp_al S R9 (i + 1) = 0 := by
    rw [show sp_al S R9 (i + 1) = pw_okb S (R9 (2 * i)) (R9 (2 * i + 1)) from if_neg h]
    unfold pw_okb
    exact if_neg q
  have := al_0 S R9 e (n - (i + 1))
  rw [show i + 1 + (n - (i + 1)) = n by omega] at this
  exact this
theorem al_good {S : Sc} {R9 : Nat → Int64} {i : Nat} (h : ¬ sp_al S R9 i = 0) (q : (0 ≤ (R9 (2 * i)).toInt ∧ (R9 (2 * i)).toInt ≤ 400) ∧ 0 ≤ (R9 (2 * i + 1)).toInt ∧ (R9 (2 * i + 1)).toInt < S.1 0) : ¬ sp_al S R9 (i + 1) = 0 := by
  rw [show sp_al S R9 (i + 1) = pw_okb S (R9 (2 * i)) (R9 (2 * i + 1)) from if_neg h]
  unfold pw_okb
  rw [if_pos q]
  decide
theorem sd_y {S : Sc} {R9 : Nat → Int64} {f h k : Nat} (h0 : ¬ sp_sd S R9 f h k = 0) (h1 : pc_far (S.2.1 0) (sp_pts S f h (R9 (2 * k)).toInt.toNat) (S.1 0 - 1) = (R9 (2 * k + 1)).toInt.toNat) : ¬ sp_sd S R9 f h (k + 1) = 0 := by
  show ¬ (if sp_sd S R9 f h k = 0 then 0 else (if pc_far (S.2.1 0) (sp_pts S f h (R9 (2 * k)).toInt.toNat) (S.1 0 - 1) = (R9 (2 * k + 1)).toInt.toNat then 1 else 0)) = 0
  rw [if_neg h0, if_pos h1]
  decide
theorem sd_n {S : Sc} {R9 : Nat → Int64} {f h k n : Nat} (hk : k < n) (h1 : ¬ pc_far (S.2.1 0) (sp_pts S f h (R9 (2 * k)).toInt.toNat) (S.1 0 - 1) = (R9 (2 * k + 1)).toInt.toNat) : sp_sd S R9 f h n = 0 := by
  have e : sp_sd S R9 f h (k + 1) = 0 := by
    show (if sp_sd S R9 f h k = 0 then 0 else (if pc_far (S.2.1 0) (sp_pts S f h (R9 (2 * k)).toInt.toNat) (S.1 0 - 1) = (R9 (2 * k + 1)).toInt.toNat then 1 else 0)) = 0
    rw [if_neg h1]
    exact ite_self _
  have st : ∀ d, sp_sd S R9 f h (k + 1 + d) = 0 := by
    intro d
    induction d with
    | zero => exact e
    | succ d ih => exact if_pos ih
  have := st (n - (k + 1))
  rw [show k + 1 + (n - (k + 1)) = n by omega] at this
  exact this
theorem st_lt (S : Sc) (R9 : Nat → Int64) (f n : Nat) : ∀ h, sp_st S R9 f n h < 2 ^ h
  | 0 => Nat.one_pos
  | h + 1 => by
    have ih := st_lt S R9 f n h
    have h2 : 2 ^ h < 2 ^ (h + 1) := Nat.pow_lt_pow_right (by decide) (by omega)
    show sp_st S R9 f n h ||| (if sp_sd S R9 f h n = 0 then 0 else 2 ^ h) < _
    refine Nat.or_lt_two_pow (by omega) ?_
    split <;> omega
theorem ou_m (S : Sc) (i : Nat) : ∀ d, sp_ou S i ≤ sp_ou S (i + d)
  | 0 => Nat.le_refl _
  | d + 1 => Nat.le_trans (ou_m S i d) (Nat.le_add_right _ _)
theorem ou_mn {S : Sc} {i j : Nat} (h : i ≤ j) : sp_ou S i ≤ sp_ou S j := by
  have := ou_m S i (j - i)
  rw [show i + (j - i) = j by omega] at this
  exact this
theorem fr_yy {S : Sc} {R9 : Nat → Int64} {ce k : Nat} (hd : pc_dn S (k + 1) = 0) (h0 : ¬ sp_fr S R9 ce k = 0) (h1 : (nI (sp_com S 0 (k + 1) ce)).toInt64 = R9 (sp_ou S k)) : ¬ sp_fr S R9 ce (k + 1) = 0 := by
  show ¬ (if pc_dn S (k + 1) = 0 then (if sp_fr S R9 ce k = 0 then 0 else (if (nI (sp_com S 0 (k + 1) ce)).toInt64 = R9 (sp_ou S k) then 1 else 0)) else sp_fr S R9 ce k) = 0
  rw [if_pos hd, if_neg h0, if_pos h1]
  decide
theorem fr_d {S : Sc} {R9 : Nat → Int64} {ce k : Nat} (hd : ¬ pc_dn S (k + 1) = 0) : sp_fr S R9 ce (k + 1) = sp_fr S R9 ce k := if_neg hd
theorem fr_n {S : Sc} {R9 : Nat → Int64} {ce k n : Nat} (hk : k < n) (hd : pc_dn S (k + 1) = 0) (h1 : ¬ (nI (sp_com S 0 (k + 1) ce)).toInt64 = R9 (sp_ou S k)) : sp_fr S R9 ce n = 0 := by
  have e : sp_fr S R9 ce (k + 1) = 0 := by
    show (if pc_dn S (k + 1) = 0 then (if sp_fr S R9 ce k = 0 then 0 else (if (nI (sp_com S 0 (k + 1) ce)).toInt64 = R9 (sp_ou S k) then 1 else 0)) else sp_fr S R9 ce k) = 0
    rw [if_pos hd, if_neg h1]
    exact ite_self _
  have st : ∀ d, sp_fr S R9 ce (k + 1 + d) = 0 := by
    intro d
    induction d with
    | zero => exact e
    | succ d ih =>
      show (if pc_dn S (k + 1 + d + 1) = 0 then (if sp_fr S R9 ce (k + 1 + d) = 0 then 0 else _) else sp_fr S R9 ce (k + 1 + d)) = 0
      rw [if_pos ih, ih]
      exact ite_self _
  have := st (n - (k + 1))
  rw [show k + 1 + (n - (k + 1)) = n by omega] at this
  exact this
/-- the last T in which he can have TURNED -/
def sp_lf (S : Sc) : Int := if S.1 1 = 0 then -1 else ((sp_tm S 0 60 0 : Nat) : Int)
theorem lf_b (S : Sc) : -1 ≤ sp_lf S ∧ sp_lf S ≤ 60 := by
  have h := sp_tm_le S 0 60 0
  unfold sp_lf
  split <;> omega
theorem tm_no {S : Sc} : ∀ n m, ∀ i, m + i < sp_tm S 0 n m → 1 ≤ i → sp_ct S 0 (m + i) = 0
  | 0, m, i, h, h1 => by
    have h : m + i < m := h
    omega
  | n + 1, m, i, h, h1 => by
    have e : sp_tm S 0 (n + 1) m = if sp_ct S 0 (m + 1) = 0 then sp_tm S 0 n (m + 1) else m + 1 := rfl
    rw [e] at h
    by_cases g1 : sp_ct S 0 (m + 1) = 0
    · rw [if_pos g1] at h
      by_cases e1 : i = 1
      · rw [e1]; exact g1
      · have := tm_no (S := S) n (m + 1) (i - 1) (by omega) (by omega)
        rw [show m + 1 + (i - 1) = m + i by omega] at this
        exact this
    · rw [if_neg g1] at h
      omega
theorem tm_end {S : Sc} : ∀ n m, sp_tm S 0 n m = m + n ∨ (¬ sp_ct S 0 (sp_tm S 0 n m) = 0 ∧ m < sp_tm S 0 n m)
  | 0, m => Or.inl rfl
  | n + 1, m => by
    have e : sp_tm S 0 (n + 1) m = if sp_ct S 0 (m + 1) = 0 then sp_tm S 0 n (m + 1) else m + 1 := rfl
    rw [e]
    by_cases g1 : sp_ct S 0 (m + 1) = 0
    · rw [if_pos g1]
      rcases tm_end (S := S) n (m + 1) with h | h
      · exact Or.inl (by omega)
      · exact Or.inr ⟨h.1, by omega⟩
    · rw [if_neg g1]
      exact Or.inr ⟨g1, by omega⟩
theorem fa_go {S : Sc} {R9 : Nat → Int64} (h1 : ¬ S.1 1 = 0) : ∀ t, t ≤ sp_tm S 0 60 0 → (sp_fa S R9 t).2.2 = 0
  | 0, _ => by
    show (if S.1 1 = 0 then 1 else 0) = 0
    rw [if_neg h1]
  | t + 1, h => by
    have ih := fa_go (R9 := R9) h1 t (by omega)
    have e : (sp_fa S R9 (t + 1)).2.2 = if t = 0 then 0 else sp_ct S 0 t := by
      show (if (sp_fa S R9 t).2.2 = 0 then _ else sp_fa S R9 t).2.2 = _
      rw [if_pos ih]
    rw [e]
    by_cases g1 : t = 0
    · rw [if_pos g1]
    · rw [if_neg g1]
      have := tm_no 60 0 t (by omega) (by omega) (S := S)
      rw [Nat.zero_add] at this
      exact this
theorem fa_ee {S : Sc} (R9 : Nat → Int64) (h1 : ¬ S.1 1 = 0) : sp_fa S R9 61 = sp_fa S R9 (sp_tm S 0 60 0 + 1) := by
  have hb := sp_tm_le S 0 60 0
  rcases tm_end (S := S) 60 0 with h | h
  · rw [h]
  · have ih := fa_go (R9 := R9) h1 (sp_tm S 0 60 0) (Nat.le_refl _)
    have e : (sp_fa S R9 (sp_tm S 0 60 0 + 1)).2.2 = if sp_tm S 0 60 0 = 0 then 0 else sp_ct S 0 (sp_tm S 0 60 0) := by
      show (if (sp_fa S R9 (sp_tm S 0 60 0)).2.2 = 0 then _ else sp_fa S R9 (sp_tm S 0 60 0)).2.2 = _
      rw [if_pos ih]
    rw [if_neg (by omega)] at e
    have := fa_st S R9 (sp_tm S 0 60 0 + 1) (by rw [e]; exact h.1) (61 - (sp_tm S 0 60 0 + 1))
    rw [show sp_tm S 0 60 0 + 1 + (61 - (sp_tm S 0 60 0 + 1)) = 61 by omega] at this
    exact this
theorem fa_z {S : Sc} (R9 : Nat → Int64) (h1 : S.1 1 = 0) : sp_fa S R9 61 = (0, 0, 1) := by
  have h0 : sp_fa S R9 0 = (0, 0, 1) := by
    show (0, 0, if S.1 1 = 0 then 1 else 0) = _
    rw [if_pos h1]
  have := fa_st S R9 0 (by rw [h0]; decide) 61
  rw [Nat.zero_add, h0] at this
  exact this
theorem fa_ss {S : Sc} {R9 : Nat → Int64} {t : Nat} (h : (sp_fa S R9 t).2.2 = 0) : sp_fa S R9 (t + 1) = ((sp_fa S R9 t).1 + (if sp_fr S R9 (sp_run S t) (S.1 1 - 1) = 0 then 0 else 1), (if sp_fr S R9 (sp_run S t) (S.1 1 - 1) = 0 then (sp_fa S R9 t).2.1 else (if (sp_fa S R9 t).1 = 0 then t + 1 else (sp_fa S R9 t).2.1)), (if t = 0 then 0 else sp_ct S 0 t)) := if_pos h
theorem fa_keep {S : Sc} {R9 : Nat → Int64} {t : Nat} (h : ¬ (sp_fa S R9 t).1 = 0) : ∀ d, ¬ (sp_fa S R9 (t + d)).1 = 0 ∧ (sp_fa S R9 (t + d)).2.1 = (sp_fa S R9 t).2.1
  | 0 => ⟨h, rfl⟩
  | d + 1 => by
    have ih := fa_keep h d
    by_cases g1 : (sp_fa S R9 (t + d)).2.2 = 0
    · show ¬ (sp_fa S R9 (t + d + 1)).1 = 0 ∧ (sp_fa S R9 (t + d + 1)).2.1 = _
      rw [fa_ss g1]
      refine ⟨?_, ?_⟩
      · show ¬ (sp_fa S R9 (t + d)).1 + _ = 0
        omega
      · show (if _ then _ else (if (sp_fa S R9 (t + d)).1 = 0 then _ else _)) = _
        rw [if_neg ih.1, ih.2]
        exact ite_self _
    · have e : sp_fa S R9 (t + d + 1) = sp_fa S R9 (t + d) := if_neg g1
      show ¬ (sp_fa S R9 (t + d + 1)).1 = 0 ∧ (sp_fa S R9 (t + d + 1)).2.1 = _
      rw [e]
      exact ih
theorem fa_x0 {S : Sc} {R9 : Nat → Int64} {i : Nat} (h : (i : Int) = sp_lf S + 1) : sp_fa S R9 61 = sp_fa S R9 i ∨ (S.1 1 = 0 ∧ i = 0) := by
  unfold sp_lf at h
  by_cases g1 : S.1 1 = 0
  · rw [if_pos g1] at h
    exact Or.inr ⟨g1, by omega⟩
  · rw [if_neg g1] at h
    rw [show i = sp_tm S 0 60 0 + 1 by omega]
    exact Or.inl (fa_ee R9 g1)
theorem fa_x1 {S : Sc} {R9 : Nat → Int64} {i : Nat} (h : (i : Int) = sp_lf S + 1) : (sp_fa S R9 i).1 = (sp_fa S R9 61).1 := by
  rcases fa_x0 (R9 := R9) h with g1 | ⟨g1, g2⟩
  · rw [g1]
  · rw [fa_z R9 g1, g2]
    rfl
theorem fa_x3 {S : Sc} {R9 : Nat → Int64} {i : Nat} (h : (i : Int) = sp_lf S + 1) : (sp_fa S R9 i).2.1 = (sp_fa S R9 61).2.1 := by
  rcases fa_x0 (R9 := R9) h with g1 | ⟨g1, g2⟩
  · rw [g1]
  · rw [fa_z R9 g1, g2]
    rfl
theorem fa_x2 {S : Sc} {R9 : Nat → Int64} {i : Nat} (hs : sp_fa S R9 (i + 1) = ((sp_fa S R9 i).1 + (if sp_fr S R9 (sp_run S i) (S.1 1 - 1) = 0 then 0 else 1), (if sp_fr S R9 (sp_run S i) (S.1 1 - 1) = 0 then (sp_fa S R9 i).2.1 else (if (sp_fa S R9 i).1 = 0 then i + 1 else (sp_fa S R9 i).2.1)), (if i = 0 then 0 else sp_ct S 0 i))) (hf : ¬ sp_fr S R9 (sp_run S i) (S.1 1 - 1) = 0) (h0 : (sp_fa S R9 i).1 = 0) (hi : i ≤ 60) : pc_ff (sp_fa S R9 61).2.1 = nI i := by
  rw [if_neg hf, if_neg hf, if_pos h0] at hs
  have h1 : (sp_fa S R9 (i + 1)).1 = (sp_fa S R9 i).1 + 1 := by rw [hs]
  have h2 : (sp_fa S R9 (i + 1)).2.1 = i + 1 := by rw [hs]
  have hk := (fa_keep (S := S) (R9 := R9) (t := i + 1) (by omega) (60 - i)).2
  rw [show i + 1 + (60 - i) = 61 by omega] at hk
  rw [hk, h2]
  unfold pc_ff
  rw [if_neg (by omega), Nat.add_sub_cancel]
