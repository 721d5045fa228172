/-! best, late, together, ditched, ahead -/
def sp_mo (S : Sc) (tg : Nat) : Nat := sp_mq S tg 61 - 1
def sp_fs (S : Sc) (tg : Nat) : Nat := sp_ff S tg 61
theorem lkI_e {S : Sc} {tg : Nat} {z z' : RS} (h : lkI S tg z 61 z') : z'.1 22 = nI (sp_mo S tg) ∧ z'.1 23 = nI (sp_fs S tg) := by
  have h1 := mq_1 S tg 60
  have h2 : (1 : Nat) ≤ sp_mq S tg 61 := h1
  refine ⟨?_, ?_⟩
  · rw [h.2.2.2.1, ← iZ_n]
    unfold sp_mo
    exact congrArg iZ (by omega)
  · rcases h.2.2.2.2.1 with q | q
    · exact absurd q (by decide)
    · exact q
theorem sp_mo_le (S : Sc) (tg : Nat) : sp_mo S tg ≤ 1000000 := by
  have h := mq_le S tg 61
  unfold sp_mo
  omega
theorem ff_le (S : Sc) (tg : Nat) : ∀ k, sp_ff S tg k ≤ S.1 3 + k
  | 0 => Nat.zero_le _
  | k + 1 => by
    have h2 := ff_le S tg k
    unfold sp_ff
    split <;> omega
theorem sp_fs_le (S : Sc) (tg : Nat) : sp_fs S tg ≤ S.1 3 + 61 := ff_le S tg 61
def pc_off (S : Sc) : Nat := if sp_over S = 0 then (if pc_td S = 0 then 0 else 1) else 1
theorem pc_off_ok (S : Sc) : (pc_off S = 0 ∧ sp_over S = 0 ∧ S.1 4 = 0) ∨ (pc_off S = 1 ∧ ¬ (sp_over S = 0 ∧ S.1 4 = 0)) := by
  have h := pc_td_ok S
  unfold pc_off
  by_cases q : sp_over S = 0
  · rw [if_pos q]
    rcases h with h | h
    · rw [if_pos h.1]
      exact Or.inl ⟨rfl, q, h.2⟩
    · rw [if_neg (by omega)]
      exact Or.inr ⟨rfl, fun w => h.2 w.2⟩
  · rw [if_neg q]
    exact Or.inr ⟨rfl, fun w => q w.1⟩
def an_best (S : Sc) (w : Int32) : Int32 := if 0 ≤ w.toInt ∧ w.toInt ≤ 1 then (if sp_over S = 0 ∧ S.1 4 = 0 then (if w.toInt = 0 then nI (sp_fs S 0) else nI (sp_mo S 0)) else iZ (-2)) else iZ (-1)
def sp_lt (S : Sc) (tg ch : Nat) : Nat → Nat
  | 0 => 0
  | n + 1 => if sp_byv S tg n < ch then sp_lt S tg ch n else n + 1
theorem sp_lt_le (S : Sc) (tg ch : Nat) : ∀ n, sp_lt S tg ch n ≤ n
  | 0 => Nat.le_refl _
  | n + 1 => by
    have h := sp_lt_le S tg ch n
    unfold sp_lt
    split <;> omega
def pc_lf (S : Sc) (n : Nat) : Int32 := if n = 0 then iZ (-4) else nI (S.1 3 + (n - 1))
theorem lf_s {S : Sc} {tg ch n : Nat} {x : Int32} (ex : x = if sp_byv S tg n < ch then pc_lf S (sp_lt S tg ch n) else nI (S.1 3 + n)) : x = pc_lf S (sp_lt S tg ch (n + 1)) := by
  rw [ex]
  show _ = pc_lf S (if sp_byv S tg n < ch then sp_lt S tg ch n else n + 1)
  split
  · rfl
  · unfold pc_lf
    rw [if_neg (Nat.succ_ne_zero _)]
    rfl
def an_late (S : Sc) (w : Int32) : Int32 := if 0 ≤ w.toInt ∧ w.toInt ≤ 1000000 then (if sp_over S = 0 ∧ S.1 4 = 0 then pc_lf S (sp_lt S 0 w.toInt.toNat 61) else iZ (-2)) else iZ (-1)
def an_tog (S : Sc) (t w : Int32) : Int32 := if (0 ≤ t.toInt ∧ t.toInt ≤ 400) ∧ 0 ≤ w.toInt ∧ w.toInt ≤ 2 then (if sp_over S = 0 ∧ S.1 4 = 0 then (if w.toInt = 0 then nI (sp_c (sp_rch S 1 t.toInt.toNat)) else (if w.toInt = 1 then nI (sp_mo S 1) else nI (if sp_mo S 0 ≤ sp_mo S 1 then 0 else 1))) else iZ (-2)) else iZ (-1)
theorem rw_so {z : RS} {S : Sc} (h : rSc z S) (k : Nat) (v : Nat) : rSc (sA z 2 k (nI v)) (sR S 0 k v) := by
  obtain ⟨h1, h2, h3, h4, h5, h6, h7, h8, h9, h10, h11, h12⟩ := h
  refine ⟨h1, h2, h3, h4, h5, h6, ?_, h8, h9, h10, h11, h12⟩
  intro q hq
  show upd (z.2.1 2) k (nI v) q = nI (va_up (S.2.1 0) k v q)
  by_cases e : q = k
  · rw [e, va_up_self]
    exact if_pos rfl
  · rw [va_up_ne _ _ e]
    exact (if_neg e).trans (h7 q hq)
theorem sR_bk {S : Sc} {j i v a : Nat} (h : S.2.1 j i = v) : sR (sR S j i a) j i v = S := by
  refine Prod.ext rfl (Prod.ext ?_ rfl)
  funext k
  show va_up (va_up S.2.1 j _) j _ k = S.2.1 k
  by_cases q : k = j
  · rw [q, va_up_self]
    funext t
    by_cases e : t = i
    · rw [e, va_up_self, h]
    · rw [va_up_ne _ _ e]
      show va_up S.2.1 j (va_up (S.2.1 j) i a) j t = _
      rw [va_up_self, va_up_ne _ _ e]
  · rw [va_up_ne _ _ q, va_up_ne _ _ q]
theorem oSc_so {S : Sc} (ho : oSc S) {k v : Nat} (hv : v ≤ 2) : oSc (sR S 0 k v) := by
  obtain ⟨h1, h2, h3, h4, h5, h6, h7, h8, h9, h10, h11, h12⟩ := ho
  refine ⟨h1, h2, h3, h4, h5, h6, ?_, h8, h9, h10, h11, h12⟩
  intro q
  show va_up (S.2.1 0) k v q ≤ 2
  by_cases e : q = k
  · rw [e, va_up_self]
    exact hv
  · rw [va_up_ne _ _ e]
    exact h7 q
theorem oSc_hu {S : Sc} (ho : oSc S) {k v : Nat} (hv : v ≤ 6) : oSc (sR S 4 k v) := by
  obtain ⟨h1, h2, h3, h4, h5, h6, h7, h8, h9, h10, h11, h12⟩ := ho
  refine ⟨h1, h2, h3, h4, h5, h6, h7, h8, h9, h10, ?_, h12⟩
  intro q
  show va_up (S.2.1 4) k v q ≤ 6
  by_cases e : q = k
  · rw [e, va_up_self]
    exact hv
  · rw [va_up_ne _ _ e]
    exact h11 q
def sp_dt (S : Sc) : Nat → Nat × Nat
  | 0 => (sp_mo S 0, 0)
  | i + 1 => if S.2.1 0 (i + 1) = 0 then (if sp_mo (sR S 0 (i + 1) 2) 0 ≤ (sp_dt S i).1 then sp_dt S i else (sp_mo (sR S 0 (i + 1) 2) 0, i + 1)) else sp_dt S i
theorem dt_le (S : Sc) : ∀ i, (sp_dt S i).1 ≤ 1000000 ∧ (sp_dt S i).2 ≤ i
  | 0 => ⟨sp_mo_le _ _, Nat.le_refl _⟩
  | i + 1 => by
    have h := dt_le S i
    have h2 := sp_mo_le (sR S 0 (i + 1) 2) 0
    unfold sp_dt
    split
    · split
      · exact ⟨h.1, by omega⟩
      · exact ⟨h2, Nat.le_refl _⟩
    · exact ⟨h.1, by omega⟩
def an_dit (S : Sc) : Int32 := if sp_over S = 0 ∧ S.1 4 = 0 then pc_fd (sp_dt S (S.1 0 - 1)).2 else iZ (-2)
theorem dt_n {S : Sc} {i : Nat} (h : ¬ S.2.1 0 (i + 1) = 0) : sp_dt S (i + 1) = sp_dt S i := if_neg h
theorem dt_y {S : Sc} {i : Nat} (h : S.2.1 0 (i + 1) = 0) {x : Int32} {y : Nat} (ex : x = if sp_mo (sR S 0 (i + 1) 2) 0 ≤ (sp_dt S i).1 then pc_fd (sp_dt S i).2 else nI (i + 1)) (ey : y = if sp_mo (sR S 0 (i + 1) 2) 0 ≤ (sp_dt S i).1 then (sp_dt S i).1 else sp_mo (sR S 0 (i + 1) 2) 0) : x = pc_fd (sp_dt S (i + 1)).2 ∧ y = (sp_dt S (i + 1)).1 := by
  have e : sp_dt S (i + 1) = if sp_mo (sR S 0 (i + 1) 2) 0 ≤ (sp_dt S i).1 then sp_dt S i else (sp_mo (sR S 0 (i + 1) 2) 0, i + 1) := if_pos h
  rw [e, ex, ey]
  split
  · exact ⟨rfl, rfl⟩
  · exact ⟨rfl, rfl⟩
def sp_av (S : Sc) (f : Nat) : Nat := if sp_over (sR S 4 f (S.2.1 4 f + 1)) = 0 then sp_mo (sR S 4 f (S.2.1 4 f + 1)) 0 else 1000000
theorem av_le (S : Sc) (f : Nat) : sp_av S f ≤ 1000000 := by
  unfold sp_av
  split
  · exact sp_mo_le _ _
  · exact Nat.le_refl _
def sp_ad (S : Sc) : Nat → Nat × Nat
  | 0 => (0, 0)
  | i + 1 => if pc_dn S (i + 1) = 0 then (if sp_av S (i + 1) + 1 ≤ (sp_ad S i).1 then sp_ad S i else (sp_av S (i + 1) + 1, i + 1)) else sp_ad S i
theorem ad_le (S : Sc) : ∀ i, (sp_ad S i).1 ≤ 1000001 ∧ (sp_ad S i).2 ≤ i
  | 0 => ⟨Nat.zero_le _, Nat.le_refl _⟩
  | i + 1 => by
    have h := ad_le S i
    have h2 := av_le S (i + 1)
    unfold sp_ad
    split
    · split
      · exact ⟨h.1, by omega⟩
      · exact ⟨Nat.succ_le_succ h2, Nat.le_refl _⟩
    · exact ⟨h.1, by omega⟩
def an_ahead (S : Sc) (w : Int32) : Int32 := if 0 ≤ w.toInt ∧ w.toInt ≤ 1 then (if sp_over S = 0 ∧ S.1 4 = 0 then (if w.toInt = 0 then pc_fd (sp_ad S (S.1 1 - 1)).2 else iZ ((((sp_ad S (S.1 1 - 1)).1 : Nat) : Int) - (1 : Int))) else iZ (-2)) else iZ (-1)
theorem ad_n {S : Sc} {i : Nat} (h : ¬ pc_dn S (i + 1) = 0) : sp_ad S (i + 1) = sp_ad S i := if_neg h
theorem ad_y {S : Sc} {i : Nat} (h : pc_dn S (i + 1) = 0) {x : Int32} {y : Int} (ex : x = if ((sp_av S (i + 1) : Nat) : Int) ≤ (((sp_ad S i).1 : Nat) : Int) - (1 : Int) then pc_fd (sp_ad S i).2 else nI (i + 1)) (ey : y = if ((sp_av S (i + 1) : Nat) : Int) ≤ (((sp_ad S i).1 : Nat) : Int) - (1 : Int) then (((sp_ad S i).1 : Nat) : Int) - (1 : Int) else ((sp_av S (i + 1) : Nat) : Int)) : x = pc_fd (sp_ad S (i + 1)).2 ∧ y = (((sp_ad S (i + 1)).1 : Nat) : Int) - (1 : Int) := by
  have e : sp_ad S (i + 1) = if sp_av S (i + 1) + 1 ≤ (sp_ad S i).1 then sp_ad S i else (sp_av S (i + 1) + 1, i + 1) := if_pos h
  rw [e, ex, ey]
  by_cases q : sp_av S (i + 1) + 1 ≤ (sp_ad S i).1
  · rw [if_pos q, if_pos (by omega), if_pos (by omega)]
    exact ⟨rfl, rfl⟩
  · rw [if_neg q, if_neg (by omega), if_neg (by omega)]
    refine ⟨rfl, ?_⟩
    show _ = (((sp_av S (i + 1) + 1 : Nat)) : Int) - 1
    omega
