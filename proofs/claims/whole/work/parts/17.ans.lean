/-! arguments in their bounds; answers -/
def pc_inI (x lo hi : Int) : Nat := if lo ≤ x ∧ x ≤ hi then 1 else 0
theorem pc_inI_ok (x lo hi : Int) : (pc_inI x lo hi = 1 ∧ lo ≤ x ∧ x ≤ hi) ∨ (pc_inI x lo hi = 0 ∧ (x < lo ∨ hi < x)) := by
  unfold pc_inI
  by_cases h : lo ≤ x ∧ x ≤ hi
  · rw [if_pos h]
    exact Or.inl ⟨rfl, h⟩
  · rw [if_neg h]
    exact Or.inr ⟨rfl, by omega⟩
theorem pc_in_I {a b c : Int64} {x lo hi : Int} (ha : a.toInt = x) (hb : b.toInt = lo) (hc : c.toInt = hi) : pc_in a b c = pc_inI x lo hi := by
  subst ha hb hc
  unfold pc_in pc_inI
  simp only [Int64.lt_iff_toInt_lt]
  by_cases h : a.toInt < b.toInt
  · rw [if_pos h, if_neg (by omega)]
  · rw [if_neg h]
    by_cases h2 : c.toInt < a.toInt
    · rw [if_pos h2, if_neg (by omega)]
    · rw [if_neg h2, if_pos (by omega)]
theorem iv_n {x : Int32} (h : 0 ≤ x.toInt) : ∃ k : Nat, (k : Int) = x.toInt ∧ x = nI k := by
  refine ⟨x.toInt.toNat, by omega, ?_⟩
  rw [← iZ_n, show ((x.toInt.toNat : Nat) : Int) = x.toInt by omega]
  exact (Int32.ofInt_toInt x).symm
theorem in_toI (x : Int32) : x.toInt64.toInt = x.toInt := Int32.toInt_toInt64 x
theorem in_toN {n : Nat} (h : n < 2147483648) : (nI n).toInt64.toInt = (n : Int) := by rw [in_toI, nI_toInt h]
theorem in_toZ {i : Int} (h1 : -2147483648 ≤ i) (h2 : i < 2147483648) : (iZ i).toInt64.toInt = i := by rw [in_toI, iZ_toInt h1 h2]
theorem rw_st {z : RS} {S : Sc} (h : rSc z S) (v : Nat) : rSc (sI z 4 (nI v)) (sN S 2 v) := by
  obtain ⟨h0, h1, h2, h3, h4, h5, h6, h7, h8, h9, h10, h11⟩ := h
  exact ⟨h0, h1, rfl, h3, h4, h5, h6, h7, h8, h9, h10, h11⟩
def an_hurt (S : Sc) (f v : Int32) : Int32 := if (0 ≤ f.toInt ∧ f.toInt < S.1 1) ∧ 0 ≤ v.toInt ∧ v.toInt ≤ 6 then (if S.1 4 = 0 then nI (S.2.1 4 f.toInt.toNat) else iZ (-2)) else iZ (-1)
def nx_hurt (S : Sc) (f v : Int32) : Sc := if (0 ≤ f.toInt ∧ f.toInt < S.1 1) ∧ 0 ≤ v.toInt ∧ v.toInt ≤ 6 then (if S.1 4 = 0 then sR S 4 f.toInt.toNat v.toInt.toNat else S) else S
def an_start (S : Sc) (v : Int32) : Int32 := if 0 ≤ v.toInt ∧ v.toInt ≤ 20 then (if S.1 3 = 0 then nI (S.1 2) else iZ (-2)) else iZ (-1)
def nx_start (S : Sc) (v : Int32) : Sc := if 0 ≤ v.toInt ∧ v.toInt ≤ 20 then (if S.1 3 = 0 then sN S 2 v.toInt.toNat else S) else S
def an_sort (S : Sc) (x : Int32) : Int32 := if 0 ≤ x.toInt ∧ x.toInt < S.1 0 then nI (S.2.1 0 x.toInt.toNat) else iZ (-1)
def an_cost (S : Sc) (x : Int32) : Int32 := if 0 ≤ x.toInt ∧ x.toInt < S.1 0 then nI (pc_cost (S.2.1 0) x.toInt.toNat) else iZ (-1)
def an_points (S : Sc) (f t : Int32) : Int32 := if (0 ≤ f.toInt ∧ f.toInt < S.1 1) ∧ 0 ≤ t.toInt ∧ t.toInt ≤ 400 then nI (sp_pts S f.toInt.toNat (S.2.1 4 f.toInt.toNat) t.toInt.toNat) else iZ (-1)
def an_seed (S : Sc) (v : Int32) : Int32 := if v < 0 then iZ (-1) else S.2.2
def nx_seed (S : Sc) (v : Int32) : Sc := if v < 0 then S else sD S v
def an_turn (S : Sc) : Int32 := if sp_over S = 0 ∧ S.1 4 = 0 then nI (sp_run S (S.1 3)) else iZ (-2)
def nx_turn (S : Sc) : Sc := if sp_over S = 0 ∧ S.1 4 = 0 then sp_turn S 0 (S.1 3) else S
theorem pc_td_ok (S : Sc) : (pc_td S = 0 ∧ S.1 4 = 0) ∨ (pc_td S = 1 ∧ ¬ S.1 4 = 0) := by
  unfold pc_td
  by_cases h : S.1 4 = 0
  · rw [if_pos h]
    exact Or.inl ⟨rfl, h⟩
  · rw [if_neg h]
    exact Or.inr ⟨rfl, h⟩
theorem sd_turn {z : RS} {S : Sc} {tg m : Nat} (h : rSc z (sp_turn S tg m)) : z.2.1 5 1 = nI (sp_run S m) := by
  rw [rs_sd h]
  show pc_sd (sp_run S m + 1) = _
  unfold pc_sd
  rw [if_neg (by omega), Nat.add_sub_cancel]
