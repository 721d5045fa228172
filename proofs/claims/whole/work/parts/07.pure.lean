/-! the game's numbers -/
/-- COST of a CELL -/
def pc_cost (so : Nat → Nat) : Nat → Nat
  | 0 => 0
  | n + 1 => pc_cost so n + (so (n + 1) + 1)
/-- the farthest CELL up to n whose COST is no more than the POINTS -/
def pc_far (so : Nat → Nat) (pts : Nat) : Nat → Nat
  | 0 => 0
  | n + 1 => if pts < pc_cost so n + (so (n + 1) + 1) then pc_far so pts n else n + 1
theorem pc_cost_le {so : Nat → Nat} (h : ∀ c, so c ≤ 2) : ∀ n, pc_cost so n ≤ 3 * n
  | 0 => Nat.le_refl 0
  | n + 1 => by
    have h1 := pc_cost_le h n
    have h2 := h (n + 1)
    unfold pc_cost
    omega
theorem pc_far_le (so : Nat → Nat) (pts : Nat) : ∀ n, pc_far so pts n ≤ n
  | 0 => Nat.le_refl 0
  | n + 1 => by
    have h1 := pc_far_le so pts n
    unfold pc_far
    split <;> omega
def pc_in (v low high : Int64) : Nat := if v < low then 0 else if high < v then 0 else 1
/-- FORCE -/
def pc_force (kind str hurt : Nat) : Nat := (if str - hurt / 2 ≤ 1 then 1 else str - hurt / 2) + (if kind = 1 then 2 else 0)
/-- what one makes in a MOMENT -/
def pc_pace (kind pace hurt : Nat) : Nat := if pace - (if kind = 1 then 1 else 0) - hurt / 2 ≤ 1 then 1 else pace - (if kind = 1 then 1 else 0) - hurt / 2
/-- POINTS in t MOMENTS -/
def pc_pts (kind pace hurt t : Nat) : Nat :=
  if kind < 2 then t * pc_pace kind pace hurt else if kind = 2 then t * pc_pace kind pace hurt / 2 else if t < 7 then t * pc_pace kind pace hurt / 2 else 6 * pc_pace kind pace hurt / 2 + (t - 6) * pc_pace kind pace hurt
/-- ODDS between 1 and 15 -/
def pc_btw (x : Int) : Nat := if 1 ≤ x then (if x ≤ 15 then x.toNat else 15) else 1
theorem pc_btw_ok (x : Int) : iZ (if 1 ≤ x then (if x ≤ 15 then x else (15 : Int)) else (1 : Int)) = nI (pc_btw x) := by
  rw [← iZ_n]
  unfold pc_btw
  congr 1
  split
  · split <;> omega
  · rfl
theorem pc_in01 (a b c : Int64) : nI (pc_in a b c) = 0 ∨ nI (pc_in a b c) = 1 := by
  unfold pc_in
  split
  · exact Or.inl rfl
  · split
    · exact Or.inl rfl
    · exact Or.inr rfl
theorem pc_in_f (f : Int32) (nf : Nat) (h : nf ≤ 5) : pc_in f.toInt64 0 (iZ ((nf : Int) - (1 : Int))).toInt64 = if f.toInt < 0 then 0 else if (nf : Int) ≤ f.toInt then 0 else 1 := by
  unfold pc_in
  have e0 : (0 : Int64) = (0 : Int32).toInt64 := rfl
  have h1 : f.toInt64 < (0 : Int64) ↔ f.toInt < 0 := by
    rw [e0, Int64.lt_iff_toInt_lt, Int32.toInt_toInt64, Int32.toInt_toInt64]
    rfl
  have h2 : (iZ ((nf : Int) - (1 : Int))).toInt64 < f.toInt64 ↔ (nf : Int) ≤ f.toInt := by
    rw [Int64.lt_iff_toInt_lt, Int32.toInt_toInt64, Int32.toInt_toInt64, iZ_toInt (by omega) (by omega)]
    omega
  simp only [h1, h2]
