/-! how likely he wins: the tables -/
/-- ODDS in the fight with f, when they are HURT so, with others there -/
def sp_od (S : Sc) (f his own others : Nat) : Nat := pc_btw ((8 + (pc_force (S.2.1 1 0) (S.2.1 2 0) his : Int)) - (pc_force (S.2.1 1 f) (S.2.1 2 f) own : Int) - ((2 * others : Nat) : Int))
def sp_wl (S : Sc) (ro V9 : Nat → Nat) (k n his own : Nat) : Nat := if 5 ≤ own then (if k + 1 = n then 1000000 else V9 (36 * (k + 1) + 6 * S.2.1 4 (ro (k + 1)) + his)) else V9 (36 * k + 6 * (own + 1) + his)
def sp_il (V9 : Nat → Nat) (k his own : Nat) : Nat := if 5 ≤ his then 0 else V9 (36 * k + 6 * own + his + 1)
def sp_ft (S : Sc) (ro V9 : Nat → Nat) (k n his own others : Nat) : Nat := (sp_od S (ro k) his own others * sp_wl S ro V9 k n his own + (16 - sp_od S (ro k) his own others) * sp_il V9 k his own) / 16
theorem pc_btw_le (x : Int) : 1 ≤ pc_btw x ∧ pc_btw x ≤ 15 := by
  unfold pc_btw
  split
  · split <;> omega
  · omega
theorem ft_le {o w i : Nat} (ho : o ≤ 15) (hw : w ≤ 1000000) (hi : i ≤ 1000000) : o * w ≤ 15000000 ∧ (16 - o) * i ≤ 16000000 ∧ (o * w + (16 - o) * i) / 16 ≤ 1000000 := by
  have h1 : o * w ≤ o * 1000000 := Nat.mul_le_mul_left _ hw
  have h2 : (16 - o) * i ≤ (16 - o) * 1000000 := Nat.mul_le_mul_left _ hi
  omega
theorem sp_ft_le (S : Sc) (ro V9 : Nat → Nat) (hV : ∀ j, V9 j ≤ 1000000) (k n his own others : Nat) : sp_ft S ro V9 k n his own others ≤ 1000000 := by
  unfold sp_ft
  refine (ft_le (pc_btw_le _).2 ?_ ?_).2.2
  · unfold sp_wl
    split
    · split
      · omega
      · exact hV _
    · exact hV _
  · unfold sp_il
    split
    · omega
    · exact hV _
/-- how many behind the k-th have come by en -/
def sp_beh (S : Sc) (ro : Nat → Nat) (k en : Nat) : Nat → Nat
  | 0 => 0
  | i + 1 => sp_beh S ro k en i + (if en < S.2.1 5 (ro (k + 1 + i)) then 0 else 1)
theorem sp_beh_le (S : Sc) (ro : Nat → Nat) (k en : Nat) : ∀ i, sp_beh S ro k en i ≤ i
  | 0 => Nat.le_refl 0
  | i + 1 => by
    have h := sp_beh_le S ro k en i
    show sp_beh S ro k en i + (if _ then _ else _) ≤ _
    split <;> omega
/-- one MOMENT sooner -/
def sp_ah (S : Sc) (ro : Nat → Nat) (n en : Nat) (V9 : Nat → Nat) (q : Nat) : Nat := if q < 36 * n then (if S.2.1 5 (ro (q / 36)) ≤ en then sp_ft S ro V9 (q / 36) n (q % 6) (q / 6 % 6) (sp_beh S ro (q / 36) en (n - 1 - q / 36)) else V9 q) else V9 q
theorem sp_ah_le (S : Sc) (ro V9 : Nat → Nat) (n en : Nat) (hV : ∀ j, V9 j ≤ 1000000) (q : Nat) : sp_ah S ro n en V9 q ≤ 1000000 := by
  unfold sp_ah
  split
  · split
    · exact sp_ft_le S ro V9 hV _ _ _ _ _
    · exact hV _
  · exact hV _
/-- the row of those that come, and a table of chances -/
def rRo (z : RS) (n : Nat) (ro : Nat → Nat) : Prop := n ≤ 4 ∧ ∀ j, j < n → z.2.1 18 j = nI (ro j) ∧ 1 ≤ ro j ∧ ro j < 5
def rLt (z : RS) (V9 : Nat → Nat) : Prop := (∀ j, j < 180 → z.2.1 19 j = nI (V9 j)) ∧ ∀ j, V9 j ≤ 1000000
theorem ah_s {S : Sc} {ro V9 : Nat → Nat} {n en k ow hi : Nat} {zz : RS} (hA : ∀ q, q < 36 * k + 6 * ow + hi → zz.2.1 20 q = nI (sp_ah S ro n en V9 q)) (hk : k < n) (how : ow < 6) (hhi : hi < 6) : ∀ q, q < 36 * k + 6 * ow + (hi + 1) → (sA zz 20 (36 * k + 6 * ow + hi) (nI (if S.2.1 5 (ro k) ≤ en then sp_ft S ro V9 k n hi ow (sp_beh S ro k en (n - 1 - k)) else V9 (36 * k + 6 * ow + hi)))).2.1 20 q = nI (sp_ah S ro n en V9 q) := by
  intro q hq
  show upd (zz.2.1 20) (36 * k + 6 * ow + hi) _ q = _
  by_cases e : q = 36 * k + 6 * ow + hi
  · rw [e, pk_us]
    unfold sp_ah
    rw [if_pos (show 36 * k + 6 * ow + hi < 36 * n by omega), show (36 * k + 6 * ow + hi) / 36 = k by omega, show (36 * k + 6 * ow + hi) % 6 = hi by omega, show (36 * k + 6 * ow + hi) / 6 % 6 = ow by omega]
  · rw [pk_un e]
    exact hA q (by omega)
theorem ah_c {f : Nat → Nat} {V9 : Nat → Nat} {j : Nat} {zy : RS} (hC : ∀ q, q < 180 → zy.2.1 19 q = nI (if q < j then f q else V9 q)) {v : Int32} (hv : v = nI (f j)) : ∀ q, q < 180 → (sA zy 19 j v).2.1 19 q = nI (if q < j + 1 then f q else V9 q) := by
  intro q hq
  show upd (zy.2.1 19) j v q = _
  by_cases e : q = j
  · rw [e, pk_us, if_pos (by omega), hv]
  · rw [pk_un e, hC q hq]
    by_cases e2 : q < j
    · rw [if_pos e2, if_pos (by omega)]
    · rw [if_neg e2, if_neg (by omega)]
