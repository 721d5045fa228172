/-! the scene: numbers (0 CELLS, 1 FIGHTERS, 2 START, 3 THE MOMENT, 4 nothing or where he stands, and one more), rows (0 SORTS, 1 KINDS, 2 STRENGTHS, 3 PACES, 4 HURTS, 5 when they COME), THE DRAW -/
abbrev Sc : Type := (Nat → Nat) × (Nat → Nat → Nat) × Int32
def pc_sd (n : Nat) : Int32 := if n = 0 then -4 else nI (n - 1)
/-- the reference's cells hold the scene -/
def rSc (z : RS) (S : Sc) : Prop := z.1 0 = nI (S.1 0) ∧ z.1 1 = nI (S.1 1) ∧ z.1 4 = nI (S.1 2) ∧ z.2.1 5 0 = nI (S.1 3) ∧ z.2.1 5 1 = pc_sd (S.1 4) ∧ z.2.1 5 2 = S.2.2 ∧ (∀ c, c < 40 → z.2.1 2 c = nI (S.2.1 0 c)) ∧ (∀ f, f < 5 → z.2.1 3 (3 * f) = nI (S.2.1 1 f)) ∧ (∀ f, f < 5 → z.2.1 3 (3 * f + 1) = nI (S.2.1 2 f)) ∧ (∀ f, f < 5 → z.2.1 3 (3 * f + 2) = nI (S.2.1 3 f)) ∧ (∀ f, f < 5 → z.2.1 5 (3 + f) = nI (S.2.1 4 f)) ∧ (∀ f, f < 5 → z.2.1 5 (8 + f) = nI (S.2.1 5 f))
/-- its numbers are in their bounds -/
def oSc (S : Sc) : Prop := 1 ≤ S.1 0 ∧ S.1 0 ≤ 40 ∧ S.1 1 ≤ 5 ∧ S.1 2 ≤ 20 ∧ S.1 3 ≤ 100000 ∧ S.1 4 ≤ S.1 0 ∧ (∀ c, S.2.1 0 c ≤ 2) ∧ (∀ f, S.2.1 1 f ≤ 3) ∧ (∀ f, S.2.1 2 f ≤ 9) ∧ (∀ f, S.2.1 3 f ≤ 6) ∧ (∀ f, S.2.1 4 f ≤ 6) ∧ (∀ f, S.2.1 5 f ≤ 99999)
/-- DOWN: 1, else 0 -/
def pc_dn (S : Sc) (f : Nat) : Nat := if S.2.1 4 f = 6 then 1 else 0
def sp_pts (S : Sc) (f hurt t : Nat) : Nat := pc_pts (S.2.1 1 f) (S.2.1 3 f) hurt t
/-- POINTS, and the least of all that are not DOWN -/
def sp_purL (S : Sc) (t a : Nat) : Nat → Nat
  | 0 => a
  | n + 1 => if pc_dn S (n + 1) = 0 then (if sp_purL S t a n ≤ sp_pts S (n + 1) (S.2.1 4 (n + 1)) t then sp_purL S t a n else sp_pts S (n + 1) (S.2.1 4 (n + 1)) t) else sp_purL S t a n
def sp_pur (S : Sc) (tg f t : Nat) : Nat := if tg = 0 then sp_pts S f (S.2.1 4 f) t else sp_purL S t (sp_pts S f (S.2.1 4 f) t) (S.1 1 - 1)
/-- where the RUNNER is -/
def sp_run (S : Sc) (m : Nat) : Nat := if pc_dn S 0 = 0 then pc_far (S.2.1 0) (sp_pts S 0 (S.2.1 4 0) m) (S.1 0 - 1) else 0
def pc_fst (P : Nat → Nat) (cost : Nat) : Nat → Nat → Nat
  | 0, t => t
  | n + 1, t => if cost ≤ P t then t else pc_fst P cost n (t + 1)
/-- when one COMES -/
def sp_com (S : Sc) (tg f cell : Nat) : Nat := if pc_cost (S.2.1 0) cell = 0 then 0 else S.1 2 + pc_fst (sp_pur S tg f) (pc_cost (S.2.1 0) cell) 400 0
def sp_ctL (S : Sc) (tg cost m b : Nat) : Nat → Nat
  | 0 => b
  | i + 1 => if sp_ctL S tg cost m b i = 0 then (if pc_dn S (i + 1) = 0 then (if cost = 0 then 1 else (if m < S.1 2 then 0 else (if sp_pur S tg (i + 1) (m - S.1 2) < cost then 0 else 1))) else 0) else 1
/-- CAUGHT: 1, else 0 -/
def sp_ct (S : Sc) (tg m : Nat) : Nat := sp_ctL S tg (pc_cost (S.2.1 0) (sp_run S m)) m (if sp_run S m = S.1 0 - 1 then 1 else 0) (S.1 1 - 1)
theorem pc_pace_le (k p h : Nat) (hp : p ≤ 6) : pc_pace k p h ≤ 6 := by
  unfold pc_pace
  split <;> split <;> omega
theorem pc_pace_ge (k p h : Nat) : 1 ≤ pc_pace k p h := by
  unfold pc_pace
  split <;> split <;> omega
theorem pc_dn01 (S : Sc) (f : Nat) : pc_dn S f ≤ 1 := by
  unfold pc_dn
  split <;> omega
theorem pc_pts_le (k p h t : Nat) (hp : p ≤ 6) : pc_pts k p h t ≤ 6 * t + 18 := by
  have h1 : t * pc_pace k p h ≤ t * 6 := Nat.mul_le_mul_left t (pc_pace_le k p h hp)
  have h2 : (t - 6) * pc_pace k p h ≤ (t - 6) * 6 := Nat.mul_le_mul_left _ (pc_pace_le k p h hp)
  have h3 := pc_pace_le k p h hp
  unfold pc_pts
  split
  · omega
  · split
    · omega
    · split <;> omega
theorem pc_pts_ge (k p h t : Nat) : t / 2 ≤ pc_pts k p h t := by
  have h1 : t * 1 ≤ t * pc_pace k p h := Nat.mul_le_mul_left t (pc_pace_ge k p h)
  have h2 : (t - 6) * 1 ≤ (t - 6) * pc_pace k p h := Nat.mul_le_mul_left _ (pc_pace_ge k p h)
  have h3 := pc_pace_ge k p h
  unfold pc_pts
  split
  · omega
  · split
    · omega
    · split <;> omega
theorem sp_purL_ge (S : Sc) (t a : Nat) (ha : t / 2 ≤ a) : ∀ n, t / 2 ≤ sp_purL S t a n
  | 0 => ha
  | n + 1 => by
    have h1 := sp_purL_ge S t a ha n
    have h2 : t / 2 ≤ sp_pts S (n + 1) (S.2.1 4 (n + 1)) t := pc_pts_ge _ _ _ _
    unfold sp_purL
    split
    · split <;> assumption
    · assumption
theorem sp_purL_le (S : Sc) (t a : Nat) : ∀ n, sp_purL S t a n ≤ a
  | 0 => Nat.le_refl _
  | n + 1 => by
    have h1 := sp_purL_le S t a n
    unfold sp_purL
    split
    · split <;> omega
    · assumption
theorem sp_pur_ge (S : Sc) (tg f t : Nat) : t / 2 ≤ sp_pur S tg f t := by
  unfold sp_pur
  split
  · exact pc_pts_ge _ _ _ _
  · exact sp_purL_ge S t _ (pc_pts_ge _ _ _ _) _
theorem sp_pts_le (S : Sc) (ho : oSc S) (f h t : Nat) : sp_pts S f h t ≤ 6 * t + 18 := pc_pts_le _ _ _ _ (ho.2.2.2.2.2.2.2.2.2.1 f)
theorem sp_pur_le (S : Sc) (ho : oSc S) (tg f t : Nat) : sp_pur S tg f t ≤ 6 * t + 18 := by
  unfold sp_pur
  split
  · exact sp_pts_le S ho _ _ _
  · exact Nat.le_trans (sp_purL_le _ _ _ _) (sp_pts_le S ho _ _ _)
theorem sp_run_lt (S : Sc) (ho : oSc S) (m : Nat) : sp_run S m < S.1 0 := by
  have h := pc_far_le (S.2.1 0) (sp_pts S 0 (S.2.1 4 0) m) (S.1 0 - 1)
  have h1 := ho.1
  unfold sp_run
  split <;> omega
theorem pc_force_z (k a h : Nat) : iZ ((if (a : Int) - ((h / 2 : Nat) : Int) ≤ (1 : Int) then (1 : Int) else (a : Int) - ((h / 2 : Nat) : Int)) + (((if k = 1 then 2 else 0 : Nat)) : Int)) = nI (pc_force k a h) := by
  rw [← iZ_n]
  unfold pc_force
  congr 1
  by_cases q : a - h / 2 ≤ 1
  · rw [if_pos q, if_pos (by omega)]
    omega
  · rw [if_neg q, if_neg (by omega)]
    omega
theorem pc_pace_z (k a h : Nat) (x : Nat) (hx : x = if k = 1 then 1 else 0) : iZ (if ((a : Int) - (x : Int)) - ((h / 2 : Nat) : Int) ≤ (1 : Int) then (1 : Int) else ((a : Int) - (x : Int)) - ((h / 2 : Nat) : Int)) = nI (pc_pace k a h) := by
  rw [← iZ_n]
  unfold pc_pace
  rw [← hx]
  congr 1
  by_cases q : a - x - h / 2 ≤ 1
  · rw [if_pos q, if_pos (by omega)]
    rfl
  · rw [if_neg q, if_neg (by omega)]
    omega
theorem pc_pts_alt {k p h t P : Nat} (hP : P = pc_pace k p h) (hk : 2 ≤ k) : (if k = 2 then t * P / 2 else if 7 ≤ t then 6 * P / 2 + (t - 6) * P else t * P / 2) = pc_pts k p h t := by
  subst hP
  unfold pc_pts
  rw [if_neg (show ¬ k < 2 by omega)]
  by_cases q : k = 2
  · rw [if_pos q, if_pos q]
  · rw [if_neg q, if_neg q]
    by_cases q2 : 7 ≤ t
    · rw [if_pos q2, if_neg (show ¬ t < 7 by omega)]
    · rw [if_neg q2, if_pos (show t < 7 by omega)]
theorem pc_fst_step {P : Nat → Nat} {cost i : Nat} (h : i < 400) (hp : P i < cost) : pc_fst P cost (400 - i) i = pc_fst P cost (400 - (i + 1)) (i + 1) := by
  rw [show 400 - i = (400 - (i + 1)) + 1 by omega]
  show (if cost ≤ P i then i else _) = _
  rw [if_neg (by omega)]
theorem pc_fst_end {P : Nat → Nat} {cost : Nat} : ∀ {n i : Nat}, cost ≤ P i → pc_fst P cost n i = i
  | 0, _, _ => rfl
  | _ + 1, _, h => if_pos h
theorem pc_fst_le {P : Nat → Nat} {cost : Nat} : ∀ (n i : Nat), i ≤ pc_fst P cost n i ∧ pc_fst P cost n i ≤ i + n
  | 0, i => ⟨Nat.le_refl _, Nat.le_refl _⟩
  | n + 1, i => by
    have h := pc_fst_le (P := P) (cost := cost) n (i + 1)
    show i ≤ (if cost ≤ P i then i else _) ∧ (if cost ≤ P i then i else _) ≤ _
    split <;> omega
theorem sp_com_le (S : Sc) (ho : oSc S) (tg f cell : Nat) (h : cell < 40) : sp_com S tg f cell ≤ 420 := by
  have h1 := (pc_fst_le (P := sp_pur S tg f) (cost := pc_cost (S.2.1 0) cell) 400 0).2
  have h2 := ho.2.2.2.1
  unfold sp_com
  split <;> omega
theorem sp_ctL01 (S : Sc) (tg cost m b : Nat) (hb : b ≤ 1) : ∀ i, sp_ctL S tg cost m b i ≤ 1
  | 0 => hb
  | i + 1 => by
    unfold sp_ctL
    split
    · split
      · split
        · omega
        · split
          · omega
          · split <;> omega
      · omega
    · omega
theorem sp_ct01 (S : Sc) (tg m : Nat) : sp_ct S tg m ≤ 1 := by
  unfold sp_ct
  refine sp_ctL01 S tg _ m _ ?_ _
  split <;> omega
