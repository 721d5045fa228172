/-! the tape, read -/
def tk_f (T : Nat → Nat) (n : Nat) : Nat → Nat → Nat
  | 0, a => a
  | d + 1, a => if a < n ∧ T a = 32 then tk_f T n d (a + 1) else a
/-- the place behind blanks -/
def tk_s (T : Nat → Nat) (n a : Nat) : Nat := tk_f T n (n - a) a
theorem tk_y {T : Nat → Nat} {n a : Nat} (h : a < n ∧ T a = 32) : tk_s T n a = tk_s T n (a + 1) := by
  unfold tk_s
  rw [show n - a = n - (a + 1) + 1 by omega]
  exact if_pos h
theorem tk_n {T : Nat → Nat} {n a : Nat} (h : ¬ (a < n ∧ T a = 32)) : tk_s T n a = a := by
  unfold tk_s
  cases hd : n - a with
  | zero => rfl
  | succ d => exact if_neg h
theorem tk_ge (T : Nat → Nat) (n : Nat) : ∀ d a, a ≤ tk_f T n d a ∧ tk_f T n d a ≤ a + d
  | 0, a => ⟨Nat.le_refl _, Nat.le_refl _⟩
  | d + 1, a => by
    have h := tk_ge T n d (a + 1)
    unfold tk_f
    split <;> omega
theorem tk_le (T : Nat → Nat) (n a : Nat) : a ≤ tk_s T n a ∧ (a ≤ n → tk_s T n a ≤ n) ∧ tk_s T n a ≤ a + n := by
  have h := tk_ge T n (n - a) a
  unfold tk_s
  refine ⟨h.1, fun _ => ?_, ?_⟩ <;> omega
theorem tk_fx (T : Nat → Nat) (n : Nat) : ∀ d a, n - a ≤ d → ¬ (tk_f T n d a < n ∧ T (tk_f T n d a) = 32)
  | 0, a, h => by
    show ¬ (a < n ∧ _)
    omega
  | d + 1, a, h => by
    unfold tk_f
    split
    · exact tk_fx T n d (a + 1) (by omega)
    · assumption
theorem tk_id (T : Nat → Nat) (n a : Nat) : tk_s T n (tk_s T n a) = tk_s T n a := tk_n (tk_fx T n (n - a) a (Nat.le_refl _))
/-- the letter there, 0 behind the last -/
def tk_h (T : Nat → Nat) (n a : Nat) : Nat := if n ≤ tk_s T n a then 0 else T (tk_s T n a)
theorem tk_hid (T : Nat → Nat) (n a : Nat) : tk_h T n (tk_s T n a) = tk_h T n a := by
  unfold tk_h
  rw [tk_id]
theorem tk_h_le {T : Nat → Nat} (hT : ∀ j, T j ≤ 126) (n a : Nat) : tk_h T n a ≤ 126 := by
  unfold tk_h
  split
  · exact Nat.zero_le _
  · exact hT _
def tk_sg (h : Nat) : Int := if h = 46 then 0 else (if h = 47 then 1 else (if h = 118 then 2 else -4))
/-- where the j-th CELL's letter is looked for -/
def tk_c (T : Nat → Nat) (n : Nat) : Nat → Nat
  | 0 => tk_s T n 0
  | j + 1 => tk_s T n (tk_c T n j) + 1
def tk_nf (T : Nat → Nat) (n : Nat) : Nat → Nat → Nat
  | 0, j => j
  | d + 1, j => if tk_sg (tk_h T n (tk_c T n j)) < 0 then j else tk_nf T n d (j + 1)
/-- how many CELLS -/
def tk_m (T : Nat → Nat) (n : Nat) : Nat := tk_nf T n 40 0
def tk_kd (h : Nat) : Nat := if h = 112 then 0 else (if h = 115 then 1 else (if h = 108 then 2 else 3))
/-- a digit read at a: what it is, is it wrong (0, 1), the place behind it or of the fault -/
def tk_dv (T : Nat → Nat) (n : Nat) (lo a w : Nat) : Int := if w = 0 then ((tk_h T n a : Nat) : Int) - (48 : Int) else (lo : Int)
def tk_dw (T : Nat → Nat) (n : Nat) (lo hi a w : Nat) : Nat := if w = 0 then (if pc_inI (((tk_h T n a : Nat) : Int) - (48 : Int)) lo hi = 0 then 1 else 0) else 1
def tk_da (T : Nat → Nat) (n : Nat) (lo hi a w : Nat) : Nat := if w = 0 then tk_s T n a + (if pc_inI (((tk_h T n a : Nat) : Int) - (48 : Int)) lo hi = 0 then 0 else 1) else a
/-- is c there; the place then -/
def tk_hv (T : Nat → Nat) (n c a w : Nat) : Nat := if w = 0 then (if tk_h T n a = c then 1 else 0) else 0
def tk_ha (T : Nat → Nat) (n c a w : Nat) : Nat := if w = 0 then tk_s T n a + (if tk_h T n a = c then 1 else 0) else a
/-- a FIGHTER read at a, nothing being wrong before -/
def fk_h (T : Nat → Nat) (n a : Nat) : Nat := tk_h T n a
def fk_w0 (h : Nat) : Nat := if h = 112 then 0 else (if h = 115 then 0 else (if h = 108 then 0 else (if h = 102 then 0 else 1)))
def fk_a0 (T : Nat → Nat) (n a : Nat) : Nat := tk_s T n a + (if fk_w0 (tk_h T n a) = 0 then 1 else 0)
def fk_w1 (T : Nat → Nat) (n a : Nat) : Nat := tk_dw T n 1 9 (fk_a0 T n a) (fk_w0 (tk_h T n a))
def fk_a1 (T : Nat → Nat) (n a : Nat) : Nat := tk_da T n 1 9 (fk_a0 T n a) (fk_w0 (tk_h T n a))
def fk_w2 (T : Nat → Nat) (n a : Nat) : Nat := tk_dw T n 1 6 (fk_a1 T n a) (fk_w1 T n a)
def fk_a2 (T : Nat → Nat) (n a : Nat) : Nat := tk_da T n 1 6 (fk_a1 T n a) (fk_w1 T n a)
def fk_q (T : Nat → Nat) (n a : Nat) : Nat := tk_hv T n 45 (fk_a2 T n a) (fk_w2 T n a)
def fk_a3 (T : Nat → Nat) (n a : Nat) : Nat := tk_ha T n 45 (fk_a2 T n a) (fk_w2 T n a)
def fk_w (T : Nat → Nat) (n a : Nat) : Nat := if fk_q T n a = 0 then fk_w2 T n a else tk_dw T n 0 6 (fk_a3 T n a) (fk_w2 T n a)
def fk_a (T : Nat → Nat) (n a : Nat) : Nat := if fk_q T n a = 0 then fk_a3 T n a else tk_da T n 0 6 (fk_a3 T n a) (fk_w2 T n a)
/-- its four numbers -/
def fk_v (T : Nat → Nat) (n a : Nat) : Nat → Int
  | 0 => ((tk_kd (tk_h T n a) : Nat) : Int)
  | 1 => tk_dv T n 1 (fk_a0 T n a) (fk_w0 (tk_h T n a))
  | 2 => tk_dv T n 1 (fk_a1 T n a) (fk_w1 T n a)
  | _ => if fk_q T n a = 0 then 0 else tk_dv T n 0 (fk_a3 T n a) (fk_w2 T n a)
def gk_p (T : Nat → Nat) (n a0 : Nat) : Nat → Nat
  | 0 => a0
  | j + 1 => tk_ha T n 44 (fk_a T n (gk_p T n a0 j)) (fk_w T n (gk_p T n a0 j))
def gk_m (T : Nat → Nat) (n a0 j : Nat) : Nat := if 4 ≤ j then 0 else tk_hv T n 44 (fk_a T n (gk_p T n a0 j)) (fk_w T n (gk_p T n a0 j))
def gk_f (T : Nat → Nat) (n a0 : Nat) : Nat → Nat → Nat
  | 0, j => j
  | d + 1, j => if gk_m T n a0 j = 0 then j + 1 else gk_f T n a0 d (j + 1)
/-- where the CELLS end; how many FIGHTERS; is it wrong; where -/
def ps_e (T : Nat → Nat) (n : Nat) : Nat := tk_c T n (tk_m T n)
def ps_0 (T : Nat → Nat) (n : Nat) : Nat := tk_s T n (ps_e T n) + 1
def ps_K (T : Nat → Nat) (n : Nat) : Nat := if tk_h T n 0 = 46 ∧ tk_h T n (ps_e T n) = 59 then gk_f T n (ps_0 T n) 5 0 else 0
def ps_l (T : Nat → Nat) (n : Nat) : Nat := gk_p T n (ps_0 T n) (ps_K T n - 1)
def ps_W (T : Nat → Nat) (n : Nat) : Nat := if tk_h T n 0 = 46 then (if tk_h T n (ps_e T n) = 59 then (if fk_w T n (ps_l T n) = 0 then (if tk_h T n (fk_a T n (ps_l T n)) = 0 then 0 else 1) else 1) else (if tk_h T n (ps_e T n) = 0 then 0 else 1)) else 1
def ps_A (T : Nat → Nat) (n : Nat) : Nat := if tk_h T n 0 = 46 then (if tk_h T n (ps_e T n) = 59 then (if fk_w T n (ps_l T n) = 0 then tk_s T n (fk_a T n (ps_l T n)) else fk_a T n (ps_l T n)) else tk_s T n (ps_e T n)) else tk_s T n 0
/-- bounds -/
theorem tk_sg_ok (h : Nat) : tk_sg h = 0 ∨ tk_sg h = 1 ∨ tk_sg h = 2 ∨ tk_sg h = -4 := by
  unfold tk_sg
  by_cases q1 : h = 46
  · rw [if_pos q1]
    omega
  · rw [if_neg q1]
    by_cases q2 : h = 47
    · rw [if_pos q2]
      omega
    · rw [if_neg q2]
      by_cases q3 : h = 118
      · rw [if_pos q3]
        omega
      · rw [if_neg q3]
        omega
theorem tk_c_le (T : Nat → Nat) (n : Nat) : ∀ j, tk_c T n j ≤ n + j * (n + 1)
  | 0 => by
    have h := (tk_le T n 0).2.1 (Nat.zero_le _)
    show tk_s T n 0 ≤ _
    omega
  | j + 1 => by
    have h := tk_c_le T n j
    have h2 := (tk_le T n (tk_c T n j)).2.2
    show tk_s T n (tk_c T n j) + 1 ≤ _
    rw [Nat.add_mul]
    omega
theorem tk_da_le (T : Nat → Nat) (n lo hi a w : Nat) : tk_da T n lo hi a w ≤ a + n + 1 := by
  have h2 := (tk_le T n a).2.2
  unfold tk_da
  split
  · split <;> omega
  · omega
theorem tk_ha_le (T : Nat → Nat) (n c a w : Nat) : tk_ha T n c a w ≤ a + n + 1 := by
  have h2 := (tk_le T n a).2.2
  unfold tk_ha
  split
  · split <;> omega
  · omega
theorem fk_a0_le (T : Nat → Nat) (n a : Nat) : fk_a0 T n a ≤ a + n + 1 := by
  have h2 := (tk_le T n a).2.2
  unfold fk_a0
  split <;> omega
theorem fk_a_le (T : Nat → Nat) (n a : Nat) : fk_a0 T n a ≤ a + 1 * (n + 1) ∧ fk_a1 T n a ≤ a + 2 * (n + 1) ∧ fk_a2 T n a ≤ a + 3 * (n + 1) ∧ fk_a3 T n a ≤ a + 4 * (n + 1) ∧ fk_a T n a ≤ a + 5 * (n + 1) := by
  have h0 := fk_a0_le T n a
  have h1 := tk_da_le T n 1 9 (fk_a0 T n a) (fk_w0 (tk_h T n a))
  have h2 := tk_da_le T n 1 6 (fk_a1 T n a) (fk_w1 T n a)
  have h3 := tk_ha_le T n 45 (fk_a2 T n a) (fk_w2 T n a)
  have h4 := tk_da_le T n 0 6 (fk_a3 T n a) (fk_w2 T n a)
  have e1 : fk_a1 T n a = tk_da T n 1 9 (fk_a0 T n a) (fk_w0 (tk_h T n a)) := rfl
  have e2 : fk_a2 T n a = tk_da T n 1 6 (fk_a1 T n a) (fk_w1 T n a) := rfl
  have e3 : fk_a3 T n a = tk_ha T n 45 (fk_a2 T n a) (fk_w2 T n a) := rfl
  have h5 : fk_a T n a ≤ a + 5 * (n + 1) := by
    unfold fk_a
    split <;> omega
  omega
theorem gk_p_le (T : Nat → Nat) (n a0 : Nat) : ∀ j, gk_p T n a0 j ≤ a0 + j * (6 * (n + 1))
  | 0 => Nat.le_add_right _ _
  | j + 1 => by
    have h := gk_p_le T n a0 j
    have h2 := (fk_a_le T n (gk_p T n a0 j)).2.2.2.2
    have h3 := tk_ha_le T n 44 (fk_a T n (gk_p T n a0 j)) (fk_w T n (gk_p T n a0 j))
    show tk_ha T n 44 (fk_a T n (gk_p T n a0 j)) (fk_w T n (gk_p T n a0 j)) ≤ _
    rw [Nat.add_mul]
    omega
theorem w01 (T : Nat → Nat) (n lo hi a w : Nat) : tk_dw T n lo hi a w ≤ 1 := by
  unfold tk_dw
  split
  · split <;> omega
  · omega
theorem hv01 (T : Nat → Nat) (n c a w : Nat) : tk_hv T n c a w ≤ 1 := by
  unfold tk_hv
  split
  · split <;> omega
  · omega
theorem fk_w0_le (h : Nat) : fk_w0 h ≤ 1 := by
  unfold fk_w0
  exact it_le (by omega) (it_le (by omega) (it_le (by omega) (it_le (by omega) (by omega))))
theorem fk_w_le (T : Nat → Nat) (n a : Nat) : fk_w T n a ≤ 1 := by
  unfold fk_w
  exact it_le (w01 _ _ _ _ _ _) (w01 _ _ _ _ _ _)
