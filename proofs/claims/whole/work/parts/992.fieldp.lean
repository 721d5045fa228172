/-! bounds of what is read -/
theorem pK_le (T : Nat → Nat) (n : Nat) : ps_K T n ≤ 5 := by
  have h := gf_le T n (ps_0 T n) 5 0
  unfold ps_K
  split <;> omega
theorem pA_le {T : Nat → Nat} {n : Nat} (hn : n ≤ 100) : ps_A T n ≤ 20000 := by
  have h0 := ps0_le (T := T) hn
  have h1 := pK_le T n
  have h2 := (gkp_le (T := T) (j := ps_K T n - 1) hn (by omega)).2
  have h3 := (tk_le T n (fk_a T n (ps_l T n))).2.2
  have h4 := (tk_le T n (ps_e T n)).2.2
  have h5 := (tk_le T n 0).2.2
  have e9 : ps_l T n = gk_p T n (ps_0 T n) (ps_K T n - 1) := rfl
  rw [← e9] at h2
  unfold ps_A
  split
  · split
    · split <;> omega
    · omega
  · omega
