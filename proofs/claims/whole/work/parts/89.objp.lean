/-! the object itself -/
abbrev wO (G : CG) (a : Nat → Nat) (ad : Nat → Nat → Nat) (zt : RS) : va_W := [(a 0, .inr (6, [.ref (ad 0 0), .ref (ad 1 0), .ref (ad 2 0), .ref (ad 3 0), .int (zt.1 4), .ref (ad 5 0), .ref (ad 6 0), .ref (a 8)])), (a 8, .inl (G.2.2.2, 4, .inr (.inr (.inr (.inr (fun j => some (ad (10 + j) 0)))))))]
def pc_may (S : Sc) : Nat := if sp_over S = 0 then (if pc_td S = 0 then 1 else 0) else 0
theorem may_ok (S : Sc) : (pc_may S = 1 ∧ sp_over S = 0 ∧ S.1 4 = 0) ∨ (pc_may S = 0 ∧ ¬ (sp_over S = 0 ∧ S.1 4 = 0)) := by
  have h := pc_td_ok S
  unfold pc_may
  by_cases g1 : sp_over S = 0
  · rw [if_pos g1]
    rcases h with h | h
    · rw [if_pos h.1]
      exact Or.inl ⟨rfl, g1, h.2⟩
    · rw [if_neg (by omega)]
      exact Or.inr ⟨rfl, fun w9 => h.2 w9.2⟩
  · rw [if_neg g1]
    exact Or.inr ⟨rfl, fun w9 => g1 w9.1⟩
theorem sw_i {x : Int32} {k : Nat} (h : x.toInt = (k : Int)) : x = nI k := by
  obtain ⟨j, h1, h2⟩ := iv_n (x := x) (by omega)
  rw [h2]
  exact congrArg nI (by omega)
/-- a sheet's address out of the row of sheets -/
theorem cc_so {z : RS} {S : Sc} (h : cSc z S) (h1 : S.1 4 = 0) (v : Sc) (hv : cSn z v) (h2 : v.1 4 = 0) : cSc z v := ⟨hv, fun w9 => absurd h2 w9⟩
theorem mo_all {S : Sc} (h0 : sp_ou S (S.1 1 - 1) = 0) (hnt : S.1 4 = 0) : sp_mo S 0 = 1000000 := by
  have hor : oOrd S (fun _ => 0) (S.1 1 - 1) 0 (fun _ => 0) := by
    have h := (ou_0 (S := S) (S.1 1 - 1)).mp h0
    exact ⟨h0.symm, fun j hj => by omega, fun i j _ h2 => by omega, fun f f1 f2 f3 => absurd f3 (h f f1 f2)⟩
  have hup := (ou_0 (S := S) (S.1 1 - 1)).mp h0
  have hc : ∀ m, sp_c (sp_turn S 0 m) = 1000000 := fun m => c_0 (ev_turn S 0 m) (fun f f1 f2 f3 => absurd f3 (hup f f1 (by omega))) hor
  have hr : ∀ t, sp_c (sp_rch S 0 t) = 1000000 := fun t => by
    unfold sp_rch
    rw [if_pos hnt]
    exact hc _
  have hb : ∀ k, sp_byv S 0 k = 1000000 := by
    intro k
    induction k with
    | zero => exact hr _
    | succ k ih =>
      show (if sp_lkc S 0 (k + 1) = 0 then sp_c (sp_rch S 0 (S.1 3 + (k + 1))) else sp_byv S 0 k) = _
      rw [ih, hr]
      exact ite_self _
  have hq : ∀ k, sp_mq S 0 (k + 1) = 1000001 := by
    intro k
    induction k with
    | zero =>
      show (if 0 ≤ sp_byv S 0 0 then sp_byv S 0 0 + 1 else 0) = _
      rw [if_pos (Nat.zero_le _), hb]
    | succ k ih =>
      show (if sp_mq S 0 (k + 1) ≤ sp_byv S 0 (k + 1) then sp_byv S 0 (k + 1) + 1 else sp_mq S 0 (k + 1)) = _
      rw [ih, hb, if_neg (by omega)]
  unfold sp_mo
  rw [hq 60]
theorem av_mo {S : Sc} (h2 : 2 ≤ S.1 1) (hd0 : pc_dn S 0 = 0) (hnt : S.1 4 = 0) {f : Nat} (hf : 1 ≤ f) : sp_av S f = sp_mo (sR S 4 f (S.2.1 4 f + 1)) 0 := by
  unfold sp_av
  by_cases g1 : sp_over (sR S 4 f (S.2.1 4 f + 1)) = 0
  · rw [if_pos g1]
  · rw [if_neg g1]
    have e1 : pc_dn (sR S 4 f (S.2.1 4 f + 1)) 0 = 0 := by
      have : (sR S 4 f (S.2.1 4 f + 1)).2.1 4 0 = S.2.1 4 0 := va_up_ne _ _ (by omega)
      unfold pc_dn
      rw [this]
      exact hd0
    rw [over_ok (S := sR S 4 f (S.2.1 4 f + 1)) h2, if_pos e1] at g1
    by_cases g2 : sp_ou (sR S 4 f (S.2.1 4 f + 1)) ((sR S 4 f (S.2.1 4 f + 1)).1 1 - 1) = 0
    · exact (mo_all g2 hnt).symm
    · rw [if_neg g2] at g1
      exact absurd rfl g1
