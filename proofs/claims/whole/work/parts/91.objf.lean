theorem ov_ou {S : Sc} (h : sp_over S = 0) : 1 ≤ sp_ou S (S.1 1 - 1) := by
  obtain ⟨h2, h0⟩ := ov_0 h
  rw [over_ok h2, if_pos h0] at h
  by_cases g1 : sp_ou S (S.1 1 - 1) = 0
  · rw [if_pos g1] at h
    exact absurd h (by decide)
  · omega
theorem dn_o {S : Sc} {f v : Nat} (hf : 1 ≤ f) (h : pc_dn S 0 = 0) : pc_dn (sR S 4 f v) 0 = 0 := by
  have e : (sR S 4 f v).2.1 4 0 = S.2.1 4 0 := va_up_ne _ _ (by omega)
  unfold pc_dn
  rw [e]
  exact h
theorem sR_bk2 (S : Sc) (f v : Nat) : sR (sR S 4 f v) 4 f (S.2.1 4 f) = S := sR_bk rfl
theorem ou_cg {S9 S : Sc} (e4 : S9.2.1 4 = S.2.1 4) : ∀ k, sp_ou S9 k = sp_ou S k
  | 0 => rfl
  | k + 1 => by
    have ih := ou_cg e4 k
    show sp_ou S9 k + (if pc_dn S9 (k + 1) = 0 then 1 else 0) = sp_ou S k + (if pc_dn S (k + 1) = 0 then 1 else 0)
    unfold pc_dn
    rw [ih, e4]
