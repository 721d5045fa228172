/-! the tables, filled and taken back to THE MOMENT -/
/-- the last d places of 36 n, from the end, when all have come -/
def sp_bs (S : Sc) (ro : Nat → Nat) (n : Nat) (V9 : Nat → Nat) : Nat → Nat → Nat
  | 0 => V9
  | d + 1 => va_up (sp_bs S ro n V9 d) (36 * n - (d + 1)) (sp_ft S ro (sp_bs S ro n V9 d) ((36 * n - (d + 1)) / 36) n ((36 * n - (d + 1)) % 6) ((36 * n - (d + 1)) / 6 % 6) (n - 1 - (36 * n - (d + 1)) / 36))
def sp_lk (S : Sc) (ro : Nat → Nat) (n : Nat) (V9 : Nat → Nat) : Nat → Nat → Nat
  | 0 => V9
  | i + 1 => sp_ah S ro n (S.2.1 5 (ro (n - 1)) - 1 - i) (sp_lk S ro n V9 i)
/-- how likely he wins, who stands, out of a million -/
def sp_ch (S : Sc) (V9 : Nat → Nat) : Nat := if sp_rn S = 0 then 1000000 else sp_lk S (sp_ro S) (sp_rn S) (sp_bs S (sp_ro S) (sp_rn S) V9 (36 * sp_rn S)) (S.2.1 5 (sp_ro S (sp_rn S - 1)) - 1 - S.1 3) (6 * S.2.1 4 (sp_ro S 0) + S.2.1 4 0)
theorem bs_le (S : Sc) (ro V9 : Nat → Nat) (n : Nat) (hV : ∀ j, V9 j ≤ 1000000) : ∀ d j, sp_bs S ro n V9 d j ≤ 1000000
  | 0, j => hV j
  | d + 1, j => by
    have ih := bs_le S ro V9 n hV d
    show va_up (sp_bs S ro n V9 d) (36 * n - (d + 1)) _ j ≤ _
    unfold va_up
    split
    · exact sp_ft_le S ro _ ih _ _ _ _ _
    · exact ih j
theorem bs_s {S : Sc} {ro V9 : Nat → Nat} {n k o t : Nat} {zz : RS} (hk : k < n) (ho : o < 6) (ht : t < 6) (h : rLt zz (sp_bs S ro n V9 (36 * n - (36 * k + 6 * o + (t + 1))))) : rLt (sA zz 19 (36 * k + 6 * o + t) (nI (sp_ft S ro (sp_bs S ro n V9 (36 * n - (36 * k + 6 * o + (t + 1)))) k n t o (n - 1 - k)))) (sp_bs S ro n V9 (36 * n - (36 * k + 6 * o + t))) := by
  have e : 36 * n - (36 * k + 6 * o + t) = (36 * n - (36 * k + 6 * o + (t + 1))) + 1 := by omega
  have q : 36 * n - ((36 * n - (36 * k + 6 * o + (t + 1))) + 1) = 36 * k + 6 * o + t := by omega
  have e2 : sp_bs S ro n V9 (36 * n - (36 * k + 6 * o + t)) = va_up (sp_bs S ro n V9 (36 * n - (36 * k + 6 * o + (t + 1)))) (36 * k + 6 * o + t) (sp_ft S ro (sp_bs S ro n V9 (36 * n - (36 * k + 6 * o + (t + 1)))) k n t o (n - 1 - k)) := by
    rw [e]
    show va_up _ (36 * n - ((36 * n - (36 * k + 6 * o + (t + 1))) + 1)) _ = _
    rw [q, show (36 * k + 6 * o + t) / 36 = k by omega, show (36 * k + 6 * o + t) % 6 = t by omega, show (36 * k + 6 * o + t) / 6 % 6 = o by omega]
  rw [e2]
  refine ⟨fun j hj => ?_, fun j => ?_⟩
  · show upd (zz.2.1 19) (36 * k + 6 * o + t) _ j = _
    by_cases c : j = 36 * k + 6 * o + t
    · rw [c, pk_us, va_up_self]
    · rw [pk_un c, va_up_ne _ _ c]
      exact h.1 j hj
  · unfold va_up
    split
    · exact sp_ft_le S ro _ h.2 _ _ _ _ _
    · exact h.2 j
theorem dec_z (a : Nat) : nI a + Int32.ofInt (-1) = iZ (((a : Nat) : Int) - (1 : Int)) := by
  rw [← iZ_n]
  show iZ (a : Int) + iZ (-1) = _
  rw [iZ_add]
  rfl
