/-! film and copy in the sheets' cells -/
theorem st_of {z : RS} {L n : Nat} {F9 G9 : Nat → Int64} (h : cSt z L n F9) (he : ∀ j, F9 j = G9 j) : cSt z L n G9 := ⟨h.1, h.2.1, h.2.2.1, h.2.2.2.1, fun j hj => (h.2.2.2.2 j hj).trans (he j)⟩
theorem st_p0 {z : RS} {L n : Nat} {I9 : Nat → Nat → Int64} {t i : Nat} {G9 : Nat → Int64} (h : cSt z L n (I9 t)) : cSt z L n (pw_put I9 t i 0 G9 t) := st_of h (fun j => by
  unfold pw_put
  rw [va_up_self, if_neg (by omega)])
theorem st_ps {z : RS} {L n : Nat} {I9 : Nat → Nat → Int64} {t i k : Nat} {G9 : Nat → Int64} (h : cSt z L n (va_up (pw_put I9 t i k G9 t) (i + k) (G9 k))) : cSt z L n (pw_put I9 t i (k + 1) G9 t) := st_of h (fun j => by
  unfold pw_put
  rw [va_up_self, va_up_self]
  by_cases e2 : j = i + k
  · subst e2
    rw [va_up_self, if_pos (by omega), show i + k - i = k by omega]
  · rw [va_up_ne _ _ e2]
    by_cases e3 : i ≤ j ∧ j < i + k
    · rw [if_pos e3, if_pos (by omega)]
    · rw [if_neg e3, if_neg (by omega)])
theorem st_cp {zs zt : RS} {La na Lb nb : Nat} {Ia Ib : Nat → Int64} (hs : cSt zs La na Ia) (ht : cSt zt Lb nb Ib) {i j n : Nat} (h1 : i + n ≤ na) (h2 : j + n ≤ nb) : cSt (sCL zt 2 (va_cpy (zs.2.2 2) (zt.2.2 2) i j n)) Lb nb (fun q => if j ≤ q ∧ q < j + n then Ia (i + (q - j)) else Ib q) := by
  have s4 := hs.2.2.2.1
  refine ⟨ht.1, ht.2.1, ht.2.2.1, ht.2.2.2.1, fun q hq => ?_⟩
  show va_cpy (zs.2.2 2) (zt.2.2 2) i j n q = (if j ≤ q ∧ q < j + n then Ia (i + (q - j)) else Ib q)
  unfold va_cpy
  by_cases g1 : j ≤ q ∧ q < j + n
  · rw [if_pos g1, if_pos g1]
    exact hs.2.2.2.2 _ (by omega)
  · rw [if_neg g1, if_neg g1]
    exact ht.2.2.2.2 q hq
theorem put_at (I9 : Nat → Nat → Int64) (t i n : Nat) (G9 : Nat → Int64) : pw_put I9 t i n G9 t = fun q => if i ≤ q ∧ q < i + n then G9 (q - i) else I9 t q := by
  unfold pw_put
  rw [va_up_self]
