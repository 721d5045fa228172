theorem rPa_fr {is ks : List Nat} {z z' : RS} {u : Nat} {P : Nat → Nat → Int32} (h : rFr is ks z z') (h1 : 16 ∉ is) (h2 : 15 ∉ ks) (hp : rPa z u P) : rPa z' u P :=
  ⟨(h.1 16 h1).trans hp.1, hp.2.1, fun j hj k hk => (congrFun (h.2.1 15 h2) _).trans (hp.2.2 j hj k hk)⟩
def an_mom (S : Sc) : Int32 := if sp_over S = 0 then (if S.1 3 = 400 then iZ (-3) else (if S.1 4 = 0 then iZ (-4) else sp_fgA S)) else iZ (-2)
def nx_mom (S : Sc) : Sc := if sp_over S = 0 ∧ ¬ S.1 3 = 400 then (if S.1 4 = 0 then (if sp_ct S 0 (S.1 3 + 1) = 0 then sN S 3 (S.1 3 + 1) else sp_turn S 0 (S.1 3 + 1)) else sp_fgS S) else S
def np_mom (S : Sc) (u : Nat) (P : Nat → Nat → Int32) (r : Nat → Int32) (z' : RS) : Prop := if sp_over S = 0 ∧ ¬ S.1 3 = 400 then rPa z' (pa_n u) (pa_put u P r) else rPa z' u P
/-- one more FIGHTER -/
def sc_add (S : Sc) (k a p h : Nat) : Sc := (va_up S.1 1 (S.1 1 + 1), va_up (va_up (va_up (va_up (va_up S.2.1 1 (va_up (S.2.1 1) (S.1 1) k)) 2 (va_up (S.2.1 2) (S.1 1) a)) 3 (va_up (S.2.1 3) (S.1 1) p)) 4 (va_up (S.2.1 4) (S.1 1) h)) 5 (va_up (S.2.1 5) (S.1 1) 99999), S.2.2)
theorem up_ix {f : Nat → Int32} {b : Nat → Nat} {i : Nat → Nat} {n k v : Nat} (hi : ∀ a c, a < 5 → c < 5 → i a = i c → a = c) (hk : k < 5) (h : ∀ q, q < 5 → f (i q) = nI (b q)) : ∀ q, q < 5 → upd f (i k) (nI v) (i q) = nI (va_up b k v q) := by
  intro q hq
  by_cases e : q = k
  · subst e
    rw [pk_us, va_up_self]
  · rw [pk_un (fun x => e (hi q k hq hk x)), va_up_ne _ _ e]
    exact h q hq
theorem up_no {f : Nat → Int32} {b : Nat → Nat} {i : Nat → Nat} {j : Nat} {v : Int32} (hi : ∀ q, q < 5 → i q ≠ j) (h : ∀ q, q < 5 → f (i q) = nI (b q)) : ∀ q, q < 5 → upd f j v (i q) = nI (b q) := fun q hq => by
  rw [pk_un (hi q hq)]
  exact h q hq
theorem rw_add {z : RS} {S : Sc} (h : rSc z S) (hn : S.1 1 < 5) (k a p u : Nat) : rSc (sI (sA (sA (sA (sA (sA z 3 (3 * S.1 1) (nI k)) 3 (3 * S.1 1 + 1) (nI a)) 3 (3 * S.1 1 + 2) (nI p)) 5 (3 + S.1 1) (nI u)) 5 (8 + S.1 1) (nI 99999)) 1 (nI (S.1 1 + 1))) (sc_add S k a p u) := by
  obtain ⟨h0, h1, h2, h3, h4, h5, h6, h7, h8, h9, h10, h11⟩ := h
  refine ⟨h0, rfl, h2, ?_, ?_, ?_, h6, ?_, ?_, ?_, ?_, ?_⟩
  · show upd (upd (z.2.1 5) (3 + S.1 1) (nI u)) (8 + S.1 1) (nI 99999) 0 = _
    rw [pk_un (by omega), pk_un (by omega)]; exact h3
  · show upd (upd (z.2.1 5) (3 + S.1 1) (nI u)) (8 + S.1 1) (nI 99999) 1 = _
    rw [pk_un (by omega), pk_un (by omega)]; exact h4
  · show upd (upd (z.2.1 5) (3 + S.1 1) (nI u)) (8 + S.1 1) (nI 99999) 2 = _
    rw [pk_un (by omega), pk_un (by omega)]; exact h5
  · exact up_no (f := upd (upd (z.2.1 3) (3 * S.1 1) (nI k)) (3 * S.1 1 + 1) (nI a)) (i := fun q => 3 * q) (fun q _ => by show 3 * q ≠ _; omega) (up_no (f := upd (z.2.1 3) (3 * S.1 1) (nI k)) (i := fun q => 3 * q) (fun q _ => by show 3 * q ≠ _; omega) (up_ix (f := z.2.1 3) (i := fun q => 3 * q) (n := 0) (fun a c _ _ e => by have e : 3 * a = 3 * c := e; omega) hn h7))
  · exact up_no (f := upd (upd (z.2.1 3) (3 * S.1 1) (nI k)) (3 * S.1 1 + 1) (nI a)) (i := fun q => 3 * q + 1) (fun q _ => by show 3 * q + 1 ≠ _; omega) (up_ix (f := upd (z.2.1 3) (3 * S.1 1) (nI k)) (i := fun q => 3 * q + 1) (n := 0) (fun a c _ _ e => by have e : 3 * a + 1 = 3 * c + 1 := e; omega) hn (up_no (f := z.2.1 3) (i := fun q => 3 * q + 1) (fun q _ => by show 3 * q + 1 ≠ _; omega) h8))
  · exact up_ix (f := upd (upd (z.2.1 3) (3 * S.1 1) (nI k)) (3 * S.1 1 + 1) (nI a)) (i := fun q => 3 * q + 2) (n := 0) (fun a c _ _ e => by have e : 3 * a + 2 = 3 * c + 2 := e; omega) hn (up_no (f := upd (z.2.1 3) (3 * S.1 1) (nI k)) (i := fun q => 3 * q + 2) (fun q _ => by show 3 * q + 2 ≠ _; omega) (up_no (f := z.2.1 3) (i := fun q => 3 * q + 2) (fun q _ => by show 3 * q + 2 ≠ _; omega) h9))
  · exact up_no (f := upd (z.2.1 5) (3 + S.1 1) (nI u)) (i := fun q => 3 + q) (fun q _ => by show 3 + q ≠ _; omega) (up_ix (f := z.2.1 5) (i := fun q => 3 + q) (n := 0) (fun a c _ _ e => by have e : 3 + a = 3 + c := e; omega) hn h10)
  · exact up_ix (f := upd (z.2.1 5) (3 + S.1 1) (nI u)) (i := fun q => 8 + q) (n := 0) (fun a c _ _ e => by have e : 8 + a = 8 + c := e; omega) hn (up_no (f := z.2.1 5) (i := fun q => 8 + q) (fun q _ => by show 8 + q ≠ _; omega) h11)
def an_fig (S : Sc) (k a p : Int32) : Int32 := if (0 ≤ k.toInt ∧ k.toInt ≤ 3) ∧ (1 ≤ a.toInt ∧ a.toInt ≤ 9) ∧ 1 ≤ p.toInt ∧ p.toInt ≤ 6 then (if S.1 4 = 0 then (if S.1 1 = 5 then iZ (-3) else nI (S.1 1)) else iZ (-2)) else iZ (-1)
def nx_fig (S : Sc) (k a p : Int32) : Sc := if ((0 ≤ k.toInt ∧ k.toInt ≤ 3) ∧ (1 ≤ a.toInt ∧ a.toInt ≤ 9) ∧ 1 ≤ p.toInt ∧ p.toInt ≤ 6) ∧ S.1 4 = 0 ∧ ¬ S.1 1 = 5 then sc_add S k.toInt.toNat a.toInt.toNat p.toInt.toNat 0 else S
/-- behind it nothing may be UNDONE -/
def nu_fig (S : Sc) (u : Nat) (k a p : Int32) : Nat := if ((0 ≤ k.toInt ∧ k.toInt ≤ 3) ∧ (1 ≤ a.toInt ∧ a.toInt ≤ 9) ∧ 1 ≤ p.toInt ∧ p.toInt ≤ 6) ∧ S.1 4 = 0 ∧ ¬ S.1 1 = 5 then 0 else u
/-- THE TAPE: n letters -/
def rTp (z : RS) (n : Nat) (T : Nat → Nat) : Prop := z.1 8 = nI n ∧ n ≤ 100 ∧ (∀ j, j < 100 → z.2.1 7 j = nI (T j)) ∧ ∀ j, T j ≤ 126
def an_type (n : Nat) (x : Int32) : Int32 := if 32 ≤ x.toInt ∧ x.toInt ≤ 126 then (if n = 100 then iZ (-3) else nI (n + 1)) else iZ (-1)
def nn_type (n : Nat) (x : Int32) : Nat := if (32 ≤ x.toInt ∧ x.toInt ≤ 126) ∧ ¬ n = 100 then n + 1 else n
def nt_type (n : Nat) (T : Nat → Nat) (x : Int32) : Nat → Nat := if (32 ≤ x.toInt ∧ x.toInt ≤ 126) ∧ ¬ n = 100 then va_up T n x.toInt.toNat else T
theorem rw_tp {z : RS} {n k : Nat} {T : Nat → Nat} (h : rTp z n T) (hn : n < 100) (hk : k ≤ 126) : rTp (sI (sA z 7 n (nI k)) 8 (nI (n + 1))) (n + 1) (va_up T n k) := by
  refine ⟨rfl, by omega, fun j hj => ?_, fun j => ?_⟩
  · show upd (z.2.1 7) n (nI k) j = _
    by_cases e : j = n
    · subst e
      rw [pk_us, va_up_self]
    · rw [pk_un e, va_up_ne _ _ e]
      exact h.2.2.1 j hj
  · unfold va_up
    split
    · exact hk
    · exact h.2.2.2 j
