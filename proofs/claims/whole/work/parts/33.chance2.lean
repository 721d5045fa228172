/-! what the tables held before doesn't matter -/
theorem ft_agree {S : Sc} {ro V9 U9 : Nat → Nat} {n k own his others : Nat} (hk : k < n) (ho : own < 6) (hh : his < 6) (hu5 : ∀ j, j < n → S.2.1 4 (ro j) ≤ 5) (h : ∀ q, 36 * k + 6 * own + his < q → q < 36 * n → V9 q = U9 q) : sp_ft S ro V9 k n his own others = sp_ft S ro U9 k n his own others := by
  have e1 : sp_wl S ro V9 k n his own = sp_wl S ro U9 k n his own := by
    unfold sp_wl
    by_cases q : 5 ≤ own
    · rw [if_pos q, if_pos q]
      by_cases q2 : k + 1 = n
      · rw [if_pos q2, if_pos q2]
      · rw [if_neg q2, if_neg q2]
        have h5 := hu5 (k + 1) (by omega)
        exact h _ (by omega) (by omega)
    · rw [if_neg q, if_neg q]
      exact h _ (by omega) (by omega)
  have e2 : sp_il V9 k his own = sp_il U9 k his own := by
    unfold sp_il
    by_cases q : 5 ≤ his
    · rw [if_pos q, if_pos q]
    · rw [if_neg q, if_neg q]
      exact h _ (by omega) (by omega)
  unfold sp_ft
  rw [e1, e2]
theorem bs_agree {S : Sc} {ro V9 U9 : Nat → Nat} {n : Nat} (hu5 : ∀ j, j < n → S.2.1 4 (ro j) ≤ 5) : ∀ d, d ≤ 36 * n → ∀ q, 36 * n - d ≤ q → q < 36 * n → sp_bs S ro n V9 d q = sp_bs S ro n U9 d q
  | 0, _, q, h1, h2 => absurd h2 (by omega)
  | d + 1, hd, q, h1, h2 => by
    have ih := bs_agree (V9 := V9) (U9 := U9) hu5 d (by omega)
    show va_up (sp_bs S ro n V9 d) (36 * n - (d + 1)) _ q = va_up (sp_bs S ro n U9 d) (36 * n - (d + 1)) _ q
    by_cases e : q = 36 * n - (d + 1)
    · rw [e, va_up_self, va_up_self]
      exact ft_agree (by omega) (by omega) (by omega) hu5 (fun t h3 h4 => ih t (by omega) h4)
    · rw [va_up_ne _ _ e, va_up_ne _ _ e]
      exact ih q (by omega) h2
theorem ah_agree {S : Sc} {ro V9 U9 : Nat → Nat} {n en : Nat} (hu5 : ∀ j, j < n → S.2.1 4 (ro j) ≤ 5) (h : ∀ q, q < 36 * n → V9 q = U9 q) (q : Nat) (hq : q < 36 * n) : sp_ah S ro n en V9 q = sp_ah S ro n en U9 q := by
  unfold sp_ah
  rw [if_pos hq, if_pos hq]
  by_cases e : S.2.1 5 (ro (q / 36)) ≤ en
  · rw [if_pos e, if_pos e]
    exact ft_agree (by omega) (by omega) (by omega) hu5 (fun t _ h4 => h t h4)
  · rw [if_neg e, if_neg e]
    exact h q hq
theorem lk_agree {S : Sc} {ro V9 U9 : Nat → Nat} {n : Nat} (hu5 : ∀ j, j < n → S.2.1 4 (ro j) ≤ 5) (h : ∀ q, q < 36 * n → V9 q = U9 q) : ∀ i q, q < 36 * n → sp_lk S ro n V9 i q = sp_lk S ro n U9 i q
  | 0, q, hq => h q hq
  | i + 1, q, hq => ah_agree hu5 (lk_agree hu5 h i) q hq
theorem rn_pos {S : Sc} {j : Nat} (h : j < sp_rn S) : ¬ sp_ro S j = 0 := by
  unfold sp_rn at h
  by_cases h0 : sp_ro S 0 = 0
  · rw [if_pos h0] at h
    omega
  · rw [if_neg h0] at h
    by_cases h1 : sp_ro S 1 = 0
    · rw [if_pos h1] at h
      rw [show j = 0 by omega]
      exact h0
    · rw [if_neg h1] at h
      by_cases h2 : sp_ro S 2 = 0
      · rw [if_pos h2] at h
        rcases (show j = 0 ∨ j = 1 by omega) with rfl | rfl
        · exact h0
        · exact h1
      · rw [if_neg h2] at h
        by_cases h3 : sp_ro S 3 = 0
        · rw [if_pos h3] at h
          rcases (show j = 0 ∨ j = 1 ∨ j = 2 by omega) with rfl | rfl | rfl
          · exact h0
          · exact h1
          · exact h2
        · rw [if_neg h3] at h
          rcases (show j = 0 ∨ j = 1 ∨ j = 2 ∨ j = 3 by omega) with rfl | rfl | rfl | rfl
          · exact h0
          · exact h1
          · exact h2
          · exact h3
theorem dn_5 {S : Sc} (ho : oSc S) {f : Nat} (h : pc_dn S f = 0) : S.2.1 4 f ≤ 5 := by
  have h1 := ho.2.2.2.2.2.2.2.2.2.2.1 f
  unfold pc_dn at h
  by_cases q : S.2.1 4 f = 6
  · rw [if_pos q] at h
    omega
  · omega
theorem ro_hu {S : Sc} (ho : oSc S) {j : Nat} (h : j < sp_rn S) : S.2.1 4 (sp_ro S j) ≤ 5 := dn_5 ho (sp_is_ok (sp_sl_is S _ _ _ (rn_pos h))).1
theorem ch_any {S : Sc} (ho : oSc S) (h0 : pc_dn S 0 = 0) (V9 U9 : Nat → Nat) : sp_ch S V9 = sp_ch S U9 := by
  unfold sp_ch
  by_cases q : sp_rn S = 0
  · rw [if_pos q, if_pos q]
  · rw [if_neg q, if_neg q]
    have h5 := ro_hu ho (j := 0) (by omega)
    have h6 := dn_5 ho h0
    exact lk_agree (fun j hj => ro_hu ho hj) (fun t ht => bs_agree (fun j hj => ro_hu ho hj) _ (Nat.le_refl _) t (by omega) ht) _ _ (by omega)
/-- CHANCE of him who stands -/
def sp_c (S : Sc) : Nat := sp_ch S (fun _ => 0)
/-- the scene when he has TURNED by t -/
def sp_rch (S : Sc) (tg t : Nat) : Sc := if S.1 4 = 0 then sp_turn S tg (sp_tm S tg (t - S.1 3) (S.1 3)) else S
theorem rSc_back {z z' : RS} {S : Sc} (hz : rSc z S) {is ks : List Nat} (h : rFr is ks z z') (h0 : 0 ∉ is) (h1 : 1 ∉ is) (h4 : 4 ∉ is) (a2 : 2 ∉ ks) (a3 : 3 ∉ ks) (hn : ∀ k, k < 13 → z'.2.1 5 k = z.2.1 5 k) : rSc z' S := by
  obtain ⟨z0, z1, z2, z3, z4, z5, z6, z7, z8, z9, z10, z11⟩ := hz
  exact ⟨(h.1 0 h0).trans z0, (h.1 1 h1).trans z1, (h.1 4 h4).trans z2, (hn 0 (by omega)).trans z3, (hn 1 (by omega)).trans z4, (hn 2 (by omega)).trans z5, fun c hc => (congrFun (h.2.1 2 a2) c).trans (z6 c hc), fun f hf => (congrFun (h.2.1 3 a3) _).trans (z7 f hf), fun f hf => (congrFun (h.2.1 3 a3) _).trans (z8 f hf), fun f hf => (congrFun (h.2.1 3 a3) _).trans (z9 f hf), fun f hf => (hn _ (by omega)).trans (z10 f hf), fun f hf => (hn _ (by omega)).trans (z11 f hf)⟩
theorem ov_0 {S : Sc} (h : sp_over S = 0) : 2 ≤ S.1 1 ∧ pc_dn S 0 = 0 := by
  unfold sp_over at h
  by_cases q : 2 ≤ S.1 1
  · rw [if_pos q] at h
    refine ⟨q, ?_⟩
    by_cases q2 : pc_dn S 0 = 0
    · exact q2
    · have e : ∀ n, sp_dnL S (n + 1) &&& 1 = 1 := by
        intro n
        induction n with
        | zero =>
          show (0 ||| (if pc_dn S 0 = 0 then 0 else 2 ^ 0)) &&& 1 = 1
          rw [if_neg q2]
          rfl
        | succ n ih =>
          show (sp_dnL S (n + 1) ||| (if pc_dn S (n + 1) = 0 then 0 else 2 ^ (n + 1))) &&& 1 = 1
          rw [Nat.and_or_distrib_right, ih]
          split
          · rfl
          · rw [Nat.and_one_is_mod, Nat.pow_succ, Nat.mul_mod_left]
            rfl
      have e2 := e (S.1 1 - 1)
      rw [show S.1 1 - 1 + 1 = S.1 1 by omega] at e2
      rw [if_pos e2] at h
      exact absurd h (by decide)
  · rw [if_neg q] at h
    exact absurd h (by decide)
def an_chance (S : Sc) (t : Int32) : Int32 := if 0 ≤ t.toInt ∧ t.toInt ≤ 400 then (if sp_over S = 0 then nI (sp_c (sp_rch S 0 t.toInt.toNat)) else iZ (-2)) else iZ (-1)
