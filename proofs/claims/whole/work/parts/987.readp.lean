/-! the draft that is read -/
def dE (k8 : Nat) (dr : Int32) : Sc := (fun k => if k = 2 then k8 else 0, fun _ _ => 0, dr)
def gD (E : Sc) (T : Nat → Nat) (n : Nat) : Nat → Sc
  | 0 => E
  | j + 1 => sc_cell (gD E T n j) (fd_so T n j)
def gF (E : Sc) (T : Nat → Nat) (n : Nat) : Nat → Sc
  | 0 => gD E T n (tk_m T n)
  | j + 1 => sc_add (gF E T n j) (fd_v T n j 0) (fd_v T n j 1) (fd_v T n j 2) (fd_v T n j 3)
theorem so_le (T : Nat → Nat) (n c : Nat) : fd_so T n c ≤ 2 := by
  have h := tk_sg_ok (tk_h T n (tk_c T n c))
  unfold fd_so
  omega
theorem gD_n {E : Sc} {T : Nat → Nat} {n : Nat} (h : E.1 0 = 0) : ∀ j, (gD E T n j).1 0 = j
  | 0 => h
  | j + 1 => by
    have ih := gD_n (T := T) (n := n) h j
    show (gD E T n j).1 0 + 1 = j + 1
    rw [ih]
theorem gD_k {E : Sc} {T : Nat → Nat} {n k : Nat} (hk : k ≠ 0) : ∀ j, (gD E T n j).1 k = E.1 k
  | 0 => rfl
  | j + 1 => (va_up_ne _ _ hk).trans (gD_k hk j)
theorem gD_so {E : Sc} {T : Nat → Nat} {n : Nat} (h : ∀ q, E.2.1 0 q ≤ 2) : ∀ j q, (gD E T n j).2.1 0 q ≤ 2
  | 0, q => h q
  | j + 1, q => by
    show va_up ((gD E T n j).2.1 0) ((gD E T n j).1 0) (fd_so T n j) q ≤ 2
    unfold va_up
    split
    · exact so_le T n j
    · exact gD_so h j q
theorem gD_row {E : Sc} {T : Nat → Nat} {n : Nat} (h : E.1 0 = 0) : ∀ j c, c < j → (gD E T n j).2.1 0 c = fd_so T n c
  | 0, c, hc => absurd hc (Nat.not_lt_zero _)
  | j + 1, c, hc => by
    show va_up ((gD E T n j).2.1 0) ((gD E T n j).1 0) (fd_so T n j) c = _
    rw [gD_n h j]
    by_cases e : c = j
    · rw [e, va_up_self]
    · rw [va_up_ne _ _ e]
      exact gD_row h j c (by omega)
theorem gF_n {E : Sc} {T : Nat → Nat} {n : Nat} (h : E.1 1 = 0) : ∀ j, (gF E T n j).1 1 = j
  | 0 => (gD_k (by decide) _).trans h
  | j + 1 => by
    have ih := gF_n (T := T) (n := n) h j
    show (gF E T n j).1 1 + 1 = j + 1
    rw [ih]
theorem tk_hs {T : Nat → Nat} {n a b : Nat} (h : tk_s T n a = tk_s T n b) : tk_h T n a = tk_h T n b := by
  unfold tk_h
  rw [h]
theorem so_J {T : Nat → Nat} {n b9 i : Nat} (hh : tk_h T n b9 = tk_h T n (tk_c T n i)) (h : ¬ sJ0 (tk_h T n b9) < 0) : nI (fd_so T n i) = iZ (sJ0 (tk_h T n b9)) := by
  have d9 := sJ0_ok (tk_h T n b9)
  rw [← iZ_n]
  unfold fd_so
  rw [← hh]
  exact congrArg iZ (by omega)
/-- as far as they count the same -/
def aS (D S : Sc) : Prop := D.1 0 = S.1 0 ∧ D.1 1 = S.1 1 ∧ D.1 3 = S.1 3 ∧ D.1 4 = S.1 4 ∧ (∀ c, c < S.1 0 → D.2.1 0 c = S.2.1 0 c) ∧ ∀ k, 1 ≤ k → k ≤ 4 → ∀ f, f < S.1 1 → D.2.1 k f = S.2.1 k f
theorem aS_b (S : Sc) (k8 : Nat) (dr : Int32) (T : Nat → Nat) (n : Nat) : aS (gD (dE k8 dr) T n (tk_m T n)) (fd_b S T n) := by
  refine ⟨gD_n rfl _, gD_k (by decide) _, gD_k (by decide) _, gD_k (by decide) _, fun c hc => ?_, fun k _ _ f hf => absurd hf (Nat.not_lt_zero _)⟩
  have hc : c < tk_m T n := hc
  rw [gD_row rfl _ c hc]
  show _ = if c < tk_m T n then fd_so T n c else S.2.1 0 c
  rw [if_pos hc]
theorem up_cg {f g : Nat → Nat} {N : Nat} (h : ∀ q, q < N → f q = g q) (v : Nat) : ∀ q, q < N + 1 → va_up f N v q = va_up g N v q := by
  intro q hq
  by_cases e : q = N
  · rw [e, va_up_self, va_up_self]
  · rw [va_up_ne _ _ e, va_up_ne _ _ e]
    exact h q (by omega)
theorem aS_add {D S : Sc} (h : aS D S) (k a p u : Nat) : aS (sc_add D k a p u) (sc_add S k a p u) := by
  obtain ⟨h0, h1, h3, h4, h5, h6⟩ := h
  refine ⟨h0, ?_, h3, h4, h5, ?_⟩
  · show D.1 1 + 1 = S.1 1 + 1
    rw [h1]
  · intro q q1 q4 f hf
    have hf : f < S.1 1 + 1 := hf
    rcases (show q = 1 ∨ q = 2 ∨ q = 3 ∨ q = 4 by omega) with rfl | rfl | rfl | rfl
    · show va_up (D.2.1 1) (D.1 1) k f = va_up (S.2.1 1) (S.1 1) k f
      rw [h1]
      exact up_cg (h6 1 (by decide) (by decide)) k f hf
    · show va_up (D.2.1 2) (D.1 1) a f = va_up (S.2.1 2) (S.1 1) a f
      rw [h1]
      exact up_cg (h6 2 (by decide) (by decide)) a f hf
    · show va_up (D.2.1 3) (D.1 1) p f = va_up (S.2.1 3) (S.1 1) p f
      rw [h1]
      exact up_cg (h6 3 (by decide) (by decide)) p f hf
    · show va_up (D.2.1 4) (D.1 1) u f = va_up (S.2.1 4) (S.1 1) u f
      rw [h1]
      exact up_cg (h6 4 (by decide) (by decide)) u f hf
theorem aS_F (S : Sc) (k8 : Nat) (dr : Int32) (T : Nat → Nat) (n : Nat) : ∀ j, aS (gF (dE k8 dr) T n j) (fd_S S T n j)
  | 0 => aS_b S k8 dr T n
  | j + 1 => aS_add (aS_F S k8 dr T n j) _ _ _ _
theorem cost_cg {f g : Nat → Nat} : ∀ q, (∀ c, c ≤ q → f c = g c) → pc_cost f q = pc_cost g q
  | 0, _ => rfl
  | q + 1, h => by
    show pc_cost f q + (f (q + 1) + 1) = pc_cost g q + (g (q + 1) + 1)
    rw [cost_cg q (fun c hc => h c (by omega)), h (q + 1) (Nat.le_refl _)]
theorem aS_cn {y : RS} {D S : Sc} (h : aS D S) (hy : cSn y D) : cSn (sI (sI y 8 (nI (S.1 2))) 12 S.2.2) S := by
  obtain ⟨h0, h1, h3, h4, h5, h6⟩ := h
  obtain ⟨y0, y1, y2, y3, y4, y5, y6, y7, y8, y9, y10, y11⟩ := hy
  refine ⟨by rw [← h0]; exact y0, by rw [← h1]; exact y1, rfl, by rw [← h3]; exact y3, by rw [← h4]; exact y4, rfl, fun c hc => ?_, fun c hc => ?_, fun f hf => ?_, fun f hf => ?_, fun f hf => ?_, fun f hf => ?_⟩
  · rw [← h5 c hc]
    exact y6 c (by omega)
  · rw [← cost_cg c (fun q hq => h5 q (by omega))]
    exact y7 c (by omega)
  · rw [← h6 1 (by decide) (by decide) f hf]
    exact y8 f (by omega)
  · rw [← h6 2 (by decide) (by decide) f hf]
    exact y9 f (by omega)
  · rw [← h6 3 (by decide) (by decide) f hf]
    exact y10 f (by omega)
  · rw [← h6 4 (by decide) (by decide) f hf]
    exact y11 f (by omega)
theorem fd_k {S : Sc} {T : Nat → Nat} {n k : Nat} (hk : k ≠ 1) : ∀ j, (fd_S S T n j).1 k = (fd_b S T n).1 k
  | 0 => rfl
  | j + 1 => (va_up_ne _ _ hk).trans (fd_k hk j)
theorem fd_dr {S : Sc} {T : Nat → Nat} {n : Nat} : ∀ j, (fd_S S T n j).2.2 = S.2.2
  | 0 => rfl
  | j + 1 => fd_dr (S := S) (T := T) (n := n) j
theorem fld_c {z9 y : RS} {S : Sc} {T : Nat → Nat} {n K k8 : Nat} {dr : Int32} (hK : K ≤ 5) (hy : cSn y (gF (dE k8 dr) T n K)) (he : cEq z9 (sI (sI y 8 (nI (S.1 2))) 12 S.2.2)) : cSc z9 (fd_S S T n K) := by
  have e2 : (fd_S S T n K).1 2 = S.1 2 := fd_k (by decide) K
  have e4 : (fd_S S T n K).1 4 = 0 := fd_k (by decide) K
  have e0 : (fd_S S T n K).1 0 = tk_m T n := fd_k (by decide) K
  have e1 := fd_n S T n K
  have hm := m_le T n
  have h1 := aS_cn (aS_F S k8 dr T n K) hy
  rw [e2, fd_dr] at h1
  exact cEq_c he (by omega) (by omega) ⟨h1, fun w => absurd e4 w⟩
theorem nI_sj (x9 : Int32) : ∃ k, nI k = x9 := by
  by_cases h : 0 ≤ x9.toInt
  · refine ⟨x9.toInt.toNat, ?_⟩
    rw [← iZ_n, show ((x9.toInt.toNat : Nat) : Int) = x9.toInt by omega]
    exact Int32.ofInt_toInt x9
  · refine ⟨(x9.toInt + 4294967296).toNat, ?_⟩
    have b9 := x9.toInt_lt
    have b8 := x9.le_toInt
    rw [← iZ_n, show (((x9.toInt + 4294967296).toNat : Nat) : Int) = x9.toInt + 4294967296 by omega]
    rw [← iZ_add, show iZ x9.toInt = x9 from Int32.ofInt_toInt x9, show iZ 4294967296 = 0 from by decide]
    simp
/-- a FIGHTER, read: how it goes -/
theorem fkA {T : Nat → Nat} {n a : Nat} (h0 : fk_w0 (tk_h T n a) = 1) : fk_w T n a = 1 ∧ fk_a T n a = tk_s T n a := by
  simp [fk_w, fk_a, fk_q, fk_a3, fk_w2, fk_a2, fk_w1, fk_a1, fk_a0, tk_dw, tk_da, tk_hv, tk_ha, h0]
theorem fkBl {T : Nat → Nat} {n a b0 : Nat} (h0 : fk_w0 (tk_h T n a) = 0) (e0 : b0 = tk_s T n a + 1) (h1 : pc_inI (((tk_h T n b0 : Nat) : Int) - (48 : Int)) 1 9 = 0) : fk_w T n a = 1 ∧ fk_a T n a = tk_s T n b0 := by
  subst e0
  simp [fk_w, fk_a, fk_q, fk_a3, fk_w2, fk_a2, fk_w1, fk_a1, fk_a0, tk_dw, tk_da, tk_hv, tk_ha, h0, h1]
theorem fkB {T : Nat → Nat} {n a b0 : Nat} (h0 : fk_w0 (tk_h T n a) = 0) (e0 : b0 = tk_s T n a + 1) (h1 : pc_inI (((tk_h T n b0 : Nat) : Int) - (48 : Int)) (1 : Nat) (9 : Nat) = 0) : fk_w T n a = 1 ∧ fk_a T n a = tk_s T n b0 :=
  fkBl h0 e0 h1
theorem fkCl {T : Nat → Nat} {n a b0 b1 : Nat} (h0 : fk_w0 (tk_h T n a) = 0) (e0 : b0 = tk_s T n a + 1) (h1 : ¬ pc_inI (((tk_h T n b0 : Nat) : Int) - (48 : Int)) 1 9 = 0) (e1 : b1 = tk_s T n b0 + 1) (h2 : pc_inI (((tk_h T n b1 : Nat) : Int) - (48 : Int)) 1 6 = 0) : fk_w T n a = 1 ∧ fk_a T n a = tk_s T n b1 := by
  subst e0
  subst e1
  simp [fk_w, fk_a, fk_q, fk_a3, fk_w2, fk_a2, fk_w1, fk_a1, fk_a0, tk_dw, tk_da, tk_hv, tk_ha, h0, h1, h2]
theorem fkC {T : Nat → Nat} {n a b0 b1 : Nat} (h0 : fk_w0 (tk_h T n a) = 0) (e0 : b0 = tk_s T n a + 1) (h1 : ¬ pc_inI (((tk_h T n b0 : Nat) : Int) - (48 : Int)) (1 : Nat) (9 : Nat) = 0) (e1 : b1 = tk_s T n b0 + 1) (h2 : pc_inI (((tk_h T n b1 : Nat) : Int) - (48 : Int)) (1 : Nat) (6 : Nat) = 0) : fk_w T n a = 1 ∧ fk_a T n a = tk_s T n b1 :=
  fkCl h0 e0 h1 e1 h2
theorem fkDl {T : Nat → Nat} {n a b0 b1 b2 : Nat} (h0 : fk_w0 (tk_h T n a) = 0) (e0 : b0 = tk_s T n a + 1) (h1 : ¬ pc_inI (((tk_h T n b0 : Nat) : Int) - (48 : Int)) 1 9 = 0) (e1 : b1 = tk_s T n b0 + 1) (h2 : ¬ pc_inI (((tk_h T n b1 : Nat) : Int) - (48 : Int)) 1 6 = 0) (e2 : b2 = tk_s T n b1 + 1) (h3 : ¬ tk_h T n b2 = 45) : fk_w T n a = 0 ∧ fk_a T n a = tk_s T n b2 ∧ fk_v T n a 1 = ((tk_h T n b0 : Nat) : Int) - 48 ∧ fk_v T n a 2 = ((tk_h T n b1 : Nat) : Int) - 48 ∧ fk_v T n a 3 = 0 := by
  subst e0
  subst e1
  subst e2
  simp [fk_w, fk_a, fk_v, fk_q, fk_a3, fk_w2, fk_a2, fk_w1, fk_a1, fk_a0, tk_dw, tk_dv, tk_da, tk_hv, tk_ha, h0, h1, h2, h3]
theorem fkD {T : Nat → Nat} {n a b0 b1 b2 : Nat} (h0 : fk_w0 (tk_h T n a) = 0) (e0 : b0 = tk_s T n a + 1) (h1 : ¬ pc_inI (((tk_h T n b0 : Nat) : Int) - (48 : Int)) (1 : Nat) (9 : Nat) = 0) (e1 : b1 = tk_s T n b0 + 1) (h2 : ¬ pc_inI (((tk_h T n b1 : Nat) : Int) - (48 : Int)) (1 : Nat) (6 : Nat) = 0) (e2 : b2 = tk_s T n b1 + 1) (h3 : ¬ tk_h T n b2 = 45) : fk_w T n a = 0 ∧ fk_a T n a = tk_s T n b2 ∧ fk_v T n a 1 = ((tk_h T n b0 : Nat) : Int) - 48 ∧ fk_v T n a 2 = ((tk_h T n b1 : Nat) : Int) - 48 ∧ fk_v T n a 3 = 0 :=
  fkDl h0 e0 h1 e1 h2 e2 h3
theorem fkEl {T : Nat → Nat} {n a b0 b1 b2 b3 : Nat} (h0 : fk_w0 (tk_h T n a) = 0) (e0 : b0 = tk_s T n a + 1) (h1 : ¬ pc_inI (((tk_h T n b0 : Nat) : Int) - (48 : Int)) 1 9 = 0) (e1 : b1 = tk_s T n b0 + 1) (h2 : ¬ pc_inI (((tk_h T n b1 : Nat) : Int) - (48 : Int)) 1 6 = 0) (e2 : b2 = tk_s T n b1 + 1) (h3 : tk_h T n b2 = 45) (e3 : b3 = tk_s T n b2 + 1) (h4 : pc_inI (((tk_h T n b3 : Nat) : Int) - (48 : Int)) 0 6 = 0) : fk_w T n a = 1 ∧ fk_a T n a = tk_s T n b3 := by
  subst e0
  subst e1
  subst e2
  subst e3
  simp [fk_w, fk_a, fk_q, fk_a3, fk_w2, fk_a2, fk_w1, fk_a1, fk_a0, tk_dw, tk_da, tk_hv, tk_ha, h0, h1, h2, h3, h4]
theorem fkE {T : Nat → Nat} {n a b0 b1 b2 b3 : Nat} (h0 : fk_w0 (tk_h T n a) = 0) (e0 : b0 = tk_s T n a + 1) (h1 : ¬ pc_inI (((tk_h T n b0 : Nat) : Int) - (48 : Int)) (1 : Nat) (9 : Nat) = 0) (e1 : b1 = tk_s T n b0 + 1) (h2 : ¬ pc_inI (((tk_h T n b1 : Nat) : Int) - (48 : Int)) (1 : Nat) (6 : Nat) = 0) (e2 : b2 = tk_s T n b1 + 1) (h3 : tk_h T n b2 = 45) (e3 : b3 = tk_s T n b2 + 1) (h4 : pc_inI (((tk_h T n b3 : Nat) : Int) - (48 : Int)) (0 : Nat) (6 : Nat) = 0) : fk_w T n a = 1 ∧ fk_a T n a = tk_s T n b3 :=
  fkEl h0 e0 h1 e1 h2 e2 h3 e3 h4
theorem fkFl {T : Nat → Nat} {n a b0 b1 b2 b3 : Nat} (h0 : fk_w0 (tk_h T n a) = 0) (e0 : b0 = tk_s T n a + 1) (h1 : ¬ pc_inI (((tk_h T n b0 : Nat) : Int) - (48 : Int)) 1 9 = 0) (e1 : b1 = tk_s T n b0 + 1) (h2 : ¬ pc_inI (((tk_h T n b1 : Nat) : Int) - (48 : Int)) 1 6 = 0) (e2 : b2 = tk_s T n b1 + 1) (h3 : tk_h T n b2 = 45) (e3 : b3 = tk_s T n b2 + 1) (h4 : ¬ pc_inI (((tk_h T n b3 : Nat) : Int) - (48 : Int)) 0 6 = 0) : fk_w T n a = 0 ∧ fk_a T n a = tk_s T n b3 + 1 ∧ fk_v T n a 1 = ((tk_h T n b0 : Nat) : Int) - 48 ∧ fk_v T n a 2 = ((tk_h T n b1 : Nat) : Int) - 48 ∧ fk_v T n a 3 = ((tk_h T n b3 : Nat) : Int) - 48 := by
  subst e0
  subst e1
  subst e2
  subst e3
  simp [fk_w, fk_a, fk_v, fk_q, fk_a3, fk_w2, fk_a2, fk_w1, fk_a1, fk_a0, tk_dw, tk_dv, tk_da, tk_hv, tk_ha, h0, h1, h2, h3, h4]
theorem fkF {T : Nat → Nat} {n a b0 b1 b2 b3 : Nat} (h0 : fk_w0 (tk_h T n a) = 0) (e0 : b0 = tk_s T n a + 1) (h1 : ¬ pc_inI (((tk_h T n b0 : Nat) : Int) - (48 : Int)) (1 : Nat) (9 : Nat) = 0) (e1 : b1 = tk_s T n b0 + 1) (h2 : ¬ pc_inI (((tk_h T n b1 : Nat) : Int) - (48 : Int)) (1 : Nat) (6 : Nat) = 0) (e2 : b2 = tk_s T n b1 + 1) (h3 : tk_h T n b2 = 45) (e3 : b3 = tk_s T n b2 + 1) (h4 : ¬ pc_inI (((tk_h T n b3 : Nat) : Int) - (48 : Int)) (0 : Nat) (6 : Nat) = 0) : fk_w T n a = 0 ∧ fk_a T n a = tk_s T n b3 + 1 ∧ fk_v T n a 1 = ((tk_h T n b0 : Nat) : Int) - 48 ∧ fk_v T n a 2 = ((tk_h T n b1 : Nat) : Int) - 48 ∧ fk_v T n a 3 = ((tk_h T n b3 : Nat) : Int) - 48 :=
  fkFl h0 e0 h1 e1 h2 e2 h3 e3 h4
/-- a digit -/
def dgv (T : Nat → Nat) (n lo hi b : Nat) : Int := if pc_inI (((tk_h T n b : Nat) : Int) - (48 : Int)) lo hi = 0 then -1 else ((tk_h T n b : Nat) : Int) - (48 : Int)
def dga (T : Nat → Nat) (n lo hi b : Nat) : Nat := tk_s T n b + (if pc_inI (((tk_h T n b : Nat) : Int) - (48 : Int)) lo hi = 0 then 0 else 1)
theorem dg_ok (T : Nat → Nat) (n lo hi b : Nat) : (pc_inI (((tk_h T n b : Nat) : Int) - (48 : Int)) lo hi = 0 ∧ dgv T n lo hi b = -1 ∧ dga T n lo hi b = tk_s T n b) ∨ (¬ pc_inI (((tk_h T n b : Nat) : Int) - (48 : Int)) lo hi = 0 ∧ dgv T n lo hi b = ((tk_h T n b : Nat) : Int) - (48 : Int) ∧ dga T n lo hi b = tk_s T n b + 1 ∧ (lo : Int) ≤ dgv T n lo hi b ∧ dgv T n lo hi b ≤ (hi : Int)) := by
  have d9 := pc_inI_ok (((tk_h T n b : Nat) : Int) - (48 : Int)) lo hi
  unfold dgv dga
  by_cases q : pc_inI (((tk_h T n b : Nat) : Int) - (48 : Int)) lo hi = 0
  · rw [if_pos q, if_pos q]
    exact Or.inl ⟨q, rfl, rfl⟩
  · rw [if_neg q, if_neg q]
    exact Or.inr ⟨q, rfl, rfl, by omega, by omega⟩
theorem dg_r {T : Nat → Nat} {n lo hi b : Nat} {r : Int32} {z z9 : RS} (h : (pc_inI (((tk_h T n b : Nat) : Int) - (48 : Int)) lo hi = 0 → r = iZ (-1) ∧ z9.1 2 = nI (tk_s T n b)) ∧ (¬ pc_inI (((tk_h T n b : Nat) : Int) - (48 : Int)) lo hi = 0 → r = iZ (((tk_h T n b : Nat) : Int) - (48 : Int)) ∧ z9.1 2 = nI (tk_s T n b + 1)) ∧ tkF z z9) : r = iZ (dgv T n lo hi b) ∧ z9.1 2 = nI (dga T n lo hi b) ∧ tkF z z9 := by
  unfold dgv dga
  by_cases q : pc_inI (((tk_h T n b : Nat) : Int) - (48 : Int)) lo hi = 0
  · rw [if_pos q, if_pos q]
    exact ⟨(h.1 q).1, (h.1 q).2, h.2.2⟩
  · rw [if_neg q, if_neg q]
    exact ⟨(h.2.1 q).1, (h.2.1 q).2, h.2.2⟩
theorem i10 (q : Prop) [Decidable q] : (q ∧ (if q then 1 else 0 : Nat) = 1) ∨ (¬ q ∧ (if q then 1 else 0 : Nat) = 0) := by
  by_cases h : q
  · rw [if_pos h]
    exact Or.inl ⟨h, rfl⟩
  · rw [if_neg h]
    exact Or.inr ⟨h, rfl⟩
/-- the FIGHTERS' list -/
def rfl9 (T : Nat → Nat) (n : Nat) : Nat := gk_p T n (ps_0 T n) (gk_f T n (ps_0 T n) 5 0 - 1)
def rfW (T : Nat → Nat) (n : Nat) : Nat := if fk_w T n (rfl9 T n) = 0 then (if tk_h T n (fk_a T n (rfl9 T n)) = 0 then 1 else 0) else 0
def rfA (T : Nat → Nat) (n : Nat) : Nat := if fk_w T n (rfl9 T n) = 0 then tk_s T n (fk_a T n (rfl9 T n)) else fk_a T n (rfl9 T n)
theorem gmN {T : Nat → Nat} {n a0 i : Nat} (h : 4 ≤ i ∨ ¬ fk_w T n (gk_p T n a0 i) = 0 ∨ ¬ tk_h T n (fk_a T n (gk_p T n a0 i)) = 44) : gk_m T n a0 i = 0 := by
  unfold gk_m tk_hv
  by_cases q : 4 ≤ i
  · rw [if_pos q]
  · rw [if_neg q]
    by_cases q2 : fk_w T n (gk_p T n a0 i) = 0
    · rw [if_pos q2]
      exact if_neg (by omega)
    · rw [if_neg q2]
theorem gmY {T : Nat → Nat} {n a0 i : Nat} (h : i < 4) (hw : fk_w T n (gk_p T n a0 i) = 0) (hh : tk_h T n (fk_a T n (gk_p T n a0 i)) = 44) : ¬ gk_m T n a0 i = 0 ∧ gk_p T n a0 (i + 1) = tk_s T n (fk_a T n (gk_p T n a0 i)) + 1 := by
  refine ⟨?_, ?_⟩
  · unfold gk_m tk_hv
    rw [if_neg (by omega), if_pos hw, if_pos hh]
    decide
  · show tk_ha T n 44 (fk_a T n (gk_p T n a0 i)) (fk_w T n (gk_p T n a0 i)) = _
    unfold tk_ha
    rw [if_pos hw, if_pos hh]
theorem rf_l {T : Nat → Nat} {n i : Nat} (h : i + 1 = gk_f T n (ps_0 T n) 5 0) : rfl9 T n = gk_p T n (ps_0 T n) i := by
  unfold rfl9
  rw [← h, Nat.add_sub_cancel]
theorem rf_0 {T : Nat → Nat} {n i : Nat} (h : i + 1 = gk_f T n (ps_0 T n) 5 0) (hw : ¬ fk_w T n (gk_p T n (ps_0 T n) i) = 0) : rfW T n = 0 ∧ rfA T n = fk_a T n (gk_p T n (ps_0 T n) i) := by
  unfold rfW rfA
  rw [rf_l h, if_neg hw, if_neg hw]
  exact ⟨rfl, rfl⟩
theorem rf_1 {T : Nat → Nat} {n i : Nat} (h : i + 1 = gk_f T n (ps_0 T n) 5 0) (hw : fk_w T n (gk_p T n (ps_0 T n) i) = 0) (hh : tk_h T n (fk_a T n (gk_p T n (ps_0 T n) i)) = 0) : rfW T n = 1 ∧ rfA T n = tk_s T n (fk_a T n (gk_p T n (ps_0 T n) i)) := by
  unfold rfW rfA
  rw [rf_l h, if_pos hw, if_pos hw, if_pos hh]
  exact ⟨rfl, rfl⟩
theorem rf_2 {T : Nat → Nat} {n i : Nat} (h : i + 1 = gk_f T n (ps_0 T n) 5 0) (hw : fk_w T n (gk_p T n (ps_0 T n) i) = 0) (hh : ¬ tk_h T n (fk_a T n (gk_p T n (ps_0 T n) i)) = 0) : rfW T n = 0 ∧ rfA T n = tk_s T n (fk_a T n (gk_p T n (ps_0 T n) i)) := by
  unfold rfW rfA
  rw [rf_l h, if_pos hw, if_pos hw, if_neg hh]
  exact ⟨rfl, rfl⟩
/-- the whole text -/
theorem pw_a {T : Nat → Nat} {n : Nat} (h : ¬ tk_h T n 0 = 46) : ps_W T n = 1 ∧ ps_A T n = tk_s T n 0 := by
  unfold ps_W ps_A
  rw [if_neg h, if_neg h]
  exact ⟨rfl, rfl⟩
theorem pw_b {T : Nat → Nat} {n : Nat} (h : tk_h T n 0 = 46) (h2 : tk_h T n (ps_e T n) = 0) : ps_W T n = 0 ∧ ps_A T n = tk_s T n (ps_e T n) ∧ ps_K T n = 0 := by
  unfold ps_W ps_A ps_K
  have h3 : ¬ tk_h T n (ps_e T n) = 59 := by omega
  rw [if_pos h, if_pos h, if_neg h3, if_neg h3, if_pos h2, if_neg (fun w9 => h3 w9.2)]
  exact ⟨rfl, rfl, rfl⟩
theorem pw_c {T : Nat → Nat} {n : Nat} (h : tk_h T n 0 = 46) (h2 : ¬ tk_h T n (ps_e T n) = 0) (h3 : ¬ tk_h T n (ps_e T n) = 59) : ps_W T n = 1 ∧ ps_A T n = tk_s T n (ps_e T n) := by
  unfold ps_W ps_A
  rw [if_pos h, if_pos h, if_neg h3, if_neg h3, if_neg h2]
  exact ⟨rfl, rfl⟩
theorem pw_d {T : Nat → Nat} {n : Nat} (h : tk_h T n 0 = 46) (h3 : tk_h T n (ps_e T n) = 59) : (rfW T n = 1 → ps_W T n = 0) ∧ (rfW T n = 0 → ps_W T n = 1) ∧ (rfW T n = 0 ∨ rfW T n = 1) ∧ ps_A T n = rfA T n ∧ ps_K T n = gk_f T n (ps_0 T n) 5 0 := by
  have eK : ps_K T n = gk_f T n (ps_0 T n) 5 0 := by
    unfold ps_K
    rw [if_pos ⟨h, h3⟩]
  have el : ps_l T n = rfl9 T n := by
    unfold ps_l rfl9
    rw [eK]
  unfold ps_W ps_A rfW rfA
  rw [if_pos h, if_pos h, if_pos h3, if_pos h3, el]
  refine ⟨?_, ?_, ?_, rfl, eK⟩
  · by_cases q : fk_w T n (rfl9 T n) = 0
    · rw [if_pos q, if_pos q]
      by_cases q2 : tk_h T n (fk_a T n (rfl9 T n)) = 0
      · rw [if_pos q2, if_pos q2]
        exact fun _ => rfl
      · rw [if_neg q2]
        exact fun g9 => absurd g9 (by decide)
    · rw [if_neg q]
      exact fun g9 => absurd g9 (by decide)
  · by_cases q : fk_w T n (rfl9 T n) = 0
    · rw [if_pos q, if_pos q]
      by_cases q2 : tk_h T n (fk_a T n (rfl9 T n)) = 0
      · rw [if_pos q2]
        exact fun g9 => absurd g9 (by decide)
      · rw [if_neg q2, if_neg q2]
        exact fun _ => rfl
    · rw [if_neg q, if_neg q]
      exact fun _ => rfl
  · by_cases q : fk_w T n (rfl9 T n) = 0
    · rw [if_pos q]
      by_cases q2 : tk_h T n (fk_a T n (rfl9 T n)) = 0
      · rw [if_pos q2]
        exact Or.inr rfl
      · rw [if_neg q2]
        exact Or.inl rfl
    · rw [if_neg q]
      exact Or.inl rfl
theorem dE_cn {y : RS} {k8 : Nat} (h : y.1 8 = nI k8) : cSn (sI (sI (sI (sI y 0 (nI 0)) 3 (nI 0)) 9 (nI 0)) 10 (iZ (-4))) (dE k8 (y.1 12)) :=
  ⟨rfl, rfl, h, rfl, (show iZ (-4) = pc_sd 0 from by decide), rfl, fun c hc => absurd hc (Nat.not_lt_zero _), fun c hc => absurd hc (Nat.not_lt_zero _), fun c hc => absurd hc (Nat.not_lt_zero _), fun c hc => absurd hc (Nat.not_lt_zero _), fun c hc => absurd hc (Nat.not_lt_zero _), fun c hc => absurd hc (Nat.not_lt_zero _)⟩
