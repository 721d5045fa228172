/-! the fights to their end -/
def sp_hs (S : Sc) : Nat := S.2.1 4 0 + S.2.1 4 1 + S.2.1 4 2 + S.2.1 4 3 + S.2.1 4 4
def sp_cm420 (S : Sc) : Prop := ∀ f, 1 ≤ f → f < S.1 1 → pc_dn S f = 0 → S.2.1 5 f ≤ 420
def gdo (S : Sc) : Prop := oSc S ∧ sp_cm420 S ∧ S.1 3 ≤ 430 + sp_hs S
def sp_mu (S : Sc) : Nat := 1000 * (30 - sp_hs S) + (500 - S.1 3)
theorem hs_le {S : Sc} (ho : oSc S) : sp_hs S ≤ 30 := by
  have h := ho.2.2.2.2.2.2.2.2.2.2.1
  have h0 := h 0
  have h1 := h 1
  have h2 := h 2
  have h3 := h 3
  have h4 := h 4
  unfold sp_hs
  omega
theorem dnL_all {S : Sc} (h0 : pc_dn S 0 = 0) : ∀ n, (∀ f, 1 ≤ f → f < n + 1 → ¬ pc_dn S f = 0) → sp_dnL S (n + 1) = 2 ^ (n + 1) - 2
  | 0, _ => by
    show (0 ||| (if pc_dn S 0 = 0 then 0 else 2 ^ 0)) = _
    rw [if_pos h0]
    rfl
  | n + 1, h => by
    have ih := dnL_all h0 n (fun f a b => h f a (by omega))
    show (sp_dnL S (n + 1) ||| (if pc_dn S (n + 1) = 0 then 0 else 2 ^ (n + 1))) = _
    rw [if_neg (h (n + 1) (by omega) (by omega)), ih]
    have hp : 2 ≤ 2 ^ (n + 1) := by
      rw [Nat.pow_succ]
      have := Nat.one_le_two_pow (n := n)
      omega
    have hq : 2 ^ (n + 1 + 1) = 2 ^ (n + 1) + 2 ^ (n + 1) := by rw [Nat.pow_succ]; omega
    have hd := Nat.two_pow_add_eq_or_of_lt (i := n + 1) (b := 2 ^ (n + 1) - 2) (by omega) 1
    rw [Nat.mul_one] at hd
    rw [Nat.or_comm, ← hd, hq]
    omega
theorem ov_up {S : Sc} (h : sp_over S = 0) : ∃ f, 1 ≤ f ∧ f < S.1 1 ∧ pc_dn S f = 0 := by
  obtain ⟨h2, h0⟩ := ov_0 h
  by_cases q : ∃ f, 1 ≤ f ∧ f < S.1 1 ∧ pc_dn S f = 0
  · exact q
  · exfalso
    have ha := dnL_all h0 (S.1 1 - 1) (fun f a b d => q ⟨f, a, by omega, d⟩)
    rw [show S.1 1 - 1 + 1 = S.1 1 by omega] at ha
    unfold sp_over at h
    rw [if_pos h2, if_neg ?_, if_pos ha] at h
    · exact absurd h (by decide)
    · intro q1
      rw [ha] at q1
      have e : 2 ^ S.1 1 - 2 = 2 * (2 ^ (S.1 1 - 1) - 1) := by
        have : 2 ^ S.1 1 = 2 ^ (S.1 1 - 1) * 2 := by rw [← Nat.pow_succ]; exact congrArg _ (by omega)
        omega
      rw [e, Nat.and_one_is_mod] at q1
      omega
theorem mtL_0 (S : Sc) (en : Nat) : ∀ n, sp_mtL S en n = 0 → ∀ f, 1 ≤ f → f ≤ n → pc_dn S f = 0 → en < S.2.1 5 f
  | 0, _, f, h1, h2, _ => absurd h1 (by omega)
  | n + 1, h, f, h1, h2, hd => by
    have e : sp_mtL S en (n + 1) = if (if pc_dn S (n + 1) = 0 then (if en < S.2.1 5 (n + 1) then 0 else (if sp_mtL S en n = 0 then 1 else (if S.2.1 5 (sp_mtL S en n) ≤ S.2.1 5 (n + 1) then 0 else 1))) else 0) = 0 then sp_mtL S en n else n + 1 := rfl
    rw [e] at h
    by_cases q : (if pc_dn S (n + 1) = 0 then (if en < S.2.1 5 (n + 1) then 0 else (if sp_mtL S en n = 0 then 1 else (if S.2.1 5 (sp_mtL S en n) ≤ S.2.1 5 (n + 1) then 0 else 1))) else 0) = 0
    · rw [if_pos q] at h
      by_cases ef : f = n + 1
      · subst ef
        rw [if_pos hd] at q
        by_cases q2 : en < S.2.1 5 (n + 1)
        · exact q2
        · rw [if_neg q2, if_pos h] at q
          exact absurd q (by decide)
      · exact mtL_0 S en n h f h1 (by omega) hd
    · rw [if_neg q] at h
      exact absurd h (by omega)
theorem mtL_y (S : Sc) (en : Nat) : ∀ n, ¬ sp_mtL S en n = 0 → pc_dn S (sp_mtL S en n) = 0 ∧ S.2.1 5 (sp_mtL S en n) ≤ en
  | 0, h => absurd rfl h
  | n + 1, h => by
    have e : sp_mtL S en (n + 1) = if (if pc_dn S (n + 1) = 0 then (if en < S.2.1 5 (n + 1) then 0 else (if sp_mtL S en n = 0 then 1 else (if S.2.1 5 (sp_mtL S en n) ≤ S.2.1 5 (n + 1) then 0 else 1))) else 0) = 0 then sp_mtL S en n else n + 1 := rfl
    rw [e] at h ⊢
    by_cases q : (if pc_dn S (n + 1) = 0 then (if en < S.2.1 5 (n + 1) then 0 else (if sp_mtL S en n = 0 then 1 else (if S.2.1 5 (sp_mtL S en n) ≤ S.2.1 5 (n + 1) then 0 else 1))) else 0) = 0
    · rw [if_pos q] at h ⊢
      exact mtL_y S en n h
    · rw [if_neg q]
      by_cases q1 : pc_dn S (n + 1) = 0
      · rw [if_pos q1] at q
        by_cases q2 : en < S.2.1 5 (n + 1)
        · rw [if_pos q2] at q
          exact absurd rfl q
        · exact ⟨q1, by omega⟩
      · rw [if_neg q1] at q
        exact absurd rfl q
theorem hs_up {S : Sc} {k : Nat} (hk : k < 5) : sp_hs (sR S 4 k (S.2.1 4 k + 1)) = sp_hs S + 1 := by
  show va_up (S.2.1 4) k (S.2.1 4 k + 1) 0 + va_up (S.2.1 4) k (S.2.1 4 k + 1) 1 + va_up (S.2.1 4) k (S.2.1 4 k + 1) 2 + va_up (S.2.1 4) k (S.2.1 4 k + 1) 3 + va_up (S.2.1 4) k (S.2.1 4 k + 1) 4 = _
  unfold sp_hs
  rcases (show k = 0 ∨ k = 1 ∨ k = 2 ∨ k = 3 ∨ k = 4 by omega) with rfl | rfl | rfl | rfl | rfl
  · show S.2.1 4 0 + 1 + S.2.1 4 1 + S.2.1 4 2 + S.2.1 4 3 + S.2.1 4 4 = _
    omega
  · show S.2.1 4 0 + (S.2.1 4 1 + 1) + S.2.1 4 2 + S.2.1 4 3 + S.2.1 4 4 = _
    omega
  · show S.2.1 4 0 + S.2.1 4 1 + (S.2.1 4 2 + 1) + S.2.1 4 3 + S.2.1 4 4 = _
    omega
  · show S.2.1 4 0 + S.2.1 4 1 + S.2.1 4 2 + (S.2.1 4 3 + 1) + S.2.1 4 4 = _
    omega
  · show S.2.1 4 0 + S.2.1 4 1 + S.2.1 4 2 + S.2.1 4 3 + (S.2.1 4 4 + 1) = _
    omega
theorem dn_up {S : Sc} {k f : Nat} (h : pc_dn (sR S 4 k (S.2.1 4 k + 1)) f = 0) (hk : pc_dn S k = 0) : pc_dn S f = 0 := by
  by_cases e : f = k
  · rw [e]
    exact hk
  · have h2 : (if va_up (S.2.1 4) k (S.2.1 4 k + 1) f = 6 then 1 else 0) = 0 := h
    rw [va_up_ne _ _ e] at h2
    exact h2
theorem who_up {S : Sc} (h : sp_over S = 0) (hm : ¬ sp_mt S (S.1 3 + 1) = 0) (ho : oSc S) : pc_dn S (sp_who S (sp_mt S (S.1 3 + 1))) = 0 ∧ sp_who S (sp_mt S (S.1 3 + 1)) < 5 := by
  have h1 := mtL_y S (S.1 3 + 1) _ hm
  have h2 := sp_mtL_le S (S.1 3 + 1) (S.1 1 - 1)
  have h3 := ho.2.2.1
  unfold sp_who
  split
  · exact ⟨(ov_0 h).2, by decide⟩
  · refine ⟨h1.1, ?_⟩
    show sp_mtL S (S.1 3 + 1) (S.1 1 - 1) < 5
    omega
theorem fg_y {S : Sc} (ho : oSc S) (hc : sp_cm420 S) (hm : S.1 3 ≤ 430 + sp_hs S) {k : Nat} (d : Int32) (w1 : pc_dn S k = 0) (w2 : k < 5) : gdo (sR (sD (sN S 3 (S.1 3 + 1)) d) 4 k (S.2.1 4 k + 1)) ∧ sp_mu (sR (sD (sN S 3 (S.1 3 + 1)) d) 4 k (S.2.1 4 k + 1)) < sp_mu S := by
  have hl := hs_le ho
  have w5 := dn_5 ho w1
  have hs1 := hs_up (S := S) w2
  have e9 : sp_hs (sR (sD (sN S 3 (S.1 3 + 1)) d) 4 k (S.2.1 4 k + 1)) = sp_hs S + 1 := hs1
  have ho1 : oSc (sN S 3 (S.1 3 + 1)) := oSc_mo (m := S.1 3 + 1) ho (by omega)
  have ho2 : oSc (sR (sD (sN S 3 (S.1 3 + 1)) d) 4 k (S.2.1 4 k + 1)) := oSc_hu (S := sD (sN S 3 (S.1 3 + 1)) d) ho1 (by omega)
  have m8 : (sR (sD (sN S 3 (S.1 3 + 1)) d) 4 k (S.2.1 4 k + 1)).1 3 = S.1 3 + 1 := rfl
  have hl2 := hs_le ho2
  rw [e9] at hl2
  refine ⟨⟨ho2, ?_, ?_⟩, ?_⟩
  · intro f f1 f2 f3
    exact hc f f1 f2 (dn_up (S := S) (k := k) f3 w1)
  · rw [e9, m8]
    omega
  · unfold sp_mu
    rw [e9, m8]
    omega
theorem fg_n {S : Sc} (ho : oSc S) (hc : sp_cm420 S) (hm : S.1 3 ≤ 430 + sp_hs S) (h : sp_over S = 0) (q : sp_mt S (S.1 3 + 1) = 0) : gdo (sN S 3 (S.1 3 + 1)) ∧ sp_mu (sN S 3 (S.1 3 + 1)) < sp_mu S := by
  have hl := hs_le ho
  obtain ⟨f, f1, f2, f3⟩ := ov_up h
  have h1 := mtL_0 S (S.1 3 + 1) _ q f f1 (by omega) f3
  have h2 := hc f f1 f2 f3
  have m8 : (sN S 3 (S.1 3 + 1)).1 3 = S.1 3 + 1 := rfl
  have m9 : sp_hs (sN S 3 (S.1 3 + 1)) = sp_hs S := rfl
  refine ⟨⟨oSc_mo ho (by omega), hc, ?_⟩, ?_⟩
  · rw [m8, m9]
    omega
  · unfold sp_mu
    rw [m8, m9]
    omega
theorem fg_gdo {S : Sc} (hg : gdo S) (h : sp_over S = 0) : gdo (sp_fgS S) ∧ sp_mu (sp_fgS S) < sp_mu S := by
  unfold sp_fgS
  by_cases q : sp_mt S (S.1 3 + 1) = 0
  · rw [if_pos q]
    exact fg_n hg.1 hg.2.1 hg.2.2 h q
  · rw [if_neg q]
    obtain ⟨w1, w2⟩ := who_up h q hg.1
    exact fg_y hg.1 hg.2.1 hg.2.2 _ w1 w2
def sp_war : Nat → Sc → Sc
  | 0, S => S
  | n + 1, S => if sp_over S = 0 then sp_war n (sp_fgS S) else S
theorem war_end : ∀ n S, gdo S → sp_mu S < n → ¬ sp_over (sp_war n S) = 0
  | 0, _, _, h => absurd h (Nat.not_lt_zero _)
  | n + 1, S, hg, h => by
    unfold sp_war
    by_cases q : sp_over S = 0
    · rw [if_pos q]
      have hh := fg_gdo hg q
      exact war_end n _ hh.1 (by omega)
    · rw [if_neg q]
      exact q
theorem war_st : ∀ n S, ¬ sp_over (sp_war n S) = 0 → sp_war (n + 1) S = sp_war n S
  | 0, S, h => if_neg h
  | n + 1, S, h => by
    have e1 : sp_war (n + 1) S = if sp_over S = 0 then sp_war n (sp_fgS S) else S := rfl
    have e2 : sp_war (n + 1 + 1) S = if sp_over S = 0 then sp_war (n + 1) (sp_fgS S) else S := rfl
    by_cases q : sp_over S = 0
    · rw [if_pos q] at e1 e2
      rw [e1] at h
      rw [e1, e2]
      exact war_st n _ h
    · rw [if_neg q] at e1 e2
      rw [e1, e2]
def sp_wr (S : Sc) : Sc := sp_war 31000 S
theorem mu_le (S : Sc) : sp_mu S ≤ 30500 := by
  unfold sp_mu
  omega
theorem wr_s {S : Sc} (hg : gdo S) (h : sp_over S = 0) : sp_wr (sp_fgS S) = sp_wr S := by
  have hh := fg_gdo hg h
  have hm := mu_le (sp_fgS S)
  have h1 : sp_wr (sp_fgS S) = sp_war 30999 (sp_fgS S) := war_st 30999 _ (war_end _ _ hh.1 (by omega))
  have h2 : sp_wr S = sp_war 30999 (sp_fgS S) := if_pos h
  rw [h1, h2]
theorem wr_e {S : Sc} (h : ¬ sp_over S = 0) : sp_wr S = S := if_neg h
def sp_fds (S : Sc) (t : Nat) : Nat → Nat × Int32
  | 0 => (0, S.2.2)
  | k + 1 => ((sp_fds S t k).1 + (if sp_over (sp_wr (sp_rch (sD S (sp_fds S t k).2) 0 t)) = 1 then 1 else 0), (sp_wr (sp_rch (sD S (sp_fds S t k).2) 0 t)).2.2)
def an_flds (S : Sc) (t n : Int32) : Int32 := if (0 ≤ t.toInt ∧ t.toInt ≤ 400) ∧ 1 ≤ n.toInt ∧ n.toInt ≤ 90 then (if sp_over S = 0 then nI (sp_fds S t.toInt.toNat n.toInt.toNat).1 else iZ (-2)) else iZ (-1)
def nx_flds (S : Sc) (t n : Int32) : Sc := if ((0 ≤ t.toInt ∧ t.toInt ≤ 400) ∧ 1 ≤ n.toInt ∧ n.toInt ≤ 90) ∧ sp_over S = 0 then sD S (sp_fds S t.toInt.toNat n.toInt.toNat).2 else S
theorem gdo_rch {S : Sc} (ho : oSc S) (hc : ¬ S.1 4 = 0 → sp_cm420 S) {t : Nat} (ht : t ≤ 400) (hm : S.1 3 ≤ 400) : gdo (sp_rch S 0 t) := by
  unfold sp_rch
  by_cases q : S.1 4 = 0
  · rw [if_pos q]
    have h1 := sp_tm_le S 0 (t - S.1 3) (S.1 3)
    refine ⟨oSc_turn ho 0 (by omega), ?_, ?_⟩
    · intro f f1 f2 f3
      show sp_cm S 0 _ f ≤ 420
      have f2' : f < S.1 1 := f2
      have hd : pc_dn S f = 0 := (ev_dn (ev_turn S 0 _) f).symm.trans f3
      unfold sp_cm
      rw [if_neg (by omega), if_neg (by omega), if_pos hd]
      have hr := sp_run_lt S ho (sp_tm S 0 (t - S.1 3) (S.1 3))
      have h40 := ho.2.1
      exact sp_com_le S ho 0 f _ (by omega)
    · show sp_tm S 0 (t - S.1 3) (S.1 3) ≤ 430 + _
      omega
  · rw [if_neg q]
    exact ⟨ho, hc q, by omega⟩
theorem fd_back {z z' : RS} {S : Sc} {d : Int32} (hz : rSc z S) (f : rFr [] [5, 17] z z') (hn : ∀ k, k < 13 → k ≠ 2 → z'.2.1 5 k = z.2.1 5 k) (h2 : z'.2.1 5 2 = d) : rSc z' (sD S d) := by
  obtain ⟨h1, h3, h4, h5, h6, h7, h8, h9, h10, h11, h12, h13⟩ := hz
  refine ⟨(f.1 0 (by decide)).trans h1, (f.1 1 (by decide)).trans h3, (f.1 4 (by decide)).trans h4, (hn 0 (by omega) (by omega)).trans h5, (hn 1 (by omega) (by omega)).trans h6, h2, fun q hq => (congrFun (f.2.1 2 (by decide)) q).trans (h8 q hq), fun q hq => (congrFun (f.2.1 3 (by decide)) _).trans (h9 q hq), fun q hq => (congrFun (f.2.1 3 (by decide)) _).trans (h10 q hq), fun q hq => (congrFun (f.2.1 3 (by decide)) _).trans (h11 q hq), fun q hq => (hn (3 + q) (by omega) (by omega)).trans (h12 q hq), fun q hq => (hn (8 + q) (by omega) (by omega)).trans (h13 q hq)⟩
