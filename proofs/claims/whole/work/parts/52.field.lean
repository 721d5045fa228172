/-! the FIELD that is read -/
def fd_so (T : Nat → Nat) (n c : Nat) : Nat := (tk_sg (tk_h T n (tk_c T n c))).toNat
def fd_b (S : Sc) (T : Nat → Nat) (n : Nat) : Sc := (va_up (va_up (va_up (va_up S.1 0 (tk_m T n)) 1 0) 3 0) 4 0, va_up S.2.1 0 (fun c => if c < tk_m T n then fd_so T n c else S.2.1 0 c), S.2.2)
def fd_v (T : Nat → Nat) (n j i : Nat) : Nat := (fk_v T n (gk_p T n (ps_0 T n) j) i).toNat
def fd_S (S : Sc) (T : Nat → Nat) (n : Nat) : Nat → Sc
  | 0 => fd_b S T n
  | j + 1 => sc_add (fd_S S T n j) (fd_v T n j 0) (fd_v T n j 1) (fd_v T n j 2) (fd_v T n j 3)
def an_fld (T : Nat → Nat) (n : Nat) : Int32 := if ps_W T n = 0 then nI (ps_K T n) else iZ ((-20 : Int) - ((ps_A T n : Nat) : Int))
def nx_fld (S : Sc) (T : Nat → Nat) (n : Nat) : Sc := if ps_W T n = 0 then fd_S S T n (ps_K T n) else S
theorem fd_n (S : Sc) (T : Nat → Nat) (n : Nat) : ∀ j, (fd_S S T n j).1 1 = j
  | 0 => rfl
  | j + 1 => by
    show va_up (fd_S S T n j).1 1 ((fd_S S T n j).1 1 + 1) 1 = _
    rw [va_up_self, fd_n S T n j]
theorem nf_ge (T : Nat → Nat) (n : Nat) : ∀ d j, j ≤ tk_nf T n d j ∧ tk_nf T n d j ≤ j + d
  | 0, j => ⟨Nat.le_refl _, Nat.le_refl _⟩
  | d + 1, j => by
    have h := nf_ge T n d (j + 1)
    unfold tk_nf
    split <;> omega
theorem m_le (T : Nat → Nat) (n : Nat) : tk_m T n ≤ 40 := by
  have h := nf_ge T n 40 0
  unfold tk_m
  omega
theorem nf_y {T : Nat → Nat} {n j : Nat} (hj : j < 40) (h : ¬ tk_sg (tk_h T n (tk_c T n j)) < 0) (e : tk_nf T n (40 - j) j = tk_m T n) : tk_nf T n (40 - (j + 1)) (j + 1) = tk_m T n := by
  rw [← e, show 40 - j = 40 - (j + 1) + 1 by omega]
  exact (if_neg h).symm
theorem nf_n {T : Nat → Nat} {n j : Nat} (hj : j < 40) (h : tk_sg (tk_h T n (tk_c T n j)) < 0) (e : tk_nf T n (40 - j) j = tk_m T n) : j = tk_m T n := by
  rw [← e, show 40 - j = 40 - (j + 1) + 1 by omega]
  exact (if_pos h).symm
theorem nf_e {T : Nat → Nat} {n j : Nat} (hj : j = 40) (e : tk_nf T n (40 - j) j = tk_m T n) : j = tk_m T n := by
  subst hj
  exact e
theorem nf_1 {T : Nat → Nat} {n : Nat} (h : tk_h T n 0 = 46) : 1 ≤ tk_m T n := by
  have e : tk_m T n = tk_nf T n 39 1 := by
    refine if_neg ?_
    show ¬ tk_sg (tk_h T n (tk_s T n 0)) < 0
    rw [tk_hid, h]
    decide
  rw [e]
  exact (nf_ge T n 39 1).1
theorem gf_le (T : Nat → Nat) (n a0 : Nat) : ∀ d j, j ≤ gk_f T n a0 d j ∧ gk_f T n a0 d j ≤ j + d
  | 0, j => ⟨Nat.le_refl _, Nat.le_refl _⟩
  | d + 1, j => by
    have h := gf_le T n a0 d (j + 1)
    unfold gk_f
    split <;> omega
theorem gf_y {T : Nat → Nat} {n a0 j k9 : Nat} (hj : j < 5) (h : ¬ gk_m T n a0 j = 0) (e : gk_f T n a0 (5 - j) j = k9) : gk_f T n a0 (5 - (j + 1)) (j + 1) = k9 := by
  rw [← e, show 5 - j = 5 - (j + 1) + 1 by omega]
  exact (if_neg h).symm
theorem gf_n {T : Nat → Nat} {n a0 j k9 : Nat} (hj : j < 5) (h : gk_m T n a0 j = 0) (e : gk_f T n a0 (5 - j) j = k9) : j + 1 = k9 := by
  rw [← e, show 5 - j = 5 - (j + 1) + 1 by omega]
  exact (if_pos h).symm
theorem hv_w {T : Nat → Nat} {n c a w : Nat} (h : ¬ tk_hv T n c a w = 0) : w = 0 := by
  unfold tk_hv at h
  by_cases q : w = 0
  · exact q
  · rw [if_neg q] at h
    exact absurd rfl h
/-- what is known while the FIGHTERS are read -/
def fdI (z zz : RS) (T : Nat → Nat) (n f9 k9 w8 b8 : Nat) : Prop :=
  zz.1 9 = nI b8 ∧ zz.1 10 = nI w8 ∧ zz.1 12 = nI k9 ∧ (∀ q, q < k9 → ∀ i, i < 4 → zz.2.1 14 (4 * q + i) = iZ (fk_v T n (gk_p T n (ps_0 T n) q) i)) ∧ (w8 = 0 → ∀ q, q < k9 → fk_w T n (gk_p T n (ps_0 T n) q) = 0) ∧ k9 ≤ 5 ∧ (f9 = 1 → k9 < 5 ∧ w8 = 0 ∧ b8 = gk_p T n (ps_0 T n) k9 ∧ gk_f T n (ps_0 T n) (5 - k9) k9 = ps_K T n ∧ tk_h T n 0 = 46 ∧ tk_h T n (ps_e T n) = 59) ∧ (f9 = 0 → k9 = ps_K T n ∧ ps_W T n = (if w8 = 0 then (if tk_h T n b8 = 0 then 0 else 1) else 1) ∧ ps_A T n = (if w8 = 0 then tk_s T n b8 else b8)) ∧ b8 ≤ 20000 ∧ w8 ≤ 1 ∧ f9 ≤ 1 ∧ (w8 = 0 → zz.1 11 = nI (tk_m T n) ∧ 1 ≤ tk_m T n ∧ ∀ c, c < tk_m T n → zz.2.1 13 c = nI (fd_so T n c)) ∧ rFr [9, 10, 11, 12] [13, 14] z zz
theorem ps0_le {T : Nat → Nat} {n : Nat} (hn : n ≤ 100) : ps_e T n ≤ 4200 ∧ ps_0 T n ≤ 4301 := by
  have h := tk_c_le T n (tk_m T n)
  have h1 := m_le T n
  have h2 := (tk_le T n (ps_e T n)).2.2
  have h3 : tk_m T n * (n + 1) ≤ 40 * 101 := Nat.mul_le_mul h1 (by omega)
  have e1 : ps_e T n = tk_c T n (tk_m T n) := rfl
  have e2 : ps_0 T n = tk_s T n (ps_e T n) + 1 := rfl
  omega
theorem gkp_le {T : Nat → Nat} {n j : Nat} (hn : n ≤ 100) (hj : j ≤ 5) : gk_p T n (ps_0 T n) j ≤ 7400 ∧ fk_a T n (gk_p T n (ps_0 T n) j) ≤ 8000 := by
  have h := gk_p_le T n (ps_0 T n) j
  have h1 := (ps0_le (T := T) hn).2
  have h2 : j * (6 * (n + 1)) ≤ 5 * 606 := Nat.mul_le_mul hj (by omega)
  have h3 := (fk_a_le T n (gk_p T n (ps_0 T n) j)).2.2.2.2
  omega
theorem fdI_w {z zz : RS} {T : Nat → Nat} {n : Nat} (hn : n ≤ 100) (h0 : ¬ tk_h T n 0 = 46) (h1 : zz.1 9 = nI (tk_s T n 0)) (h2 : zz.1 10 = nI 1) (h3 : zz.1 12 = nI 0) (hf : rFr [9, 10, 11, 12] [13, 14] z zz) : fdI z zz T n 0 0 1 (tk_s T n 0) := by
  have hs := (tk_le T n 0).2.2
  refine ⟨h1, h2, h3, fun q hq => absurd hq (Nat.not_lt_zero _), fun q => absurd q (by decide), by omega, fun q => absurd q (by decide), fun _ => ⟨?_, ?_, ?_⟩, by omega, by omega, by omega, fun q => absurd q (by decide), hf⟩
  · unfold ps_K
    rw [if_neg (fun w => h0 w.1)]
  · unfold ps_W
    rw [if_neg h0, if_neg (by decide)]
  · unfold ps_A
    rw [if_neg h0, if_neg (by decide)]
theorem fdI_0 {z zz : RS} {T : Nat → Nat} {n b : Nat} (hn : n ≤ 100) (h0 : tk_h T n 0 = 46) (hb : tk_s T n b = tk_s T n (ps_e T n)) (h1 : zz.1 9 = nI (tk_ha T n 59 b 0)) (h2 : zz.1 10 = nI 0) (h3 : zz.1 12 = nI 0) (h4 : zz.1 11 = nI (tk_m T n)) (h5 : ∀ c, c < tk_m T n → zz.2.1 13 c = nI (fd_so T n c)) (hf : rFr [9, 10, 11, 12] [13, 14] z zz) : fdI z zz T n (tk_hv T n 59 b 0) 0 0 (tk_ha T n 59 b 0) := by
  have hh : tk_h T n b = tk_h T n (ps_e T n) := by
    unfold tk_h
    rw [hb]
  have hp := ps0_le (T := T) hn
  have e2 : ps_0 T n = tk_s T n (ps_e T n) + 1 := rfl
  have ev : tk_hv T n 59 b 0 = if tk_h T n (ps_e T n) = 59 then 1 else 0 := by
    unfold tk_hv
    rw [if_pos rfl, hh]
  have ea : tk_ha T n 59 b 0 = tk_s T n (ps_e T n) + (if tk_h T n (ps_e T n) = 59 then 1 else 0) := by
    unfold tk_ha
    rw [if_pos rfl, hh, hb]
  have h01 := hv01 T n 59 b 0
  have hl : tk_ha T n 59 b 0 ≤ 20000 := by
    rw [ea]
    split <;> omega
  refine ⟨h1, h2, h3, fun q hq => absurd hq (Nat.not_lt_zero _), fun _ q hq => absurd hq (Nat.not_lt_zero _), by omega, fun q => ?_, fun q => ?_, hl, by omega, h01, fun _ => ⟨h4, nf_1 h0, h5⟩, hf⟩
  · have q9 : tk_h T n (ps_e T n) = 59 := by
      by_cases w : tk_h T n (ps_e T n) = 59
      · exact w
      · rw [ev, if_neg w] at q
        exact absurd q (by decide)
    refine ⟨by omega, rfl, ?_, ?_, h0, q9⟩
    · rw [ea, if_pos q9]
      rfl
    · unfold ps_K
      rw [if_pos ⟨h0, q9⟩]
  · have q9 : ¬ tk_h T n (ps_e T n) = 59 := fun w => by
      rw [ev, if_pos w] at q
      exact absurd q (by decide)
    rw [ea, if_neg q9]
    refine ⟨?_, ?_, ?_⟩
    · unfold ps_K
      rw [if_neg (fun w => q9 w.2)]
    · unfold ps_W
      rw [if_pos h0, if_neg q9, if_pos rfl, Nat.add_zero, tk_hid]
    · unfold ps_A
      rw [if_pos h0, if_neg q9, if_pos rfl, Nat.add_zero, tk_id]
/-- one FIGHTER more is read -/
theorem fdI_r {z zz zp : RS} {T : Nat → Nat} {n k9 w8 b8 : Nat} (h : fdI z zz T n 1 k9 w8 b8) (hr : zp.1 9 = nI (fk_a T n b8) ∧ zp.1 10 = nI (fk_w T n b8) ∧ zp.1 12 = nI (k9 + 1) ∧ (∀ q, q < 4 → zp.2.1 14 (4 * k9 + q) = iZ (fk_v T n b8 q)) ∧ (∀ q, q < 4 * k9 → zp.2.1 14 q = zz.2.1 14 q) ∧ rFr [9, 10, 12] [14] zz zp) : (∀ q, q < k9 + 1 → ∀ i, i < 4 → zp.2.1 14 (4 * q + i) = iZ (fk_v T n (gk_p T n (ps_0 T n) q) i)) ∧ (fk_w T n b8 = 0 → ∀ q, q < k9 + 1 → fk_w T n (gk_p T n (ps_0 T n) q) = 0) ∧ (zp.1 11 = nI (tk_m T n) ∧ 1 ≤ tk_m T n ∧ ∀ c, c < tk_m T n → zp.2.1 13 c = nI (fd_so T n c)) ∧ rFr [9, 10, 11, 12] [13, 14] z zp := by
  obtain ⟨a1, a2, a3, a4, a5, a6, a7, a8, a9, a10, a11, a12, a13⟩ := h
  obtain ⟨b1, b2, b3, b4, b5, b6⟩ := hr
  obtain ⟨c1, c2, c3, c4, c5, c6⟩ := a7 rfl
  obtain ⟨d1, d2, d3⟩ := a12 c2
  refine ⟨?_, ?_, ⟨(b6.1 11 (by decide)).trans d1, d2, fun c hc => (congrFun (b6.2.1 13 (by decide)) c).trans (d3 c hc)⟩, rFr_tr a13 (rFr_w b6 (by simp) (by simp))⟩
  · intro q hq i hi
    by_cases e : q = k9
    · rw [e, ← c3]
      exact b4 i hi
    · rw [b5 (4 * q + i) (by omega)]
      exact a4 q (by omega) i hi
  · intro hw q hq
    by_cases e : q = k9
    · rw [e, ← c3]
      exact hw
    · exact a5 c2 q (by omega)
theorem fdI_5 {z zz zp : RS} {T : Nat → Nat} {n k9 w8 b8 : Nat} (hn : n ≤ 100) (h : fdI z zz T n 1 k9 w8 b8) (hr : zp.1 9 = nI (fk_a T n b8) ∧ zp.1 10 = nI (fk_w T n b8) ∧ zp.1 12 = nI (k9 + 1) ∧ (∀ q, q < 4 → zp.2.1 14 (4 * k9 + q) = iZ (fk_v T n b8 q)) ∧ (∀ q, q < 4 * k9 → zp.2.1 14 q = zz.2.1 14 q) ∧ rFr [9, 10, 12] [14] zz zp) (h5 : 5 ≤ k9 + 1) : fdI z zp T n 0 (k9 + 1) (fk_w T n b8) (fk_a T n b8) := by
  obtain ⟨u1, u2, u3, u4⟩ := fdI_r h hr
  obtain ⟨c1, c2, c3, c4, c5, c6⟩ := h.2.2.2.2.2.2.1 rfl
  have hg := gkp_le (T := T) hn (show k9 ≤ 5 by omega)
  rw [← c3] at hg
  have eK : k9 + 1 = ps_K T n := gf_n (by omega) (by unfold gk_m; rw [if_pos (by omega)]) c4
  have el : ps_l T n = b8 := by
    unfold ps_l
    rw [← eK, c3]
    rfl
  refine ⟨hr.1, hr.2.1, hr.2.2.1, u1, u2, by omega, fun q => absurd q (by decide), fun _ => ⟨eK, ?_, ?_⟩, by omega, fk_w_le _ _ _, by omega, fun _ => u3, u4⟩
  · unfold ps_W
    rw [if_pos c5, if_pos c6, el]
  · unfold ps_A
    rw [if_pos c5, if_pos c6, el]
theorem fdI_s {z zz zp zq : RS} {T : Nat → Nat} {n k9 w8 b8 : Nat} (hn : n ≤ 100) (h : fdI z zz T n 1 k9 w8 b8) (hr : zp.1 9 = nI (fk_a T n b8) ∧ zp.1 10 = nI (fk_w T n b8) ∧ zp.1 12 = nI (k9 + 1) ∧ (∀ q, q < 4 → zp.2.1 14 (4 * k9 + q) = iZ (fk_v T n b8 q)) ∧ (∀ q, q < 4 * k9 → zp.2.1 14 q = zz.2.1 14 q) ∧ rFr [9, 10, 12] [14] zz zp) (h5 : k9 + 1 < 5) (hq1 : zq.1 9 = nI (tk_ha T n 44 (fk_a T n b8) (fk_w T n b8))) (hq2 : rFr [9] [] zp zq) : fdI z zq T n (tk_hv T n 44 (fk_a T n b8) (fk_w T n b8)) (k9 + 1) (fk_w T n b8) (tk_ha T n 44 (fk_a T n b8) (fk_w T n b8)) := by
  obtain ⟨u1, u2, u3, u4⟩ := fdI_r h hr
  obtain ⟨c1, c2, c3, c4, c5, c6⟩ := h.2.2.2.2.2.2.1 rfl
  have hg := gkp_le (T := T) hn (show k9 ≤ 5 by omega)
  rw [← c3] at hg
  have hal := tk_ha_le T n 44 (fk_a T n b8) (fk_w T n b8)
  have em : gk_m T n (ps_0 T n) k9 = tk_hv T n 44 (fk_a T n b8) (fk_w T n b8) := by
    unfold gk_m
    rw [if_neg (by omega), ← c3]
  refine ⟨hq1, (hq2.1 10 (by decide)).trans hr.2.1, (hq2.1 12 (by decide)).trans hr.2.2.1, fun q a i b => (congrFun (hq2.2.1 14 (by decide)) _).trans (u1 q a i b), u2, by omega, fun q => ?_, fun q => ?_, by omega, fk_w_le _ _ _, hv01 _ _ _ _ _, fun _ => ⟨(hq2.1 11 (by decide)).trans u3.1, u3.2.1, fun c hc => (congrFun (hq2.2.1 13 (by decide)) c).trans (u3.2.2 c hc)⟩, rFr_tr u4 (rFr_w hq2 (by simp) (by simp))⟩
  · have hw := hv_w (T := T) (n := n) (c := 44) (a := fk_a T n b8) (w := fk_w T n b8) (by omega)
    refine ⟨h5, hw, ?_, gf_y (by omega) (by omega) c4, c5, c6⟩
    show _ = tk_ha T n 44 (fk_a T n (gk_p T n (ps_0 T n) k9)) (fk_w T n (gk_p T n (ps_0 T n) k9))
    rw [← c3]
  · have eK : k9 + 1 = ps_K T n := gf_n (by omega) (by omega) c4
    have el : ps_l T n = b8 := by
      unfold ps_l
      rw [← eK, c3]
      rfl
    have ex : fk_w T n b8 = 0 → tk_ha T n 44 (fk_a T n b8) (fk_w T n b8) = tk_s T n (fk_a T n b8) := fun w => by
      have q2 := q
      unfold tk_hv at q2
      rw [if_pos w] at q2
      unfold tk_ha
      rw [if_pos w]
      by_cases q3 : tk_h T n (fk_a T n b8) = 44
      · rw [if_pos q3] at q2
        exact absurd q2 (by decide)
      · rw [if_neg q3]
        rfl
    have ey : ¬ fk_w T n b8 = 0 → tk_ha T n 44 (fk_a T n b8) (fk_w T n b8) = fk_a T n b8 := fun w => if_neg w
    refine ⟨eK, ?_, ?_⟩
    · unfold ps_W
      rw [if_pos c5, if_pos c6, el]
      by_cases w : fk_w T n b8 = 0
      · rw [if_pos w, if_pos w, ex w, tk_hid]
      · rw [if_neg w, if_neg w]
    · unfold ps_A
      rw [if_pos c5, if_pos c6, el]
      by_cases w : fk_w T n b8 = 0
      · rw [if_pos w, if_pos w, ex w, tk_id]
      · rw [if_neg w, if_neg w, ey w]
theorem dv_pos {T : Nat → Nat} {n lo hi a w : Nat} (h : tk_dw T n lo hi a w = 0) : w = 0 ∧ (lo : Int) ≤ tk_dv T n lo a w ∧ tk_dv T n lo a w ≤ (hi : Int) := by
  unfold tk_dw at h
  by_cases q : w = 0
  · rw [if_pos q] at h
    unfold tk_dv
    rw [if_pos q]
    have h2 := pc_inI_ok (((tk_h T n a : Nat) : Int) - (48 : Int)) lo hi
    by_cases q2 : pc_inI (((tk_h T n a : Nat) : Int) - (48 : Int)) lo hi = 0
    · rw [if_pos q2] at h
      exact absurd h (by decide)
    · refine ⟨q, ?_⟩
      omega
  · rw [if_neg q] at h
    exact absurd h (by decide)
theorem fk_pos {T : Nat → Nat} {n a : Nat} (h : fk_w T n a = 0) : (0 ≤ fk_v T n a 0 ∧ fk_v T n a 0 ≤ 3) ∧ (1 ≤ fk_v T n a 1 ∧ fk_v T n a 1 ≤ 9) ∧ (1 ≤ fk_v T n a 2 ∧ fk_v T n a 2 ≤ 6) ∧ 0 ≤ fk_v T n a 3 ∧ fk_v T n a 3 ≤ 6 := by
  have hw2 : fk_w2 T n a = 0 ∧ (0 ≤ fk_v T n a 3 ∧ fk_v T n a 3 ≤ 6) := by
    unfold fk_w at h
    show _ ∧ (0 ≤ (if fk_q T n a = 0 then 0 else tk_dv T n 0 (fk_a3 T n a) (fk_w2 T n a)) ∧ (if fk_q T n a = 0 then 0 else tk_dv T n 0 (fk_a3 T n a) (fk_w2 T n a)) ≤ 6)
    by_cases q : fk_q T n a = 0
    · rw [if_pos q] at h ⊢
      exact ⟨h, by decide, by decide⟩
    · rw [if_neg q] at h ⊢
      have h2 := dv_pos h
      exact ⟨h2.1, h2.2⟩
  have h1 := dv_pos (show tk_dw T n 1 6 (fk_a1 T n a) (fk_w1 T n a) = 0 from hw2.1)
  have h0 := dv_pos (show tk_dw T n 1 9 (fk_a0 T n a) (fk_w0 (tk_h T n a)) = 0 from h1.1)
  have hk : tk_kd (tk_h T n a) ≤ 3 := by
    unfold tk_kd
    exact it_le (by omega) (it_le (by omega) (it_le (by omega) (by omega)))
  refine ⟨⟨?_, ?_⟩, h0.2, h1.2, hw2.2⟩
  · show 0 ≤ ((tk_kd (tk_h T n a) : Nat) : Int)
    omega
  · show ((tk_kd (tk_h T n a) : Nat) : Int) ≤ 3
    omega
theorem fk_nn {T : Nat → Nat} {n a i : Nat} (h : fk_w T n a = 0) (hi : i < 4) : iZ (fk_v T n a i) = nI (fk_v T n a i).toNat := by
  have h2 := fk_pos h
  rw [← iZ_n]
  refine congrArg iZ ?_
  rcases (show i = 0 ∨ i = 1 ∨ i = 2 ∨ i = 3 by omega) with rfl | rfl | rfl | rfl <;> omega
theorem fd_rsc {z z' : RS} {S : Sc} {T : Nat → Nat} {n : Nat} (hz : rSc z S) (h0 : z'.1 0 = nI (tk_m T n)) (h1 : z'.1 1 = nI 0) (h4 : z'.1 4 = z.1 4) (hs : ∀ q, z'.2.1 2 q = if q < tk_m T n then nI (fd_so T n q) else z.2.1 2 q) (h3 : z'.2.1 3 = z.2.1 3) (h5 : z'.2.1 5 = upd (upd (z.2.1 5) 0 (nI 0)) 1 (iZ (-4))) : rSc z' (fd_b S T n) := by
  obtain ⟨a1, a2, a3, a4, a5, a6, a7, a8, a9, a10, a11, a12⟩ := hz
  refine ⟨h0, h1, h4.trans a3, ?_, ?_, ?_, ?_, ?_, ?_, ?_, ?_, ?_⟩
  · rw [h5]
    rfl
  · rw [h5]
    rfl
  · rw [h5]
    exact a6
  · intro q hq
    rw [hs q]
    show _ = nI (if q < tk_m T n then fd_so T n q else S.2.1 0 q)
    split
    · rfl
    · exact a7 q hq
  · intro q hq
    rw [h3]
    exact a8 q hq
  · intro q hq
    rw [h3]
    exact a9 q hq
  · intro q hq
    rw [h3]
    exact a10 q hq
  · intro q hq
    rw [h5]
    unfold upd
    rw [if_neg (by omega), if_neg (by omega)]
    exact a11 q hq
  · intro q hq
    rw [h5]
    unfold upd
    rw [if_neg (by omega), if_neg (by omega)]
    exact a12 q hq
