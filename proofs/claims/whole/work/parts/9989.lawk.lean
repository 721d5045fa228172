/-! a FIELD that is read keeps it -/
theorem gf_all {T : Nat → Nat} {n a0 : Nat} : ∀ d j q, j ≤ q → q + 1 < gk_f T n a0 d j → ¬ gk_m T n a0 q = 0
  | 0, j, q, hj, hq => by
    have hq : q + 1 < j := hq
    omega
  | d + 1, j, q, hj, hq => by
    unfold gk_f at hq
    by_cases h : gk_m T n a0 j = 0
    · rw [if_pos h] at hq
      omega
    · rw [if_neg h] at hq
      by_cases e : q = j
      · rw [e]
        exact h
      · exact gf_all d (j + 1) q (by omega) hq
theorem fd_wok {T : Nat → Nat} {n : Nat} (h : ps_W T n = 0) : tk_h T n 0 = 46 ∧ ∀ j, j < ps_K T n → fk_w T n (gk_p T n (ps_0 T n) j) = 0 := by
  have h0 : tk_h T n 0 = 46 := by
    by_cases q : tk_h T n 0 = 46
    · exact q
    · have h9 := (pw_a q).1
      omega
  refine ⟨h0, fun j hj => ?_⟩
  by_cases q : tk_h T n (ps_e T n) = 59
  · have pd := pw_d h0 q
    have e1 : rfW T n = 1 := by
      have p1 := pd.2.1
      have p2 := pd.2.2.1
      omega
    have eK := pd.2.2.2.2
    by_cases e : j + 1 = ps_K T n
    · have el := rf_l (T := T) (n := n) (i := j) (by rw [← eK]; exact e)
      unfold rfW at e1
      rw [el] at e1
      by_cases q9 : fk_w T n (gk_p T n (ps_0 T n) j) = 0
      · exact q9
      · rw [if_neg q9] at e1
        exact absurd e1 (by decide)
    · have hm := gf_all (T := T) (n := n) (a0 := ps_0 T n) 5 0 j (Nat.zero_le _) (by rw [← eK]; omega)
      unfold gk_m at hm
      by_cases q4 : 4 ≤ j
      · rw [if_pos q4] at hm
        exact absurd rfl hm
      · rw [if_neg q4] at hm
        exact hv_w hm
  · have e0 : ps_K T n = 0 := by
      unfold ps_K
      rw [if_neg (fun w9 => q w9.2)]
    omega
theorem oSc_fd {S : Sc} {T : Nat → Nat} {n : Nat} (ho : oSc S) (h : ps_W T n = 0) : ∀ j, j ≤ ps_K T n → oSc (fd_S S T n j)
  | 0, _ => by
    obtain ⟨h1, h2, h3, h4, h6, h7, h8, h9⟩ := ho
    have hm := m_le T n
    have h0 := nf_1 (fd_wok h).1
    refine ⟨h0, hm, Nat.zero_le _, h4, Nat.zero_le _, Nat.zero_le _, fun c => ?_, h9⟩
    show (if c < tk_m T n then fd_so T n c else S.2.1 0 c) ≤ 2
    split
    · exact so_le T n c
    · exact h8 c
  | j + 1, hj => by
    have ih := oSc_fd ho h j (by omega)
    have hK := pK_le T n
    have hp := fk_pos ((fd_wok h).2 j (by omega))
    have e1 := fd_n S T n j
    refine oSc_add ih (by omega) ?_ ?_ ?_ ?_
    · unfold fd_v
      omega
    · unfold fd_v
      omega
    · unfold fd_v
      omega
    · unfold fd_v
      omega
theorem vS_fld {S : Sc} (h : vS S) (T : Nat → Nat) (n : Nat) : vS (nx_fld S T n) := by
  unfold nx_fld
  by_cases q : ps_W T n = 0
  · rw [if_pos q]
    have e3 : (fd_S S T n (ps_K T n)).1 3 = 0 := fd_k (by decide) _
    have e4 : (fd_S S T n (ps_K T n)).1 4 = 0 := fd_k (by decide) _
    exact ⟨oSc_fd h.1 q _ (Nat.le_refl _), by omega, fun w9 => absurd e4 w9, fun _ => by omega⟩
  · rw [if_neg q]
    exact h
