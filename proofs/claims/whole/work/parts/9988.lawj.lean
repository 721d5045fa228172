/-! a MOMENT keeps it -/
theorem mt_co9 {S : Sc} {en : Nat} : ∀ i, ¬ sp_mtL S en i = 0 → pc_dn S (sp_mtL S en i) = 0 ∧ S.2.1 5 (sp_mtL S en i) ≤ en
  | 0, h => absurd rfl h
  | i + 1, h => by
    have ih := mt_co9 (S := S) (en := en) i
    unfold sp_mtL at h ⊢
    by_cases q : (if pc_dn S (i + 1) = 0 then (if en < S.2.1 5 (i + 1) then 0 else (if sp_mtL S en i = 0 then 1 else (if S.2.1 5 (sp_mtL S en i) ≤ S.2.1 5 (i + 1) then 0 else 1))) else 0) = 0
    · rw [if_pos q] at h ⊢
      exact ih h
    · rw [if_neg q]
      by_cases q1 : pc_dn S (i + 1) = 0
      · refine ⟨q1, ?_⟩
        rw [if_pos q1] at q
        by_cases q2 : en < S.2.1 5 (i + 1)
        · rw [if_pos q2] at q
          exact absurd rfl q
        · omega
      · rw [if_neg q1] at q
        exact absurd rfl q
theorem vS_mo {S : Sc} (h : vS S) (hm : S.1 3 < 400) : vS (sN S 3 (S.1 3 + 1)) := by
  refine ⟨oSc_mo h.1 (by omega), (show S.1 3 + 1 ≤ 400 by omega), ?_, fun e9 => absurd (show S.1 3 + 1 = 0 from e9) (by omega)⟩
  intro ht f h1 hf
  rcases h.2.2.1 ht f h1 hf with q9 | q9
  · exact Or.inl q9
  · refine Or.inr ⟨q9.1, ?_⟩
    rcases q9.2 with q8 | q8
    · exact Or.inl (show S.2.1 5 f ≤ S.1 3 + 1 by omega)
    · exact Or.inr q8
theorem vS_fg {S : Sc} (h : vS S) (hm : S.1 3 < 400) {k : Nat} (d : Int32) (hF : ¬ sp_mt S (S.1 3 + 1) = 0) (hk : k = 0 ∨ k = sp_mt S (S.1 3 + 1)) (hd : S.2.1 4 k ≤ 5) : vS (sR (sD (sN S 3 (S.1 3 + 1)) d) 4 k (S.2.1 4 k + 1)) := by
  refine ⟨oSc_hu (S := sD (sN S 3 (S.1 3 + 1)) d) (oSc_mo (m := S.1 3 + 1) h.1 (by omega)) (by omega), (show S.1 3 + 1 ≤ 400 by omega), ?_, fun e9 => absurd (show S.1 3 + 1 = 0 from e9) (by omega)⟩
  intro ht f h1 hf
  have hc := mt_co9 (S := S) (en := S.1 3 + 1) _ hF
  by_cases e : f = k
  · have e2 : f = sp_mt S (S.1 3 + 1) := by omega
    have e3 : pc_dn S f = 0 ∧ S.2.1 5 f ≤ S.1 3 + 1 := by rw [e2]; exact hc
    rcases h.2.2.1 ht f h1 hf with q9 | q9
    · omega
    · exact Or.inr ⟨q9.1, Or.inl e3.2⟩
  · have e4 : (sR (sD (sN S 3 (S.1 3 + 1)) d) 4 k (S.2.1 4 k + 1)).2.1 4 f = S.2.1 4 f := va_up_ne _ _ e
    have e5 : pc_dn (sR (sD (sN S 3 (S.1 3 + 1)) d) 4 k (S.2.1 4 k + 1)) f = pc_dn S f := by
      unfold pc_dn
      rw [e4]
    have e6 : ∀ cl, sp_com (sR (sD (sN S 3 (S.1 3 + 1)) d) 4 k (S.2.1 4 k + 1)) 0 f cl = sp_com S 0 f cl := by
      intro cl
      have e7 : sp_pur (sR (sD (sN S 3 (S.1 3 + 1)) d) 4 k (S.2.1 4 k + 1)) 0 f = sp_pur S 0 f := by
        funext t
        unfold sp_pur
        rw [if_pos rfl, if_pos rfl, e4]
        rfl
      unfold sp_com
      rw [e7]
      rfl
    rw [e5, e6]
    rcases h.2.2.1 ht f h1 hf with q9 | q9
    · exact Or.inl q9
    · refine Or.inr ⟨q9.1, ?_⟩
      rcases q9.2 with q8 | q8
      · exact Or.inl (show S.2.1 5 f ≤ S.1 3 + 1 by omega)
      · exact Or.inr q8
theorem who_or (S : Sc) (F : Nat) : sp_who S F = 0 ∨ sp_who S F = F := by
  unfold sp_who
  split
  · exact Or.inl rfl
  · exact Or.inr rfl
theorem vS_fgS {S : Sc} (h : vS S) (hm : S.1 3 < 400) (h0 : sp_over S = 0) : vS (sp_fgS S) := by
  unfold sp_fgS
  by_cases q : sp_mt S (S.1 3 + 1) = 0
  · rw [if_pos q]
    exact vS_mo h hm
  · rw [if_neg q]
    exact vS_fg h hm _ q (who_or S _) (by have w5 := dn_5 h.1 (who_up h0 q h.1).1; omega)
theorem vS_mom {S : Sc} (h : vS S) : vS (nx_mom S) := by
  unfold nx_mom
  have h4 := h.2.1
  by_cases q : sp_over S = 0 ∧ ¬ S.1 3 = 400
  · rw [if_pos q]
    by_cases q1 : S.1 4 = 0
    · rw [if_pos q1]
      by_cases q2 : sp_ct S 0 (S.1 3 + 1) = 0
      · rw [if_pos q2]
        exact vS_mo h (by omega)
      · rw [if_neg q2]
        exact vS_trn h (by omega)
    · rw [if_neg q1]
      exact vS_fgS h (by omega) q.1
  · rw [if_neg q]
    exact h
/-- what is overwritten doesn't matter: by parts -/
theorem at_eq {S S9 Q : Sc} (h1 : ∀ k, k ≠ 3 → k ≠ 4 → S9.1 k = S.1 k) (h2 : ∀ k, k ≠ 4 → k ≠ 5 → S9.2.1 k = S.2.1 k) : sc_at S9 Q = sc_at S Q := by
  unfold sc_at
  refine congr (congrArg Prod.mk ?_) (congr (congrArg Prod.mk ?_) rfl)
  · funext k
    unfold va_up
    by_cases e4 : k = 4
    · rw [if_pos e4, if_pos e4]
    · rw [if_neg e4, if_neg e4]
      by_cases e3 : k = 3
      · rw [if_pos e3, if_pos e3]
      · rw [if_neg e3, if_neg e3]
        exact h1 k e3 e4
  · funext k
    unfold va_up
    by_cases e5 : k = 5
    · rw [if_pos e5, if_pos e5]
    · rw [if_neg e5, if_neg e5]
      by_cases e4 : k = 4
      · rw [if_pos e4, if_pos e4]
      · rw [if_neg e4, if_neg e4]
        exact h2 k e4 e5
theorem at_trn (S Q : Sc) (m : Nat) : sc_at (sp_turn S 0 m) Q = sc_at S Q :=
  at_eq (fun k h3 h4 => (va_up_ne _ _ h4).trans (va_up_ne _ _ h3)) (fun k _ h5 => va_up_ne _ _ h5)
theorem at_trnx (S Q : Sc) : sc_at (nx_turn S) Q = sc_at S Q := by
  unfold nx_turn
  split
  · exact at_trn S Q _
  · rfl
theorem at_mo (S Q : Sc) (m : Nat) : sc_at (sN S 3 m) Q = sc_at S Q :=
  at_eq (fun k h3 _ => va_up_ne _ _ h3) (fun _ _ _ => rfl)
theorem at_fgS (S Q : Sc) : sc_at (sp_fgS S) Q = sc_at S Q := by
  unfold sp_fgS
  split
  · exact at_mo S Q _
  · exact at_eq (fun k h3 _ => va_up_ne _ _ h3) (fun k h4 _ => va_up_ne _ _ h4)
theorem at_mom (S Q : Sc) : sc_at (nx_mom S) Q = sc_at S Q := by
  unfold nx_mom
  split
  · split
    · split
      · exact at_mo S Q _
      · exact at_trn S Q _
    · exact at_fgS S Q
  · rfl
theorem at_id (S : Sc) : sc_at S S = S := by
  unfold sc_at
  refine congr (congrArg Prod.mk ?_) (congr (congrArg Prod.mk ?_) rfl)
  · funext k
    unfold va_up
    by_cases e4 : k = 4
    · rw [if_pos e4, e4]
    · rw [if_neg e4]
      by_cases e3 : k = 3
      · rw [if_pos e3, e3]
      · rw [if_neg e3]
  · funext k
    unfold va_up
    by_cases e5 : k = 5
    · rw [if_pos e5, e5]
    · rw [if_neg e5]
      by_cases e4 : k = 4
      · rw [if_pos e4, e4]
      · rw [if_neg e4]
theorem at_at (S Q Q9 : Sc) : sc_at (sc_at S Q) Q9 = sc_at S Q9 :=
  at_eq (fun k h3 h4 => (va_up_ne _ _ h4).trans (va_up_ne _ _ h3)) (fun k h4 h5 => (va_up_ne _ _ h5).trans (va_up_ne _ _ h4))
/-- a start in MOMENT 0 changes nothing of what was remembered there -/
theorem vS_at_start {S Q : Sc} (h : vS (sc_at S Q)) (hq : Q.1 3 = 0) (v : Int32) : vS (sc_at (nx_start S v) Q) := by
  unfold nx_start
  by_cases q1 : 0 ≤ v.toInt ∧ v.toInt ≤ 20
  · rw [if_pos q1]
    by_cases q2 : S.1 3 = 0
    · rw [if_pos q2]
      have h9 := vS_start h v
      unfold nx_start at h9
      rw [if_pos q1, if_pos (show (sc_at S Q).1 3 = 0 from hq)] at h9
      have e9 : sc_at (sN S 2 v.toInt.toNat) Q = sN (sc_at S Q) 2 v.toInt.toNat := by
        unfold sc_at
        refine congr (congrArg Prod.mk ?_) rfl
        funext k
        show va_up (va_up (va_up S.1 2 v.toInt.toNat) 3 (Q.1 3)) 4 (Q.1 4) k = va_up (va_up (va_up S.1 3 (Q.1 3)) 4 (Q.1 4)) 2 v.toInt.toNat k
        unfold va_up
        by_cases e2 : k = 2
        · rw [if_pos e2, if_neg (by omega), if_neg (by omega), if_pos e2]
        · simp only [if_neg e2]
      rw [e9]
      exact h9
    · rw [if_neg q2]
      exact h
  · rw [if_neg q1]
    exact h
