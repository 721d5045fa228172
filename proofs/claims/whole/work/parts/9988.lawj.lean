/-! a MOMENT keeps it -/
theorem mt_co9 {S : Sc} {en : Nat} : ∀ i, ¬ sp_mtL S en i = 0 → pc_dn S (sp_mtL S en i) = 0 ∧ S.2.1 5 (sp_mtL S en i) ≤ en
  | 0, h => absurd rfl h
  | i + 1, h => by
    have ih := mt_co9 (S := S) (en := en) i
    unfold sp_mtL at h ⊢
    by_cases q : (if pc_dn S (i + 1) = 0 then (if en < S.2.1 5 (i + 1) then 0 else (if sp_mtL S en i = 0 then 1 else (if S.2.1 5 (sp_mtL S en i) ≤ S.2.1 5 (i + 1) then 0 else 1))) else 0) = 0
    · rw [if_pos q] at h ⊢
      exact ih h
    · rw [if_neg q]
      by_cases q1 : pc_dn S (i + 1) = 0
      · refine ⟨q1, ?_⟩
        rw [if_pos q1] at q
        by_cases q2 : en < S.2.1 5 (i + 1)
        · rw [if_pos q2] at q
          exact absurd rfl q
        · omega
      · rw [if_neg q1] at q
        exact absurd rfl q
theorem vS_mo {S : Sc} (h : vS S) (hm : S.1 3 < 400) : vS (sN S 3 (S.1 3 + 1)) := by
  refine ⟨oSc_mo h.1 (by omega), (show S.1 3 + 1 ≤ 400 by omega), ?_, fun e9 => absurd (show S.1 3 + 1 = 0 from e9) (by omega)⟩
  intro ht f h1 hf
  rcases h.2.2.1 ht f h1 hf with q9 | q9
  · exact Or.inl q9
  · refine Or.inr ⟨q9.1, ?_⟩
    rcases q9.2 with q8 | q8
    · exact Or.inl (show S.2.1 5 f ≤ S.1 3 + 1 by omega)
    · exact Or.inr q8
theorem vS_fg {S : Sc} (h : vS S) (hm : S.1 3 < 400) {k : Nat} (d : Int32) (hF : ¬ sp_mt S (S.1 3 + 1) = 0) (hk : k = 0 ∨ k = sp_mt S (S.1 3 + 1)) (hd : S.2.1 4 k ≤ 5) : vS (sR (sD (sN S 3 (S.1 3 + 1)) d) 4 k (S.2.1 4 k + 1)) := by
  refine ⟨oSc_hu (S := sD (sN S 3 (S.1 3 + 1)) d) (oSc_mo (m := S.1 3 + 1) h.1 (by omega)) (by omega), (show S.1 3 + 1 ≤ 400 by omega), ?_, fun e9 => absurd (show S.1 3 + 1 = 0 from e9) (by omega)⟩
  intro ht f h1 hf
  have hc := mt_co9 (S := S) (en := S.1 3 + 1) _ hF
  by_cases e : f = k
  · have e2 : f = sp_mt S (S.1 3 + 1) := by omega
    have e3 : pc_dn S f = 0 ∧ S.2.1 5 f ≤ S.1 3 + 1 := by rw [e2]; exact hc
    rcases h.2.2.1 ht f h1 hf with q9 | q9
    · omega
    · exact Or.inr ⟨q9.1, Or.inl e3.2⟩
  · have e4 : (sR (sD (sN S 3 (S.1 3 + 1)) d) 4 k (S.2.1 4 k + 1)).2.1 4 f = S.2.1 4 f := va_up_ne _ _ e
    have e5 : pc_dn (sR (sD (sN S 3 (S.1 3 + 1)) d) 4 k (S.2.1 4 k + 1)) f = pc_dn S f := by
      unfold pc_dn
      rw [e4]
    have e6 : ∀ cl, sp_com (sR (sD (sN S 3 (S.1 3 + 1)) d) 4 k (S.2.1 4 k + 1)) 0 f cl = sp_com S 0 f cl := by
      intro cl
      have e7 : sp_pur (sR (sD (sN S 3 (S.1 3 + 1)) d) 4 k (S.2.1 4 k + 1)) 0 f = sp_pur S 0 f := by
        funext t
        unfold sp_pur
        rw [if_pos rfl, if_pos rfl, e4]
        rfl
      unfold sp_com
      rw [e7]
      rfl
    rw [e5, e6]
    rcases h.2.2.1 ht f h1 hf with q9 | q9
    · exact Or.inl q9
    · refine Or.inr ⟨q9.1, ?_⟩
      rcases q9.2 with q8 | q8
      · exact Or.inl (show S.2.1 5 f ≤ S.1 3 + 1 by omega)
      · exact Or.inr q8
