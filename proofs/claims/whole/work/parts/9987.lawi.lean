/-! what holds of every scene that a run comes to -/
def vS (S : Sc) : Prop := oSc S ∧ S.1 3 ≤ 400 ∧ tI S ∧ (S.1 3 = 0 → S.1 4 ≤ 1)
theorem vS_cm {S : Sc} (h : vS S) (ht : ¬ S.1 4 = 0) : sp_cm420 S := by
  intro f h1 hf hd
  rcases h.2.2.1 ht f h1 hf with q9 | q9
  · omega
  · exact q9.1
theorem vS_seed {S : Sc} (h : vS S) (v : Int32) : vS (nx_seed S v) := by
  unfold nx_seed
  split
  · exact h
  · exact h
theorem vS_flds {S : Sc} (h : vS S) (t n : Int32) : vS (nx_flds S t n) := by
  unfold nx_flds
  split
  · exact h
  · exact h
theorem vS_hurt {S : Sc} (h : vS S) (f v : Int32) : vS (nx_hurt S f v) := by
  unfold nx_hurt
  split
  · rename_i q1
    split
    · rename_i q2
      exact ⟨oSc_hu h.1 (by omega), h.2.1, fun w9 => absurd q2 w9, h.2.2.2⟩
    · exact h
  · exact h
theorem vS_start {S : Sc} (h : vS S) (v : Int32) : vS (nx_start S v) := by
  unfold nx_start
  split
  · rename_i q1
    split
    · rename_i q2
      obtain ⟨⟨h1, h2, h3, h4, h5⟩, h6, h7, h8⟩ := h
      refine ⟨⟨h1, h2, h3, show v.toInt.toNat ≤ 20 by omega, h5⟩, h6, ?_, h8⟩
      intro ht f hf1 hf
      have e4 : S.1 4 - 1 = 0 := by
        have h9 := h8 q2
        omega
      have hc : sp_com S 0 f (S.1 4 - 1) = 0 := by
        rw [e4]
        exact if_pos rfl
      rcases h7 ht f hf1 hf with q9 | q9
      · exact Or.inl q9
      · refine Or.inr ⟨q9.1, Or.inl ?_⟩
        show S.2.1 5 f ≤ S.1 3
        rcases q9.2 with q8 | q8
        · exact q8
        · omega
    · exact h
  · exact h
theorem up_le {f : Nat → Nat} {n v k : Nat} (h : ∀ q, f q ≤ n) (hv : v ≤ n) : ∀ q, va_up f k v q ≤ n := by
  intro q
  unfold va_up
  split
  · exact hv
  · exact h q
theorem oSc_add {S : Sc} (ho : oSc S) {k a p u : Nat} (h5 : S.1 1 < 5) (hk : k ≤ 3) (ha : a ≤ 9) (hp : p ≤ 6) (hu : u ≤ 6) : oSc (sc_add S k a p u) := by
  obtain ⟨h1, h2, h3, h4, h6, h7, h8, h9, h10, h11, h12, h13⟩ := ho
  exact ⟨h1, h2, show S.1 1 + 1 ≤ 5 by omega, h4, h6, h7, h8, up_le h9 hk, up_le h10 ha, up_le h11 hp, up_le h12 hu, up_le h13 (by decide)⟩
theorem vS_fig {S : Sc} (h : vS S) (k a p : Int32) : vS (nx_fig S k a p) := by
  unfold nx_fig
  split
  · rename_i q1
    have h3 := h.1.2.2.1
    exact ⟨oSc_add h.1 (by omega) (by omega) (by omega) (by omega) (by decide), h.2.1, fun w9 => absurd q1.2.1 w9, h.2.2.2⟩
  · exact h
/-- what is overwritten doesn't matter -/
theorem at_hurt (S Q : Sc) (f v : Int32) : sc_at (nx_hurt S f v) Q = sc_at S Q := by
  unfold nx_hurt
  split
  · split
    · unfold sc_at
      refine congr (congrArg Prod.mk rfl) (congr (congrArg Prod.mk ?_) rfl)
      funext j
      unfold va_up
      by_cases e5 : j = 5
      · rw [if_pos e5, if_pos e5]
      · rw [if_neg e5, if_neg e5]
        by_cases e4 : j = 4
        · rw [if_pos e4, if_pos e4]
        · rw [if_neg e4, if_neg e4]
          show (if j = 4 then _ else S.2.1 j) = S.2.1 j
          rw [if_neg e4]
    · rfl
  · rfl
theorem at_seed (S Q : Sc) (v : Int32) : sc_at (nx_seed S v) Q = sc_at S Q := by
  unfold nx_seed
  split
  · rfl
  · rfl
theorem at_flds (S Q : Sc) (t n : Int32) : sc_at (nx_flds S t n) Q = sc_at S Q := by
  unfold nx_flds
  split
  · rfl
  · rfl
theorem pts_z9 (k p u : Nat) : pc_pts k p u 0 = 0 := by
  unfold pc_pts
  simp
theorem far_p0 (so : Nat → Nat) : ∀ n, pc_far so 0 n = 0
  | 0 => rfl
  | n + 1 => by
    unfold pc_far
    rw [if_pos (by omega)]
    exact far_p0 so n
theorem run_0 (S : Sc) : sp_run S 0 = 0 := by
  unfold sp_run
  split
  · unfold sp_pts
    rw [pts_z9]
    exact far_p0 _ _
  · rfl
theorem tI_turn {S : Sc} (ho : oSc S) (m : Nat) : tI (sp_turn S 0 m) := by
  intro _ f h1 hf
  have hf : f < S.1 1 := hf
  have hr := sp_run_lt S ho m
  have h2 := ho.2.1
  show (sp_cm S 0 m f = 99999 ∧ pc_dn S f = 1) ∨ (sp_cm S 0 m f ≤ 420 ∧ (sp_cm S 0 m f ≤ m ∨ (pc_dn S f = 0 ∧ sp_cm S 0 m f = sp_com S 0 f (sp_run S m))))
  unfold sp_cm
  rw [if_neg (by omega), if_neg (by omega)]
  by_cases hd : pc_dn S f = 0
  · rw [if_pos hd]
    exact Or.inr ⟨sp_com_le S ho 0 f _ (by omega), Or.inr ⟨hd, rfl⟩⟩
  · rw [if_neg hd]
    refine Or.inl ⟨rfl, ?_⟩
    unfold pc_dn at hd ⊢
    split
    · rfl
    · rename_i q9
      rw [if_neg q9] at hd
      exact absurd rfl hd
theorem vS_trn {S : Sc} (h : vS S) {m : Nat} (hm : m ≤ 400) : vS (sp_turn S 0 m) := by
  refine ⟨oSc_turn h.1 0 (by omega), hm, tI_turn h.1 m, fun e9 => ?_⟩
  have e9 : m = 0 := e9
  show sp_run S m + 1 ≤ 1
  rw [e9, run_0]
  exact Nat.le_refl _
theorem vS_turn {S : Sc} (h : vS S) : vS (nx_turn S) := by
  unfold nx_turn
  split
  · exact vS_trn h h.2.1
  · exact h
