theorem cm_up {S : Sc} {m f : Nat} (f1 : 1 ≤ f) (f2 : f < S.1 1) (f3 : pc_dn S f = 0) : (sp_turn S 0 m).2.1 5 f = sp_com S 0 f (sp_run S m) := by
  show sp_cm S 0 m f = _
  unfold sp_cm
  rw [if_neg (by omega), if_neg (by omega), if_pos f3]
theorem fs_r {y : RS} {F9 : Nat → Nat} {i : Nat} (h : ∀ k, k < i → y.2.1 2 k = nI (F9 k)) (v : Nat) (hv : v = F9 i) : ∀ k, k < i + 1 → (sA y 2 i (nI v)).2.1 2 k = nI (F9 k) := by
  intro k hk
  show upd (y.2.1 2) i (nI v) k = _
  by_cases e9 : k = i
  · rw [e9, pk_us, hv]
  · rw [pk_un e9]
    exact h k (by omega)
/-- only HURTS, THE MOMENT and THE DRAW are another -/
def sameR (X T : Sc) : Prop := (∀ j, j ≠ 3 → X.1 j = T.1 j) ∧ ∀ j, j ≠ 4 → X.2.1 j = T.2.1 j
theorem sr_rf (T : Sc) : sameR T T := ⟨fun _ _ => rfl, fun _ _ => rfl⟩
theorem sr_fg (T : Sc) : sameR (sp_fgS T) T := by
  unfold sp_fgS
  split
  · exact ⟨fun j hj => va_up_ne _ _ hj, fun _ _ => rfl⟩
  · exact ⟨fun j hj => va_up_ne _ _ hj, fun j hj => va_up_ne _ _ hj⟩
theorem sr_tr {X Y T : Sc} (h : sameR X Y) (h2 : sameR Y T) : sameR X T := ⟨fun j hj => (h.1 j hj).trans (h2.1 j hj), fun j hj => (h.2 j hj).trans (h2.2 j hj)⟩
theorem sr_war : ∀ n T, sameR (sp_war n T) T
  | 0, T => sr_rf T
  | n + 1, T => by
    show sameR (if sp_over T = 0 then sp_war n (sp_fgS T) else T) T
    split
    · exact sr_tr (sr_war n _) (sr_fg T)
    · exact sr_rf T
theorem sr_mo (T : Sc) (m : Nat) : sameR (sN T 3 m) T := ⟨fun j hj => va_up_ne _ _ hj, fun _ _ => rfl⟩
theorem ev_D (S : Sc) (v : Int32) : eqv (sD S v) S := ⟨rfl, rfl, rfl, fun _ _ => rfl⟩
theorem ev_tm {S9 S : Sc} (h : eqv S9 S) (tg : Nat) : ∀ n m, sp_tm S9 tg n m = sp_tm S tg n m
  | 0, _ => rfl
  | n + 1, m => by
    have ih := ev_tm h tg n (m + 1)
    show (if sp_ct S9 tg (m + 1) = 0 then sp_tm S9 tg n (m + 1) else m + 1) = _
    rw [ih, ev_ct h]
    rfl
theorem turn_D (S : Sc) (v : Int32) (tg m : Nat) : sp_turn (sD S v) tg m = sD (sp_turn S tg m) v := by
  show (va_up (va_up S.1 3 m) 4 (sp_run (sD S v) m + 1), va_up S.2.1 5 (sp_cm (sD S v) tg m), v) = _
  rw [ev_run (ev_D S v), show sp_cm (sD S v) tg m = sp_cm S tg m from funext (ev_cm (ev_D S v) tg m)]
  rfl
theorem rch_D (S : Sc) (v : Int32) (tg t : Nat) : sp_rch (sD S v) tg t = sD (sp_rch S tg t) v := by
  unfold sp_rch
  show (if S.1 4 = 0 then sp_turn (sD S v) tg (sp_tm (sD S v) tg (t - S.1 3) (S.1 3)) else sD S v) = _
  by_cases g1 : S.1 4 = 0
  · rw [if_pos g1, if_pos g1, ev_tm (ev_D S v), turn_D]
  · rw [if_neg g1, if_neg g1]
theorem gdo_D {S : Sc} (v : Int32) (h : gdo S) : gdo (sD S v) := h
theorem rch_hu (S : Sc) (t : Nat) : (sp_rch S 0 t).2.1 4 = S.2.1 4 ∧ (sp_rch S 0 t).1 1 = S.1 1 ∧ ¬ (sp_rch S 0 t).1 4 = 0 := by
  unfold sp_rch
  by_cases g1 : S.1 4 = 0
  · rw [if_pos g1]
    refine ⟨rfl, rfl, ?_⟩
    show ¬ sp_run S _ + 1 = 0
    omega
  · rw [if_neg g1]
    exact ⟨rfl, rfl, g1⟩
/-- a new run: HURTS and THE MOMENT as they were -/
theorem cw_run {y zs : RS} {X T S : Sc} (hX : cSc y X) (hs : sameR X T) (hz : cSn zs S) (h4 : T.2.1 4 = S.2.1 4) (h1 : T.1 1 = S.1 1) (h5 : S.1 1 ≤ 5) : cSc (sI (sC y 7 (va_cpy (zs.2.1 7) (y.2.1 7) 0 0 5)) 9 (nI (T.1 3))) (sD T X.2.2) := by
  obtain ⟨⟨h0, g1, h2, h3, g4, g5, h6, h7, h8, h9, h10, h11⟩, h12⟩ := hX
  have e0 := hs.1 0 (by decide)
  have e1 := hs.1 1 (by decide)
  have e2 := hs.1 2 (by decide)
  have e4 := hs.1 4 (by decide)
  have r0 := hs.2 0 (by decide)
  have r1 := hs.2 1 (by decide)
  have r2 := hs.2 2 (by decide)
  have r3 := hs.2 3 (by decide)
  have r5 := hs.2 5 (by decide)
  rw [e0] at h0 h6 h7
  rw [e1] at g1 h8 h9 h10 h12
  rw [e2] at h2
  rw [e4] at g4 h12
  rw [r0] at h6 h7
  rw [r1] at h8
  rw [r2] at h9
  rw [r3] at h10
  rw [r5] at h12
  refine ⟨⟨h0, g1, h2, rfl, g4, g5, h6, h7, h8, h9, h10, fun f hf => ?_⟩, h12⟩
  have hf : f < T.1 1 := hf
  show va_cpy (zs.2.1 7) (y.2.1 7) 0 0 5 f = nI (T.2.1 4 f)
  rw [cpy_in0 (by omega), h4]
  exact cs_hu hz f (by omega)
theorem fds_s (S : Sc) (t k : Nat) : sp_fds S t (k + 1) = ((sp_fds S t k).1 + (if sp_over (sp_wr (sD (sp_rch S 0 t) (sp_fds S t k).2)) = 1 then 1 else 0), (sp_wr (sD (sp_rch S 0 t) (sp_fds S t k).2)).2.2) := by
  show ((sp_fds S t k).1 + (if sp_over (sp_wr (sp_rch (sD S (sp_fds S t k).2) 0 t)) = 1 then 1 else 0), (sp_wr (sp_rch (sD S (sp_fds S t k).2) 0 t)).2.2) = _
  rw [rch_D]
theorem fds_le (S : Sc) (t : Nat) : ∀ k, (sp_fds S t k).1 ≤ k
  | 0 => Nat.le_refl _
  | k + 1 => by
    have h := fds_le S t k
    rw [fds_s]
    show _ + (if _ then 1 else 0) ≤ _
    split <;> omega
theorem rch_2 (S : Sc) (t : Nat) : (sp_rch S 0 t).2.2 = (sp_fds S t 0).2 := by
  show _ = S.2.2
  unfold sp_rch
  split <;> rfl
