/-! what the running knows of a scene: not THE MOMENT, not where he stands, not when they come, not THE DRAW -/
def eqv (S' S : Sc) : Prop := S'.1 0 = S.1 0 ∧ S'.1 1 = S.1 1 ∧ S'.1 2 = S.1 2 ∧ ∀ j, j ≠ 5 → S'.2.1 j = S.2.1 j
section Cong
variable {S' S : Sc}
theorem ev_dn (h : eqv S' S) (f : Nat) : pc_dn S' f = pc_dn S f := by
  unfold pc_dn
  rw [h.2.2.2 4 (by decide)]
theorem ev_pts (h : eqv S' S) (f u t : Nat) : sp_pts S' f u t = sp_pts S f u t := by
  unfold sp_pts
  rw [h.2.2.2 1 (by decide), h.2.2.2 3 (by decide)]
theorem ev_purL (h : eqv S' S) (t a : Nat) : ∀ n, sp_purL S' t a n = sp_purL S t a n
  | 0 => rfl
  | n + 1 => by
    have ih := ev_purL h t a n
    show (if pc_dn S' (n + 1) = 0 then (if sp_purL S' t a n ≤ sp_pts S' (n + 1) (S'.2.1 4 (n + 1)) t then sp_purL S' t a n else sp_pts S' (n + 1) (S'.2.1 4 (n + 1)) t) else sp_purL S' t a n) = _
    rw [ih, ev_dn h, ev_pts h, h.2.2.2 4 (by decide)]
    rfl
theorem ev_pur (h : eqv S' S) (tg f t : Nat) : sp_pur S' tg f t = sp_pur S tg f t := by
  unfold sp_pur
  rw [ev_purL h, ev_pts h, h.2.1, h.2.2.2 4 (by decide)]
theorem ev_run (h : eqv S' S) (m : Nat) : sp_run S' m = sp_run S m := by
  unfold sp_run
  rw [ev_dn h, ev_pts h, h.1, h.2.2.2 0 (by decide), h.2.2.2 4 (by decide)]
theorem ev_com (h : eqv S' S) (tg f c : Nat) : sp_com S' tg f c = sp_com S tg f c := by
  unfold sp_com
  rw [h.2.2.1, h.2.2.2 0 (by decide), show sp_pur S' tg f = sp_pur S tg f from funext (ev_pur h tg f)]
theorem ev_ctL (h : eqv S' S) (tg cost m b : Nat) : ∀ n, sp_ctL S' tg cost m b n = sp_ctL S tg cost m b n
  | 0 => rfl
  | n + 1 => by
    have ih := ev_ctL h tg cost m b n
    show (if sp_ctL S' tg cost m b n = 0 then (if pc_dn S' (n + 1) = 0 then (if cost = 0 then 1 else (if m < S'.1 2 then 0 else (if sp_pur S' tg (n + 1) (m - S'.1 2) < cost then 0 else 1))) else 0) else 1) = _
    rw [ih, ev_dn h, ev_pur h, h.2.2.1]
    rfl
theorem ev_ct (h : eqv S' S) (tg m : Nat) : sp_ct S' tg m = sp_ct S tg m := by
  unfold sp_ct
  rw [ev_ctL h, ev_run h, h.1, h.2.1, h.2.2.2 0 (by decide)]
theorem ev_dnL (h : eqv S' S) : ∀ n, sp_dnL S' n = sp_dnL S n
  | 0 => rfl
  | n + 1 => by
    have ih := ev_dnL h n
    show sp_dnL S' n ||| (if pc_dn S' n = 0 then 0 else 2 ^ n) = _
    rw [ih, ev_dn h]
    rfl
theorem ev_over (h : eqv S' S) : sp_over S' = sp_over S := by
  unfold sp_over
  rw [ev_dnL h, h.2.1]
theorem eb_dn (h : S'.2.1 = S.2.1) (f : Nat) : pc_dn S' f = pc_dn S f := by
  unfold pc_dn
  rw [h]
theorem eb_mtL (h : S'.2.1 = S.2.1) (en : Nat) : ∀ n, sp_mtL S' en n = sp_mtL S en n
  | 0 => rfl
  | n + 1 => by
    have ih := eb_mtL h en n
    show (if (if pc_dn S' (n + 1) = 0 then (if en < S'.2.1 5 (n + 1) then 0 else (if sp_mtL S' en n = 0 then 1 else (if S'.2.1 5 (sp_mtL S' en n) ≤ S'.2.1 5 (n + 1) then 0 else 1))) else 0) = 0 then sp_mtL S' en n else n + 1) = _
    rw [ih, eb_dn h, h]
    rfl
end Cong
theorem ev_tl (S : Sc) (tg m i : Nat) : eqv (sp_tl S tg m i) S := ⟨rfl, rfl, rfl, fun _ hj => va_up_ne _ _ hj⟩
theorem ev_turn (S : Sc) (tg m : Nat) : eqv (sp_turn S tg m) S := ⟨rfl, rfl, rfl, fun _ hj => va_up_ne _ _ hj⟩
theorem ev_mo (S : Sc) (m : Nat) : eqv (sN S 3 m) S := ⟨rfl, rfl, rfl, fun _ _ => rfl⟩
