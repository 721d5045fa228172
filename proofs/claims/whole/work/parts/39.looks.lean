/-! the CHANCES by T, sixty-one of them, the most of them and where -/
theorem lk_le (S : Sc) (ro V9 : Nat → Nat) (n : Nat) (hV : ∀ j, V9 j ≤ 1000000) : ∀ i q, sp_lk S ro n V9 i q ≤ 1000000
  | 0, q => hV q
  | i + 1, q => sp_ah_le S ro _ n _ (lk_le S ro V9 n hV i) q
theorem sp_c_le (S : Sc) : sp_c S ≤ 1000000 := by
  unfold sp_c sp_ch
  split
  · exact Nat.le_refl _
  · exact lk_le S _ _ _ (bs_le S _ _ _ (fun _ => Nat.zero_le _) _) _ _
def sp_lkc (S : Sc) (tg : Nat) : Nat → Nat
  | 0 => 0
  | k + 1 => if sp_lkc S tg k = 0 then (if k = 0 then 0 else (if sp_tm S tg k (S.1 3) < S.1 3 + k then 1 else sp_ct S tg (S.1 3 + k))) else 1
def sp_byv (S : Sc) (tg : Nat) : Nat → Nat
  | 0 => sp_c (sp_rch S tg (S.1 3))
  | k + 1 => if sp_lkc S tg (k + 1) = 0 then sp_c (sp_rch S tg (S.1 3 + (k + 1))) else sp_byv S tg k
def sp_mq (S : Sc) (tg : Nat) : Nat → Nat
  | 0 => 0
  | k + 1 => if sp_mq S tg k ≤ sp_byv S tg k then sp_byv S tg k + 1 else sp_mq S tg k
def sp_ff (S : Sc) (tg : Nat) : Nat → Nat
  | 0 => 0
  | k + 1 => if sp_mq S tg k ≤ sp_byv S tg k then S.1 3 + k else sp_ff S tg k
theorem lkc_le (S : Sc) (tg : Nat) : ∀ k, sp_lkc S tg k ≤ 1
  | 0 => Nat.zero_le _
  | k + 1 => by
    have h := sp_ct01 S tg (S.1 3 + k)
    unfold sp_lkc
    split
    · split
      · omega
      · split <;> omega
    · omega
theorem byv_n {S : Sc} {tg k : Nat} (h : sp_lkc S tg k = 0) : sp_byv S tg k = sp_c (sp_rch S tg (S.1 3 + k)) := by
  cases k with
  | zero => rfl
  | succ k => exact if_pos h
theorem byv_c {S : Sc} {tg k : Nat} (h : ¬ sp_lkc S tg k = 0) : 0 < k ∧ sp_byv S tg k = sp_byv S tg (k - 1) := by
  cases k with
  | zero => exact absurd rfl h
  | succ k => exact ⟨Nat.succ_pos _, if_neg h⟩
theorem byv_le (S : Sc) (tg : Nat) : ∀ k, sp_byv S tg k ≤ 1000000
  | 0 => sp_c_le _
  | k + 1 => by
    unfold sp_byv
    split
    · exact sp_c_le _
    · exact byv_le S tg k
theorem mq_le (S : Sc) (tg : Nat) : ∀ k, sp_mq S tg k ≤ 1000001
  | 0 => Nat.zero_le _
  | k + 1 => by
    have h := byv_le S tg k
    have h2 := mq_le S tg k
    unfold sp_mq
    split <;> omega
theorem mq_1 (S : Sc) (tg : Nat) : ∀ k, 1 ≤ sp_mq S tg (k + 1)
  | 0 => by
    rw [show sp_mq S tg (0 + 1) = sp_byv S tg 0 + 1 from if_pos (Nat.zero_le _)]
    omega
  | k + 1 => by
    have h2 := mq_1 S tg k
    rw [sp_mq]
    split <;> omega
def lkI (S : Sc) (tg : Nat) (z : RS) (i : Nat) (zz : RS) : Prop := rSc zz S ∧ (∃ U9, rLt zz U9) ∧ (∀ k, k < 13 → zz.2.1 17 k = z.2.1 5 k) ∧ zz.1 22 = iZ (((sp_mq S tg i : Nat) : Int) - (1 : Int)) ∧ (i = 0 ∨ zz.1 23 = nI (sp_ff S tg i)) ∧ (∀ k, k < i → zz.2.1 21 k = nI (sp_byv S tg k)) ∧ rFr [22, 23] [5, 17, 18, 19, 20, 21] z zz
theorem lkI_0 {S : Sc} {tg : Nat} {z z1 : RS} (hz : rSc z S) (hlt : ∃ U9, rLt z U9) (h : (∀ k, k < 13 → z1.2.1 17 k = z.2.1 5 k) ∧ rFr [] [17] z z1) : lkI S tg z 0 (sI z1 22 (iZ (-1))) := by
  obtain ⟨U9, hU⟩ := hlt
  refine ⟨rSc_fr (is := [22]) (ks := [17]) (rFr_tr (rFr_w h.2 (by simp) (fun _ q => q)) (rFr_I _ (by decide))) (by decide) (by decide) (by decide) (by decide) (by decide) (by decide) hz, ⟨U9, fun j hj => (congrFun (h.2.2.1 19 (by decide)) j).trans (hU.1 j hj), hU.2⟩, h.1, rfl, Or.inl rfl, fun k hk => absurd hk (Nat.not_lt_zero _), ?_⟩
  exact rFr_tr (rFr_w h.2 (by simp) (by simp)) (rFr_I _ (by decide))
theorem lkI_s {S : Sc} {tg : Nat} {z : RS} {i : Nat} {zz : RS} (h : lkI S tg z i zz) {x y : Int32} (ex : x = if ((sp_byv S tg i : Nat) : Int) ≤ ((sp_mq S tg i : Nat) : Int) - (1 : Int) then zz.1 23 else nI (S.1 3 + i)) (ey : y = iZ (if ((sp_byv S tg i : Nat) : Int) ≤ ((sp_mq S tg i : Nat) : Int) - (1 : Int) then ((sp_mq S tg i : Nat) : Int) - (1 : Int) else ((sp_byv S tg i : Nat) : Int))) : lkI S tg z (i + 1) (sI (sI (sA zz 21 i (nI (sp_byv S tg i))) 23 x) 22 y) := by
  obtain ⟨h1, ⟨U9, h2⟩, h3, h4, h5, h6, h7⟩ := h
  have hf : rFr [22, 23] [21] zz (sI (sI (sA zz 21 i (nI (sp_byv S tg i))) 23 x) 22 y) := rFr_tr (rFr_tr (rFr_A _ (by decide)) (rFr_I _ (by decide))) (rFr_I _ (by decide))
  refine ⟨rSc_fr hf (by decide) (by decide) (by decide) (by decide) (by decide) (by decide) h1, ⟨U9, h2⟩, h3, ?_, Or.inr ?_, ?_, rFr_tr h7 (rFr_w hf (by simp) (by simp))⟩
  · show y = _
    rw [ey]
    refine congrArg iZ ?_
    rw [show sp_mq S tg (i + 1) = if sp_mq S tg i ≤ sp_byv S tg i then sp_byv S tg i + 1 else sp_mq S tg i from rfl]
    by_cases q : sp_mq S tg i ≤ sp_byv S tg i
    · rw [if_pos q, if_neg (by omega)]
      omega
    · rw [if_neg q, if_pos (by omega)]
  · show x = _
    rw [ex]
    rw [show sp_ff S tg (i + 1) = if sp_mq S tg i ≤ sp_byv S tg i then S.1 3 + i else sp_ff S tg i from rfl]
    by_cases q : sp_mq S tg i ≤ sp_byv S tg i
    · rw [if_pos q, if_neg (by omega)]
    · rw [if_neg q, if_pos (by omega)]
      rcases h5 with rfl | h5
      · exact absurd (Nat.zero_le _) q
      · exact h5
  · intro k hk
    show upd (zz.2.1 21) i (nI (sp_byv S tg i)) k = _
    unfold upd
    by_cases q : k = i
    · rw [if_pos q, q]
    · rw [if_neg q]
      exact h6 k (by omega)
theorem lkI_bk {S : Sc} {tg : Nat} {z : RS} {i : Nat} {zz zp zq : RS} (h : lkI S tg z i zz) (hz : rSc z S) (f : rFr [] [5, 18, 19, 20] zz zp) (hb : (∀ k, k < 13 → zq.2.1 5 k = zp.2.1 17 k) ∧ rFr [] [5] zp zq) (hl : ∃ U9, rLt zp U9) : lkI S tg z i zq := by
  obtain ⟨h1, _, h3, h4, h5, h6, h7⟩ := h
  obtain ⟨U9, hU⟩ := hl
  have f2 : rFr [] [5, 18, 19, 20] zz zq := rFr_tr f (rFr_w hb.2 (by simp) (by simp))
  have f3 : rFr [22, 23] [5, 17, 18, 19, 20, 21] z zq := rFr_tr h7 (rFr_w f2 (by simp) (by simp))
  refine ⟨rSc_back hz f3 (by decide) (by decide) (by decide) (by decide) (by decide) (fun k hk => (hb.1 k hk).trans ((congrFun (f.2.1 17 (by decide)) k).trans (h3 k hk))), ⟨U9, fun j hj => (congrFun (hb.2.2.1 19 (by decide)) j).trans (hU.1 j hj), hU.2⟩, fun k hk => (congrFun (f2.2.1 17 (by decide)) k).trans (h3 k hk), (f2.1 22 (by simp)).trans h4, ?_, fun k hk => (congrFun (f2.2.1 21 (by decide)) k).trans (h6 k hk), f3⟩
  rcases h5 with h5 | h5
  · exact Or.inl h5
  · exact Or.inr ((f2.1 23 (by simp)).trans h5)
theorem at_turn (S : Sc) (tg m : Nat) : sc_at (sp_turn S tg m) S = S := by
  unfold sc_at sp_turn
  refine Prod.ext ?_ (Prod.ext ?_ rfl)
  · funext k
    show va_up (va_up (va_up (va_up S.1 3 m) 4 _) 3 (S.1 3)) 4 (S.1 4) k = S.1 k
    by_cases q4 : k = 4
    · rw [q4, va_up_self]
    · rw [va_up_ne _ _ q4]
      by_cases q3 : k = 3
      · rw [q3, va_up_self]
      · rw [va_up_ne _ _ q3, va_up_ne _ _ q4, va_up_ne _ _ q3]
  · funext k
    show va_up (va_up (va_up S.2.1 5 _) 4 _) 5 _ k = S.2.1 k
    by_cases q5 : k = 5
    · rw [q5, va_up_self]
    · rw [va_up_ne _ _ q5]
      by_cases q4 : k = 4
      · rw [q4, va_up_self]
      · rw [va_up_ne _ _ q4, va_up_ne _ _ q5]
theorem rch_mo {S : Sc} {tg : Nat} (hnt : S.1 4 = 0) (i : Nat) : sp_rch S tg (S.1 3 + i) = sp_turn S tg (sp_tm S tg i (S.1 3)) := by
  unfold sp_rch
  rw [if_pos hnt, show S.1 3 + i - S.1 3 = i by omega]
theorem lkc_s {S : Sc} {tg k : Nat} (h : sp_lkc S tg k = 0) : sp_lkc S tg (k + 1) = if k = 0 then 0 else (if sp_tm S tg k (S.1 3) < S.1 3 + k then 1 else sp_ct S tg (S.1 3 + k)) := if_pos h
theorem lkc_1 {S : Sc} {tg k : Nat} (h : ¬ sp_lkc S tg k = 0) : sp_lkc S tg (k + 1) = sp_lkc S tg k := by
  have h1 := lkc_le S tg k
  have h2 : sp_lkc S tg (k + 1) = 1 := if_neg h
  omega
