/-! rows that are filled; he runs on until he TURNS; what is kept of the past -/
/-- f holds g from a on, i of them; else h -/
def fl (f g h : Nat → Int32) (a i : Nat) : Prop := ∀ q, f q = if a ≤ q ∧ q < a + i then g (q - a) else h q
theorem fl_0 (g h : Nat → Int32) (a : Nat) : fl h g h a 0 := fun q => by rw [if_neg (by omega)]
theorem fl_s {f g h : Nat → Int32} {a i : Nat} (w : fl f g h a i) {v : Int32} (hv : v = g i) : fl (upd f (a + i) v) g h a (i + 1) := by
  intro q
  by_cases e : q = a + i
  · subst e
    rw [pk_us, if_pos (by omega), hv, Nat.add_sub_cancel_left]
  · rw [pk_un e, w q]
    by_cases b : a ≤ q ∧ q < a + i
    · rw [if_pos b, if_pos (by omega)]
    · rw [if_neg b, if_neg (by omega)]
theorem fl_s0 {f g h : Nat → Int32} {i : Nat} (w : fl f g h 0 i) {v : Int32} (hv : v = g i) : fl (upd f i v) g h 0 (i + 1) := by
  have := fl_s w hv
  rw [Nat.zero_add] at this
  exact this
theorem fl_in {f g h : Nat → Int32} {a i : Nat} (w : fl f g h a i) {k : Nat} (hk : k < i) : f (a + k) = g k := by
  rw [w, if_pos (by omega), Nat.add_sub_cancel_left]
theorem fl_in0 {f g h : Nat → Int32} {i : Nat} (w : fl f g h 0 i) {k : Nat} (hk : k < i) : f k = g k := by
  rw [w, if_pos (by omega), Nat.sub_zero]
theorem fl_out {f g h : Nat → Int32} {a i : Nat} (w : fl f g h a i) {k : Nat} (hk : k < a ∨ a + i ≤ k) : f k = h k := by
  rw [w, if_neg (by omega)]
theorem rSc_fr {is ks : List Nat} {z z' : RS} {S : Sc} (h : rFr is ks z z') (h0 : 0 ∉ is) (h1 : 1 ∉ is) (h4 : 4 ∉ is) (a2 : 2 ∉ ks) (a3 : 3 ∉ ks) (a5 : 5 ∉ ks) (hz : rSc z S) : rSc z' S := by
  unfold rSc
  rw [h.1 0 h0, h.1 1 h1, h.1 4 h4, h.2.1 2 a2, h.2.1 3 a3, h.2.1 5 a5]
  exact hz
/-- the now-row of a scene -/
def rNw (r : Nat → Int32) (S : Sc) : Prop := r 0 = nI (S.1 3) ∧ r 1 = pc_sd (S.1 4) ∧ r 2 = S.2.2 ∧ (∀ f, f < 5 → r (3 + f) = nI (S.2.1 4 f)) ∧ (∀ f, f < 5 → r (8 + f) = nI (S.2.1 5 f))
theorem rSc_nw {z : RS} {S : Sc} (h : rSc z S) : rNw (z.2.1 5) S := ⟨h.2.2.2.1, h.2.2.2.2.1, h.2.2.2.2.2.1, h.2.2.2.2.2.2.2.2.2.2.1, h.2.2.2.2.2.2.2.2.2.2.2⟩
/-- the scene S with THE MOMENT, where he stands, THE DRAW, HURTS and when they come of P -/
def sc_at (S P : Sc) : Sc := (va_up (va_up S.1 3 (P.1 3)) 4 (P.1 4), va_up (va_up S.2.1 4 (P.2.1 4)) 5 (P.2.1 5), P.2.2)
theorem rSc_at {z z' : RS} {S P : Sc} (hz : rSc z S) {is ks : List Nat} (h : rFr is ks z z') (h0 : 0 ∉ is) (h1 : 1 ∉ is) (h4 : 4 ∉ is) (a2 : 2 ∉ ks) (a3 : 3 ∉ ks) (hn : rNw (z'.2.1 5) P) : rSc z' (sc_at S P) := by
  obtain ⟨z0, z1, z2, z3, z4, z5, z6, z7, z8, z9, z10, z11⟩ := hz
  obtain ⟨n0, n1, n2, n3, n4⟩ := hn
  exact ⟨(h.1 0 h0).trans z0, (h.1 1 h1).trans z1, (h.1 4 h4).trans z2, n0, n1, n2, fun c hc => (congrFun (h.2.1 2 a2) c).trans (z6 c hc), fun f hf => (congrFun (h.2.1 3 a3) _).trans (z7 f hf), fun f hf => (congrFun (h.2.1 3 a3) _).trans (z8 f hf), fun f hf => (congrFun (h.2.1 3 a3) _).trans (z9 f hf), n3, n4⟩
theorem rNw_of {r r' : Nat → Int32} {S : Sc} (h : rNw r S) (e : ∀ k, k < 13 → r' k = r k) : rNw r' S :=
  ⟨(e 0 (by omega)).trans h.1, (e 1 (by omega)).trans h.2.1, (e 2 (by omega)).trans h.2.2.1, fun f hf => (e _ (by omega)).trans (h.2.2.2.1 f hf), fun f hf => (e _ (by omega)).trans (h.2.2.2.2 f hf)⟩
/-- when he TURNS, who runs on from m: n MOMENTS more, or CAUGHT -/
def sp_tm (S : Sc) (tg : Nat) : Nat → Nat → Nat
  | 0, m => m
  | n + 1, m => if sp_ct S tg (m + 1) = 0 then sp_tm S tg n (m + 1) else m + 1
theorem sp_tm_le (S : Sc) (tg : Nat) : ∀ n m, sp_tm S tg n m ≤ m + n
  | 0, m => Nat.le_refl _
  | n + 1, m => by
    have h := sp_tm_le S tg n (m + 1)
    exact it_le (by omega) (by omega)
theorem sN_mo (S : Sc) (a b : Nat) : sN (sN S 3 a) 3 b = sN S 3 b := by
  show (va_up (va_up S.1 3 a) 3 b, S.2) = _
  rw [bx_uu]
theorem ev_cm {S' S : Sc} (h : eqv S' S) (tg m f : Nat) : sp_cm S' tg m f = sp_cm S tg m f := by
  unfold sp_cm
  rw [h.2.1, ev_dn h, ev_com h, ev_run h]
theorem turn_mo (S : Sc) (tg a m : Nat) : sp_turn (sN S 3 a) tg m = sp_turn S tg m := by
  show (va_up (va_up (va_up S.1 3 a) 3 m) 4 (sp_run (sN S 3 a) m + 1), va_up S.2.1 5 (sp_cm (sN S 3 a) tg m), S.2.2) = _
  rw [bx_uu, ev_run (ev_mo S a), show sp_cm (sN S 3 a) tg m = sp_cm S tg m from funext (ev_cm (ev_mo S a) tg m)]
  rfl
theorem td_n {S : Sc} (h : S.1 4 = 0) : pc_td S = 0 := by
  unfold pc_td
  rw [if_pos h]
theorem td_y {S : Sc} (h : ¬ S.1 4 = 0) : pc_td S = 1 := by
  unfold pc_td
  rw [if_neg h]
/-- u kept now-rows -/
def rPa (z : RS) (u : Nat) (P : Nat → Nat → Int32) : Prop := z.1 16 = nI u ∧ u ≤ 8 ∧ ∀ j, j < u → ∀ k, k < 13 → z.2.1 15 (13 * j + k) = P j k
/-- one more is kept; of eight the oldest goes -/
def pa_put (u : Nat) (P : Nat → Nat → Int32) (r : Nat → Int32) : Nat → Nat → Int32 := fun j => if u = 8 then (if j = 7 then r else P (j + 1)) else (if j = u then r else P j)
def pa_n (u : Nat) : Nat := if u = 8 then 8 else u + 1
theorem pa_8 {z z1 z2 : RS} {P : Nat → Nat → Int32} (h : rPa z 8 P) (h1 : fl (z1.2.1 15) (fun q => z.2.1 15 (q + 13)) (z.2.1 15) 0 91) (h2 : fl (z2.2.1 15) (z.2.1 5) (z1.2.1 15) (13 * 7) 13) (hu : z2.1 16 = nI 8) : rPa z2 (pa_n 8) (pa_put 8 P (z.2.1 5)) := by
  refine ⟨hu, by decide, fun j hj k hk => ?_⟩
  have hj : j < 8 := hj
  show _ = (if (8 : Nat) = 8 then (if j = 7 then z.2.1 5 else P (j + 1)) else (if j = 8 then z.2.1 5 else P j)) k
  rw [if_pos rfl]
  by_cases q : j = 7
  · subst q
    rw [if_pos rfl, fl_in h2 hk]
  · rw [if_neg q, fl_out h2 (by omega), fl_in0 h1 (by omega), show 13 * j + k + 13 = 13 * (j + 1) + k by omega]
    exact h.2.2 (j + 1) (by omega) k hk
theorem pa_u {z z2 : RS} {u : Nat} {P : Nat → Nat → Int32} (h : rPa z u P) (h8 : ¬ u = 8) (h2 : fl (z2.2.1 15) (z.2.1 5) (z.2.1 15) (13 * u) 13) (hu : z2.1 16 = nI (u + 1)) : rPa z2 (pa_n u) (pa_put u P (z.2.1 5)) := by
  have h3 := h.2.1
  have e : pa_n u = u + 1 := if_neg h8
  rw [e]
  refine ⟨hu, by omega, fun j hj k hk => ?_⟩
  show _ = (if u = 8 then (if j = 7 then z.2.1 5 else P (j + 1)) else (if j = u then z.2.1 5 else P j)) k
  rw [if_neg h8]
  by_cases q : j = u
  · subst q
    rw [if_pos rfl, fl_in h2 hk]
  · rw [if_neg q, fl_out h2 (by omega)]
    exact h.2.2 j (by omega) k hk
theorem sN_id (S : Sc) : sN S 3 (S.1 3) = S := by
  have h : va_up S.1 3 (S.1 3) = S.1 := by
    funext j
    unfold va_up
    split
    · next e => rw [e]
    · rfl
  show (va_up S.1 3 (S.1 3), S.2) = S
  rw [h]
