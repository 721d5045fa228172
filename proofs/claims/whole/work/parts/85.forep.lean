/-! what is foretold: by T, together, by runs -/
abbrev wF (G : CG) (a b d : Nat → Nat) (z : RS × RS × RS) : va_W := [(a 0, .inr (2, [.ref (b 0), .ref (d 0), .ref (a 3)])), (a 3, .inl (G.2.1, 61, .inl (z.1.2.1 2)))] ++ w5 G b z.2.1 ++ w0 G d z.2.2
section ForA
variable {S : Sc} {tg : Nat}
theorem tm_all : ∀ k m, (∀ i, 1 ≤ i → i < k → sp_ct S tg (m + i) = 0) → sp_tm S tg k m = m + k
  | 0, m, _ => rfl
  | k + 1, m, h => by
    show (if sp_ct S tg (m + 1) = 0 then sp_tm S tg k (m + 1) else m + 1) = _
    rcases Nat.eq_zero_or_pos k with e0 | e0
    · subst e0
      split <;> rfl
    · rw [if_pos (h 1 (by omega) (by omega)), tm_all k (m + 1) (fun i h1 h2 => by rw [show m + 1 + i = m + (i + 1) by omega]; exact h (i + 1) (by omega) (by omega))]
      omega
theorem lkc_no : ∀ k, sp_lkc S tg k = 0 → ∀ i, 1 ≤ i → i < k → sp_ct S tg (S.1 3 + i) = 0
  | 0, _, i, _, h2 => absurd h2 (Nat.not_lt_zero _)
  | k + 1, h, i, h1, h2 => by
    by_cases g1 : sp_lkc S tg k = 0
    · have ih := lkc_no k g1
      by_cases e9 : i = k
      · subst e9
        rw [lkc_s g1, if_neg (by omega), tm_all i _ ih, if_neg (by omega)] at h
        exact h
      · exact ih i h1 (by omega)
    · rw [lkc_1 g1] at h
      exact absurd h g1
theorem lkc_tm {k : Nat} (h : sp_lkc S tg k = 0) : sp_tm S tg k (S.1 3) = S.1 3 + k := tm_all k _ (lkc_no k h)
theorem lkc_n {k : Nat} (h : sp_lkc S tg k = 0) : sp_lkc S tg (k + 1) = if k = 0 then 0 else sp_ct S tg (S.1 3 + k) := by
  rw [lkc_s h, lkc_tm h, if_neg (show ¬ S.1 3 + k < S.1 3 + k by omega)]
theorem byv_t {k : Nat} (hnt : S.1 4 = 0) (h : sp_lkc S tg k = 0) : sp_byv S tg k = sp_c (sp_turn S tg (S.1 3 + k)) := by
  rw [byv_n h, rch_mo hnt, lkc_tm h]
theorem mq_s (k : Nat) : max (sp_mq S tg k - 1) (sp_byv S tg k) = sp_mq S tg (k + 1) - 1 := by
  show _ = (if sp_mq S tg k ≤ sp_byv S tg k then sp_byv S tg k + 1 else sp_mq S tg k) - 1
  split <;> omega
theorem byv_mq : ∀ k j, j < k → sp_byv S tg j < sp_mq S tg k
  | 0, j, h => absurd h (Nat.not_lt_zero _)
  | k + 1, j, h => by
    have e : sp_mq S tg (k + 1) = if sp_mq S tg k ≤ sp_byv S tg k then sp_byv S tg k + 1 else sp_mq S tg k := rfl
    rw [e]
    by_cases g1 : j = k
    · subst g1
      split <;> omega
    · have := byv_mq k j (by omega)
      split <;> omega
/-- the first by which it is most -/
theorem ff_is : ∀ k, 0 < k → ∃ j, j < k ∧ sp_ff S tg k = S.1 3 + j ∧ sp_byv S tg j + 1 = sp_mq S tg k ∧ ∀ i, i < j → sp_byv S tg i < sp_byv S tg j
  | 0, h => absurd h (Nat.not_lt_zero _)
  | k + 1, _ => by
    have e : sp_mq S tg (k + 1) = if sp_mq S tg k ≤ sp_byv S tg k then sp_byv S tg k + 1 else sp_mq S tg k := rfl
    have e2 : sp_ff S tg (k + 1) = if sp_mq S tg k ≤ sp_byv S tg k then S.1 3 + k else sp_ff S tg k := rfl
    rw [e, e2]
    by_cases g1 : sp_mq S tg k ≤ sp_byv S tg k
    · rw [if_pos g1, if_pos g1]
      refine ⟨k, by omega, rfl, rfl, fun i hi => ?_⟩
      have := byv_mq (S := S) (tg := tg) k i hi
      omega
    · rw [if_neg g1, if_neg g1]
      rcases Nat.eq_zero_or_pos k with e0 | e0
      · subst e0
        exact absurd (Nat.zero_le _) g1
      · obtain ⟨j, h1, h2, h3, h4⟩ := ff_is k e0
        exact ⟨j, by omega, h2, h3, h4⟩
theorem fs_at {k : Nat} (hk : k < 61) (h1 : sp_mq S tg 61 - 1 ≤ sp_byv S tg k) (h2 : ∀ i, i < k → sp_byv S tg i < sp_mq S tg 61 - 1) : sp_fs S tg = S.1 3 + k := by
  obtain ⟨j, g1, g2, g3, g4⟩ := ff_is (S := S) (tg := tg) 61 (by decide)
  have h3 := byv_mq (S := S) (tg := tg) 61 k hk
  unfold sp_fs
  rw [g2]
  rcases Nat.lt_trichotomy j k with v9 | v9 | v9
  · have := h2 j v9
    omega
  · rw [v9]
  · have := g4 k v9
    omega
theorem fs_ex (h : ∀ i, i < 61 → sp_byv S tg i < sp_mq S tg 61 - 1) : False := by
  obtain ⟨j, g1, g2, g3, g4⟩ := ff_is (S := S) (tg := tg) 61 (by decide)
  have := h j g1
  omega
theorem lt_at {ch n : Nat} (hn : n ≤ 61) (h : ∀ i, n ≤ i → i < 61 → sp_byv S tg i < ch) : sp_lt S tg ch 61 = sp_lt S tg ch n := by
  have h9 : ∀ d, n + d ≤ 61 → sp_lt S tg ch (n + d) = sp_lt S tg ch n := by
    intro d
    induction d with
    | zero => intro _; rfl
    | succ d ih =>
      intro hd
      show (if sp_byv S tg (n + d) < ch then sp_lt S tg ch (n + d) else n + d + 1) = _
      rw [if_pos (h (n + d) (by omega) (by omega))]
      exact ih (by omega)
  have := h9 (61 - n) (by omega)
  rw [show n + (61 - n) = 61 by omega] at this
  exact this
end ForA
/-! together: all that are up come in one MOMENT -/
theorem ord_c (S : Sc) (x9 : Nat) : ∀ k, ∃ n ro, oOrd S (fun _ => x9) k n ro
  | 0 => ⟨0, fun _ => 0, ord_0 S _ _⟩
  | k + 1 => by
    obtain ⟨n, ro, h⟩ := ord_c S x9 k
    by_cases g1 : pc_dn S (k + 1) = 0
    · exact ⟨n + 1, _, ord_y h g1 (Nat.le_refl _) (fun j h1 h2 => by omega) (Or.inr (Nat.le_refl _))⟩
    · exact ⟨n, ro, ord_n h g1⟩
theorem ord_x {S : Sc} {x9 y9 k n : Nat} {ro : Nat → Nat} (h : oOrd S (fun _ => x9) k n ro) : oOrd S (fun _ => y9) k n ro := by
  obtain ⟨h1, h2, h3, h4⟩ := h
  exact ⟨h1, h2, fun i j g1 g2 => Or.inr ⟨rfl, by
    have h5 := h3 i j g1 g2
    have h6 : x9 < x9 ∨ (x9 = x9 ∧ ro i < ro j) := h5
    omega⟩, h4⟩
theorem cw_c (x9 b9 : Nat) (h : x9 - 1 ≤ b9) : cwW (fun _ => x9) b9 = fun _ => 0 := by
  funext j
  induction j with
  | zero => rfl
  | succ j ih =>
    show cwW (fun _ => x9) b9 j + min 31 (x9 - 1 - b9 - (x9 - 1 - b9)) = 0
    rw [ih]
    omega
theorem c_tog {S9 S8 S : Sc} (h9 : eqv S9 S) (h8 : eqv S8 S) (ho : oSc S) {x9 x8 : Nat} (c9 : ∀ f, 1 ≤ f → f < S.1 1 → pc_dn S f = 0 → S9.2.1 5 f = x9) (c8 : ∀ f, 1 ≤ f → f < S.1 1 → pc_dn S f = 0 → S8.2.1 5 f = x8) : sp_c S9 = sp_c S8 := by
  obtain ⟨n, ro, h⟩ := ord_c S x9 (S.1 1 - 1)
  rcases Nat.eq_zero_or_pos n with e0 | e0
  · subst e0
    rw [c_0 h9 c9 h, c_0 h8 c8 (ord_x h)]
  · rw [c_cv h9 ho c9 h e0 rfl, c_cv h8 ho c8 (ord_x h) e0 rfl, cw_c _ _ (by omega), cw_c _ _ (by omega)]
theorem purL_iff (S : Sc) (t a9 v : Nat) : ∀ n, v ≤ sp_purL S t a9 n ↔ v ≤ a9 ∧ ∀ i, 1 ≤ i → i ≤ n → pc_dn S i = 0 → v ≤ sp_pts S i (S.2.1 4 i) t
  | 0 => ⟨fun h => ⟨h, fun i h1 h2 => by omega⟩, fun h => h.1⟩
  | n + 1 => by
    have ih := purL_iff S t a9 v n
    have e : sp_purL S t a9 (n + 1) = if pc_dn S (n + 1) = 0 then (if sp_purL S t a9 n ≤ sp_pts S (n + 1) (S.2.1 4 (n + 1)) t then sp_purL S t a9 n else sp_pts S (n + 1) (S.2.1 4 (n + 1)) t) else sp_purL S t a9 n := rfl
    rw [e]
    by_cases g1 : pc_dn S (n + 1) = 0
    · rw [if_pos g1]
      have e2 : v ≤ (if sp_purL S t a9 n ≤ sp_pts S (n + 1) (S.2.1 4 (n + 1)) t then sp_purL S t a9 n else sp_pts S (n + 1) (S.2.1 4 (n + 1)) t) ↔ v ≤ sp_purL S t a9 n ∧ v ≤ sp_pts S (n + 1) (S.2.1 4 (n + 1)) t := by
        split <;> omega
      rw [e2, ih]
      refine ⟨fun h => ⟨h.1.1, fun i h1 h2 h3 => ?_⟩, fun h => ⟨⟨h.1, fun i h1 h2 h3 => h.2 i h1 (by omega) h3⟩, h.2 (n + 1) (by omega) (Nat.le_refl _) g1⟩⟩
      by_cases e9 : i = n + 1
      · rw [e9]; exact h.2
      · exact h.1.2 i h1 (by omega) h3
    · rw [if_neg g1, ih]
      refine ⟨fun h => ⟨h.1, fun i h1 h2 h3 => ?_⟩, fun h => ⟨h.1, fun i h1 h2 h3 => h.2 i h1 (by omega) h3⟩⟩
      by_cases e9 : i = n + 1
      · rw [e9] at h3
        exact absurd h3 g1
      · exact h.2 i h1 (by omega) h3
theorem pur_tog {S : Sc} {f g : Nat} (f1 : 1 ≤ f) (f2 : f < S.1 1) (f3 : pc_dn S f = 0) (g1 : 1 ≤ g) (g2 : g < S.1 1) (g3 : pc_dn S g = 0) : sp_pur S 1 f = sp_pur S 1 g := by
  funext t
  show sp_purL S t (sp_pts S f (S.2.1 4 f) t) (S.1 1 - 1) = sp_purL S t (sp_pts S g (S.2.1 4 g) t) (S.1 1 - 1)
  refine Nat.le_antisymm ?_ ?_
  · have h := (purL_iff S t (sp_pts S f (S.2.1 4 f) t) _ (S.1 1 - 1)).mp (Nat.le_refl _)
    exact (purL_iff S t _ _ (S.1 1 - 1)).mpr ⟨h.2 g g1 (by omega) g3, h.2⟩
  · have h := (purL_iff S t (sp_pts S g (S.2.1 4 g) t) _ (S.1 1 - 1)).mp (Nat.le_refl _)
    exact (purL_iff S t _ _ (S.1 1 - 1)).mpr ⟨h.2 f f1 (by omega) f3, h.2⟩
theorem com_tog {S : Sc} {f g cell : Nat} (f1 : 1 ≤ f) (f2 : f < S.1 1) (f3 : pc_dn S f = 0) (g1 : 1 ≤ g) (g2 : g < S.1 1) (g3 : pc_dn S g = 0) : sp_com S 1 f cell = sp_com S 1 g cell := by
  unfold sp_com
  rw [pur_tog f1 f2 f3 g1 g2 g3]
/-- the scene with all there at once -/
def sc_one (S : Sc) : Sc := (S.1, va_up S.2.1 5 (fun _ => 0), S.2.2)
theorem ev_one (S : Sc) : eqv (sc_one S) S := ⟨rfl, rfl, rfl, fun _ hj => va_up_ne _ _ hj⟩
theorem c_one {S : Sc} (ho : oSc S) (m : Nat) : sp_c (sp_turn S 1 m) = sp_c (sc_one S) := by
  by_cases hx : ∃ g, 1 ≤ g ∧ g < S.1 1 ∧ pc_dn S g = 0
  · obtain ⟨g, g1, g2, g3⟩ := hx
    refine c_tog (x9 := sp_com S 1 g (sp_run S m)) (x8 := 0) (ev_turn S 1 m) (ev_one S) ho (fun f f1 f2 f3 => ?_) (fun f _ _ _ => rfl)
    show sp_cm S 1 m f = _
    unfold sp_cm
    rw [if_neg (by omega), if_neg (by omega), if_pos f3]
    exact com_tog f1 f2 f3 g1 g2 g3
  · exact c_tog (x9 := 0) (x8 := 0) (ev_turn S 1 m) (ev_one S) ho (fun f f1 f2 f3 => absurd ⟨f, f1, f2, f3⟩ hx) (fun f _ _ _ => rfl)
theorem rch_one {S : Sc} (ho : oSc S) (hnt : S.1 4 = 0) (t : Nat) : sp_c (sp_rch S 1 t) = sp_c (sc_one S) := by
  unfold sp_rch
  rw [if_pos hnt]
  exact c_one ho _
theorem byv_one {S : Sc} (ho : oSc S) (hnt : S.1 4 = 0) : ∀ k, sp_byv S 1 k = sp_c (sc_one S)
  | 0 => rch_one ho hnt _
  | k + 1 => by
    have ih := byv_one ho hnt k
    show (if sp_lkc S 1 (k + 1) = 0 then sp_c (sp_rch S 1 (S.1 3 + (k + 1))) else sp_byv S 1 k) = _
    rw [ih, rch_one ho hnt]
    exact ite_self _
theorem mo_one {S : Sc} (ho : oSc S) (hnt : S.1 4 = 0) : sp_mo S 1 = sp_c (sc_one S) := by
  have h : ∀ k, sp_mq S 1 (k + 1) = sp_c (sc_one S) + 1 := by
    intro k
    induction k with
    | zero =>
      show (if 0 ≤ sp_byv S 1 0 then sp_byv S 1 0 + 1 else 0) = _
      rw [if_pos (Nat.zero_le _), byv_one ho hnt]
    | succ k ih =>
      show (if sp_mq S 1 (k + 1) ≤ sp_byv S 1 (k + 1) then sp_byv S 1 (k + 1) + 1 else sp_mq S 1 (k + 1)) = _
      rw [ih, byv_one ho hnt, if_neg (by omega)]
  unfold sp_mo
  rw [h 60]
  omega
/-! runs by DRAWS: the MOMENTS without a fight are passed over -/
theorem fg_idle {S : Sc} (h : sp_mt S (S.1 3 + 1) = 0) : sp_fgS S = sN S 3 (S.1 3 + 1) := by
  unfold sp_fgS
  rw [if_pos h]
theorem nxL_up (S : Sc) : ∀ n, (∀ f, 1 ≤ f → f ≤ n → pc_dn S f = 0 → sp_nxL S n ≤ pc_nv (S.2.1 5 f)) ∧ (sp_nxL S n = 1073741824 ∨ ∃ f, 1 ≤ f ∧ f ≤ n ∧ pc_dn S f = 0 ∧ sp_nxL S n = pc_nv (S.2.1 5 f))
  | 0 => ⟨fun f h1 h2 => by omega, Or.inl rfl⟩
  | n + 1 => by
    obtain ⟨i1, i2⟩ := nxL_up S n
    have e : sp_nxL S (n + 1) = if pc_dn S (n + 1) = 0 then min (sp_nxL S n) (pc_nv (S.2.1 5 (n + 1))) else sp_nxL S n := rfl
    rw [e]
    by_cases g1 : pc_dn S (n + 1) = 0
    · rw [if_pos g1]
      refine ⟨fun f h1 h2 h3 => ?_, ?_⟩
      · by_cases e9 : f = n + 1
        · rw [e9]; omega
        · have := i1 f h1 (by omega) h3
          omega
      · rcases Nat.le_total (sp_nxL S n) (pc_nv (S.2.1 5 (n + 1))) with v9 | v9
        · rw [Nat.min_eq_left v9]
          rcases i2 with i2 | ⟨f, f1, f2, f3, f4⟩
          · exact Or.inl i2
          · exact Or.inr ⟨f, f1, by omega, f3, f4⟩
        · rw [Nat.min_eq_right v9]
          exact Or.inr ⟨n + 1, by omega, Nat.le_refl _, g1, rfl⟩
    · rw [if_neg g1]
      refine ⟨fun f h1 h2 h3 => ?_, ?_⟩
      · by_cases e9 : f = n + 1
        · rw [e9] at h3
          exact absurd h3 g1
        · exact i1 f h1 (by omega) h3
      · rcases i2 with i2 | ⟨f, f1, f2, f3, f4⟩
        · exact Or.inl i2
        · exact Or.inr ⟨f, f1, by omega, f3, f4⟩
theorem mt_none {S : Sc} {en : Nat} (h : ∀ f, 1 ≤ f → f < S.1 1 → pc_dn S f = 0 → en < S.2.1 5 f) (h1 : 1 ≤ S.1 1) : sp_mt S en = 0 := by
  by_cases g1 : sp_mt S en = 0
  · exact g1
  · exfalso
    have h2 := mtL_y S en (S.1 1 - 1) g1
    have h3 := sp_mtL_le S en (S.1 1 - 1)
    have h4 : ¬ sp_mtL S en (S.1 1 - 1) = 0 := g1
    have := h _ (by omega) (by omega) h2.1
    omega
theorem wr_skip {S : Sc} (h0 : sp_over S = 0) : ∀ d M, gdo (sN S 3 M) → (∀ f, 1 ≤ f → f < S.1 1 → pc_dn S f = 0 → M + d < S.2.1 5 f) → gdo (sN S 3 (M + d)) ∧ sp_wr (sN S 3 (M + d)) = sp_wr (sN S 3 M)
  | 0, M, hg, _ => ⟨hg, rfl⟩
  | d + 1, M, hg, h => by
    have ih := wr_skip h0 d M hg (fun f f1 f2 f3 => by have := h f f1 f2 f3; omega)
    have ho1 : sp_over (sN S 3 (M + d)) = 0 := (ev_over (ev_mo S _)).trans h0
    have hm : sp_mt (sN S 3 (M + d)) ((sN S 3 (M + d)).1 3 + 1) = 0 := by
      refine mt_none (fun f f1 f2 f3 => ?_) ?_
      · have := h f f1 f2 f3
        show M + d + 1 < S.2.1 5 f
        omega
      · have := (ov_0 h0).1
        show 1 ≤ S.1 1
        omega
    have e1 : sp_fgS (sN S 3 (M + d)) = sN S 3 (M + (d + 1)) := by
      rw [fg_idle hm]
      show sN (sN S 3 (M + d)) 3 (M + d + 1) = _
      rw [sN_mo]
      rfl
    have e2 := fg_gdo ih.1 ho1
    rw [e1] at e2
    refine ⟨e2.1, ?_⟩
    rw [← ih.2, ← wr_s ih.1 ho1, e1]
/-- one fight on: the next MOMENT in which one is there -/
theorem wr_next {S : Sc} (hg : gdo S) (h0 : sp_over S = 0) : ∃ M, max (S.1 3 + 1) (sp_nxL S (S.1 1 - 1)) = M + 1 ∧ M + 1 < 99999 ∧ gdo (sN S 3 M) ∧ sp_wr (sp_fgS (sN S 3 M)) = sp_wr S ∧ gdo (sp_fgS (sN S 3 M)) ∧ sp_hs (sp_fgS (sN S 3 M)) = sp_hs S + 1 := by
  obtain ⟨hx1, hx2⟩ := nxL_up S (S.1 1 - 1)
  obtain ⟨k, k1, k2, k3⟩ := ov_up h0
  have hk := hx1 k k1 (by omega) k3
  have hc := hg.2.1 k k1 k2 k3
  have hl := hs_le hg.1
  have hm := hg.2.2
  rw [nv_id (by omega)] at hk
  obtain ⟨f, f1, f2, f3, f4⟩ : ∃ f, 1 ≤ f ∧ f ≤ S.1 1 - 1 ∧ pc_dn S f = 0 ∧ sp_nxL S (S.1 1 - 1) = S.2.1 5 f := by
    rcases hx2 with hx2 | ⟨f, f1, f2, f3, f4⟩
    · omega
    · have := hg.2.1 f f1 (by omega) f3
      rw [nv_id (by omega)] at f4
      exact ⟨f, f1, f2, f3, f4⟩
  refine ⟨max (S.1 3 + 1) (sp_nxL S (S.1 1 - 1)) - 1, by omega, by omega, ?_⟩
  obtain ⟨d, hd⟩ : ∃ d, max (S.1 3 + 1) (sp_nxL S (S.1 1 - 1)) - 1 = S.1 3 + d := ⟨max (S.1 3 + 1) (sp_nxL S (S.1 1 - 1)) - 1 - S.1 3, by omega⟩
  have hsk : gdo (sN S 3 (S.1 3 + d)) ∧ sp_wr (sN S 3 (S.1 3 + d)) = sp_wr (sN S 3 (S.1 3)) := by
    rcases Nat.eq_zero_or_pos d with e0 | e0
    · subst e0
      exact ⟨by rw [Nat.add_zero, sN_id]; exact hg, rfl⟩
    · refine wr_skip h0 d (S.1 3) (by rw [sN_id]; exact hg) (fun q q1 q2 q3 => ?_)
      have h8 := hx1 q q1 (by omega) q3
      have h7 := hg.2.1 q q1 q2 q3
      rw [nv_id (by omega)] at h8
      omega
  rw [hd]
  have ho1 : sp_over (sN S 3 (S.1 3 + d)) = 0 := (ev_over (ev_mo S _)).trans h0
  have hfg := fg_gdo hsk.1 ho1
  refine ⟨hsk.1, ?_, hfg.1, ?_⟩
  · rw [wr_s hsk.1 ho1, hsk.2, sN_id]
  · have hmt : ¬ sp_mt (sN S 3 (S.1 3 + d)) ((sN S 3 (S.1 3 + d)).1 3 + 1) = 0 := by
      intro w9
      have := mtL_0 (sN S 3 (S.1 3 + d)) _ _ w9 f f1 f2 f3
      have h9 : S.1 3 + d + 1 < S.2.1 5 f := this
      omega
    unfold sp_fgS
    rw [if_neg hmt]
    obtain ⟨w1, w2⟩ := who_up ho1 hmt hsk.1.1
    exact hs_up (S := sD (sN (sN S 3 (S.1 3 + d)) 3 ((sN S 3 (S.1 3 + d)).1 3 + 1)) (pc_nx (sN S 3 (S.1 3 + d)).2.2)) w2
