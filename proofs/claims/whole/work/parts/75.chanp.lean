/-! CHANCE as the class folds it back: the same tables, MOMENT by MOMENT, long waits cut -/
section ChP
variable {S9 S : Sc} {ro rp : Nat → Nat} {n : Nat}
theorem ft_cg (he : eqv S9 S) (hr : ∀ j, j < n → rp j = ro j) {k : Nat} (hk : k < n) (V9 : Nat → Nat) (hi ow ot : Nat) : sp_ft S9 rp V9 k n hi ow ot = sp_ft S ro V9 k n hi ow ot := by
  have e1 := he.2.2.2 1 (by decide)
  have e2 := he.2.2.2 2 (by decide)
  have e4 := he.2.2.2 4 (by decide)
  have eo : sp_od S9 (rp k) hi ow ot = sp_od S (ro k) hi ow ot := by
    unfold sp_od
    rw [e1, e2, hr k hk]
  have ew : sp_wl S9 rp V9 k n hi ow = sp_wl S ro V9 k n hi ow := by
    unfold sp_wl
    by_cases g5 : 5 ≤ ow
    · rw [if_pos g5, if_pos g5]
      by_cases gn : k + 1 = n
      · rw [if_pos gn, if_pos gn]
      · rw [if_neg gn, if_neg gn, e4, hr (k + 1) (by omega)]
    · rw [if_neg g5, if_neg g5]
  unfold sp_ft
  rw [eo, ew]
theorem bs_cg (he : eqv S9 S) (hr : ∀ j, j < n → rp j = ro j) (hn : 1 ≤ n) (V9 : Nat → Nat) : ∀ d, sp_bs S9 rp n V9 d = sp_bs S ro n V9 d
  | 0 => rfl
  | d + 1 => by
    have ih := bs_cg he hr hn V9 d
    show va_up (sp_bs S9 rp n V9 d) (36 * n - (d + 1)) (sp_ft S9 rp (sp_bs S9 rp n V9 d) ((36 * n - (d + 1)) / 36) n ((36 * n - (d + 1)) % 6) ((36 * n - (d + 1)) / 6 % 6) (n - 1 - (36 * n - (d + 1)) / 36)) = _
    rw [ih, ft_cg he hr (by omega)]
    rfl
/-- one MOMENT sooner, when t of them are there -/
def ah1 (S : Sc) (ro : Nat → Nat) (n t : Nat) (V9 : Nat → Nat) (q : Nat) : Nat := if q < 36 * n then (if q / 36 < t then sp_ft S ro V9 (q / 36) n (q % 6) (q / 6 % 6) (t - 1 - q / 36) else V9 q) else V9 q
theorem ah1_0 (V9 : Nat → Nat) : ah1 S ro n 0 V9 = V9 := by
  funext q
  unfold ah1
  split
  · rw [if_neg (Nat.not_lt_zero _)]
  · rfl
theorem beh_t {en t : Nat} (h : ∀ j, j < n → (S9.2.1 5 (rp j) ≤ en ↔ j < t)) (ht : t ≤ n) (k : Nat) : ∀ i, k + 1 + i ≤ n → sp_beh S9 rp k en i = min i (t - 1 - k)
  | 0, _ => by
    show 0 = _
    omega
  | i + 1, hi => by
    have ih := beh_t h ht k i (by omega)
    have h1 := h (k + 1 + i) (by omega)
    show sp_beh S9 rp k en i + (if en < S9.2.1 5 (rp (k + 1 + i)) then 0 else 1) = _
    rw [ih]
    by_cases g1 : k + 1 + i < t
    · have := h1.mpr g1
      rw [if_neg (by omega)]
      omega
    · have g2 : ¬ S9.2.1 5 (rp (k + 1 + i)) ≤ en := fun w9 => g1 (h1.mp w9)
      rw [if_pos (by omega)]
      omega
theorem ah_t (he : eqv S9 S) (hr : ∀ j, j < n → rp j = ro j) {en t : Nat} (h : ∀ j, j < n → (S9.2.1 5 (rp j) ≤ en ↔ j < t)) (ht : t ≤ n) (V9 : Nat → Nat) : sp_ah S9 rp n en V9 = ah1 S ro n t V9 := by
  funext q
  unfold sp_ah ah1
  by_cases g0 : q < 36 * n
  · rw [if_pos g0, if_pos g0]
    have h1 := h (q / 36) (by omega)
    by_cases g1 : q / 36 < t
    · rw [if_pos g1, if_pos (h1.mpr g1), ft_cg he hr (by omega), beh_t h ht (q / 36) (n - 1 - q / 36) (by omega)]
      rw [show min (n - 1 - q / 36) (t - 1 - q / 36) = t - 1 - q / 36 by omega]
    · rw [if_neg g1, if_neg (fun w9 => g1 (h1.mp w9))]
  · rw [if_neg g0, if_neg g0]
/-- how many of a row are no more than en -/
def cntL (cf : Nat → Nat) (en : Nat) : Nat → Nat
  | 0 => 0
  | j + 1 => cntL cf en j + (if cf j ≤ en then 1 else 0)
theorem cnt_of {cf : Nat → Nat} {en t : Nat} : ∀ k, (∀ j, j < k → (cf j ≤ en ↔ j < t)) → cntL cf en k = min k t
  | 0, _ => by
    show 0 = _
    omega
  | k + 1, h => by
    have ih := cnt_of k (fun j hj => h j (by omega))
    have h1 := h k (by omega)
    show cntL cf en k + (if cf k ≤ en then 1 else 0) = _
    rw [ih]
    by_cases g1 : k < t
    · rw [if_pos (h1.mpr g1)]
      omega
    · rw [if_neg (fun w9 => g1 (h1.mp w9))]
      omega
theorem cnt_ok {cf : Nat → Nat} {en : Nat} : ∀ k, (∀ i j, i < j → j < k → cf i ≤ cf j) → cntL cf en k ≤ k ∧ ∀ j, j < k → (cf j ≤ en ↔ j < cntL cf en k)
  | 0, _ => ⟨Nat.le_refl _, fun j hj => by omega⟩
  | k + 1, h => by
    have ih := cnt_ok (en := en) k (fun i j h1 h2 => h i j h1 (by omega))
    have ed : cntL cf en (k + 1) = cntL cf en k + (if cf k ≤ en then 1 else 0) := rfl
    by_cases g1 : cf k ≤ en
    · rw [if_pos g1] at ed
      have e2 : cntL cf en k = k := by
        rcases Nat.lt_or_ge (cntL cf en k) k with w9 | w9
        · have h1 := h (cntL cf en k) k w9 (by omega)
          have h2 := (ih.2 (cntL cf en k) w9).mp (by omega)
          omega
        · omega
      refine ⟨by omega, fun j hj => ⟨fun _ => by omega, fun _ => ?_⟩⟩
      by_cases ej : j = k
      · rw [ej]; exact g1
      · have := h j k (by omega) (by omega)
        omega
    · rw [if_neg g1] at ed
      refine ⟨by omega, fun j hj => ?_⟩
      by_cases ej : j = k
      · rw [ej]
        exact ⟨fun w9 => absurd w9 g1, fun w9 => by omega⟩
      · rw [ih.2 j (by omega), ed]
        exact ⟨fun w9 => by omega, fun w9 => by omega⟩
def itF (S : Sc) (ro : Nat → Nat) (n t : Nat) (V9 : Nat → Nat) : Nat → Nat → Nat
  | 0 => V9
  | d + 1 => ah1 S ro n t (itF S ro n t V9 d)
theorem sq_it {F9 : Nat → Nat → Nat} {ta : Nat → Nat} (hF : ∀ i, F9 (i + 1) = ah1 S ro n (ta i) (F9 i)) {k t : Nat} : ∀ d, (∀ i, k ≤ i → i < k + d → ta i = t) → F9 (k + d) = itF S ro n t (F9 k) d
  | 0, _ => rfl
  | d + 1, h => by
    have ih := sq_it hF d (fun i h1 h2 => h i h1 (by omega))
    show F9 (k + d + 1) = ah1 S ro n t (itF S ro n t (F9 k) d)
    rw [hF, ih, h (k + d) (by omega) (by omega)]
def chn (S : Sc) (ro : Nat → Nat) (n : Nat) (dd : Nat → Nat) (V9 : Nat → Nat) : Nat → Nat → Nat
  | 0 => V9
  | i + 1 => itF S ro n (n - 1 - i) (chn S ro n dd V9 i) (dd (n - 1 - i))
theorem mono_w {w : Nat → Nat} (hw : ∀ j, j + 1 < n → w j ≤ w (j + 1)) : ∀ d j, j + d < n → w j ≤ w (j + d)
  | 0, j, _ => Nat.le_refl _
  | d + 1, j, h => by
    have ih := mono_w hw d j (by omega)
    have := hw (j + d) (by omega)
    show _ ≤ w (j + d + 1)
    omega
theorem sq_ch {F9 : Nat → Nat → Nat} {ta : Nat → Nat} (hF : ∀ i, F9 (i + 1) = ah1 S ro n (ta i) (F9 i)) {w : Nat → Nat} (hw : ∀ j, j + 1 < n → w j ≤ w (j + 1)) (ht : ∀ j, 1 ≤ j → j < n → ∀ i, w (n - 1) - w j ≤ i → i < w (n - 1) - w (j - 1) → ta i = j) : ∀ i, i ≤ n - 1 → F9 (w (n - 1) - w (n - 1 - i)) = chn S ro n (fun j => w j - w (j - 1)) (F9 0) i
  | 0, _ => by
    rw [Nat.sub_zero, Nat.sub_self]
    rfl
  | i + 1, hi => by
    have ih := sq_ch hF hw ht i (by omega)
    have h1 := mono_w hw i (n - 1 - i) (by omega)
    rw [show n - 1 - i + i = n - 1 by omega] at h1
    have h2 := hw (n - 1 - (i + 1)) (by omega)
    rw [show n - 1 - (i + 1) + 1 = n - 1 - i by omega] at h2
    have h3 := ht (n - 1 - i) (by omega) (by omega)
    rw [show n - 1 - i - 1 = n - 1 - (i + 1) by omega] at h3
    show _ = itF S ro n (n - 1 - i) (chn S ro n (fun j => w j - w (j - 1)) (F9 0) i) (w (n - 1 - i) - w (n - 1 - i - 1))
    rw [← ih, show n - 1 - i - 1 = n - 1 - (i + 1) by omega]
    rw [← sq_it hF (w (n - 1 - i) - w (n - 1 - (i + 1))) (fun q g1 g2 => h3 q g1 (by omega))]
    congr 1
    omega
/-- a wait of 31 MOMENTS is as good as a longer one -/
theorem it_st {t : Nat} (hn : n ≤ 4) (ht : t ≤ n) (hu : ∀ j, j < n → S.2.1 4 (ro j) ≤ 5) (V9 : Nat → Nat) : ∀ d q, (q < 36 * n → q / 36 < t → 6 * (t - 1 - q / 36) + (6 - q / 6 % 6) + (6 - q % 6) ≤ d) → itF S ro n t V9 (d + 1) q = itF S ro n t V9 d q
  | 0, q, h => by
    show ah1 S ro n t V9 q = V9 q
    unfold ah1
    by_cases g0 : q < 36 * n
    · rw [if_pos g0]
      by_cases g1 : q / 36 < t
      · have := h g0 g1
        omega
      · rw [if_neg g1]
    · rw [if_neg g0]
  | d + 1, q, h => by
    have ih := it_st hn ht hu V9 d
    show ah1 S ro n t (itF S ro n t V9 (d + 1)) q = ah1 S ro n t (itF S ro n t V9 d) q
    unfold ah1
    by_cases g0 : q < 36 * n
    · rw [if_pos g0, if_pos g0]
      by_cases g1 : q / 36 < t
      · rw [if_pos g1, if_pos g1]
        have hd := h g0 g1
        have ew : sp_wl S ro (itF S ro n t V9 (d + 1)) (q / 36) n (q % 6) (q / 6 % 6) = sp_wl S ro (itF S ro n t V9 d) (q / 36) n (q % 6) (q / 6 % 6) := by
          unfold sp_wl
          by_cases g5 : 5 ≤ q / 6 % 6
          · rw [if_pos g5, if_pos g5]
            by_cases gn : q / 36 + 1 = n
            · rw [if_pos gn, if_pos gn]
            · rw [if_neg gn, if_neg gn]
              have h5 := hu (q / 36 + 1) (by omega)
              generalize S.2.1 4 (ro (q / 36 + 1)) = u9 at h5
              refine ih _ (fun _ g3 => ?_)
              have k1 : (36 * (q / 36 + 1) + 6 * u9 + q % 6) / 36 = q / 36 + 1 := by omega
              have k2 : (36 * (q / 36 + 1) + 6 * u9 + q % 6) / 6 % 6 = u9 := by omega
              have k3 : (36 * (q / 36 + 1) + 6 * u9 + q % 6) % 6 = q % 6 := by omega
              rw [k1] at g3
              rw [k1, k2, k3]
              omega
          · rw [if_neg g5, if_neg g5]
            refine ih _ (fun _ g3 => ?_)
            have k1 : (36 * (q / 36) + 6 * (q / 6 % 6 + 1) + q % 6) / 36 = q / 36 := by omega
            have k2 : (36 * (q / 36) + 6 * (q / 6 % 6 + 1) + q % 6) / 6 % 6 = q / 6 % 6 + 1 := by omega
            have k3 : (36 * (q / 36) + 6 * (q / 6 % 6 + 1) + q % 6) % 6 = q % 6 := by omega
            rw [k1, k2, k3]
            omega
        have ei : sp_il (itF S ro n t V9 (d + 1)) (q / 36) (q % 6) (q / 6 % 6) = sp_il (itF S ro n t V9 d) (q / 36) (q % 6) (q / 6 % 6) := by
          unfold sp_il
          by_cases g5 : 5 ≤ q % 6
          · rw [if_pos g5, if_pos g5]
          · rw [if_neg g5, if_neg g5]
            refine ih _ (fun _ g3 => ?_)
            have k1 : (36 * (q / 36) + 6 * (q / 6 % 6) + q % 6 + 1) / 36 = q / 36 := by omega
            have k2 : (36 * (q / 36) + 6 * (q / 6 % 6) + q % 6 + 1) / 6 % 6 = q / 6 % 6 := by omega
            have k3 : (36 * (q / 36) + 6 * (q / 6 % 6) + q % 6 + 1) % 6 = q % 6 + 1 := by omega
            rw [k1, k2, k3]
            omega
        unfold sp_ft
        rw [ew, ei]
      · rw [if_neg g1, if_neg g1]
        exact ih q (fun _ g3 => absurd g3 g1)
    · rw [if_neg g0, if_neg g0]
      exact ih q (fun g3 => absurd g3 g0)
theorem it_31 {t : Nat} (hn : n ≤ 4) (ht : t ≤ n) (hu : ∀ j, j < n → S.2.1 4 (ro j) ≤ 5) (V9 : Nat → Nat) (d : Nat) : itF S ro n t V9 d = itF S ro n t V9 (min 31 d) := by
  rcases Nat.lt_or_ge d 31 with w9 | w9
  · rw [show min 31 d = d by omega]
  · rw [show min 31 d = 31 by omega]
    obtain ⟨k, rfl⟩ : ∃ k, d = 31 + k := ⟨d - 31, by omega⟩
    clear w9
    induction k with
    | zero => rfl
    | succ k ih =>
      rw [← ih]
      funext q
      exact it_st hn ht hu V9 (31 + k) q (fun _ _ => by omega)
theorem chn_31 (hn : n ≤ 4) (hu : ∀ j, j < n → S.2.1 4 (ro j) ≤ 5) {dd de : Nat → Nat} (h : ∀ j, 1 ≤ j → j < n → de j = min 31 (dd j)) (V9 : Nat → Nat) : ∀ i, i ≤ n - 1 → chn S ro n dd V9 i = chn S ro n de V9 i
  | 0, _ => rfl
  | i + 1, hi => by
    have ih := chn_31 hn hu h V9 i (by omega)
    show itF S ro n (n - 1 - i) (chn S ro n dd V9 i) (dd (n - 1 - i)) = itF S ro n (n - 1 - i) (chn S ro n de V9 i) (de (n - 1 - i))
    rw [ih, h (n - 1 - i) (by omega) (by omega), ← it_31 hn (by omega) hu]
end ChP
/-- how long each comes behind the last MOMENT without a fight -/
def cwt (cf : Nat → Nat) (b9 j : Nat) : Nat := cf j - 1 - b9
def cwW (cf : Nat → Nat) (b9 : Nat) : Nat → Nat
  | 0 => 0
  | j + 1 => cwW cf b9 j + min 31 (cwt cf b9 (j + 1) - cwt cf b9 j)
/-- CHANCE by the row and the waits -/
def cvV (S : Sc) (ro : Nat → Nat) (n : Nat) (w : Nat → Nat) : Nat := chn S ro n (fun j => w j - w (j - 1)) (sp_bs S ro n (fun _ => 0) (36 * n)) (n - 1) (6 * S.2.1 4 (ro 0) + S.2.1 4 0)
section ChQ
variable {S9 S : Sc} {ro rp : Nat → Nat} {n : Nat}
theorem lk_cv (he : eqv S9 S) (hn : n ≤ 4) (hn1 : 1 ≤ n) (hr : ∀ j, j < n → rp j = ro j) (hu : ∀ j, j < n → S.2.1 4 (ro j) ≤ 5) (hso : ∀ i j, i < j → j < n → S9.2.1 5 (rp i) ≤ S9.2.1 5 (rp j)) {M9 b9 : Nat} (hb : b9 = max M9 (S9.2.1 5 (rp 0) - 1)) : sp_lk S9 rp n (sp_bs S9 rp n (fun _ => 0) (36 * n)) (S9.2.1 5 (rp (n - 1)) - 1 - M9) (6 * S9.2.1 4 (rp 0) + S9.2.1 4 0) = cvV S ro n (cwW (fun j => S9.2.1 5 (rp j)) b9) := by
  rw [bs_cg he hr hn1]
  obtain ⟨cf, hcf⟩ : ∃ cf : Nat → Nat, cf = fun j => S9.2.1 5 (rp j) := ⟨_, rfl⟩
  have hcj : ∀ j, S9.2.1 5 (rp j) = cf j := fun j => by rw [hcf]
  rw [← hcf, hcj]
  rw [hcj] at hb
  have hso2 : ∀ i j, i < j → j < n → cf i ≤ cf j := fun i j h1 h2 => by
    have := hso i j h1 h2
    rw [hcj, hcj] at this
    exact this
  have hF : ∀ i, sp_lk S9 rp n (sp_bs S ro n (fun _ => 0) (36 * n)) (i + 1) = ah1 S ro n (cntL cf (cf (n - 1) - 1 - i) n) (sp_lk S9 rp n (sp_bs S ro n (fun _ => 0) (36 * n)) i) := by
    intro i
    show sp_ah S9 rp n (S9.2.1 5 (rp (n - 1)) - 1 - i) _ = _
    rw [hcj]
    have h9 := cnt_ok (cf := cf) (en := cf (n - 1) - 1 - i) n hso2
    exact ah_t he hr (fun j hj => by rw [hcj]; exact h9.2 j hj) h9.1 _
  obtain ⟨wt, hwt⟩ : ∃ wt : Nat → Nat, wt = cwt cf b9 := ⟨_, rfl⟩
  have hwj : ∀ j, wt j = cf j - 1 - b9 := fun j => by rw [hwt]; rfl
  have hw0 : wt 0 = 0 := by
    rw [hwj]
    omega
  have hwm : ∀ j, j + 1 < n → wt j ≤ wt (j + 1) := by
    intro j hj
    have := hso2 j (j + 1) (by omega) hj
    rw [hwj, hwj]
    omega
  have hch := sq_ch hF hwm (fun j h1 h2 i h3 h4 => by
    have m1 := mono_w hwm (n - 1 - j) j (by omega)
    rw [show j + (n - 1 - j) = n - 1 by omega] at m1
    have e1 := hwj j
    have e2 := hwj (j - 1)
    have e3 := hwj (n - 1)
    refine (cnt_of (t := j) n (fun k hk => ⟨fun g1 => ?_, fun g1 => ?_⟩)).trans (by omega)
    · rcases Nat.lt_or_ge k j with w9 | w9
      · exact w9
      · have : cf j ≤ cf k := by
          rcases Nat.lt_or_ge j k with v9 | v9
          · exact hso2 j k v9 hk
          · rw [show j = k by omega]
            exact Nat.le_refl _
        omega
    · have : cf k ≤ cf (j - 1) := by
        rcases Nat.lt_or_ge k (j - 1) with v9 | v9
        · exact hso2 k (j - 1) v9 (by omega)
        · rw [show k = j - 1 by omega]
          exact Nat.le_refl _
      omega) (n - 1) (Nat.le_refl _)
  rw [Nat.sub_self, hw0, Nat.sub_zero] at hch
  -- the MOMENTS ahead of the first one that comes
  have hid : ∀ d, cf (n - 1) - 1 - M9 = wt (n - 1) + d → sp_lk S9 rp n (sp_bs S ro n (fun _ => 0) (36 * n)) (wt (n - 1) + d) = sp_lk S9 rp n (sp_bs S ro n (fun _ => 0) (36 * n)) (wt (n - 1)) := by
    intro d hd
    have e3 := hwj (n - 1)
    have h8 : ∀ k, k ≤ d → sp_lk S9 rp n (sp_bs S ro n (fun _ => 0) (36 * n)) (wt (n - 1) + k) = sp_lk S9 rp n (sp_bs S ro n (fun _ => 0) (36 * n)) (wt (n - 1)) := by
      intro k
      induction k with
      | zero => intro _; rfl
      | succ k ih =>
        intro hk
        show sp_lk S9 rp n _ (wt (n - 1) + k + 1) = _
        rw [hF]
        have e0 : cntL cf (cf (n - 1) - 1 - (wt (n - 1) + k)) n = 0 := by
          refine (cnt_of (t := 0) n (fun j hj => ⟨fun g1 => ?_, fun g1 => by omega⟩)).trans (by omega)
          have : cf 0 ≤ cf j := by
            rcases Nat.eq_zero_or_pos j with v9 | v9
            · rw [v9]; exact Nat.le_refl _
            · exact hso2 0 j v9 hj
          omega
        rw [e0, ah1_0]
        exact ih (by omega)
    exact h8 d (Nat.le_refl _)
  have e3 := hwj (n - 1)
  have e4 : cf (n - 1) - 1 - M9 = wt (n - 1) + (cf (n - 1) - 1 - M9 - wt (n - 1)) := by omega
  rw [e4, hid _ e4, hch]
  unfold cvV
  rw [he.2.2.2 4 (by decide), hr 0 (by omega)]
  have e5 : ∀ j, 1 ≤ j → j < n → (fun j => cwW cf b9 j - cwW cf b9 (j - 1)) j = min 31 ((fun j => wt j - wt (j - 1)) j) := by
    intro j h1 _
    obtain ⟨k, rfl⟩ : ∃ k, j = k + 1 := ⟨j - 1, by omega⟩
    show (cwW cf b9 k + min 31 (cwt cf b9 (k + 1) - cwt cf b9 k)) - cwW cf b9 k = min 31 (wt (k + 1) - wt k)
    rw [hwt]
    omega
  rw [chn_31 hn hu e5 _ (n - 1) (Nat.le_refl _)]
  rfl
end ChQ
/-! the row of those that come -/
def oOrd (S : Sc) (cf : Nat → Nat) (k n : Nat) (ro : Nat → Nat) : Prop := n = sp_ou S k ∧ (∀ j, j < n → 1 ≤ ro j ∧ ro j ≤ k ∧ pc_dn S (ro j) = 0) ∧ (∀ i j, i < j → j < n → cf (ro i) < cf (ro j) ∨ (cf (ro i) = cf (ro j) ∧ ro i < ro j)) ∧ ∀ f, 1 ≤ f → f ≤ k → pc_dn S f = 0 → ∃ j, j < n ∧ ro j = f
def insO (ro : Nat → Nat) (p9 f j : Nat) : Nat := if j < p9 then ro j else (if j = p9 then f else ro (j - 1))
theorem ord_0 (S : Sc) (cf ro : Nat → Nat) : oOrd S cf 0 0 ro := ⟨rfl, fun j hj => by omega, fun i j _ h2 => by omega, fun f h1 h2 => by omega⟩
theorem ord_n {S : Sc} {cf ro : Nat → Nat} {k n : Nat} (h : oOrd S cf k n ro) (hd : ¬ pc_dn S (k + 1) = 0) : oOrd S cf (k + 1) n ro := by
  obtain ⟨h1, h2, h3, h4⟩ := h
  refine ⟨by rw [oc_n hd]; exact h1, fun j hj => ?_, h3, fun f f1 f2 f3 => ?_⟩
  · have := h2 j hj
    exact ⟨this.1, by omega, this.2.2⟩
  · by_cases ef : f = k + 1
    · rw [ef] at f3
      exact absurd f3 hd
    · exact h4 f f1 (by omega) f3
theorem ord_y {S : Sc} {cf ro : Nat → Nat} {k n p9 : Nat} (h : oOrd S cf k n ro) (hd : pc_dn S (k + 1) = 0) (hp : p9 ≤ n) (hb : ∀ j, p9 ≤ j → j < n → cf (k + 1) < cf (ro j)) (ha : p9 = 0 ∨ cf (ro (p9 - 1)) ≤ cf (k + 1)) : oOrd S cf (k + 1) (n + 1) (insO ro p9 (k + 1)) := by
  obtain ⟨h1, h2, h3, h4⟩ := h
  have hs : ∀ i, i < p9 → cf (ro i) ≤ cf (k + 1) := by
    intro i hi
    by_cases ei : i = p9 - 1
    · rw [ei]; omega
    · have := h3 i (p9 - 1) (by omega) (by omega)
      omega
  refine ⟨by rw [oc_y hd, h1], fun j hj => ?_, fun i j hij hj => ?_, fun f f1 f2 f3 => ?_⟩
  · unfold insO
    by_cases g1 : j < p9
    · rw [if_pos g1]
      have := h2 j (by omega)
      exact ⟨this.1, by omega, this.2.2⟩
    · rw [if_neg g1]
      by_cases g2 : j = p9
      · rw [if_pos g2]
        exact ⟨by omega, Nat.le_refl _, hd⟩
      · rw [if_neg g2]
        have := h2 (j - 1) (by omega)
        exact ⟨this.1, by omega, this.2.2⟩
  · unfold insO
    by_cases g1 : i < p9
    · rw [if_pos g1]
      have k2 := (h2 i (by omega)).2.1
      have k3 := hs i g1
      by_cases g2 : j < p9
      · rw [if_pos g2]
        exact h3 i j hij (by omega)
      · rw [if_neg g2]
        by_cases g3 : j = p9
        · rw [if_pos g3]
          omega
        · rw [if_neg g3]
          have := hb (j - 1) (by omega) (by omega)
          omega
    · rw [if_neg g1, if_neg (show ¬ j < p9 by omega), if_neg (show ¬ j = p9 by omega)]
      by_cases g3 : i = p9
      · rw [if_pos g3]
        exact Or.inl (hb (j - 1) (by omega) (by omega))
      · rw [if_neg g3]
        exact h3 (i - 1) (j - 1) (by omega) (by omega)
  · by_cases ef : f = k + 1
    · refine ⟨p9, by omega, ?_⟩
      unfold insO
      rw [if_neg (by omega), if_pos rfl, ef]
    · obtain ⟨j, hj, ej⟩ := h4 f f1 (by omega) f3
      by_cases g1 : j < p9
      · refine ⟨j, by omega, ?_⟩
        unfold insO
        rw [if_pos g1, ej]
      · refine ⟨j + 1, by omega, ?_⟩
        unfold insO
        rw [if_neg (by omega), if_neg (by omega)]
        exact ej
theorem is_iff {S : Sc} {pa la f : Nat} : ¬ sp_is S pa la f = 0 ↔ pc_dn S f = 0 ∧ (pa ≤ S.2.1 5 f ∨ (S.2.1 5 f + 1 = pa ∧ la ≤ f)) := by
  refine ⟨sp_is_ok, fun h => ?_⟩
  unfold sp_is
  rw [if_pos h.1]
  by_cases g1 : pa ≤ S.2.1 5 f
  · rw [if_pos g1]; decide
  · rw [if_neg g1, if_pos (by omega), if_neg (by omega)]; decide
theorem sl_min (S : Sc) (pa la : Nat) : ∀ n, (sp_sl S pa la n = 0 ∧ ∀ f, 1 ≤ f → f ≤ n → sp_is S pa la f = 0) ∨ ((1 ≤ sp_sl S pa la n ∧ sp_sl S pa la n ≤ n ∧ ¬ sp_is S pa la (sp_sl S pa la n) = 0) ∧ ∀ f, 1 ≤ f → f ≤ n → ¬ sp_is S pa la f = 0 → S.2.1 5 (sp_sl S pa la n) < S.2.1 5 f ∨ (S.2.1 5 (sp_sl S pa la n) = S.2.1 5 f ∧ sp_sl S pa la n ≤ f))
  | 0 => Or.inl ⟨rfl, fun f h1 h2 => by omega⟩
  | n + 1 => by
    have ih := sl_min S pa la n
    have ed : sp_sl S pa la (n + 1) = if sp_is S pa la (n + 1) = 0 then sp_sl S pa la n else (if sp_sl S pa la n = 0 then n + 1 else (if S.2.1 5 (sp_sl S pa la n) ≤ S.2.1 5 (n + 1) then sp_sl S pa la n else n + 1)) := rfl
    by_cases g1 : sp_is S pa la (n + 1) = 0
    · rw [if_pos g1] at ed
      rw [ed]
      rcases ih with ⟨i1, i2⟩ | ⟨⟨i1, i2, i3⟩, i4⟩
      · refine Or.inl ⟨i1, fun f f1 f2 => ?_⟩
        by_cases ef : f = n + 1
        · rw [ef]; exact g1
        · exact i2 f f1 (by omega)
      · refine Or.inr ⟨⟨i1, by omega, i3⟩, fun f f1 f2 f3 => ?_⟩
        by_cases ef : f = n + 1
        · rw [ef] at f3
          exact absurd g1 f3
        · exact i4 f f1 (by omega) f3
    · rw [if_neg g1] at ed
      rcases ih with ⟨i1, i2⟩ | ⟨⟨i1, i2, i3⟩, i4⟩
      · rw [if_pos i1] at ed
        rw [ed]
        refine Or.inr ⟨⟨by omega, Nat.le_refl _, g1⟩, fun f f1 f2 f3 => ?_⟩
        by_cases ef : f = n + 1
        · rw [ef]
          exact Or.inr ⟨rfl, Nat.le_refl _⟩
        · exact absurd (i2 f f1 (by omega)) f3
      · rw [if_neg (by omega)] at ed
        by_cases g2 : S.2.1 5 (sp_sl S pa la n) ≤ S.2.1 5 (n + 1)
        · rw [if_pos g2] at ed
          rw [ed]
          refine Or.inr ⟨⟨i1, by omega, i3⟩, fun f f1 f2 f3 => ?_⟩
          by_cases ef : f = n + 1
          · rw [ef]
            omega
          · exact i4 f f1 (by omega) f3
        · rw [if_neg g2] at ed
          rw [ed]
          refine Or.inr ⟨⟨by omega, Nat.le_refl _, g1⟩, fun f f1 f2 f3 => ?_⟩
          by_cases ef : f = n + 1
          · rw [ef]
            exact Or.inr ⟨rfl, Nat.le_refl _⟩
          · have := i4 f f1 (by omega) f3
            omega
theorem sl_eq {S : Sc} {pa la n g9 : Nat} (h1 : 1 ≤ g9) (h2 : g9 ≤ n) (h3 : ¬ sp_is S pa la g9 = 0) (h4 : ∀ f, 1 ≤ f → f ≤ n → ¬ sp_is S pa la f = 0 → S.2.1 5 g9 < S.2.1 5 f ∨ (S.2.1 5 g9 = S.2.1 5 f ∧ g9 ≤ f)) : sp_sl S pa la n = g9 := by
  rcases sl_min S pa la n with ⟨i1, i2⟩ | ⟨⟨i1, i2, i3⟩, i4⟩
  · exact absurd (i2 g9 h1 h2) h3
  · have k1 := h4 _ i1 i2 i3
    have k2 := i4 g9 h1 h2 h3
    omega
theorem ro_ord {S9 S : Sc} {cf ro : Nat → Nat} {n : Nat} (hd : ∀ f, pc_dn S9 f = pc_dn S f) (hc : ∀ f, 1 ≤ f → f ≤ S9.1 1 - 1 → pc_dn S f = 0 → S9.2.1 5 f = cf f) (h : oOrd S cf (S9.1 1 - 1) n ro) (hn4 : n ≤ 4) : (∀ j, j < n → sp_ro S9 j = ro j) ∧ n = sp_rn S9 := by
  obtain ⟨h1, h2, h3, h4⟩ := h
  have hro : ∀ j, j ≤ n → (∀ i, i < j → sp_ro S9 i = ro i) ∧ (j = n → sp_ro S9 n = 0) ∧ (j < n → sp_ro S9 j = ro j) := by
    intro j
    induction j with
    | zero =>
      intro _
      refine ⟨fun i hi => by omega, fun e0 => ?_, fun hj => ?_⟩
      · show sp_sl S9 (sp_sq S9 n).1 (sp_sq S9 n).2 (S9.1 1 - 1) = 0
        rcases sl_min S9 (sp_sq S9 n).1 (sp_sq S9 n).2 (S9.1 1 - 1) with i9 | ⟨⟨i1, i2, i3⟩, _⟩
        · exact i9.1
        · have := (is_iff.mp i3).1
          rw [hd] at this
          obtain ⟨j9, hj9, _⟩ := h4 _ i1 i2 this
          omega
      · have k0 := h2 0 hj
        refine sl_eq k0.1 k0.2.1 (is_iff.mpr ⟨by rw [hd]; exact k0.2.2, Or.inl (Nat.zero_le _)⟩) (fun f f1 f2 f3 => ?_)
        have f4 := (is_iff.mp f3).1
        rw [hd] at f4
        obtain ⟨j9, hj9, ej9⟩ := h4 f f1 f2 f4
        rw [hc _ k0.1 k0.2.1 k0.2.2, hc f f1 f2 f4, ← ej9]
        rcases Nat.eq_zero_or_pos j9 with v9 | v9
        · rw [v9]
          exact Or.inr ⟨rfl, Nat.le_refl _⟩
        · have := h3 0 j9 v9 hj9
          omega
    | succ j ih =>
      intro hj
      obtain ⟨ih1, _, ih3⟩ := ih (by omega)
      have ej := ih3 (by omega)
      have kj := h2 j (by omega)
      have esq : sp_sq S9 (j + 1) = (cf (ro j) + 1, ro j + 1) := by
        show (S9.2.1 5 (sp_ro S9 j) + 1, sp_ro S9 j + 1) = _
        rw [ej, hc _ kj.1 kj.2.1 kj.2.2]
      have hbe : ∀ f, 1 ≤ f → f ≤ S9.1 1 - 1 → ¬ sp_is S9 (cf (ro j) + 1) (ro j + 1) f = 0 → ∃ i, j < i ∧ i < n ∧ ro i = f := by
        intro f f1 f2 f3
        have f4 := is_iff.mp f3
        have f5 := f4.1
        rw [hd] at f5
        have f6 := f4.2
        rw [hc f f1 f2 f5] at f6
        obtain ⟨i, hi, ei⟩ := h4 f f1 f2 f5
        refine ⟨i, ?_, hi, ei⟩
        rcases Nat.lt_or_ge j i with v9 | v9
        · exact v9
        · rw [← ei] at f6
          by_cases e9 : i = j
          · rw [e9] at f6
            omega
          · have := h3 i j (by omega) (by omega)
            omega
      refine ⟨fun i hi => ?_, fun e0 => ?_, fun hj2 => ?_⟩
      · by_cases e9 : i = j
        · rw [e9]; exact ej
        · exact ih1 i (by omega)
      · rw [← e0]
        show sp_sl S9 (sp_sq S9 (j + 1)).1 (sp_sq S9 (j + 1)).2 (S9.1 1 - 1) = 0
        rw [esq]
        rcases sl_min S9 (cf (ro j) + 1) (ro j + 1) (S9.1 1 - 1) with i9 | ⟨⟨i1, i2, i3⟩, _⟩
        · exact i9.1
        · obtain ⟨i, k1, k2, _⟩ := hbe _ i1 i2 i3
          omega
      · show sp_sl S9 (sp_sq S9 (j + 1)).1 (sp_sq S9 (j + 1)).2 (S9.1 1 - 1) = _
        rw [esq]
        have k0 := h2 (j + 1) hj2
        have k1 := h3 j (j + 1) (by omega) hj2
        refine sl_eq k0.1 k0.2.1 (is_iff.mpr ⟨by rw [hd]; exact k0.2.2, by rw [hc _ k0.1 k0.2.1 k0.2.2]; omega⟩) (fun f f1 f2 f3 => ?_)
        have f4 := (is_iff.mp f3).1
        rw [hd] at f4
        obtain ⟨i, k3, k4, k5⟩ := hbe f f1 f2 f3
        rw [hc _ k0.1 k0.2.1 k0.2.2, hc f f1 f2 f4, ← k5]
        by_cases e9 : i = j + 1
        · rw [e9]
          exact Or.inr ⟨rfl, Nat.le_refl _⟩
        · have := h3 (j + 1) i (by omega) k4
          omega
  have hall := hro n (Nat.le_refl _)
  refine ⟨hall.1, rn_eq hn4 (fun j hj => ?_) (Or.inl (hall.2.1 rfl))⟩
  rw [hall.1 j hj]
  have := (h2 j hj).1
  omega
theorem c_cv {S9 S : Sc} {cf ro : Nat → Nat} {n : Nat} (he : eqv S9 S) (ho : oSc S) (hc : ∀ f, 1 ≤ f → f < S.1 1 → pc_dn S f = 0 → S9.2.1 5 f = cf f) (h : oOrd S cf (S.1 1 - 1) n ro) {b9 : Nat} (hn1 : 1 ≤ n) (hb : b9 = max (S9.1 3) (cf (ro 0) - 1)) : sp_c S9 = cvV S ro n (cwW (fun j => cf (ro j)) b9) := by
  have hn4 : n ≤ 4 := by
    have h1 := h.1
    have h2 := ou_le S (S.1 1 - 1)
    have o3 := ho.2.2.1
    omega
  have e1 : S9.1 1 = S.1 1 := he.2.1
  have hR := ro_ord (S9 := S9) (ev_dn he) (fun f f1 f2 f3 => hc f f1 (by omega) f3) (by rw [e1]; exact h) hn4
  have hcf : ∀ j, j < n → S9.2.1 5 (sp_ro S9 j) = cf (ro j) := by
    intro j hj
    have k0 := h.2.1 j hj
    rw [hR.1 j hj]
    exact hc _ k0.1 (by omega) k0.2.2
  unfold sp_c sp_ch
  rw [← hR.2, if_neg (by omega)]
  have hso : ∀ i j, i < j → j < n → S9.2.1 5 (sp_ro S9 i) ≤ S9.2.1 5 (sp_ro S9 j) := by
    intro i j h1 h2
    rw [hcf i (by omega), hcf j h2]
    have := h.2.2.1 i j h1 h2
    omega
  rw [lk_cv he hn4 hn1 hR.1 (fun j hj => dn_5 ho (h.2.1 j hj).2.2) hso (M9 := S9.1 3) (b9 := b9) (by rw [hcf 0 (by omega)]; exact hb)]
  have ew : ∀ j, j < n → cwW (fun j => S9.2.1 5 (sp_ro S9 j)) b9 j = cwW (fun j => cf (ro j)) b9 j := by
    intro j
    induction j with
    | zero => intro _; rfl
    | succ j ih =>
      intro hj
      show cwW (fun j => S9.2.1 5 (sp_ro S9 j)) b9 j + min 31 (S9.2.1 5 (sp_ro S9 (j + 1)) - 1 - b9 - (S9.2.1 5 (sp_ro S9 j) - 1 - b9)) = cwW (fun j => cf (ro j)) b9 j + min 31 (cf (ro (j + 1)) - 1 - b9 - (cf (ro j) - 1 - b9))
      rw [ih (by omega), hcf (j + 1) hj, hcf j (by omega)]
  unfold cvV
  have ech : ∀ (V9 : Nat → Nat) i, i ≤ n - 1 → chn S ro n (fun j => cwW (fun j => S9.2.1 5 (sp_ro S9 j)) b9 j - cwW (fun j => S9.2.1 5 (sp_ro S9 j)) b9 (j - 1)) V9 i = chn S ro n (fun j => cwW (fun j => cf (ro j)) b9 j - cwW (fun j => cf (ro j)) b9 (j - 1)) V9 i := by
    intro V9 i
    induction i with
    | zero => intro _; rfl
    | succ i ih =>
      intro hi
      show itF S ro n (n - 1 - i) (chn S ro n _ V9 i) (cwW (fun j => S9.2.1 5 (sp_ro S9 j)) b9 (n - 1 - i) - cwW (fun j => S9.2.1 5 (sp_ro S9 j)) b9 (n - 1 - i - 1)) = itF S ro n (n - 1 - i) (chn S ro n _ V9 i) (cwW (fun j => cf (ro j)) b9 (n - 1 - i) - cwW (fun j => cf (ro j)) b9 (n - 1 - i - 1))
      rw [ih (by omega), ew (n - 1 - i) (by omega), ew (n - 1 - i - 1) (by omega)]
  rw [ech _ (n - 1) (Nat.le_refl _)]
theorem c_0 {S9 S : Sc} {cf ro : Nat → Nat} (he : eqv S9 S) (hc : ∀ f, 1 ≤ f → f < S.1 1 → pc_dn S f = 0 → S9.2.1 5 f = cf f) (h : oOrd S cf (S.1 1 - 1) 0 ro) : sp_c S9 = 1000000 := by
  have e1 : S9.1 1 = S.1 1 := he.2.1
  have hR := ro_ord (S9 := S9) (ev_dn he) (fun f f1 f2 f3 => hc f f1 (by omega) f3) (by rw [e1]; exact h) (by omega)
  unfold sp_c sp_ch
  rw [if_pos hR.2.symm]
