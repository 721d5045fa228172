/-! the class's one table: his HURT by the BLOWS that they have had -/
def oB (S : Sc) (ro : Nat → Nat) : Nat → Nat
  | 0 => 0
  | j + 1 => oB S ro j + (6 - S.2.1 4 (ro j))
def oI (S : Sc) (ro w : Nat → Nat) : Nat → Nat
  | 0 => 0
  | j + 1 => max (oI S ro w j) (w j - oB S ro j)
def oT (S : Sc) (ro : Nat → Nat) (n b : Nat) : Nat := cntL (fun j => oB S ro (j + 1)) b n
def oX (S : Sc) (ro : Nat → Nat) (n b : Nat) : Nat := 36 * oT S ro n b + 6 * (S.2.1 4 (ro (oT S ro n b)) + (b - oB S ro (oT S ro n b)))
def oF (S : Sc) (ro : Nat → Nat) (n b : Nat) : Nat := pc_force (S.2.1 1 (ro (oT S ro n b))) (S.2.1 2 (ro (oT S ro n b))) (S.2.1 4 (ro (oT S ro n b)) + (b - oB S ro (oT S ro n b)))
section FoP
variable {S : Sc} {ro w : Nat → Nat} {n : Nat}
theorem oB_le : ∀ j, oB S ro j ≤ 6 * j
  | 0 => Nat.le_refl _
  | j + 1 => by
    have h := oB_le j
    show oB S ro j + (6 - S.2.1 4 (ro j)) ≤ _
    omega
theorem oB_s (j : Nat) : oB S ro j ≤ oB S ro (j + 1) := Nat.le_add_right _ _
theorem oB_m (i : Nat) : ∀ d, oB S ro i ≤ oB S ro (i + d)
  | 0 => Nat.le_refl _
  | d + 1 => Nat.le_trans (oB_m i d) (oB_s (i + d))
theorem oB_mono {i j : Nat} (h : i ≤ j) : oB S ro i ≤ oB S ro j := by
  have := oB_m (S := S) (ro := ro) i (j - i)
  rw [show i + (j - i) = j by omega] at this
  exact this
theorem oT_eq {j b : Nat} (hj : j < n) (h1 : oB S ro j ≤ b) (h2 : b < oB S ro (j + 1)) : oT S ro n b = j := by
  refine (cnt_of (t := j) n (fun k hk => ⟨fun g1 => ?_, fun g1 => ?_⟩)).trans (by omega)
  · rcases Nat.lt_or_ge k j with v9 | v9
    · exact v9
    · have := oB_mono (S := S) (ro := ro) (show j + 1 ≤ k + 1 by omega)
      omega
  · have := oB_mono (S := S) (ro := ro) (show k + 1 ≤ j by omega)
    show oB S ro (k + 1) ≤ b
    omega
theorem oT_ok {b : Nat} (hb : b < oB S ro n) : oT S ro n b < n ∧ oB S ro (oT S ro n b) ≤ b ∧ b < oB S ro (oT S ro n b + 1) := by
  have h := cnt_ok (cf := fun j => oB S ro (j + 1)) (en := b) n (fun i j h1 _ => oB_mono (by omega))
  have ht : oT S ro n b = cntL (fun j => oB S ro (j + 1)) b n := rfl
  rw [← ht] at h
  have h1 : oT S ro n b < n := by
    rcases Nat.lt_or_ge (oT S ro n b) n with v9 | v9
    · exact v9
    · rcases Nat.eq_zero_or_pos n with e0 | e0
      · subst e0
        exact absurd hb (Nat.not_lt_zero _)
      · have := (h.2 (n - 1) (by omega)).mpr (by omega)
        rw [show n - 1 + 1 = n by omega] at this
        omega
  refine ⟨h1, ?_, ?_⟩
  · rcases Nat.eq_zero_or_pos (oT S ro n b) with e0 | e0
    · rw [e0]
      exact Nat.zero_le _
    · have := (h.2 (oT S ro n b - 1) (by omega)).mpr (by omega)
      rw [show oT S ro n b - 1 + 1 = oT S ro n b by omega] at this
      exact this
  · rcases Nat.lt_or_ge b (oB S ro (oT S ro n b + 1)) with v9 | v9
    · exact v9
    · have := (h.2 (oT S ro n b) h1).mp v9
      omega
theorem oT_own {b : Nat} (hb : b < oB S ro n) : S.2.1 4 (ro (oT S ro n b)) + (b - oB S ro (oT S ro n b)) ≤ 5 := by
  have h := oT_ok hb
  have e : oB S ro (oT S ro n b + 1) = oB S ro (oT S ro n b) + (6 - S.2.1 4 (ro (oT S ro n b))) := rfl
  omega
theorem oT_s {b : Nat} (hb : b + 1 < oB S ro n) (hu : ∀ j, j < n → S.2.1 4 (ro j) ≤ 5) : oX S ro n (b + 1) = if S.2.1 4 (ro (oT S ro n b)) + (b - oB S ro (oT S ro n b)) = 5 then 36 * (oT S ro n b + 1) + 6 * S.2.1 4 (ro (oT S ro n b + 1)) else 36 * oT S ro n b + 6 * (S.2.1 4 (ro (oT S ro n b)) + (b - oB S ro (oT S ro n b)) + 1) := by
  have h := oT_ok (S := S) (ro := ro) (n := n) (b := b) (by omega)
  have e : oB S ro (oT S ro n b + 1) = oB S ro (oT S ro n b) + (6 - S.2.1 4 (ro (oT S ro n b))) := rfl
  have h5 := hu _ h.1
  by_cases g1 : S.2.1 4 (ro (oT S ro n b)) + (b - oB S ro (oT S ro n b)) = 5
  · rw [if_pos g1]
    have g2 : oT S ro n b + 1 < n := by
      rcases Nat.lt_or_ge (oT S ro n b + 1) n with v9 | v9
      · exact v9
      · rw [show n = oT S ro n b + 1 by omega] at hb
        rw [← show n = oT S ro n b + 1 by omega] at hb
        have := oB_mono (S := S) (ro := ro) (show n ≤ oT S ro n b + 1 by omega)
        omega
    have h6 := hu _ g2
    have e2 : oB S ro (oT S ro n b + 1 + 1) = oB S ro (oT S ro n b + 1) + (6 - S.2.1 4 (ro (oT S ro n b + 1))) := rfl
    have e3 : oT S ro n (b + 1) = oT S ro n b + 1 := oT_eq g2 (by omega) (by omega)
    unfold oX
    rw [e3, show b + 1 - oB S ro (oT S ro n b + 1) = 0 by omega]
    rfl
  · rw [if_neg g1]
    have h7 := oT_own (S := S) (ro := ro) (n := n) (b := b) (by omega)
    have e3 : oT S ro n (b + 1) = oT S ro n b := oT_eq h.1 (by omega) (by omega)
    unfold oX
    rw [e3]
    omega
theorem X_lt {b h : Nat} (hb : b < oB S ro n) (hh : h < 6) : oX S ro n b + h < 36 * n ∧ (oX S ro n b + h) / 36 = oT S ro n b ∧ (oX S ro n b + h) % 6 = h ∧ (oX S ro n b + h) / 6 % 6 = S.2.1 4 (ro (oT S ro n b)) + (b - oB S ro (oT S ro n b)) := by
  have h1 := oT_ok hb
  have h2 := oT_own hb
  unfold oX
  generalize S.2.1 4 (ro (oT S ro n b)) + (b - oB S ro (oT S ro n b)) = u9 at h2
  generalize oT S ro n b = t9 at h1
  omega
/-- a fight, in the class's places -/
theorem ft_X {b h ot : Nat} (hb : b < oB S ro n) (hh : h < 6) (hu : ∀ j, j < n → S.2.1 4 (ro j) ≤ 5) (V9 : Nat → Nat) : sp_ft S ro V9 (oT S ro n b) n h (S.2.1 4 (ro (oT S ro n b)) + (b - oB S ro (oT S ro n b))) ot = (pc_btw ((8 + (pc_force (S.2.1 1 0) (S.2.1 2 0) h : Int)) - (oF S ro n b : Int) - ((2 * ot : Nat) : Int)) * (if b + 1 = oB S ro n then 1000000 else V9 (oX S ro n (b + 1) + h)) + (16 - pc_btw ((8 + (pc_force (S.2.1 1 0) (S.2.1 2 0) h : Int)) - (oF S ro n b : Int) - ((2 * ot : Nat) : Int))) * (if h = 5 then 0 else V9 (oX S ro n b + (h + 1)))) / 16 := by
  have h1 := oT_ok hb
  have h2 := oT_own hb
  have e : oB S ro (oT S ro n b + 1) = oB S ro (oT S ro n b) + (6 - S.2.1 4 (ro (oT S ro n b))) := rfl
  have h5 := hu _ h1.1
  have ew : sp_wl S ro V9 (oT S ro n b) n h (S.2.1 4 (ro (oT S ro n b)) + (b - oB S ro (oT S ro n b))) = if b + 1 = oB S ro n then 1000000 else V9 (oX S ro n (b + 1) + h) := by
    unfold sp_wl
    by_cases g1 : S.2.1 4 (ro (oT S ro n b)) + (b - oB S ro (oT S ro n b)) = 5
    · rw [if_pos (by omega)]
      by_cases g2 : oT S ro n b + 1 = n
      · rw [if_pos g2, if_pos (by rw [← g2]; omega)]
      · have h6 := hu (oT S ro n b + 1) (by omega)
        have e2 : oB S ro (oT S ro n b + 1 + 1) = oB S ro (oT S ro n b + 1) + (6 - S.2.1 4 (ro (oT S ro n b + 1))) := rfl
        have h7 := oB_mono (S := S) (ro := ro) (show oT S ro n b + 1 + 1 ≤ n by omega)
        rw [if_neg g2, if_neg (by omega), oT_s (by omega) hu, if_pos g1]
    · rw [if_neg (by omega)]
      have h7 := oB_mono (S := S) (ro := ro) (show oT S ro n b + 1 ≤ n by omega)
      rw [if_neg (by omega), oT_s (by omega) hu, if_neg g1]
  have ei : sp_il V9 (oT S ro n b) h (S.2.1 4 (ro (oT S ro n b)) + (b - oB S ro (oT S ro n b))) = if h = 5 then 0 else V9 (oX S ro n b + (h + 1)) := by
    unfold sp_il
    by_cases g1 : h = 5
    · rw [if_pos (by omega), if_pos g1]
    · rw [if_neg (by omega), if_neg g1]
      rfl
  unfold sp_ft
  rw [ew, ei]
  rfl
/-- the table when all are there -/
theorem bs_fix (hu : ∀ j, j < n → S.2.1 4 (ro j) ≤ 5) (V9 : Nat → Nat) {q : Nat} (hq : q < 36 * n) : sp_bs S ro n V9 (36 * n) q = sp_ft S ro (sp_bs S ro n V9 (36 * n)) (q / 36) n (q % 6) (q / 6 % 6) (n - 1 - q / 36) := by
  have st : ∀ d e, d + e ≤ 36 * n → ∀ k, 36 * n - d ≤ k → k < 36 * n → sp_bs S ro n V9 (d + e) k = sp_bs S ro n V9 d k := by
    intro d e
    induction e with
    | zero => intro _ k _ _; rfl
    | succ e ih =>
      intro h1 k h2 h3
      show va_up (sp_bs S ro n V9 (d + e)) (36 * n - (d + e + 1)) _ k = _
      rw [va_up_ne _ _ (by omega)]
      exact ih (by omega) k h2 h3
  obtain ⟨d, hd⟩ : ∃ d, 36 * n = q + 1 + d := ⟨36 * n - (q + 1), by omega⟩
  have e1 := st (d + 1) (36 * n - (d + 1)) (by omega) q (by omega) hq
  rw [show d + 1 + (36 * n - (d + 1)) = 36 * n by omega] at e1
  rw [e1]
  show va_up (sp_bs S ro n V9 d) (36 * n - (d + 1)) _ q = _
  rw [show 36 * n - (d + 1) = q by omega, va_up_self]
  refine ft_agree (by omega) (by omega) (by omega) hu (fun k h1 h2 => ?_)
  have e2 := st d (36 * n - d) (by omega) k (by omega) h2
  rw [show d + (36 * n - d) = 36 * n by omega] at e2
  exact e2.symm
end FoP
/-- the tables, from the last wait back -/
def vmT (S : Sc) (ro : Nat → Nat) (n : Nat) (w : Nat → Nat) : Nat → Nat → Nat
  | 0 => sp_bs S ro n (fun _ => 0) (36 * n)
  | i + 1 => ah1 S ro n (cntL w (w (n - 1) - (i + 1)) n) (vmT S ro n w i)
def mV (S : Sc) (ro : Nat → Nat) (n : Nat) (w : Nat → Nat) (m : Nat) : Nat → Nat := vmT S ro n w (w (n - 1) - m)
theorem vm_le (S : Sc) (ro : Nat → Nat) (n : Nat) (w : Nat → Nat) : ∀ i q, vmT S ro n w i q ≤ 1000000
  | 0, q => bs_le S ro _ n (fun _ => Nat.zero_le _) _ q
  | i + 1, q => by
    have ih := vm_le S ro n w i
    show ah1 S ro n _ (vmT S ro n w i) q ≤ _
    unfold ah1
    split
    · split
      · exact sp_ft_le S ro _ ih _ _ _ _ _
      · exact ih q
    · exact ih q
/-- he has so much HURT and they so many BLOWS by MOMENT m -/
def mR (S : Sc) (ro : Nat → Nat) (n : Nat) (w : Nat → Nat) (fi m h b : Nat) : Prop := fi ≤ h ∧ h < 6 ∧ b < oB S ro n ∧ fi + m ≤ h + oI S ro w (oT S ro n b + 1) + b ∧ h + b ≤ fi + m
def mE (S : Sc) (ro : Nat → Nat) (n fi : Nat) (z : RS) : Prop := (∀ b, b < oB S ro n → z.2.1 9 (150 + b) = nI 0) ∧ ∀ h, fi ≤ h → h < 6 → z.2.1 9 (h * 25 + oB S ro n) = nI 1000000
def mRI (S : Sc) (ro : Nat → Nat) (n : Nat) (w : Nat → Nat) (fi m : Nat) (z : RS) : Prop := mE S ro n fi z ∧ ∀ h b, mR S ro n w fi m h b → z.2.1 9 (h * 25 + b) = nI (mV S ro n w m (oX S ro n b + h))
def mD (S : Sc) (ro : Nat → Nat) (n : Nat) (w : Nat → Nat) (fi m b0 h0 : Nat) (z : RS) : Prop := mE S ro n fi z ∧ (∀ h b, mR S ro n w fi m h b → (b < b0 ∨ (b = b0 ∧ h < h0)) → z.2.1 9 (h * 25 + b) = nI (mV S ro n w m (oX S ro n b + h))) ∧ ∀ h b, mR S ro n w fi (m + 1) h b → ¬ (b < b0 ∨ (b = b0 ∧ h < h0)) → z.2.1 9 (h * 25 + b) = nI (mV S ro n w (m + 1) (oX S ro n b + h))
def bD (S : Sc) (ro : Nat → Nat) (n : Nat) (w : Nat → Nat) (fi b0 h0 : Nat) (z : RS) : Prop := mE S ro n fi z ∧ ∀ h b, fi ≤ h → h < 6 → b < oB S ro n → fi + w (n - 1) ≤ h + oI S ro w (oT S ro n b + 1) + b → (b0 < b ∨ (b = b0 ∧ h0 ≤ h)) → z.2.1 9 (h * 25 + b) = nI (sp_bs S ro n (fun _ => 0) (36 * n) (oX S ro n b + h))
section FoQ
variable {S : Sc} {ro w : Nat → Nat} {n fi : Nat}
theorem oI_m (i : Nat) : ∀ d, oI S ro w i ≤ oI S ro w (i + d)
  | 0 => Nat.le_refl _
  | d + 1 => by
    have h := oI_m i d
    show _ ≤ max (oI S ro w (i + d)) _
    omega
theorem oI_mono {i j : Nat} (h : i ≤ j) : oI S ro w i ≤ oI S ro w j := by
  have := oI_m (S := S) (ro := ro) (w := w) i (j - i)
  rw [show i + (j - i) = j by omega] at this
  exact this
theorem oI_ge (j : Nat) : w j - oB S ro j ≤ oI S ro w (j + 1) := Nat.le_max_right _ _
theorem oT_mono {a b : Nat} (h : a ≤ b) : oT S ro n a ≤ oT S ro n b := by
  unfold oT
  induction n with
  | zero => exact Nat.le_refl _
  | succ n ih =>
    show cntL _ a n + (if oB S ro (n + 1) ≤ a then 1 else 0) ≤ cntL _ b n + (if oB S ro (n + 1) ≤ b then 1 else 0)
    by_cases g1 : oB S ro (n + 1) ≤ a
    · rw [if_pos g1, if_pos (show oB S ro (n + 1) ≤ b by omega)]
      omega
    · rw [if_neg g1]
      split <;> omega
theorem mV_s {m : Nat} (hm : m < w (n - 1)) : mV S ro n w m = ah1 S ro n (cntL w m n) (mV S ro n w (m + 1)) := by
  unfold mV
  rw [show w (n - 1) - m = w (n - 1) - (m + 1) + 1 by omega]
  show ah1 S ro n (cntL w (w (n - 1) - (w (n - 1) - (m + 1) + 1)) n) _ = _
  rw [show w (n - 1) - (w (n - 1) - (m + 1) + 1) = m by omega]
theorem mE_w {z : RS} (hE : mE S ro n fi z) (hn : n ≤ 4) {h b : Nat} (hh : h < 6) (hb : b < oB S ro n) (v : Int32) : mE S ro n fi (sA z 9 (h * 25 + b) v) := by
  have h24 := oB_le (S := S) (ro := ro) n
  refine ⟨fun c hc => ?_, fun k h1 h2 => ?_⟩
  · exact (pk_un (f := z.2.1 9) (by omega)).trans (hE.1 c hc)
  · exact (pk_un (f := z.2.1 9) (by omega)).trans (hE.2 k h1 h2)
/-- what a fight reads in MOMENT m -/
theorem mD_rd {m b h : Nat} {z : RS} (hn : n ≤ 4) (hd : mD S ro n w fi m b h z) (hr : mR S ro n w fi m h b) : z.2.1 9 (h * 25 + b + 1) = nI (if b + 1 = oB S ro n then 1000000 else mV S ro n w (m + 1) (oX S ro n (b + 1) + h)) ∧ z.2.1 9 (h * 25 + b + 25) = nI (if h = 5 then 0 else mV S ro n w (m + 1) (oX S ro n b + (h + 1))) := by
  obtain ⟨r1, r2, r3, r4, r5⟩ := hr
  refine ⟨?_, ?_⟩
  · by_cases g1 : b + 1 = oB S ro n
    · rw [if_pos g1]
      have := hd.1.2 h r1 r2
      rw [← g1] at this
      exact this
    · rw [if_neg g1]
      have hm := oI_mono (S := S) (ro := ro) (w := w) (show oT S ro n b + 1 ≤ oT S ro n (b + 1) + 1 by have := oT_mono (S := S) (ro := ro) (n := n) (show b ≤ b + 1 by omega); omega)
      exact hd.2.2 h (b + 1) ⟨r1, r2, by omega, by omega, by omega⟩ (by omega)
  · by_cases g1 : h = 5
    · rw [if_pos g1, g1]
      have := hd.1.1 b r3
      rw [show 5 * 25 + b + 25 = 150 + b by omega]
      exact this
    · rw [if_neg g1]
      have := hd.2.2 (h + 1) b ⟨by omega, by omega, r3, by omega, by omega⟩ (by omega)
      rw [show h * 25 + b + 25 = (h + 1) * 25 + b by omega]
      exact this
theorem mD_s {m b h th : Nat} {z : RS} (hn : n ≤ 4) (hu : ∀ j, j < n → S.2.1 4 (ro j) ≤ 5) (hm : m < w (n - 1)) (hth : th = cntL w m n) (hb : oT S ro n b < th) (hd : mD S ro n w fi m b h z) (hr : mR S ro n w fi m h b) {v : Nat} (hv : v = (pc_btw ((8 + (pc_force (S.2.1 1 0) (S.2.1 2 0) h : Int)) - (oF S ro n b : Int) - ((2 * (th - 1 - oT S ro n b) : Nat) : Int)) * (if b + 1 = oB S ro n then 1000000 else mV S ro n w (m + 1) (oX S ro n (b + 1) + h)) + (16 - pc_btw ((8 + (pc_force (S.2.1 1 0) (S.2.1 2 0) h : Int)) - (oF S ro n b : Int) - ((2 * (th - 1 - oT S ro n b) : Nat) : Int))) * (if h = 5 then 0 else mV S ro n w (m + 1) (oX S ro n b + (h + 1)))) / 16) : mD S ro n w fi m b (h + 1) (sA z 9 (h * 25 + b) (nI v)) := by
  have hr9 := hr
  obtain ⟨r1, r2, r3, r4, r5⟩ := hr9
  have h24 := oB_le (S := S) (ro := ro) n
  have hX := X_lt (S := S) (ro := ro) (n := n) r3 r2
  have ev : v = mV S ro n w m (oX S ro n b + h) := by
    rw [hv, mV_s hm, ← ft_X r3 r2 hu]
    unfold ah1
    rw [if_pos hX.1, hX.2.1, hX.2.2.1, hX.2.2.2, ← hth, if_pos hb]
  refine ⟨mE_w hd.1 hn r2 r3 _, fun k c hc g1 => ?_, fun k c hc g1 => ?_⟩
  · by_cases e9 : k = h ∧ c = b
    · rw [e9.1, e9.2, ← ev]
      exact pk_us (f := z.2.1 9)
    · refine (pk_un (f := z.2.1 9) ?_).trans (hd.2.1 k c hc (by omega))
      have := hc.2.2.1
      omega
  · refine (pk_un (f := z.2.1 9) ?_).trans (hd.2.2 k c hc (by omega))
    have := hc.2.2.1
    omega
theorem mD_skip {m b h b2 h2 : Nat} {z : RS} (hd : mD S ro n w fi m b h z) (hle : b < b2 ∨ (b = b2 ∧ h ≤ h2)) (hno : ∀ k c, mR S ro n w fi m k c → (b < c ∨ (c = b ∧ h ≤ k)) → (c < b2 ∨ (c = b2 ∧ k < h2)) → False) : mD S ro n w fi m b2 h2 z := by
  refine ⟨hd.1, fun k c hc g1 => ?_, fun k c hc g1 => hd.2.2 k c hc (by omega)⟩
  by_cases e9 : c < b ∨ (c = b ∧ k < h)
  · exact hd.2.1 k c hc e9
  · exact absurd (hno k c hc (by omega) g1) id
theorem mD_0 {m : Nat} {z : RS} (h : mRI S ro n w fi (m + 1) z) : mD S ro n w fi m 0 0 z := ⟨h.1, fun k c _ g1 => by omega, fun k c hc _ => h.2 k c hc⟩
theorem mD_e {m th : Nat} {z : RS} (hm : m < w (n - 1)) (hw : ∀ j, j < n → (w j ≤ m ↔ j < th)) (hth : th = cntL w m n) (hd : mD S ro n w fi m (oB S ro th) 0 z) : mRI S ro n w fi m z := by
  refine ⟨hd.1, fun k c hc => ?_⟩
  have h1 := oT_ok (S := S) (ro := ro) (n := n) hc.2.2.1
  by_cases g1 : c < oB S ro th
  · exact hd.2.1 k c hc (by omega)
  · have g2 : th ≤ oT S ro n c := by
      rcases Nat.lt_or_ge (oT S ro n c) th with v9 | v9
      · have := oB_mono (S := S) (ro := ro) (show oT S ro n c + 1 ≤ th by omega)
        omega
      · exact v9
    have g3 : m < w (oT S ro n c) := by
      rcases Nat.lt_or_ge m (w (oT S ro n c)) with v9 | v9
      · exact v9
      · have := (hw _ h1.1).mp v9
        omega
    have g4 := oI_ge (S := S) (ro := ro) (w := w) (oT S ro n c)
    obtain ⟨r1, r2, r3, r4, r5⟩ := hc
    have e1 : mV S ro n w m (oX S ro n c + k) = mV S ro n w (m + 1) (oX S ro n c + k) := by
      have hX := X_lt (S := S) (ro := ro) (n := n) r3 r2
      rw [mV_s hm]
      unfold ah1
      rw [if_pos hX.1, hX.2.1, ← hth, if_neg (by omega)]
    rw [e1]
    exact hd.2.2 k c ⟨r1, r2, r3, by omega, by omega⟩ (by omega)
theorem bD_rd {b h : Nat} {z : RS} (hn : n ≤ 4) (hd : bD S ro n w fi b (h + 1) z) (r1 : fi ≤ h) (r2 : h < 6) (r3 : b < oB S ro n) (r4 : fi + w (n - 1) ≤ h + oI S ro w (oT S ro n b + 1) + b) : z.2.1 9 (h * 25 + b + 1) = nI (if b + 1 = oB S ro n then 1000000 else sp_bs S ro n (fun _ => 0) (36 * n) (oX S ro n (b + 1) + h)) ∧ z.2.1 9 (h * 25 + b + 25) = nI (if h = 5 then 0 else sp_bs S ro n (fun _ => 0) (36 * n) (oX S ro n b + (h + 1))) := by
  refine ⟨?_, ?_⟩
  · by_cases g1 : b + 1 = oB S ro n
    · rw [if_pos g1]
      have := hd.1.2 h r1 r2
      rw [← g1] at this
      exact this
    · rw [if_neg g1]
      have hm := oI_mono (S := S) (ro := ro) (w := w) (show oT S ro n b + 1 ≤ oT S ro n (b + 1) + 1 by have := oT_mono (S := S) (ro := ro) (n := n) (show b ≤ b + 1 by omega); omega)
      exact hd.2 h (b + 1) r1 r2 (by omega) (by omega) (by omega)
  · by_cases g1 : h = 5
    · rw [if_pos g1, g1]
      have := hd.1.1 b r3
      rw [show 5 * 25 + b + 25 = 150 + b by omega]
      exact this
    · rw [if_neg g1]
      have := hd.2 (h + 1) b (by omega) (by omega) r3 (by omega) (by omega)
      rw [show h * 25 + b + 25 = (h + 1) * 25 + b by omega]
      exact this
theorem bD_s {b h : Nat} {z : RS} (hn : n ≤ 4) (hu : ∀ j, j < n → S.2.1 4 (ro j) ≤ 5) (hd : bD S ro n w fi b (h + 1) z) (r1 : fi ≤ h) (r2 : h < 6) (r3 : b < oB S ro n) {v : Nat} (hv : v = (pc_btw ((8 + (pc_force (S.2.1 1 0) (S.2.1 2 0) h : Int)) - (oF S ro n b : Int) - ((2 * (n - 1 - oT S ro n b) : Nat) : Int)) * (if b + 1 = oB S ro n then 1000000 else sp_bs S ro n (fun _ => 0) (36 * n) (oX S ro n (b + 1) + h)) + (16 - pc_btw ((8 + (pc_force (S.2.1 1 0) (S.2.1 2 0) h : Int)) - (oF S ro n b : Int) - ((2 * (n - 1 - oT S ro n b) : Nat) : Int))) * (if h = 5 then 0 else sp_bs S ro n (fun _ => 0) (36 * n) (oX S ro n b + (h + 1)))) / 16) : bD S ro n w fi b h (sA z 9 (h * 25 + b) (nI v)) := by
  have h24 := oB_le (S := S) (ro := ro) n
  have hX := X_lt (S := S) (ro := ro) (n := n) r3 r2
  have ev : v = sp_bs S ro n (fun _ => 0) (36 * n) (oX S ro n b + h) := by
    rw [hv, ← ft_X r3 r2 hu, bs_fix hu _ hX.1, hX.2.1, hX.2.2.1, hX.2.2.2]
  refine ⟨mE_w hd.1 hn r2 r3 _, fun k c c1 c2 c3 c4 g1 => ?_⟩
  by_cases e9 : k = h ∧ c = b
  · rw [e9.1, e9.2, ← ev]
    exact pk_us (f := z.2.1 9)
  · exact (pk_un (f := z.2.1 9) (by omega)).trans (hd.2 k c c1 c2 c3 c4 (by omega))
theorem bD_skip {b h b2 h2 : Nat} {z : RS} (hd : bD S ro n w fi b h z) (hno : ∀ k c, fi ≤ k → k < 6 → c < oB S ro n → fi + w (n - 1) ≤ k + oI S ro w (oT S ro n c + 1) + c → (b2 < c ∨ (c = b2 ∧ h2 ≤ k)) → ¬ (b < c ∨ (c = b ∧ h ≤ k)) → False) : bD S ro n w fi b2 h2 z := by
  refine ⟨hd.1, fun k c c1 c2 c3 c4 g1 => ?_⟩
  by_cases e9 : b < c ∨ (c = b ∧ h ≤ k)
  · exact hd.2 k c c1 c2 c3 c4 e9
  · exact absurd (hno k c c1 c2 c3 c4 g1 e9) id
theorem bD_e {z : RS} (hd : bD S ro n w fi 0 0 z) : mRI S ro n w fi (w (n - 1)) z := by
  refine ⟨hd.1, fun k c hc => ?_⟩
  obtain ⟨r1, r2, r3, r4, r5⟩ := hc
  rw [hd.2 k c r1 r2 r3 r4 (by omega)]
  unfold mV
  rw [Nat.sub_self]
  rfl
theorem mRI_e {z : RS} (h : mRI S ro n w fi 0 z) (hn1 : 1 ≤ n) (hf : fi < 6) (hfi : fi = S.2.1 4 0) (hu : ∀ j, j < n → S.2.1 4 (ro j) ≤ 5) (hw0 : w 0 = 0) (hwm : ∀ j, j + 1 < n → w j ≤ w (j + 1)) : z.2.1 9 (fi * 25) = nI (cvV S ro n w) := by
  have h5 := hu 0 (by omega)
  have hB1 : oB S ro 1 = 0 + (6 - S.2.1 4 (ro 0)) := rfl
  have hBn := oB_mono (S := S) (ro := ro) hn1
  have hT : oT S ro n 0 = 0 := oT_eq (by omega) (Nat.zero_le _) (by show 0 < oB S ro 1; omega)
  have := h.2 fi 0 ⟨Nat.le_refl _, hf, by omega, by omega, by omega⟩
  rw [Nat.add_zero] at this
  rw [this]
  refine congrArg nI ?_
  have hF : ∀ i, vmT S ro n w (i + 1) = ah1 S ro n (cntL w (w (n - 1) - (i + 1)) n) (vmT S ro n w i) := fun _ => rfl
  have hmn := fun i j (h1 : i < j) (h2 : j < n) => (by
    have := mono_w hwm (j - i) i (by omega)
    rw [show i + (j - i) = j by omega] at this
    exact this : w i ≤ w j)
  have hch := sq_ch hF hwm (fun j h1 h2 i h3 h4 => by
    have m1 := mono_w hwm (n - 1 - j) j (by omega)
    rw [show j + (n - 1 - j) = n - 1 by omega] at m1
    refine (cnt_of (t := j) n (fun k hk => ⟨fun g1 => ?_, fun g1 => ?_⟩)).trans (by omega)
    · rcases Nat.lt_or_ge k j with w9 | w9
      · exact w9
      · have : w j ≤ w k := by
          rcases Nat.lt_or_ge j k with v9 | v9
          · exact hmn j k v9 hk
          · rw [show j = k by omega]
            exact Nat.le_refl _
        omega
    · have : w k ≤ w (j - 1) := by
        rcases Nat.lt_or_ge k (j - 1) with v9 | v9
        · exact hmn k (j - 1) v9 (by omega)
        · rw [show k = j - 1 by omega]
          exact Nat.le_refl _
      omega) (n - 1) (Nat.le_refl _)
  rw [Nat.sub_self, hw0, Nat.sub_zero] at hch
  unfold mV cvV
  rw [Nat.sub_zero, hch]
  unfold oX
  rw [hT]
  show chn _ _ _ _ (vmT S ro n w 0) (n - 1) (36 * 0 + 6 * (S.2.1 4 (ro 0) + (0 - 0)) + fi) = _
  rw [hfi, show 36 * 0 + 6 * (S.2.1 4 (ro 0) + (0 - 0)) + S.2.1 4 0 = 6 * S.2.1 4 (ro 0) + S.2.1 4 0 by omega]
  rfl
end FoQ
