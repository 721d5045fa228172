/-! where one is when he has TURNED; whom he fights; what is written into a scene -/
def tI (S : Sc) : Prop := ¬ S.1 4 = 0 → ∀ f, 1 ≤ f → f < S.1 1 → (S.2.1 5 f = 99999 ∧ pc_dn S f = 1) ∨ (S.2.1 5 f ≤ 420 ∧ (S.2.1 5 f ≤ S.1 3 ∨ (pc_dn S f = 0 ∧ S.2.1 5 f = sp_com S 0 f (S.1 4 - 1))))
theorem pts_0 (k p h : Nat) : pc_pts k p h 0 = 0 := by
  unfold pc_pts
  split
  · omega
  · split
    · omega
    · rw [if_pos (by omega)]
      omega
theorem far_0 (so : Nat → Nat) : ∀ n, pc_far so 0 n = 0
  | 0 => rfl
  | n + 1 => by
    show (if 0 < pc_cost so n + (so (n + 1) + 1) then pc_far so 0 n else n + 1) = 0
    rw [if_pos (by omega)]
    exact far_0 so n
theorem far_lt {so : Nat → Nat} {pts i : Nat} (h : pts < pc_cost so i) : ∀ n, pc_far so pts n ≤ i
  | 0 => Nat.zero_le _
  | n + 1 => by
    show (if pts < pc_cost so n + (so (n + 1) + 1) then pc_far so pts n else n + 1) ≤ i
    by_cases q : pts < pc_cost so n + (so (n + 1) + 1)
    · rw [if_pos q]
      exact far_lt h n
    · rw [if_neg q]
      rcases Nat.lt_or_ge i (n + 1) with w | w
      · have h5 := cost_mono so (n + 1 - i) i
        rw [show i + (n + 1 - i) = n + 1 by omega] at h5
        have h6 : pc_cost so (n + 1) = pc_cost so n + (so (n + 1) + 1) := rfl
        omega
      · exact w
theorem cell_cr {S : Sc} {f : Nat} (hf : ¬ f = 0) : sp_cell S f = sp_cr S f (S.1 3) := by
  unfold sp_cell sp_cr
  rw [if_neg hf]
  by_cases q : pc_dn S f = 0
  · rw [if_pos q, if_pos q]
    by_cases q2 : S.1 2 ≤ S.1 3
    · rw [if_pos q2]
    · rw [if_neg q2, show S.1 3 - S.1 2 = 0 by omega]
      unfold sp_pts
      rw [pts_0, far_0]
  · rw [if_neg q, if_neg q]
theorem pl_run {S : Sc} {f : Nat} (h : S.1 4 = 0) : sp_place S f = sp_cr S f (S.1 3) := by
  unfold sp_place
  rw [td_n h, if_pos rfl, if_pos rfl]
  by_cases q : f = 0
  · subst q
    rw [if_pos rfl]
    rfl
  · rw [if_neg q]
    exact cell_cr q
theorem pl_st {S : Sc} (h : ¬ S.1 4 = 0) : sp_place S 0 = S.1 4 - 1 := by
  unfold sp_place
  rw [if_pos rfl, td_y h, if_neg (by decide)]
theorem pl_1 {S : Sc} (h : ¬ S.1 4 = 0) {f : Nat} (hf : ¬ f = 0) (hm : S.1 3 < 99999) (hc : S.2.1 5 f = 99999) (hd : pc_dn S f = 1) : sp_place S f = 0 := by
  unfold sp_place
  rw [if_neg hf, td_y h, if_neg (by decide), if_neg (by omega)]
  have e : sp_cell S f = 0 := by
    unfold sp_cell
    rw [if_neg (by omega)]
  rw [e, if_pos (by omega)]
theorem pl_2 {S : Sc} (h : ¬ S.1 4 = 0) {f : Nat} (hf : ¬ f = 0) (hc : S.2.1 5 f ≤ S.1 3) : sp_place S f = S.1 4 - 1 := by
  unfold sp_place
  rw [if_neg hf, td_y h, if_neg (by decide), if_pos hc]
theorem pl_3 {S : Sc} (ho : oSc S) (h : ¬ S.1 4 = 0) {f : Nat} (hf : ¬ f = 0) (hc : ¬ S.2.1 5 f ≤ S.1 3) (hd : pc_dn S f = 0) (he : S.2.1 5 f = sp_com S 0 f (S.1 4 - 1)) : sp_place S f = pc_far (S.2.1 0) (sp_pts S f (S.2.1 4 f) (if f = 0 then S.1 3 else S.1 3 - S.1 2)) (S.1 0 - 1) := by
  have o6 := ho.2.2.2.2.2.1
  unfold sp_place
  rw [if_neg hf, td_y h, if_neg (by decide), if_neg hc, cell_cr hf]
  have hcl := com_le ho (f := f) (cell := S.1 4 - 1) (m := S.1 3) (by omega)
  rw [he] at hc
  have hn : ¬ (pc_cost (S.2.1 0) (S.1 4 - 1) = 0 ∨ (S.1 2 ≤ S.1 3 ∧ pc_cost (S.2.1 0) (S.1 4 - 1) ≤ sp_pur S 0 f (S.1 3 - S.1 2))) := fun w => hc (hcl.mpr w)
  have e : sp_cr S f (S.1 3) = pc_far (S.2.1 0) (sp_pts S f (S.2.1 4 f) (if f = 0 then S.1 3 else S.1 3 - S.1 2)) (S.1 0 - 1) := by
    unfold sp_cr
    rw [if_pos hd]
  rw [e, if_neg hf]
  have hp : sp_pts S f (S.2.1 4 f) (S.1 3 - S.1 2) < pc_cost (S.2.1 0) (S.1 4 - 1) := by
    by_cases q2 : S.1 2 ≤ S.1 3
    · have q3 : sp_pur S 0 f (S.1 3 - S.1 2) = sp_pts S f (S.2.1 4 f) (S.1 3 - S.1 2) := rfl
      omega
    · rw [show S.1 3 - S.1 2 = 0 by omega]
      have : sp_pts S f (S.2.1 4 f) 0 = 0 := pts_0 _ _ _
      omega
  rw [if_pos (far_lt hp _)]
/-- there: 1, else 0 -/
def pc_th (S : Sc) (f : Nat) : Nat := if pc_dn S f = 0 then (if S.2.1 5 f ≤ S.1 3 then 1 else 0) else 0
theorem th_01 (S : Sc) (f : Nat) : pc_th S f ≤ 1 := by
  unfold pc_th
  split
  · split <;> omega
  · omega
theorem th_s {S : Sc} {f x : Nat} (oc : S.2.1 5 f ≤ 99999) (hm : S.1 3 < 99999) (ex : x = if 1 - pc_dn S f = 0 then 0 else (if S.1 3 < pc_nv (S.2.1 5 f) then 0 else 1)) : x = pc_th S f := by
  have h1 := pc_dn01 S f
  have h2 := nv_le oc hm
  rw [ex]
  unfold pc_th
  by_cases q : pc_dn S f = 0
  · rw [if_neg (by omega), if_pos q]
    by_cases q2 : S.2.1 5 f ≤ S.1 3
    · rw [if_pos q2, if_neg (by omega)]
    · rw [if_neg q2, if_pos (by omega)]
  · rw [if_pos (by omega), if_neg q]
def sp_tc (S : Sc) : Nat → Nat
  | 0 => 0
  | i + 1 => sp_tc S i + pc_th S (i + 1)
theorem tc_le (S : Sc) : ∀ i, sp_tc S i ≤ i
  | 0 => Nat.le_refl _
  | i + 1 => by
    have h := tc_le S i
    have h2 := th_01 S (i + 1)
    show sp_tc S i + pc_th S (i + 1) ≤ _
    omega
theorem th_y {S : Sc} {f : Nat} (h : ¬ pc_th S f = 0) : pc_dn S f = 0 ∧ S.2.1 5 f ≤ S.1 3 := by
  unfold pc_th at h
  by_cases q : pc_dn S f = 0
  · rw [if_pos q] at h
    by_cases q2 : S.2.1 5 f ≤ S.1 3
    · exact ⟨q, q2⟩
    · rw [if_neg q2] at h
      exact absurd rfl h
  · rw [if_neg q] at h
    exact absurd rfl h
theorem th_i {S : Sc} {f : Nat} (h : pc_dn S f = 0) (h2 : S.2.1 5 f ≤ S.1 3) : pc_th S f = 1 := by
  unfold pc_th
  rw [if_pos h, if_pos h2]
theorem mt_e {S : Sc} {i : Nat} : sp_mtL S (S.1 3) (i + 1) = if pc_th S (i + 1) = 0 then sp_mtL S (S.1 3) i else (if sp_mtL S (S.1 3) i = 0 then i + 1 else (if S.2.1 5 (sp_mtL S (S.1 3) i) ≤ S.2.1 5 (i + 1) then sp_mtL S (S.1 3) i else i + 1)) := by
  show (if (if pc_dn S (i + 1) = 0 then (if S.1 3 < S.2.1 5 (i + 1) then 0 else (if sp_mtL S (S.1 3) i = 0 then 1 else (if S.2.1 5 (sp_mtL S (S.1 3) i) ≤ S.2.1 5 (i + 1) then 0 else 1))) else 0) = 0 then sp_mtL S (S.1 3) i else i + 1) = _
  unfold pc_th
  by_cases q : pc_dn S (i + 1) = 0
  · simp only [if_pos q]
    by_cases q2 : S.2.1 5 (i + 1) ≤ S.1 3
    · simp only [if_pos q2, if_neg (show ¬ S.1 3 < S.2.1 5 (i + 1) by omega), if_neg (show ¬ (1 : Nat) = 0 by decide)]
      by_cases q3 : sp_mtL S (S.1 3) i = 0
      · simp only [if_pos q3, if_neg (show ¬ (1 : Nat) = 0 by decide)]
      · simp only [if_neg q3]
        by_cases q4 : S.2.1 5 (sp_mtL S (S.1 3) i) ≤ S.2.1 5 (i + 1)
        · simp only [if_pos q4, if_true]
        · simp only [if_neg q4, if_neg (show ¬ (1 : Nat) = 0 by decide)]
    · simp only [if_neg q2, if_pos (show S.1 3 < S.2.1 5 (i + 1) by omega), if_true]
  · simp only [if_neg q, if_true]
theorem mt_n1 {S : Sc} {i : Nat} (h : pc_th S (i + 1) = 0) : sp_mtL S (S.1 3) (i + 1) = sp_mtL S (S.1 3) i := by
  rw [mt_e, if_pos h]
theorem mt_n2 {S : Sc} {i : Nat} (h1 : ¬ sp_mtL S (S.1 3) i = 0) (h2 : S.2.1 5 (sp_mtL S (S.1 3) i) ≤ S.2.1 5 (i + 1)) : sp_mtL S (S.1 3) (i + 1) = sp_mtL S (S.1 3) i := by
  rw [mt_e, if_neg h1, if_pos h2]
  exact ite_self _
theorem mt_y {S : Sc} {i : Nat} (h : ¬ pc_th S (i + 1) = 0) (h1 : sp_mtL S (S.1 3) i = 0 ∨ S.2.1 5 (i + 1) < S.2.1 5 (sp_mtL S (S.1 3) i)) : sp_mtL S (S.1 3) (i + 1) = i + 1 := by
  rw [mt_e, if_neg h]
  by_cases q : sp_mtL S (S.1 3) i = 0
  · rw [if_pos q]
  · rw [if_neg q, if_neg (by omega)]
def pc_f1 (n : Nat) : Int := if n = 0 then -1 else (n : Int)
theorem f1_n {n : Nat} (h : ¬ n = 0) : iZ (pc_f1 n) = nI n := by
  unfold pc_f1
  rw [if_neg h, iZ_n]
theorem f1_b (n : Nat) (h : n ≤ 1000) : -1 ≤ pc_f1 n ∧ pc_f1 n ≤ 1000 ∧ (pc_f1 n < 0 ↔ n = 0) := by
  unfold pc_f1
  split <;> omega
theorem mt_th {S : Sc} : ∀ n, ¬ sp_mtL S (S.1 3) n = 0 → ¬ pc_th S (sp_mtL S (S.1 3) n) = 0
  | 0, h => absurd rfl h
  | n + 1, h => by
    have ih := mt_th (S := S) n
    rw [mt_e] at h ⊢
    by_cases q : pc_th S (n + 1) = 0
    · rw [if_pos q] at h ⊢
      exact ih h
    · rw [if_neg q] at h ⊢
      by_cases q2 : sp_mtL S (S.1 3) n = 0
      · rw [if_pos q2]
        exact q
      · rw [if_neg q2]
        split
        · exact ih q2
        · exact q
/-- the fight of this MOMENT -/
def sp_oddc (S : Sc) (F : Nat) : Nat := pc_btw ((8 + (sp_frc S 0 : Int)) - (sp_frc S F : Int) - ((2 * (sp_tc S (S.1 1 - 1) - 1) : Nat) : Int))
def sp_whc (S : Sc) (F : Nat) : Nat := if nI (sp_oddc S F) ≤ pc_d16 (pc_nx S.2.2) then 0 else F
def sp_ffA (S : Sc) : Int32 := if sp_mt S (S.1 3) = 0 then iZ (-4) else nI (sp_whc S (sp_mt S (S.1 3)))
def sp_ffS (S : Sc) : Sc := if sp_mt S (S.1 3) = 0 then S else sR (sD S (pc_nx S.2.2)) 4 (sp_whc S (sp_mt S (S.1 3))) (S.2.1 4 (sp_whc S (sp_mt S (S.1 3))) + 1)
theorem tc_ot {S : Sc} {F : Nat} (h0 : 1 ≤ F) (hF : ¬ pc_th S F = 0) : ∀ n, sp_tc S n = sp_otL S (S.1 3) F n + (if F ≤ n then 1 else 0)
  | 0 => by
    show 0 = 0 + _
    rw [if_neg (by omega)]
  | n + 1 => by
    have ih := tc_ot h0 hF n
    have hb := th_01 S (n + 1)
    show sp_tc S n + pc_th S (n + 1) = (sp_otL S (S.1 3) F n + (if n + 1 = F then 0 else (if pc_dn S (n + 1) = 0 then (if S.1 3 < S.2.1 5 (n + 1) then 0 else 1) else 0))) + (if F ≤ n + 1 then 1 else 0)
    rw [ih]
    by_cases e : n + 1 = F
    · rw [if_pos e, if_neg (show ¬ F ≤ n by omega), if_pos (show F ≤ n + 1 by omega), e]
      rw [← e] at hF ⊢
      omega
    · have h3 : (if pc_dn S (n + 1) = 0 then (if S.1 3 < S.2.1 5 (n + 1) then 0 else 1) else 0) = pc_th S (n + 1) := by
        unfold pc_th
        split
        · by_cases q : S.2.1 5 (n + 1) ≤ S.1 3
          · rw [if_pos q, if_neg (by omega)]
          · rw [if_neg q, if_pos (by omega)]
        · rfl
      rw [if_neg e, h3]
      by_cases q : F ≤ n
      · rw [if_pos q, if_pos (show F ≤ n + 1 by omega)]
        omega
      · rw [if_neg q, if_neg (show ¬ F ≤ n + 1 by omega)]
        omega
theorem otL_mo (S : Sc) (m en F : Nat) : ∀ n, sp_otL (sN S 3 m) en F n = sp_otL S en F n
  | 0 => rfl
  | n + 1 => by
    have ih := otL_mo S m en F n
    show sp_otL (sN S 3 m) en F n + _ = sp_otL S en F n + _
    rw [ih]
    rfl
theorem mtL_mo (S : Sc) (m en n : Nat) : sp_mtL (sN S 3 m) en n = sp_mtL S en n := eb_mtL (S' := sN S 3 m) (S := S) rfl en n
theorem ff_fg {S T : Sc} (hT : T = sN S 3 (S.1 3 + 1)) : sp_ffA T = sp_fgA S ∧ sp_ffS T = sp_fgS S := by
  have e3 : T.1 3 = S.1 3 + 1 := by
    rw [hT]
    rfl
  have e1 : T.1 1 = S.1 1 := by
    rw [hT]
    rfl
  have em : sp_mt T (T.1 3) = sp_mt S (S.1 3 + 1) := by
    unfold sp_mt
    rw [e3, e1, hT, mtL_mo]
  have ed : T.2 = S.2 := by
    rw [hT]
  unfold sp_ffA sp_fgA sp_ffS sp_fgS
  rw [em]
  by_cases q : sp_mt S (S.1 3 + 1) = 0
  · rw [if_pos q, if_pos q, if_pos q, if_pos q]
    exact ⟨rfl, hT⟩
  · rw [if_neg q, if_neg q, if_neg q, if_neg q]
    have ew : sp_whc T (sp_mt S (S.1 3 + 1)) = sp_who S (sp_mt S (S.1 3 + 1)) := by
      have hF : ¬ pc_th T (sp_mt S (S.1 3 + 1)) = 0 := by
        rw [← em]
        exact mt_th _ (by show ¬ sp_mt T (T.1 3) = 0; rw [em]; exact q)
      have hle : sp_mt S (S.1 3 + 1) ≤ S.1 1 - 1 := sp_mtL_le S _ _
      have ht := tc_ot (S := T) (F := sp_mt S (S.1 3 + 1)) (by omega) hF (T.1 1 - 1)
      rw [if_pos (by rw [e1]; exact hle)] at ht
      have eo : sp_oddc T (sp_mt S (S.1 3 + 1)) = sp_odds S (sp_mt S (S.1 3 + 1)) := by
        unfold sp_oddc sp_odds
        rw [ht, e3, e1, hT, otL_mo, Nat.add_sub_cancel]
        rfl
      unfold sp_whc sp_who
      rw [eo, ed]
    rw [ew]
    refine ⟨rfl, ?_⟩
    rw [hT]
/-! writing -/
section CWr
variable {z : RS} {S : Sc}
theorem cn_co (h : cSn z S) (k : Nat) (v : Int32) : cSn (sA z 11 k v) S := h
theorem tn_0 (h : cSn z S) (m : Nat) : cSn (sI (sI z 10 (nI (sp_run S m))) 9 (nI m)) (sp_turn S 0 m) := by
  obtain ⟨h0, h1, h2, h3, h4, h5, h6, h7, h8, h9, h10, h11⟩ := h
  refine ⟨h0, h1, h2, rfl, ?_, h5, h6, h7, h8, h9, h10, h11⟩
  show nI (sp_run S m) = pc_sd (sp_run S m + 1)
  unfold pc_sd
  rw [if_neg (by omega), Nat.add_sub_cancel]
theorem tn_sd {m : Nat} (h : cSn z (sp_turn S 0 m)) : z.1 10 = nI (sp_run S m) := by
  rw [cs_sd h]
  show pc_sd (sp_run S m + 1) = _
  unfold pc_sd
  rw [if_neg (by omega), Nat.add_sub_cancel]
theorem tn_s {m i : Nat} (hi : 1 ≤ i) (hn : i < S.1 1) (hd : pc_dn S i ≤ 1) (ho : oSc S) (h : ∀ f, 1 ≤ f → f < i → z.2.1 11 f = nI (pc_nv (sp_cm S 0 m f))) {x : Nat} (ex : x = if 1 - pc_dn S i = 0 then 1073741824 else sp_com S 0 i (sp_run S m)) : ∀ f, 1 ≤ f → f < i + 1 → (sA z 11 i (nI x)).2.1 11 f = nI (pc_nv (sp_cm S 0 m f)) := by
  intro f h1 h2
  show upd (z.2.1 11) i (nI x) f = _
  by_cases e : f = i
  · subst e
    rw [pk_us, ex]
    congr 1
    unfold sp_cm
    rw [if_neg (show ¬ f = 0 by omega), if_neg (show ¬ S.1 1 ≤ f by omega)]
    by_cases q : pc_dn S f = 0
    · have hr := sp_run_lt S ho m
      have o2 := ho.2.1
      have := sp_com_le S ho 0 f (sp_run S m) (by omega)
      rw [if_neg (show ¬ 1 - pc_dn S f = 0 by omega), if_pos q, nv_id (by omega)]
    · rw [if_pos (show 1 - pc_dn S f = 0 by omega), if_neg q]
      rfl
  · rw [pk_un e]
    exact h f h1 (by omega)
theorem cn_mo (h : cSn z S) (v : Nat) : cSn (sI z 9 (nI v)) (sN S 3 v) := by
  obtain ⟨h0, h1, h2, h3, h4, h5, h6, h7, h8, h9, h10, h11⟩ := h
  exact ⟨h0, h1, h2, rfl, h4, h5, h6, h7, h8, h9, h10, h11⟩
theorem cc_mo (h : cSc z S) (v : Nat) : cSc (sI z 9 (nI v)) (sN S 3 v) := ⟨cn_mo h.1 v, h.2⟩
theorem cn_dr (h : cSn z S) (v : Int32) : cSn (sI z 12 v) (sD S v) := by
  obtain ⟨h0, h1, h2, h3, h4, h5, h6, h7, h8, h9, h10, h11⟩ := h
  exact ⟨h0, h1, h2, h3, h4, rfl, h6, h7, h8, h9, h10, h11⟩
theorem cc_dr (h : cSc z S) (v : Int32) : cSc (sI z 12 v) (sD S v) := ⟨cn_dr h.1 v, h.2⟩
theorem cn_st (h : cSn z S) (v : Nat) : cSn (sI z 8 (nI v)) (sN S 2 v) := by
  obtain ⟨h0, h1, h2, h3, h4, h5, h6, h7, h8, h9, h10, h11⟩ := h
  exact ⟨h0, h1, rfl, h3, h4, h5, h6, h7, h8, h9, h10, h11⟩
theorem cc_st (h : cSc z S) (v : Nat) : cSc (sI z 8 (nI v)) (sN S 2 v) := ⟨cn_st h.1 v, h.2⟩
theorem up_row {f : Nat → Int32} {b : Nat → Nat} {k v n : Nat} (h : ∀ q, q < n → f q = nI (b q)) : ∀ q, q < n → upd f k (nI v) q = nI (va_up b k v q) := by
  intro q hq
  by_cases e : q = k
  · subst e
    rw [pk_us, va_up_self]
  · rw [pk_un e, va_up_ne _ _ e]
    exact h q hq
theorem up_row1 {f : Nat → Int32} {b : Nat → Nat} {v n : Nat} (h : ∀ q, q < n → f q = nI (b q)) : ∀ q, q < n + 1 → upd f n (nI v) q = nI (va_up b n v q) := by
  intro q hq
  by_cases e : q = n
  · subst e
    rw [pk_us, va_up_self]
  · rw [pk_un e, va_up_ne _ _ e]
    exact h q (by omega)
theorem cn_hu (h : cSn z S) (k v : Nat) : cSn (sA z 7 k (nI v)) (sR S 4 k v) := by
  obtain ⟨h0, h1, h2, h3, h4, h5, h6, h7, h8, h9, h10, h11⟩ := h
  exact ⟨h0, h1, h2, h3, h4, h5, h6, h7, h8, h9, h10, up_row h11⟩
theorem cc_hu (h : cSc z S) (k v : Nat) : cSc (sA z 7 k (nI v)) (sR S 4 k v) := ⟨cn_hu h.1 k v, h.2⟩
theorem cn_add (h : cSn z S) (k a p u : Nat) : cSn (sI (sA (sA (sA (sA z 4 (S.1 1) (nI k)) 5 (S.1 1) (nI a)) 6 (S.1 1) (nI p)) 7 (S.1 1) (nI u)) 3 (nI (S.1 1 + 1))) (sc_add S k a p u) := by
  obtain ⟨h0, h1, h2, h3, h4, h5, h6, h7, h8, h9, h10, h11⟩ := h
  exact ⟨h0, rfl, h2, h3, h4, h5, h6, h7, up_row1 h8, up_row1 h9, up_row1 h10, up_row1 h11⟩
/-- one CELL more -/
def sc_cell (S : Sc) (v : Nat) : Sc := sN (sR S 0 (S.1 0) v) 0 (S.1 0 + 1)
theorem cost_up (so : Nat → Nat) (n v : Nat) : ∀ c, c < n → pc_cost (va_up so n v) c = pc_cost so c
  | 0, _ => rfl
  | c + 1, h => by
    have ih := cost_up so n v c (by omega)
    show pc_cost (va_up so n v) c + (va_up so n v (c + 1) + 1) = pc_cost so c + (so (c + 1) + 1)
    rw [ih, va_up_ne _ _ (by omega)]
theorem cn_cell (h : cSn z S) (v x : Nat) (ex : x = if S.1 0 = 0 then 0 else pc_cost (S.2.1 0) (S.1 0 - 1) + (v + 1)) : cSn (sI (sA (sA z 2 (S.1 0) (nI x)) 1 (S.1 0) (nI v)) 0 (nI (S.1 0 + 1))) (sc_cell S v) := by
  obtain ⟨h0, h1, h2, h3, h4, h5, h6, h7, h8, h9, h10, h11⟩ := h
  refine ⟨rfl, h1, h2, h3, h4, h5, up_row1 h6, ?_, h8, h9, h10, h11⟩
  intro q hq
  have hq : q < S.1 0 + 1 := hq
  show upd (z.2.1 2) (S.1 0) (nI x) q = nI (pc_cost (va_up (S.2.1 0) (S.1 0) v) q)
  by_cases e : q = S.1 0
  · rw [e, pk_us, ex]
    congr 1
    by_cases q0 : S.1 0 = 0
    · rw [if_pos q0, q0]
      rfl
    · rw [if_neg q0]
      obtain ⟨n, hn⟩ : ∃ n, S.1 0 = n + 1 := ⟨S.1 0 - 1, by omega⟩
      rw [hn]
      show pc_cost (S.2.1 0) (n + 1 - 1) + (v + 1) = pc_cost (va_up (S.2.1 0) (n + 1) v) n + (va_up (S.2.1 0) (n + 1) v (n + 1) + 1)
      rw [cost_up _ _ _ n (by omega), va_up_self, Nat.add_sub_cancel]
  · rw [pk_un e, cost_up _ _ _ q (by omega)]
    exact h7 q (by omega)
theorem cost_so (so : Nat → Nat) (k v : Nat) (hk : 1 ≤ k) : ∀ c, pc_cost (va_up so k v) c + (if k ≤ c then so k else 0) = pc_cost so c + (if k ≤ c then v else 0)
  | 0 => by
    rw [if_neg (by omega), if_neg (by omega)]
    rfl
  | c + 1 => by
    have ih := cost_so so k v hk c
    show pc_cost (va_up so k v) c + (va_up so k v (c + 1) + 1) + _ = pc_cost so c + (so (c + 1) + 1) + _
    by_cases e : c + 1 = k
    · rw [e, va_up_self, if_pos (Nat.le_refl _), if_pos (Nat.le_refl _)]
      rw [if_neg (by omega), if_neg (by omega)] at ih
      omega
    · rw [va_up_ne _ _ e]
      by_cases q : k ≤ c
      · rw [if_pos q, if_pos q] at ih
        rw [if_pos (by omega), if_pos (by omega)]
        omega
      · rw [if_neg q, if_neg q] at ih
        rw [if_neg (by omega), if_neg (by omega)]
        omega
end CWr
/-- the next one of those that are up -/
def sp_nxL (S : Sc) : Nat → Nat
  | 0 => 1073741824
  | i + 1 => if pc_dn S (i + 1) = 0 then min (sp_nxL S i) (pc_nv (S.2.1 5 (i + 1))) else sp_nxL S i
theorem nxL_le (S : Sc) : ∀ i, sp_nxL S i ≤ 1073741824
  | 0 => Nat.le_refl _
  | i + 1 => by
    have h := nxL_le S i
    unfold sp_nxL
    split <;> omega
/-- all of a scene is taken over -/
def cEq (z y : RS) : Prop := z.1 0 = y.1 0 ∧ z.1 3 = y.1 3 ∧ z.1 8 = y.1 8 ∧ z.1 9 = y.1 9 ∧ z.1 10 = y.1 10 ∧ z.1 12 = y.1 12 ∧ (∀ c, c < 40 → z.2.1 1 c = y.2.1 1 c) ∧ (∀ c, c < 40 → z.2.1 2 c = y.2.1 2 c) ∧ (∀ f, f < 5 → z.2.1 4 f = y.2.1 4 f) ∧ (∀ f, f < 5 → z.2.1 5 f = y.2.1 5 f) ∧ (∀ f, f < 5 → z.2.1 6 f = y.2.1 6 f) ∧ (∀ f, f < 5 → z.2.1 7 f = y.2.1 7 f) ∧ (∀ f, f < 5 → z.2.1 11 f = y.2.1 11 f)
theorem cEq_n {z y : RS} {S : Sc} (h : cEq z y) (h40 : S.1 0 ≤ 40) (h5 : S.1 1 ≤ 5) (hy : cSn y S) : cSn z S := by
  obtain ⟨e0, e1, e2, e3, e4, e5, e6, e7, e8, e9, e10, e11, e12⟩ := h
  obtain ⟨h0, h1, h2, h3, h4, h5', h6, h7, h8, h9, h10, h11⟩ := hy
  exact ⟨e0.trans h0, e1.trans h1, e2.trans h2, e3.trans h3, e4.trans h4, e5.trans h5', fun c hc => (e6 c (by omega)).trans (h6 c hc), fun c hc => (e7 c (by omega)).trans (h7 c hc), fun c hc => (e8 c (by omega)).trans (h8 c hc), fun c hc => (e9 c (by omega)).trans (h9 c hc), fun c hc => (e10 c (by omega)).trans (h10 c hc), fun c hc => (e11 c (by omega)).trans (h11 c hc)⟩
theorem cEq_c {z y : RS} {S : Sc} (h : cEq z y) (h40 : S.1 0 ≤ 40) (h5 : S.1 1 ≤ 5) (hy : cSc y S) : cSc z S :=
  ⟨cEq_n h h40 h5 hy.1, fun ht f h1 hf => (h.2.2.2.2.2.2.2.2.2.2.2.2 f (by omega)).trans (hy.2 ht f h1 hf)⟩
theorem of6_n {S : Sc} {f : Nat} (h : f = 0 ∨ S.1 4 = 0 ∨ ¬ pc_dn S f = 0) : iZ (-4) = sp_of6 S f := by
  unfold sp_of6
  by_cases q : f = 0
  · rw [if_pos q]
  · rw [if_neg q]
    by_cases q2 : S.1 4 = 0
    · rw [if_pos q2]
    · rw [if_neg q2, if_neg (by omega)]
