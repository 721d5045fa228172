/-! he TURNS; whom he meets; a fight -/
def sp_cm (S : Sc) (tg m f : Nat) : Nat := if f = 0 then 99999 else (if S.1 1 ≤ f then 99999 else (if pc_dn S f = 0 then sp_com S tg f (sp_run S m) else 99999))
def sp_tl (S : Sc) (tg m i : Nat) : Sc := (va_up (va_up S.1 3 m) 4 (sp_run S m + 1), va_up S.2.1 5 (fun f => if f < i then sp_cm S tg m f else S.2.1 5 f), S.2.2)
/-- the scene when he TURNS in m -/
def sp_turn (S : Sc) (tg m : Nat) : Sc := (va_up (va_up S.1 3 m) 4 (sp_run S m + 1), va_up S.2.1 5 (sp_cm S tg m), S.2.2)
theorem oSc_mo {S : Sc} (ho : oSc S) {m : Nat} (h : m ≤ 100000) : oSc (sN S 3 m) := by
  obtain ⟨o1, o2, o3, o4, o5, o6, o7⟩ := ho
  exact ⟨o1, o2, o3, o4, h, o6, o7⟩
theorem sp_cm_le (S : Sc) (ho : oSc S) (tg m f : Nat) : sp_cm S tg m f ≤ 99999 := by
  have h1 := sp_run_lt S ho m
  have h2 := ho.2.1
  have h3 := sp_com_le S ho tg f (sp_run S m) (by omega)
  unfold sp_cm
  split
  · omega
  · split
    · omega
    · split <;> omega
theorem oSc_tl {S : Sc} (ho : oSc S) {m : Nat} (tg i : Nat) (h : m ≤ 100000) : oSc (sp_tl S tg m i) := by
  have h1 := sp_run_lt S ho m
  obtain ⟨o1, o2, o3, o4, o5, o6, oso, oki, osr, opa, ohu, oco⟩ := id ho
  refine ⟨o1, o2, o3, o4, h, h1, oso, oki, osr, opa, ohu, fun f => ?_⟩
  show (if f < i then sp_cm S tg m f else S.2.1 5 f) ≤ 99999
  split
  · exact sp_cm_le S ho tg m f
  · exact oco f
theorem oSc_turn {S : Sc} (ho : oSc S) {m : Nat} (tg : Nat) (h : m ≤ 100000) : oSc (sp_turn S tg m) := by
  have h1 := sp_run_lt S ho m
  obtain ⟨o1, o2, o3, o4, o5, o6, oso, oki, osr, opa, ohu, oco⟩ := id ho
  exact ⟨o1, o2, o3, o4, h, h1, oso, oki, osr, opa, ohu, fun f => sp_cm_le S ho tg m f⟩
theorem tl_0 {z : RS} {S : Sc} {m : Nat} (tg : Nat) (h : rSc z (sN (sN S 3 m) 4 (sp_run S m + 1))) : rSc z (sp_tl S tg m 0) := by
  obtain ⟨h0, h1, h2, h3, h4, h5, h6, h7, h8, h9, h10, h11⟩ := h
  refine ⟨h0, h1, h2, h3, h4, h5, h6, h7, h8, h9, h10, fun f hf => ?_⟩
  show _ = nI (if f < 0 then sp_cm S tg m f else S.2.1 5 f)
  rw [if_neg (by omega)]
  exact h11 f hf
theorem tl_s {z : RS} {S : Sc} {tg m i : Nat} (h : rSc z (sp_tl S tg m i)) (hi : i < 5) : rSc (sA z 5 (8 + i) (nI (sp_cm S tg m i))) (sp_tl S tg m (i + 1)) := by
  have hw := rw_co h i hi (sp_cm S tg m i)
  obtain ⟨h0, h1, h2, h3, h4, h5, h6, h7, h8, h9, h10, h11⟩ := hw
  refine ⟨h0, h1, h2, h3, h4, h5, h6, h7, h8, h9, h10, fun f hf => ?_⟩
  rw [h11 f hf]
  show nI (va_up (fun f => if f < i then sp_cm S tg m f else S.2.1 5 f) i (sp_cm S tg m i) f) = nI (if f < i + 1 then sp_cm S tg m f else S.2.1 5 f)
  by_cases q : f = i
  · subst q
    rw [va_up_self, if_pos (by omega)]
  · rw [va_up_ne _ _ q]
    by_cases q2 : f < i
    · rw [if_pos q2, if_pos (show f < i + 1 by omega)]
    · rw [if_neg q2, if_neg (show ¬ f < i + 1 by omega)]
theorem tl_e {z : RS} {S : Sc} {tg m i : Nat} (h : rSc z (sp_tl S tg m i)) (hi : 5 ≤ i) : rSc z (sp_turn S tg m) := by
  obtain ⟨h0, h1, h2, h3, h4, h5, h6, h7, h8, h9, h10, h11⟩ := h
  refine ⟨h0, h1, h2, h3, h4, h5, h6, h7, h8, h9, h10, fun f hf => ?_⟩
  rw [h11 f hf]
  show nI (if f < i then sp_cm S tg m f else S.2.1 5 f) = nI (sp_cm S tg m f)
  rw [if_pos (by omega)]
theorem tl_sd {z : RS} {S : Sc} {tg m i : Nat} (h : rSc z (sp_tl S tg m i)) : z.2.1 5 1 = nI (sp_run S m) := by
  rw [rs_sd h]
  show pc_sd (sp_run S m + 1) = _
  unfold pc_sd
  rw [if_neg (by omega), Nat.add_sub_cancel]
/-- nobody, or a FIGHTER -/
def pc_fd (n : Nat) : Int32 := if n = 0 then iZ (-4) else nI n
theorem pc_fd_n {n : Nat} (h : ¬ pc_fd n = iZ (-4)) : pc_fd n = nI n := by
  unfold pc_fd at h ⊢
  by_cases q : n = 0
  · rw [if_pos q] at h
    exact absurd rfl h
  · rw [if_neg q]
theorem pc_fd_4 {n : Nat} (hn : n ≤ 1000) : pc_fd n = iZ (-4) ↔ n = 0 := by
  unfold pc_fd
  by_cases q : n = 0
  · rw [if_pos q]
    exact ⟨fun _ => q, fun _ => rfl⟩
  · rw [if_neg q, ← iZ_n, iZ_eq (by omega) (by omega) (by omega) (by omega)]
    omega
def sp_mtL (S : Sc) (en : Nat) : Nat → Nat
  | 0 => 0
  | i + 1 => if (if pc_dn S (i + 1) = 0 then (if en < S.2.1 5 (i + 1) then 0 else (if sp_mtL S en i = 0 then 1 else (if S.2.1 5 (sp_mtL S en i) ≤ S.2.1 5 (i + 1) then 0 else 1))) else 0) = 0 then sp_mtL S en i else i + 1
theorem it_le {q : Prop} [Decidable q] {a b n : Nat} (h1 : a ≤ n) (h2 : b ≤ n) : (if q then a else b) ≤ n := by
  split <;> assumption
theorem sp_mtL_le (S : Sc) (en : Nat) : ∀ i, sp_mtL S en i ≤ i
  | 0 => Nat.le_refl 0
  | i + 1 => by
    have h := sp_mtL_le S en i
    exact it_le (by omega) (Nat.le_refl _)
/-- the first of those that have come by en, 0: nobody -/
def sp_mt (S : Sc) (en : Nat) : Nat := sp_mtL S en (S.1 1 - 1)
theorem mt_s {S : Sc} {en i : Nat} (hi : i ≤ 5) {x : Nat} {y : Int32} (ex : x = if pc_dn S (i + 1) = 0 then (if en < S.2.1 5 (i + 1) then 0 else (if pc_fd (sp_mtL S en i) = iZ (-4) then 1 else (if S.2.1 5 (sp_mtL S en i) ≤ S.2.1 5 (i + 1) then 0 else 1))) else 0) (ey : y = if x = 0 then pc_fd (sp_mtL S en i) else nI (i + 1)) : y = pc_fd (sp_mtL S en (i + 1)) := by
  have h := sp_mtL_le S en i
  simp only [pc_fd_4 (show sp_mtL S en i ≤ 1000 by omega)] at ex
  rw [ey]
  show _ = pc_fd (if (if pc_dn S (i + 1) = 0 then (if en < S.2.1 5 (i + 1) then 0 else (if sp_mtL S en i = 0 then 1 else (if S.2.1 5 (sp_mtL S en i) ≤ S.2.1 5 (i + 1) then 0 else 1))) else 0) = 0 then sp_mtL S en i else i + 1)
  rw [← ex]
  by_cases q : x = 0
  · rw [if_pos q, if_pos q]
  · rw [if_neg q, if_neg q]
    unfold pc_fd
    rw [if_neg (by omega)]
def sp_otL (S : Sc) (en F : Nat) : Nat → Nat
  | 0 => 0
  | i + 1 => sp_otL S en F i + (if i + 1 = F then 0 else (if pc_dn S (i + 1) = 0 then (if en < S.2.1 5 (i + 1) then 0 else 1) else 0))
theorem sp_otL_le (S : Sc) (en F : Nat) : ∀ i, sp_otL S en F i ≤ i
  | 0 => Nat.le_refl 0
  | i + 1 => by
    have h := sp_otL_le S en F i
    show sp_otL S en F i + (if _ then _ else _) ≤ _
    split
    · omega
    · split
      · split <;> omega
      · omega
def pc_nx (d : Int32) : Int32 := (d * nI 1103515245 + nI 12345) &&& nI 2147483647
def pc_d16 (d : Int32) : Int32 := d / nI 65536 - d / nI 65536 / nI 16 * nI 16
def sp_frc (S : Sc) (f : Nat) : Nat := pc_force (S.2.1 1 f) (S.2.1 2 f) (S.2.1 4 f)
def sp_odds (S : Sc) (F : Nat) : Nat := pc_btw ((8 + (sp_frc S 0 : Int)) - (sp_frc S F : Int) - ((2 * sp_otL S (S.1 3 + 1) F (S.1 1 - 1) : Nat) : Int))
def sp_who (S : Sc) (F : Nat) : Nat := if nI (sp_odds S F) ≤ pc_d16 (pc_nx S.2.2) then 0 else F
/-- a MOMENT in which he stands: who is hurt (0 the RUNNER; nobody: -4), and the scene behind it -/
def sp_fgA (S : Sc) : Int32 := if sp_mt S (S.1 3 + 1) = 0 then iZ (-4) else nI (sp_who S (sp_mt S (S.1 3 + 1)))
def sp_fgS (S : Sc) : Sc := if sp_mt S (S.1 3 + 1) = 0 then sN S 3 (S.1 3 + 1) else sR (sD (sN S 3 (S.1 3 + 1)) (pc_nx S.2.2)) 4 (sp_who S (sp_mt S (S.1 3 + 1))) (S.2.1 4 (sp_who S (sp_mt S (S.1 3 + 1))) + 1)
theorem pc_force_le (k a h : Nat) (ha : a ≤ 9) : pc_force k a h ≤ 11 := by
  unfold pc_force
  split <;> split <;> omega
theorem sp_frc_le (S : Sc) (ho : oSc S) (f : Nat) : sp_frc S f ≤ 11 := pc_force_le _ _ _ (ho.2.2.2.2.2.2.2.2.1 f)
