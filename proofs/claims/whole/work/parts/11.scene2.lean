/-! the scene in the reference's cells: what is read, what is written -/
theorem s_l : ∀ n, n < 32 → ((nI n &&& 31).toBitVec.smod 32).toNat = n := by decide +kernel
theorem fa_and (a b : Nat) : nI a &&& nI b = nI (a &&& b) := by
  apply Int32.toBitVec_inj.1
  show BitVec.ofNat 32 a &&& BitVec.ofNat 32 b = BitVec.ofNat 32 (a &&& b)
  apply BitVec.eq_of_getLsbD_eq
  intro i hi
  simp [hi]
theorem fa_or (a b : Nat) : nI a ||| nI b = nI (a ||| b) := by
  apply Int32.toBitVec_inj.1
  show BitVec.ofNat 32 a ||| BitVec.ofNat 32 b = BitVec.ofNat 32 (a ||| b)
  apply BitVec.eq_of_getLsbD_eq
  intro i hi
  simp [hi]
theorem pw_32 {k : Nat} (h : k ≤ 5) : 2 ^ k ≤ 32 := Nat.le_trans (Nat.pow_le_pow_right (by decide) h) (by decide)
theorem sh_1 {k : Nat} (h : k ≤ 5) : nI 1 <<< (nI k &&& 31) = nI (2 ^ k) := by
  have h1 := pw_32 h
  rw [pk_shlN (n := 1) (nI k &&& 31) k (s_l k (by omega)) (by omega), Nat.one_mul]
abbrev sN (S : Sc) (k v : Nat) : Sc := (va_up S.1 k v, S.2)
abbrev sR (S : Sc) (j i v : Nat) : Sc := (S.1, va_up S.2.1 j (va_up (S.2.1 j) i v), S.2.2)
abbrev sD (S : Sc) (d : Int32) : Sc := (S.1, S.2.1, d)
section Acc
variable {z : RS} {S : Sc}
theorem rs_ce (h : rSc z S) : z.1 0 = nI (S.1 0) := h.1
theorem rs_nf (h : rSc z S) : z.1 1 = nI (S.1 1) := h.2.1
theorem rs_st (h : rSc z S) : z.1 4 = nI (S.1 2) := h.2.2.1
theorem rs_mo (h : rSc z S) : z.2.1 5 0 = nI (S.1 3) := h.2.2.2.1
theorem rs_sd (h : rSc z S) : z.2.1 5 1 = pc_sd (S.1 4) := h.2.2.2.2.1
theorem rs_dr (h : rSc z S) : z.2.1 5 2 = S.2.2 := h.2.2.2.2.2.1
theorem rs_so (h : rSc z S) (c : Nat) (hc : c < 40) : z.2.1 2 c = nI (S.2.1 0 c) := h.2.2.2.2.2.2.1 c hc
theorem rs_ki (h : rSc z S) (f : Nat) (hf : f < 5) : z.2.1 3 (3 * f) = nI (S.2.1 1 f) := h.2.2.2.2.2.2.2.1 f hf
theorem rs_sr (h : rSc z S) (f : Nat) (hf : f < 5) : z.2.1 3 (3 * f + 1) = nI (S.2.1 2 f) := h.2.2.2.2.2.2.2.2.1 f hf
theorem rs_pa (h : rSc z S) (f : Nat) (hf : f < 5) : z.2.1 3 (3 * f + 2) = nI (S.2.1 3 f) := h.2.2.2.2.2.2.2.2.2.1 f hf
theorem rs_hu (h : rSc z S) (f : Nat) (hf : f < 5) : z.2.1 5 (3 + f) = nI (S.2.1 4 f) := h.2.2.2.2.2.2.2.2.2.2.1 f hf
theorem rs_co (h : rSc z S) (f : Nat) (hf : f < 5) : z.2.1 5 (8 + f) = nI (S.2.1 5 f) := h.2.2.2.2.2.2.2.2.2.2.2 f hf
/-- TURNED: 1, else 0 -/
def pc_td (S : Sc) : Nat := if S.1 4 = 0 then 0 else 1
theorem pc_td01 (S : Sc) : pc_td S ≤ 1 := by
  unfold pc_td
  split <;> omega
theorem pc_td0 {S : Sc} (h : pc_td S = 0) : S.1 4 = 0 := by
  unfold pc_td at h
  split at h <;> omega
theorem pc_td1 {S : Sc} (h : ¬ pc_td S = 0) : ¬ S.1 4 = 0 := fun q => h (by unfold pc_td; rw [if_pos q])
theorem pc_sd_4 {n : Nat} (h : n ≤ 1000) : pc_sd n = iZ (-4) ↔ n = 0 := by
  unfold pc_sd
  by_cases q : n = 0
  · rw [if_pos q]
    exact ⟨fun _ => q, fun _ => rfl⟩
  · rw [if_neg q, ← iZ_n, iZ_eq (by omega) (by omega) (by omega) (by omega)]
    omega
theorem rs_sdn (h : rSc z S) (q : ¬ pc_td S = 0) : z.2.1 5 1 = nI (S.1 4 - 1) := by
  rw [rs_sd h]
  unfold pc_sd
  rw [if_neg (pc_td1 q)]
theorem rw_mo (h : rSc z S) (v : Nat) : rSc (sA z 5 0 (nI v)) (sN S 3 v) := by
  obtain ⟨h0, h1, h2, h3, h4, h5, h6, h7, h8, h9, h10, h11⟩ := h
  refine ⟨h0, h1, h2, rfl, h4, h5, h6, h7, h8, h9, fun f hf => ?_, fun f hf => ?_⟩
  · show upd (z.2.1 5) 0 (nI v) (3 + f) = _
    rw [pk_un (by omega)]; exact h10 f hf
  · show upd (z.2.1 5) 0 (nI v) (8 + f) = _
    rw [pk_un (by omega)]; exact h11 f hf
theorem rw_sd (h : rSc z S) (v : Nat) : rSc (sA z 5 1 (nI v)) (sN S 4 (v + 1)) := by
  obtain ⟨h0, h1, h2, h3, h4, h5, h6, h7, h8, h9, h10, h11⟩ := h
  refine ⟨h0, h1, h2, h3, ?_, h5, h6, h7, h8, h9, fun f hf => ?_, fun f hf => ?_⟩
  · show nI v = pc_sd (v + 1)
    unfold pc_sd
    rw [if_neg (by omega), Nat.add_sub_cancel]
  · show upd (z.2.1 5) 1 (nI v) (3 + f) = _
    rw [pk_un (by omega)]; exact h10 f hf
  · show upd (z.2.1 5) 1 (nI v) (8 + f) = _
    rw [pk_un (by omega)]; exact h11 f hf
theorem rw_dr (h : rSc z S) (v : Int32) : rSc (sA z 5 2 v) (sD S v) := by
  obtain ⟨h0, h1, h2, h3, h4, h5, h6, h7, h8, h9, h10, h11⟩ := h
  refine ⟨h0, h1, h2, h3, h4, rfl, h6, h7, h8, h9, fun f hf => ?_, fun f hf => ?_⟩
  · show upd (z.2.1 5) 2 v (3 + f) = _
    rw [pk_un (by omega)]; exact h10 f hf
  · show upd (z.2.1 5) 2 v (8 + f) = _
    rw [pk_un (by omega)]; exact h11 f hf
theorem rw_hu (h : rSc z S) (k : Nat) (hk : k < 5) (v : Nat) : rSc (sA z 5 (3 + k) (nI v)) (sR S 4 k v) := by
  obtain ⟨h0, h1, h2, h3, h4, h5, h6, h7, h8, h9, h10, h11⟩ := h
  refine ⟨h0, h1, h2, ?_, ?_, ?_, h6, h7, h8, h9, fun f hf => ?_, fun f hf => ?_⟩
  · show upd (z.2.1 5) (3 + k) (nI v) 0 = _
    rw [pk_un (by omega)]; exact h3
  · show upd (z.2.1 5) (3 + k) (nI v) 1 = _
    rw [pk_un (by omega)]; exact h4
  · show upd (z.2.1 5) (3 + k) (nI v) 2 = _
    rw [pk_un (by omega)]; exact h5
  · show upd (z.2.1 5) (3 + k) (nI v) (3 + f) = nI (va_up (S.2.1 4) k v f)
    by_cases q : f = k
    · subst q
      rw [pk_us, va_up_self]
    · rw [pk_un (by omega), va_up_ne _ _ q]; exact h10 f hf
  · show upd (z.2.1 5) (3 + k) (nI v) (8 + f) = _
    rw [pk_un (by omega)]; exact h11 f hf
theorem rw_co (h : rSc z S) (k : Nat) (hk : k < 5) (v : Nat) : rSc (sA z 5 (8 + k) (nI v)) (sR S 5 k v) := by
  obtain ⟨h0, h1, h2, h3, h4, h5, h6, h7, h8, h9, h10, h11⟩ := h
  refine ⟨h0, h1, h2, ?_, ?_, ?_, h6, h7, h8, h9, fun f hf => ?_, fun f hf => ?_⟩
  · show upd (z.2.1 5) (8 + k) (nI v) 0 = _
    rw [pk_un (by omega)]; exact h3
  · show upd (z.2.1 5) (8 + k) (nI v) 1 = _
    rw [pk_un (by omega)]; exact h4
  · show upd (z.2.1 5) (8 + k) (nI v) 2 = _
    rw [pk_un (by omega)]; exact h5
  · show upd (z.2.1 5) (8 + k) (nI v) (3 + f) = _
    rw [pk_un (by omega)]; exact h10 f hf
  · show upd (z.2.1 5) (8 + k) (nI v) (8 + f) = nI (va_up (S.2.1 5) k v f)
    by_cases q : f = k
    · subst q
      rw [pk_us, va_up_self]
    · rw [pk_un (by omega), va_up_ne _ _ q]; exact h11 f hf
/-- only these numbers and rows may have changed -/
def rFr (is ks : List Nat) (z z' : RS) : Prop := (∀ i, i ∉ is → z'.1 i = z.1 i) ∧ (∀ k, k ∉ ks → z'.2.1 k = z.2.1 k) ∧ z'.2.2 = z.2.2
theorem rFr_rf (is ks : List Nat) (z : RS) : rFr is ks z z := ⟨fun _ _ => rfl, fun _ _ => rfl, rfl⟩
theorem rFr_tr {is ks : List Nat} {z z1 z2 : RS} (h : rFr is ks z z1) (h2 : rFr is ks z1 z2) : rFr is ks z z2 := ⟨fun i q => (h2.1 i q).trans (h.1 i q), fun k q => (h2.2.1 k q).trans (h.2.1 k q), h2.2.2.trans h.2.2⟩
theorem rFr_A {is ks : List Nat} (z : RS) {k i : Nat} {v : Int32} (hk : k ∈ ks) : rFr is ks z (sA z k i v) := ⟨fun _ _ => rfl, fun j q => va_up_ne _ _ (fun e => q (e ▸ hk)), rfl⟩
theorem rFr_I {is ks : List Nat} (z : RS) {k : Nat} {v : Int32} (hk : k ∈ is) : rFr is ks z (sI z k v) := ⟨fun j q => va_up_ne _ _ (fun e => q (e ▸ hk)), fun _ _ => rfl, rfl⟩
theorem rFr_w {is ks is' ks' : List Nat} {z z' : RS} (h : rFr is ks z z') (h1 : ∀ i, i ∈ is → i ∈ is') (h2 : ∀ i, i ∈ ks → i ∈ ks') : rFr is' ks' z z' := ⟨fun i q => h.1 i (fun e => q (h1 i e)), fun k q => h.2.1 k (fun e => q (h2 k e)), h.2.2⟩
end Acc
/-- where one is -/
def sp_cell (S : Sc) (f : Nat) : Nat := if pc_dn S f = 0 then (if S.1 2 ≤ S.1 3 then pc_far (S.2.1 0) (sp_pts S f (S.2.1 4 f) (S.1 3 - S.1 2)) (S.1 0 - 1) else 0) else 0
def sp_place (S : Sc) (f : Nat) : Nat := if f = 0 then (if pc_td S = 0 then sp_run S (S.1 3) else S.1 4 - 1) else (if pc_td S = 0 then sp_cell S f else if S.2.1 5 f ≤ S.1 3 then S.1 4 - 1 else (if sp_cell S f ≤ S.1 4 - 1 then sp_cell S f else S.1 4 - 1))
/-- those DOWN -/
def sp_dnL (S : Sc) : Nat → Nat
  | 0 => 0
  | n + 1 => sp_dnL S n ||| (if pc_dn S n = 0 then 0 else 2 ^ n)
theorem sp_dnL_lt (S : Sc) : ∀ n, sp_dnL S n < 2 ^ n
  | 0 => Nat.one_pos
  | n + 1 => by
    have h := sp_dnL_lt S n
    have h2 : 2 ^ n < 2 ^ (n + 1) := Nat.pow_lt_pow_right (by decide) (by omega)
    unfold sp_dnL
    refine Nat.or_lt_two_pow (by omega) ?_
    split <;> omega
def sp_over (S : Sc) : Nat := if 2 ≤ S.1 1 then (if sp_dnL S (S.1 1) &&& 1 = 1 then 2 else if sp_dnL S (S.1 1) = 2 ^ (S.1 1) - 2 then 1 else 0) else 3
theorem sp_over_le (S : Sc) : sp_over S ≤ 3 := by
  unfold sp_over
  split
  · split
    · omega
    · split <;> omega
  · omega
