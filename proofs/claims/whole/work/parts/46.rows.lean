/-! film, copy, strides, far -/
theorem sh_fr {is ks : List Nat} {z z' : RS} {L N9 : Nat → Nat} {I9 : Nat → Nat → Int64} (f : rFr is ks z z') (h1 : 26 ∉ ks) (h2 : 27 ∉ ks) (h : rSh z L N9 I9) : rSh z' L N9 I9 := by
  intro t ht
  obtain ⟨a1, a2, a3, a4, a5⟩ := h t ht
  exact ⟨(congrFun (f.2.1 26 h1) t).trans a1, (congrFun (f.2.1 27 h2) t).trans a2, a3, a4, fun i hi => (congrFun (congrFun f.2.2 28) _).trans (a5 i hi)⟩
theorem rFx_of {is ks : List Nat} {z z' : RS} {is' ks' js' : List Nat} (f : rFr is ks z z') (h1 : ∀ i, i ∈ is → i ∈ is') (h2 : ∀ i, i ∈ ks → i ∈ ks') : rFx is' ks' js' z z' :=
  ⟨fun i q => f.1 i (fun w => q (h1 i w)), fun k q => f.2.1 k (fun w => q (h2 k w)), fun j _ => congrFun f.2.2 j⟩
theorem rFx_w {is ks js is' ks' js' : List Nat} {z z' : RS} (f : rFx is ks js z z') (h1 : ∀ i, i ∈ is → i ∈ is') (h2 : ∀ i, i ∈ ks → i ∈ ks') (h3 : ∀ i, i ∈ js → i ∈ js') : rFx is' ks' js' z z' :=
  ⟨fun i q => f.1 i (fun w => q (h1 i w)), fun k q => f.2.1 k (fun w => q (h2 k w)), fun j q => f.2.2 j (fun w => q (h3 j w))⟩
/-- n items of row t from i on come from G -/
def pw_put (I9 : Nat → Nat → Int64) (t i n : Nat) (G : Nat → Int64) : Nat → Nat → Int64 := va_up I9 t (fun q => if i ≤ q ∧ q < i + n then G (q - i) else I9 t q)
theorem pp_0 {z : RS} {L N9 : Nat → Nat} {I9 : Nat → Nat → Int64} (h : rSh z L N9 I9) (t i : Nat) (G : Nat → Int64) : rSh z L N9 (pw_put I9 t i 0 G) :=
  sh_of h (fun _ _ => rfl) (fun _ _ => rfl) (fun a b _ _ => by
    unfold pw_put
    by_cases e : a = t
    · subst e
      rw [va_up_self, if_neg (by omega)]
    · rw [va_up_ne _ _ e])
theorem pp_s {z : RS} {L N9 : Nat → Nat} {I9 : Nat → Nat → Int64} {t i n : Nat} {G : Nat → Int64} {v : Int64} (h : rSh z L N9 (va_up (pw_put I9 t i n G) t (va_up (pw_put I9 t i n G t) (i + n) v))) (hv : v = G n) : rSh z L N9 (pw_put I9 t i (n + 1) G) :=
  sh_of h (fun _ _ => rfl) (fun _ _ => rfl) (fun a b _ _ => by
    unfold pw_put
    by_cases e : a = t
    · subst e
      rw [va_up_self, va_up_self, va_up_self]
      by_cases e2 : b = i + n
      · subst e2
        rw [va_up_self, if_pos (by omega), hv, show i + n - i = n by omega]
      · rw [va_up_ne _ _ e2]
        by_cases e3 : i ≤ b ∧ b < i + n
        · rw [if_pos e3, if_pos (by omega)]
        · rw [if_neg e3, if_neg (by omega)]
    · rw [va_up_ne _ _ e, va_up_ne _ _ e, va_up_ne _ _ e])
def an_film (S : Sc) (L N9 : Nat → Nat) (n t la i : Int32) : Int32 := if (1 ≤ n.toInt ∧ n.toInt ≤ 24) ∧ (0 ≤ t.toInt ∧ t.toInt ≤ 3) ∧ 0 ≤ la.toInt ∧ la.toInt ≤ 3 then (if sp_over S = 0 ∧ S.1 4 = 0 then (if pw_why L N9 t.toInt.toNat la.toInt.toNat i.toInt n.toInt.toNat < 0 then iZ (pw_why L N9 t.toInt.toNat la.toInt.toNat i.toInt n.toInt.toNat) else n) else iZ (-2)) else iZ (-1)
def ni_film (S : Sc) (L N9 : Nat → Nat) (I9 : Nat → Nat → Int64) (n t la i : Int32) : Nat → Nat → Int64 := if ((1 ≤ n.toInt ∧ n.toInt ≤ 24) ∧ (0 ≤ t.toInt ∧ t.toInt ≤ 3) ∧ 0 ≤ la.toInt ∧ la.toInt ≤ 3) ∧ (sp_over S = 0 ∧ S.1 4 = 0) ∧ ¬ pw_why L N9 t.toInt.toNat la.toInt.toNat i.toInt n.toInt.toNat < 0 then pw_put I9 t.toInt.toNat i.toInt.toNat n.toInt.toNat (fun q => pw_low (L t.toInt.toNat) (nI (sp_byv S 0 q)).toInt64) else I9
def an_copy (L N9 : Nat → Nat) (a i b j n : Int32) : Int32 := if (0 ≤ a.toInt ∧ a.toInt ≤ 3) ∧ 0 ≤ b.toInt ∧ b.toInt ≤ 3 then (if L a.toInt.toNat = 0 ∨ L b.toInt.toNat = 0 then iZ (-11) else (if L a.toInt.toNat = L b.toInt.toNat then (if 0 ≤ n.toInt ∧ (0 ≤ i.toInt ∧ i.toInt + n.toInt ≤ (N9 a.toInt.toNat : Int)) ∧ 0 ≤ j.toInt ∧ j.toInt + n.toInt ≤ (N9 b.toInt.toNat : Int) then n else iZ (-13)) else iZ (-12))) else iZ (-1)
def ni_copy (L N9 : Nat → Nat) (I9 : Nat → Nat → Int64) (a i b j n : Int32) : Nat → Nat → Int64 := if ((0 ≤ a.toInt ∧ a.toInt ≤ 3) ∧ 0 ≤ b.toInt ∧ b.toInt ≤ 3) ∧ (¬ L a.toInt.toNat = 0 ∧ ¬ L b.toInt.toNat = 0) ∧ L a.toInt.toNat = L b.toInt.toNat ∧ 0 ≤ n.toInt ∧ (0 ≤ i.toInt ∧ i.toInt + n.toInt ≤ (N9 a.toInt.toNat : Int)) ∧ 0 ≤ j.toInt ∧ j.toInt + n.toInt ≤ (N9 b.toInt.toNat : Int) then pw_put I9 b.toInt.toNat j.toInt.toNat n.toInt.toNat (fun q => I9 a.toInt.toNat (i.toInt.toNat + q)) else I9
/-- strides -/
def pw_okb (S : Sc) (t9 c9 : Int64) : Nat := if (0 ≤ t9.toInt ∧ t9.toInt ≤ 400) ∧ 0 ≤ c9.toInt ∧ c9.toInt < S.1 0 then 1 else 0
theorem okb_ok (S : Sc) (t9 c9 : Int64) : (pw_okb S t9 c9 = 1 ∧ (0 ≤ t9.toInt ∧ t9.toInt ≤ 400) ∧ 0 ≤ c9.toInt ∧ c9.toInt < S.1 0) ∨ (pw_okb S t9 c9 = 0 ∧ ¬ ((0 ≤ t9.toInt ∧ t9.toInt ≤ 400) ∧ 0 ≤ c9.toInt ∧ c9.toInt < S.1 0)) := by
  unfold pw_okb
  by_cases q : (0 ≤ t9.toInt ∧ t9.toInt ≤ 400) ∧ 0 ≤ c9.toInt ∧ c9.toInt < S.1 0
  · rw [if_pos q]
    exact Or.inl ⟨rfl, q⟩
  · rw [if_neg q]
    exact Or.inr ⟨rfl, q⟩
def sp_al (S : Sc) (R9 : Nat → Int64) : Nat → Nat
  | 0 => 1
  | k + 1 => if sp_al S R9 k = 0 then 0 else pw_okb S (R9 (2 * k)) (R9 (2 * k + 1))
theorem al_0 (S : Sc) (R9 : Nat → Int64) {k : Nat} (h : sp_al S R9 k = 0) : ∀ d, sp_al S R9 (k + d) = 0
  | 0 => h
  | d + 1 => if_pos (al_0 S R9 h d)
theorem al_1 (S : Sc) (R9 : Nat → Int64) : ∀ n, ¬ sp_al S R9 n = 0 → ∀ k, k < n → (0 ≤ (R9 (2 * k)).toInt ∧ (R9 (2 * k)).toInt ≤ 400) ∧ 0 ≤ (R9 (2 * k + 1)).toInt ∧ (R9 (2 * k + 1)).toInt < S.1 0
  | 0, _, k, hk => absurd hk (Nat.not_lt_zero _)
  | n + 1, h, k, hk => by
    have e : sp_al S R9 (n + 1) = if sp_al S R9 n = 0 then 0 else pw_okb S (R9 (2 * n)) (R9 (2 * n + 1)) := rfl
    by_cases q : sp_al S R9 n = 0
    · rw [e, if_pos q] at h
      exact absurd rfl h
    · rw [e, if_neg q] at h
      by_cases ek : k = n
      · subst ek
        rcases okb_ok S (R9 (2 * k)) (R9 (2 * k + 1)) with w | w
        · exact w.2
        · exact absurd w.1 h
      · exact al_1 S R9 n q k (by omega)
def sp_sd (S : Sc) (R9 : Nat → Int64) (f h : Nat) : Nat → Nat
  | 0 => 1
  | k + 1 => if sp_sd S R9 f h k = 0 then 0 else (if pc_far (S.2.1 0) (sp_pts S f h (R9 (2 * k)).toInt.toNat) (S.1 0 - 1) = (R9 (2 * k + 1)).toInt.toNat then 1 else 0)
theorem sd_le (S : Sc) (R9 : Nat → Int64) (f h : Nat) : ∀ k, sp_sd S R9 f h k ≤ 1
  | 0 => Nat.le_refl _
  | k + 1 => by
    unfold sp_sd
    split
    · exact Nat.zero_le _
    · split <;> omega
def sp_st (S : Sc) (R9 : Nat → Int64) (f n : Nat) : Nat → Nat
  | 0 => 0
  | h + 1 => sp_st S R9 f n h ||| (if sp_sd S R9 f h n = 0 then 0 else 2 ^ h)
def an_str (S : Sc) (L N9 : Nat → Nat) (I9 : Nat → Nat → Int64) (f t la i n : Int32) : Int32 := if (0 ≤ f.toInt ∧ f.toInt < S.1 1) ∧ (0 ≤ t.toInt ∧ t.toInt ≤ 3) ∧ (0 ≤ la.toInt ∧ la.toInt ≤ 3) ∧ 1 ≤ n.toInt ∧ n.toInt ≤ 8 then (if pw_why L N9 t.toInt.toNat la.toInt.toNat i.toInt (2 * n.toInt.toNat) < 0 then iZ (pw_why L N9 t.toInt.toNat la.toInt.toNat i.toInt (2 * n.toInt.toNat)) else (if sp_al S (fun q => I9 t.toInt.toNat (i.toInt.toNat + q)) n.toInt.toNat = 0 then iZ (-2) else nI (sp_st S (fun q => I9 t.toInt.toNat (i.toInt.toNat + q)) f.toInt.toNat n.toInt.toNat 6))) else iZ (-1)
theorem l_n {v : Int64} (h0 : 0 ≤ v.toInt) (h1 : v.toInt ≤ 1000) : v.toInt32 = nI v.toInt.toNat := by
  apply Int32.toInt_inj.mp
  rw [Int64.toInt_toInt32]
  have e : ((nI v.toInt.toNat).toInt : Int) = ((v.toInt.toNat : Nat) : Int) := by rw [← iZ_n]; exact iZ_toInt (by omega) (by omega)
  rw [e, Int.bmod_def]
  omega
theorem l_eq {v : Int64} {n : Nat} (h0 : 0 ≤ v.toInt) (hn : n < 1000) : (nI n).toInt64 = v ↔ n = v.toInt.toNat := by
  rw [← Int64.toInt_inj, in_toN (by omega)]
  omega
/-- far -/
def sp_ou (S : Sc) : Nat → Nat
  | 0 => 0
  | k + 1 => sp_ou S k + (if pc_dn S (k + 1) = 0 then 1 else 0)
theorem ou_le (S : Sc) : ∀ k, sp_ou S k ≤ k
  | 0 => Nat.le_refl _
  | k + 1 => by
    have h := ou_le S k
    unfold sp_ou
    split <;> omega
def sp_fr (S : Sc) (R9 : Nat → Int64) (ce : Nat) : Nat → Nat
  | 0 => 1
  | k + 1 => if pc_dn S (k + 1) = 0 then (if sp_fr S R9 ce k = 0 then 0 else (if (nI (sp_com S 0 (k + 1) ce)).toInt64 = R9 (sp_ou S k) then 1 else 0)) else sp_fr S R9 ce k
theorem fr_le (S : Sc) (R9 : Nat → Int64) (ce : Nat) : ∀ k, sp_fr S R9 ce k ≤ 1
  | 0 => Nat.le_refl _
  | k + 1 => by
    have h := fr_le S R9 ce k
    unfold sp_fr
    split
    · split
      · exact Nat.zero_le _
      · split <;> omega
    · exact h
/-- how many fit, the first one and one, is he caught -/
def sp_fa (S : Sc) (R9 : Nat → Int64) : Nat → Nat × Nat × Nat
  | 0 => (0, 0, if S.1 1 = 0 then 1 else 0)
  | t + 1 => if (sp_fa S R9 t).2.2 = 0 then ((sp_fa S R9 t).1 + (if sp_fr S R9 (sp_run S t) (S.1 1 - 1) = 0 then 0 else 1), (if sp_fr S R9 (sp_run S t) (S.1 1 - 1) = 0 then (sp_fa S R9 t).2.1 else (if (sp_fa S R9 t).1 = 0 then t + 1 else (sp_fa S R9 t).2.1)), (if t = 0 then 0 else sp_ct S 0 t)) else sp_fa S R9 t
theorem fa_le (S : Sc) (R9 : Nat → Int64) : ∀ t, (sp_fa S R9 t).1 ≤ t ∧ (sp_fa S R9 t).2.1 ≤ t ∧ (sp_fa S R9 t).2.2 ≤ 1
  | 0 => by
    refine ⟨Nat.le_refl _, Nat.le_refl _, ?_⟩
    show (if S.1 1 = 0 then 1 else 0) ≤ 1
    split <;> omega
  | t + 1 => by
    have h := fa_le S R9 t
    have h2 := sp_ct01 S 0 t
    unfold sp_fa
    split
    · refine ⟨?_, ?_, ?_⟩
      · show _ + (if _ then 0 else 1) ≤ _
        split <;> omega
      · exact it_le (Nat.le_succ_of_le h.2.1) (it_le (Nat.le_refl _) (Nat.le_succ_of_le h.2.1))
      · show (if _ then _ else _) ≤ _
        split <;> omega
    · omega
theorem fa_st (S : Sc) (R9 : Nat → Int64) (t : Nat) (h : ¬ (sp_fa S R9 t).2.2 = 0) : ∀ d, sp_fa S R9 (t + d) = sp_fa S R9 t
  | 0 => rfl
  | d + 1 => by
    have ih := fa_st S R9 t h d
    show (if (sp_fa S R9 (t + d)).2.2 = 0 then _ else sp_fa S R9 (t + d)) = _
    rw [if_neg (by rw [ih]; exact h), ih]
def pc_ff (n : Nat) : Int32 := if n = 0 then iZ (-4) else nI (n - 1)
def an_far (S : Sc) (L N9 : Nat → Nat) (I9 : Nat → Nat → Int64) (t la i w : Int32) : Int32 := if (0 ≤ t.toInt ∧ t.toInt ≤ 3) ∧ (0 ≤ la.toInt ∧ la.toInt ≤ 3) ∧ 0 ≤ w.toInt ∧ w.toInt ≤ 1 then (if pw_why L N9 t.toInt.toNat la.toInt.toNat i.toInt (sp_ou S (S.1 1 - 1)) < 0 then iZ (pw_why L N9 t.toInt.toNat la.toInt.toNat i.toInt (sp_ou S (S.1 1 - 1))) else (if w.toInt = 0 then nI (sp_fa S (fun q => I9 t.toInt.toNat (i.toInt.toNat + q)) 61).1 else pc_ff (sp_fa S (fun q => I9 t.toInt.toNat (i.toInt.toNat + q)) 61).2.1)) else iZ (-1)
