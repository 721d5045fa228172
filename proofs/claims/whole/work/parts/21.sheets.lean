/-! the sheets -/
section Len
variable {p : Program} {l : Launch} {e : Env} {R : Room} {s : State} {m : MethodId} {args : Array Value} {below : List Frame} {meth : Method} {c : Code} {H : Heap} {locs : List Loc} {cells slots : Nat} {Q : State → Prop}
variable {cc : ByteArray} {pc : Nat} {ls : Array Slot} {rest : List Value} {g : RG} {A : Nat → Prop} {z : RS}
theorem rl_2 (X : rX g A p c cc s args m) (w : rP g z H) (hdg : decode cc pc = .ok (.arraylength, 1)) (kk : W p l e R s m args below meth c H locs cells slots Q (F0 m (pc + 1) ls (.int (nI 40) :: rest))) : W p l e R s m args below meth c H locs cells slots Q (F0 m pc ls (.ref (g.2.2.2.2 2) :: rest)) :=
  va_alen X.1 X.2.1 X.2.2.2.2.1 w 1 0 rfl rfl (v := nI 40) rfl hdg kk
theorem rl_3 (X : rX g A p c cc s args m) (w : rP g z H) (hdg : decode cc pc = .ok (.arraylength, 1)) (kk : W p l e R s m args below meth c H locs cells slots Q (F0 m (pc + 1) ls (.int (nI 15) :: rest))) : W p l e R s m args below meth c H locs cells slots Q (F0 m pc ls (.ref (g.2.2.2.2 3) :: rest)) :=
  va_alen X.1 X.2.1 X.2.2.2.2.1 w 2 0 rfl rfl (v := nI 15) rfl hdg kk
theorem rl_5 (X : rX g A p c cc s args m) (w : rP g z H) (hdg : decode cc pc = .ok (.arraylength, 1)) (kk : W p l e R s m args below meth c H locs cells slots Q (F0 m (pc + 1) ls (.int (nI 13) :: rest))) : W p l e R s m args below meth c H locs cells slots Q (F0 m pc ls (.ref (g.2.2.2.2 5) :: rest)) :=
  va_alen X.1 X.2.1 X.2.2.2.2.1 w 3 0 rfl rfl (v := nI 13) rfl hdg kk
theorem rl_7 (X : rX g A p c cc s args m) (w : rP g z H) (hdg : decode cc pc = .ok (.arraylength, 1)) (kk : W p l e R s m args below meth c H locs cells slots Q (F0 m (pc + 1) ls (.int (nI 100) :: rest))) : W p l e R s m args below meth c H locs cells slots Q (F0 m pc ls (.ref (g.2.2.2.2 7) :: rest)) :=
  va_alen X.1 X.2.1 X.2.2.2.2.1 w 4 0 rfl rfl (v := nI 100) rfl hdg kk
theorem rl_13 (X : rX g A p c cc s args m) (w : rP g z H) (hdg : decode cc pc = .ok (.arraylength, 1)) (kk : W p l e R s m args below meth c H locs cells slots Q (F0 m (pc + 1) ls (.int (nI 40) :: rest))) : W p l e R s m args below meth c H locs cells slots Q (F0 m pc ls (.ref (g.2.2.2.2 13) :: rest)) :=
  va_alen X.1 X.2.1 X.2.2.2.2.1 w 5 0 rfl rfl (v := nI 40) rfl hdg kk
theorem rl_14 (X : rX g A p c cc s args m) (w : rP g z H) (hdg : decode cc pc = .ok (.arraylength, 1)) (kk : W p l e R s m args below meth c H locs cells slots Q (F0 m (pc + 1) ls (.int (nI 20) :: rest))) : W p l e R s m args below meth c H locs cells slots Q (F0 m pc ls (.ref (g.2.2.2.2 14) :: rest)) :=
  va_alen X.1 X.2.1 X.2.2.2.2.1 w 6 0 rfl rfl (v := nI 20) rfl hdg kk
theorem rl_15 (X : rX g A p c cc s args m) (w : rP g z H) (hdg : decode cc pc = .ok (.arraylength, 1)) (kk : W p l e R s m args below meth c H locs cells slots Q (F0 m (pc + 1) ls (.int (nI 104) :: rest))) : W p l e R s m args below meth c H locs cells slots Q (F0 m pc ls (.ref (g.2.2.2.2 15) :: rest)) :=
  va_alen X.1 X.2.1 X.2.2.2.2.1 w 7 0 rfl rfl (v := nI 104) rfl hdg kk
theorem rl_17 (X : rX g A p c cc s args m) (w : rP g z H) (hdg : decode cc pc = .ok (.arraylength, 1)) (kk : W p l e R s m args below meth c H locs cells slots Q (F0 m (pc + 1) ls (.int (nI 13) :: rest))) : W p l e R s m args below meth c H locs cells slots Q (F0 m pc ls (.ref (g.2.2.2.2 17) :: rest)) :=
  va_alen X.1 X.2.1 X.2.2.2.2.1 w 8 0 rfl rfl (v := nI 13) rfl hdg kk
theorem rl_18 (X : rX g A p c cc s args m) (w : rP g z H) (hdg : decode cc pc = .ok (.arraylength, 1)) (kk : W p l e R s m args below meth c H locs cells slots Q (F0 m (pc + 1) ls (.int (nI 4) :: rest))) : W p l e R s m args below meth c H locs cells slots Q (F0 m pc ls (.ref (g.2.2.2.2 18) :: rest)) :=
  va_alen X.1 X.2.1 X.2.2.2.2.1 w 9 0 rfl rfl (v := nI 4) rfl hdg kk
theorem rl_19 (X : rX g A p c cc s args m) (w : rP g z H) (hdg : decode cc pc = .ok (.arraylength, 1)) (kk : W p l e R s m args below meth c H locs cells slots Q (F0 m (pc + 1) ls (.int (nI 180) :: rest))) : W p l e R s m args below meth c H locs cells slots Q (F0 m pc ls (.ref (g.2.2.2.2 19) :: rest)) :=
  va_alen X.1 X.2.1 X.2.2.2.2.1 w 10 0 rfl rfl (v := nI 180) rfl hdg kk
theorem rl_20 (X : rX g A p c cc s args m) (w : rP g z H) (hdg : decode cc pc = .ok (.arraylength, 1)) (kk : W p l e R s m args below meth c H locs cells slots Q (F0 m (pc + 1) ls (.int (nI 180) :: rest))) : W p l e R s m args below meth c H locs cells slots Q (F0 m pc ls (.ref (g.2.2.2.2 20) :: rest)) :=
  va_alen X.1 X.2.1 X.2.2.2.2.1 w 11 0 rfl rfl (v := nI 180) rfl hdg kk
theorem rl_21 (X : rX g A p c cc s args m) (w : rP g z H) (hdg : decode cc pc = .ok (.arraylength, 1)) (kk : W p l e R s m args below meth c H locs cells slots Q (F0 m (pc + 1) ls (.int (nI 61) :: rest))) : W p l e R s m args below meth c H locs cells slots Q (F0 m pc ls (.ref (g.2.2.2.2 21) :: rest)) :=
  va_alen X.1 X.2.1 X.2.2.2.2.1 w 12 0 rfl rfl (v := nI 61) rfl hdg kk
theorem rl_24 (X : rX g A p c cc s args m) (w : rP g z H) (hdg : decode cc pc = .ok (.arraylength, 1)) (kk : W p l e R s m args below meth c H locs cells slots Q (F0 m (pc + 1) ls (.int (nI 177) :: rest))) : W p l e R s m args below meth c H locs cells slots Q (F0 m pc ls (.ref (g.2.2.2.2 24) :: rest)) :=
  va_alen X.1 X.2.1 X.2.2.2.2.1 w 13 0 rfl rfl (v := nI 177) rfl hdg kk
theorem rl_26 (X : rX g A p c cc s args m) (w : rP g z H) (hdg : decode cc pc = .ok (.arraylength, 1)) (kk : W p l e R s m args below meth c H locs cells slots Q (F0 m (pc + 1) ls (.int (nI 4) :: rest))) : W p l e R s m args below meth c H locs cells slots Q (F0 m pc ls (.ref (g.2.2.2.2 26) :: rest)) :=
  va_alen X.1 X.2.1 X.2.2.2.2.1 w 14 0 rfl rfl (v := nI 4) rfl hdg kk
theorem rl_27 (X : rX g A p c cc s args m) (w : rP g z H) (hdg : decode cc pc = .ok (.arraylength, 1)) (kk : W p l e R s m args below meth c H locs cells slots Q (F0 m (pc + 1) ls (.int (nI 4) :: rest))) : W p l e R s m args below meth c H locs cells slots Q (F0 m pc ls (.ref (g.2.2.2.2 27) :: rest)) :=
  va_alen X.1 X.2.1 X.2.2.2.2.1 w 15 0 rfl rfl (v := nI 4) rfl hdg kk
end Len
def rFx (is ks js : List Nat) (z z' : RS) : Prop := (∀ i, i ∉ is → z'.1 i = z.1 i) ∧ (∀ k, k ∉ ks → z'.2.1 k = z.2.1 k) ∧ ∀ j, j ∉ js → z'.2.2 j = z.2.2 j
theorem rFx_rf (is ks js : List Nat) (z : RS) : rFx is ks js z z := ⟨fun _ _ => rfl, fun _ _ => rfl, fun _ _ => rfl⟩
theorem rFx_tr {is ks js : List Nat} {z z1 z2 : RS} (h : rFx is ks js z z1) (h2 : rFx is ks js z1 z2) : rFx is ks js z z2 := ⟨fun i q => (h2.1 i q).trans (h.1 i q), fun k q => (h2.2.1 k q).trans (h.2.1 k q), fun k q => (h2.2.2 k q).trans (h.2.2 k q)⟩
theorem rFx_A {is ks js : List Nat} (z : RS) {k i : Nat} {v : Int32} (hk : k ∈ ks) : rFx is ks js z (sA z k i v) := ⟨fun _ _ => rfl, fun j q => va_up_ne _ _ (fun e => q (e ▸ hk)), fun _ _ => rfl⟩
theorem rFx_L {is ks js : List Nat} (z : RS) {k i : Nat} {v : Int64} (hk : k ∈ js) : rFx is ks js z (sL z k i v) := ⟨fun _ _ => rfl, fun _ _ => rfl, fun j q => va_up_ne _ _ (fun e => q (e ▸ hk))⟩
/-- sheet t: its LANE and one more (0: none), its size, its items -/
def rSh (z : RS) (L N9 : Nat → Nat) (I9 : Nat → Nat → Int64) : Prop := ∀ t, t < 4 → z.2.1 26 t = iZ (((L t : Nat) : Int) - (1 : Int)) ∧ z.2.1 27 t = nI (N9 t) ∧ L t ≤ 4 ∧ N9 t ≤ 24 ∧ ∀ i, i < 24 → z.2.2 28 (24 * t + i) = I9 t i
def pw_why (L N9 : Nat → Nat) (t la : Nat) (i : Int) (n : Nat) : Int := if L t = 0 then -11 else (if ((L t : Nat) : Int) - 1 = la then (if i < 0 then -13 else (if (N9 t : Int) < i + n then -13 else 0)) else -12)
def pw_low (L : Nat) (v : Int64) : Int64 := if ((L : Nat) : Int) - (1 : Int) = 0 then ((v.toInt32).toInt8.toInt32).toInt64 else (if ((L : Nat) : Int) - (1 : Int) = 1 then ((v.toInt32).toInt16.toInt32).toInt64 else (if ((L : Nat) : Int) - (1 : Int) = 2 then (v.toInt32).toInt64 else v))
theorem rw_ln {z : RS} {L N9 : Nat → Nat} {I9 : Nat → Nat → Int64} (h : rSh z L N9 I9) {t v : Nat} (ht : t < 4) (hv : v ≤ 4) {x : Int32} (hx : x = iZ (((v : Nat) : Int) - (1 : Int))) : rSh (sA z 26 t x) (va_up L t v) N9 I9 := by
  intro q hq
  obtain ⟨h1, h2, h3, h4, h5⟩ := h q hq
  refine ⟨?_, h2, ?_, h4, h5⟩
  · show upd (z.2.1 26) t x q = _
    by_cases e : q = t
    · subst e
      rw [pk_us, va_up_self, hx]
    · rw [pk_un e, va_up_ne _ _ e]; exact h1
  · by_cases e : q = t
    · subst e
      rw [va_up_self]; exact hv
    · rw [va_up_ne _ _ e]; exact h3
theorem rw_sz {z : RS} {L N9 : Nat → Nat} {I9 : Nat → Nat → Int64} (h : rSh z L N9 I9) {t v : Nat} (ht : t < 4) (hv : v ≤ 24) : rSh (sA z 27 t (nI v)) L (va_up N9 t v) I9 := by
  intro q hq
  obtain ⟨h1, h2, h3, h4, h5⟩ := h q hq
  refine ⟨h1, ?_, h3, ?_, h5⟩
  · show upd (z.2.1 27) t (nI v) q = _
    by_cases e : q = t
    · subst e
      rw [pk_us, va_up_self]
    · rw [pk_un e, va_up_ne _ _ e]; exact h2
  · by_cases e : q = t
    · subst e
      rw [va_up_self]; exact hv
    · rw [va_up_ne _ _ e]; exact h4
theorem rw_it {z : RS} {L N9 : Nat → Nat} {I9 : Nat → Nat → Int64} (h : rSh z L N9 I9) {t i : Nat} (ht : t < 4) (hi : i < 24) (v : Int64) : rSh (sL z 28 (24 * t + i) v) L N9 (va_up I9 t (va_up (I9 t) i v)) := by
  intro q hq
  obtain ⟨h1, h2, h3, h4, h5⟩ := h q hq
  refine ⟨h1, h2, h3, h4, fun j hj => ?_⟩
  show vp_updL (z.2.2 28) (24 * t + i) v (24 * q + j) = _
  by_cases e : q = t
  · subst e
    rw [va_up_self]
    by_cases e2 : j = i
    · subst e2
      rw [pk_uLs, va_up_self]
    · rw [pk_uLn (by omega), va_up_ne _ _ e2]; exact h5 j hj
  · rw [pk_uLn (by omega), va_up_ne _ _ e]; exact h5 j hj
def an_sheet (t la n : Int32) : Int32 := if ((0 ≤ t.toInt ∧ t.toInt ≤ 3) ∧ 0 ≤ la.toInt ∧ la.toInt ≤ 3) ∧ n.toInt ≤ 24 then (if n.toInt < 0 then iZ (-14) else n) else iZ (-1)
def od_sheet (t la n : Int32) : Prop := ((0 ≤ t.toInt ∧ t.toInt ≤ 3) ∧ 0 ≤ la.toInt ∧ la.toInt ≤ 3) ∧ n.toInt ≤ 24 ∧ 0 ≤ n.toInt
def an_drop (L N9 : Nat → Nat) (t : Int32) : Int32 := if 0 ≤ t.toInt ∧ t.toInt ≤ 3 then (if L t.toInt.toNat = 0 then iZ (-11) else nI (N9 t.toInt.toNat)) else iZ (-1)
def nl_drop (L : Nat → Nat) (t : Int32) : Nat → Nat := if 0 ≤ t.toInt ∧ t.toInt ≤ 3 then va_up L t.toInt.toNat 0 else L
def an_item (L N9 : Nat → Nat) (t la i : Int32) : Int32 := if (0 ≤ t.toInt ∧ t.toInt ≤ 3) ∧ 0 ≤ la.toInt ∧ la.toInt ≤ 3 then (if pw_why L N9 t.toInt.toNat la.toInt.toNat i.toInt 1 < 0 then iZ (pw_why L N9 t.toInt.toNat la.toInt.toNat i.toInt 1) else nI 1) else iZ (-1)
def ni_item (L N9 : Nat → Nat) (I9 : Nat → Nat → Int64) (t la i : Int32) (v : Int64) : Nat → Nat → Int64 := if ((0 ≤ t.toInt ∧ t.toInt ≤ 3) ∧ 0 ≤ la.toInt ∧ la.toInt ≤ 3) ∧ ¬ pw_why L N9 t.toInt.toNat la.toInt.toNat i.toInt 1 < 0 then va_up I9 t.toInt.toNat (va_up (I9 t.toInt.toNat) i.toInt.toNat (pw_low (L t.toInt.toNat) v)) else I9
theorem pw_why_ok (L N9 : Nat → Nat) (t la : Nat) (i : Int) (n : Nat) : (pw_why L N9 t la i n = -11 ∧ L t = 0) ∨ (pw_why L N9 t la i n = -12 ∧ ¬ L t = 0 ∧ ¬ ((L t : Nat) : Int) - 1 = la) ∨ (pw_why L N9 t la i n = -13 ∧ ¬ L t = 0 ∧ ((L t : Nat) : Int) - 1 = la ∧ (i < 0 ∨ (N9 t : Int) < i + n)) ∨ (pw_why L N9 t la i n = 0 ∧ ¬ L t = 0 ∧ ((L t : Nat) : Int) - 1 = la ∧ 0 ≤ i ∧ i + n ≤ (N9 t : Int)) := by
  unfold pw_why
  split
  · next h => exact Or.inl ⟨rfl, h⟩
  · next h =>
    split
    · next h2 =>
      split
      · next h3 => exact Or.inr (Or.inr (Or.inl ⟨rfl, h, h2, Or.inl h3⟩))
      · next h3 =>
        split
        · next h4 => exact Or.inr (Or.inr (Or.inl ⟨rfl, h, h2, Or.inr h4⟩))
        · next h4 => exact Or.inr (Or.inr (Or.inr ⟨rfl, h, h2, by omega, by omega⟩))
    · next h2 => exact Or.inr (Or.inl ⟨rfl, h, h2⟩)
theorem i_lt0 {x : Int32} : x < 0 ↔ x.toInt < 0 := by
  rw [Int32.lt_iff_toInt_lt]
  rfl
theorem add_l (x : Int32) {n : Nat} (h : n < 2147483648) : (x.toInt64 + (nI n).toInt64).toInt = x.toInt + n := by
  have h1 := x.toInt_lt
  have h2 := x.le_toInt
  rw [Int64.toInt_add, in_toI, in_toN h]
  simp only [Int.bmod]
  omega
theorem cmp_l {x : Int32} {n k : Nat} (h : n < 2147483648) (hk : k < 2147483648) : (lg_cmp (x.toInt64 + (nI n).toInt64) (nI k).toInt64 ≤ 0) ↔ x.toInt + n ≤ k := by
  rw [lg_cmp_le, Int64.le_iff_toInt_le, add_l x h, in_toN hk]
theorem sh_of {z : RS} {L N9 L' N' : Nat → Nat} {I9 I' : Nat → Nat → Int64} (h : rSh z L N9 I9) (h1 : ∀ t, t < 4 → L' t = L t) (h2 : ∀ t, t < 4 → N' t = N9 t) (h3 : ∀ t i, t < 4 → i < 24 → I' t i = I9 t i) : rSh z L' N' I' := by
  intro t ht
  rw [h1 t ht, h2 t ht]
  obtain ⟨a1, a2, a3, a4, a5⟩ := h t ht
  exact ⟨a1, a2, a3, a4, fun i hi => (a5 i hi).trans (h3 t i ht hi).symm⟩
theorem sh_0 {z : RS} {L N9 : Nat → Nat} {I9 : Nat → Nat → Int64} {k : Nat} (h : rSh z L N9 I9) : rSh z L N9 (va_up I9 k (fun j => if j < 0 then 0 else I9 k j)) :=
  sh_of h (fun _ _ => rfl) (fun _ _ => rfl) (fun t i _ _ => by
    by_cases e : t = k
    · subst e
      rw [va_up_self, if_neg (by omega)]
    · rw [va_up_ne _ _ e])
theorem sh_s {z : RS} {L N9 : Nat → Nat} {I9 : Nat → Nat → Int64} {k i : Nat} (h : rSh z L N9 (va_up I9 k (fun j => if j < i then 0 else I9 k j))) (hk : k < 4) (hi : i < 24) : rSh (sL z 28 (24 * k + i) 0) L N9 (va_up I9 k (fun j => if j < i + 1 then 0 else I9 k j)) :=
  sh_of (rw_it h hk hi 0) (fun _ _ => rfl) (fun _ _ => rfl) (fun t j _ _ => by
    by_cases e : t = k
    · subst e
      rw [va_up_self, va_up_self, va_up_self]
      by_cases e2 : j = i
      · subst e2
        rw [va_up_self, if_pos (by omega)]
      · rw [va_up_ne _ _ e2]
        by_cases e3 : j < i
        · rw [if_pos e3, if_pos (by omega)]
        · rw [if_neg e3, if_neg (by omega)]
    · rw [va_up_ne _ _ e, va_up_ne _ _ e, va_up_ne _ _ e])
theorem sh_e {z : RS} {L N9 : Nat → Nat} {I9 : Nat → Nat → Int64} {k i : Nat} (h : rSh z L N9 (va_up I9 k (fun j => if j < i then 0 else I9 k j))) (hi : 24 ≤ i) : rSh z L N9 (va_up I9 k (fun _ => 0)) :=
  sh_of h (fun _ _ => rfl) (fun _ _ => rfl) (fun t j _ _ => by
    by_cases e : t = k
    · subst e
      rw [va_up_self, va_up_self, if_pos (by omega)]
    · rw [va_up_ne _ _ e, va_up_ne _ _ e])
theorem sh_id {z : RS} {L N9 : Nat → Nat} {I9 : Nat → Nat → Int64} {k : Nat} (h : rSh z L N9 I9) (hk : L k = 0) : rSh z (va_up L k 0) N9 I9 :=
  sh_of h (fun t _ => by
    by_cases e : t = k
    · subst e
      rw [va_up_self, hk]
    · rw [va_up_ne _ _ e]) (fun _ _ => rfl) (fun _ _ _ _ => rfl)
