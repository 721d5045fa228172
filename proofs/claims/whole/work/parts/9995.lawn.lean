/-! what both hold between the law's calls -/
theorem fx_of {z z9 : RS} {is ks : List Nat} (h : rFr is ks z z9) : rFx is ks [] z z9 := ⟨h.1, h.2.1, fun j _ => by rw [h.2.2]⟩
theorem fx_sc {z z9 : RS} {is ks js : List Nat} {S : Sc} (h : rSc z S) (hf : rFx is ks js z z9) (h0 : 0 ∉ is) (h1 : 1 ∉ is) (h4 : 4 ∉ is) (a2 : 2 ∉ ks) (a3 : 3 ∉ ks) (a5 : 5 ∉ ks) : rSc z9 S := by
  unfold rSc
  rw [hf.1 0 h0, hf.1 1 h1, hf.1 4 h4, hf.2.1 2 a2, hf.2.1 3 a3, hf.2.1 5 a5]
  exact h
theorem fx_pa {z z9 : RS} {is ks js : List Nat} {u : Nat} {P : Nat → Nat → Int32} (h : rPa z u P) (hf : rFx is ks js z z9) (h1 : 16 ∉ is) (h2 : 15 ∉ ks) : rPa z9 u P := ⟨(hf.1 16 h1).trans h.1, h.2.1, fun j hj k hk => by rw [hf.2.1 15 h2]; exact h.2.2 j hj k hk⟩
def iW (sc pa zr : RS) (S : Sc) (u x : Nat) (P : Nat → Nat → Int32) : Prop := vS S ∧ cSc sc S ∧ rSc zr S ∧ cPa pa u x P (S.1 1) ∧ rPa zr u P ∧ lP S u P
def iT (ta zr : RS) (n : Nat) (T : Nat → Nat) : Prop := cTp ta n T ∧ rTp zr n T
def iH (sh : Nat → RS) (zr : RS) (L N9 : Nat → Nat) (I9 : Nat → Nat → Int64) : Prop := (∀ t, t < 4 → cSt (sh t) (L t) (N9 t) (I9 t)) ∧ rSh zr L N9 I9
def iM (zt ks kp zr : RS) : Prop := ∃ (b9 : Nat) (zI : RS), b9 ≤ 1 ∧ zt.1 4 = nI b9 ∧ zr.1 25 = nI b9 ∧ rIm zr zI ∧ (¬ b9 = 0 → ∃ (S : Sc) (u x : Nat) (P : Nat → Nat → Int32), iW ks kp zI S u x P)
def iV (zt sc pa ks kp ta : RS) (sh : Nat → RS) (zr : RS) : Prop :=
  (∃ (S : Sc) (u x : Nat) (P : Nat → Nat → Int32), iW sc pa zr S u x P) ∧ (∃ (n : Nat) (T : Nat → Nat), iT ta zr n T) ∧ (∃ (L N9 : Nat → Nat) (I9 : Nat → Nat → Int64), iH sh zr L N9 I9) ∧ zr.1 6 = nI 0 ∧ (∃ U9, rLt zr U9) ∧ iM zt ks kp zr
theorem iT_fx {ta z z9 : RS} {is ks js : List Nat} {n : Nat} {T : Nat → Nat} (h : iT ta z n T) (hf : rFx is ks js z z9) (h1 : 8 ∉ is) (h2 : 7 ∉ ks) : iT ta z9 n T :=
  ⟨h.1, (hf.1 8 h1).trans h.2.1, h.2.2.1, fun j hj => by rw [hf.2.1 7 h2]; exact h.2.2.2.1 j hj, h.2.2.2.2⟩
theorem iH_fx {sh : Nat → RS} {z z9 : RS} {is ks js : List Nat} {L N9 : Nat → Nat} {I9 : Nat → Nat → Int64} (h : iH sh z L N9 I9) (hf : rFx is ks js z z9) (h1 : 26 ∉ ks) (h2 : 27 ∉ ks) (h3 : 28 ∉ js) : iH sh z9 L N9 I9 := by
  refine ⟨h.1, fun t ht => ?_⟩
  obtain ⟨a1, a2, a3, a4, a5⟩ := h.2 t ht
  exact ⟨by rw [hf.2.1 26 h1]; exact a1, by rw [hf.2.1 27 h2]; exact a2, a3, a4, fun i hi => by rw [hf.2.2 28 h3]; exact a5 i hi⟩
theorem iM_fx {zt ks kp z z9 : RS} {is js ls : List Nat} (h : iM zt ks kp z) (hf : rFx is js ls z z9) (h1 : 25 ∉ is) (h2 : 24 ∉ js) : iM zt ks kp z9 := by
  obtain ⟨b9, zI, g1, g2, g3, g4, g5⟩ := h
  refine ⟨b9, zI, g1, g2, (hf.1 25 h1).trans g3, ?_, g5⟩
  unfold rIm
  rw [hf.2.1 24 h2]
  exact g4
theorem iL_fx {z z9 : RS} {is ks js : List Nat} (h : ∃ U9, rLt z U9) (hf : rFx is ks js z z9) (h2 : 19 ∉ ks) : ∃ U9, rLt z9 U9 := by
  obtain ⟨U9, h3⟩ := h
  refine ⟨U9, ?_, h3.2⟩
  rw [hf.2.1 19 h2]
  exact h3.1
theorem lP_fig {S : Sc} {u : Nat} {P : Nat → Nat → Int32} (h : lP S u P) (k a p : Int32) : lP (nx_fig S k a p) (nu_fig S u k a p) P := by
  unfold nx_fig nu_fig
  split
  · exact lP_0 _ _
  · exact h
theorem n1_start (S : Sc) (v : Int32) : (nx_start S v).1 1 = S.1 1 := by
  unfold nx_start
  split
  · split
    · rfl
    · rfl
  · rfl
theorem rn_ex (t : Int32) : ∃ q : Nat, q < 4 ∧ (0 ≤ t.toInt ∧ t.toInt ≤ 3 → t = nI q) := by
  by_cases h : 0 ≤ t.toInt ∧ t.toInt ≤ 3
  · refine ⟨t.toInt.toNat, by omega, fun _ => ?_⟩
    refine Int32.toInt_inj.mp ?_
    rw [nI_toInt (by omega)]
    omega
  · exact ⟨0, by decide, fun h2 => absurd h2 h⟩
theorem rn_at {t : Int32} {q : Nat} (hq : q < 4) (h : t = nI q) : t.toInt.toNat = q := by
  rw [h, nI_toInt (by omega)]
  omega
theorem st_up {sh : Nat → RS} {z9 : RS} {tq9 : Nat} {L N9 La9 Na9 : Nat → Nat} {I9 Ia9 : Nat → Nat → Int64} (h : ∀ t, t < 4 → cSt (sh t) (L t) (N9 t) (I9 t)) (h1 : cSt z9 (La9 tq9) (Na9 tq9) (Ia9 tq9)) (ho : ∀ t, t ≠ tq9 → La9 t = L t ∧ Na9 t = N9 t ∧ Ia9 t = I9 t) : ∀ t, t < 4 → cSt (va_up sh tq9 z9 t) (La9 t) (Na9 t) (Ia9 t) := by
  intro t ht
  unfold va_up
  by_cases e9 : t = tq9
  · rw [if_pos e9, e9]
    exact h1
  · rw [if_neg e9]
    obtain ⟨o1, o2, o3⟩ := ho t e9
    rw [o1, o2, o3]
    exact h t ht
theorem vu_ne9 {α : Type} (f : Nat → α) (i j : Nat) (v : α) (h : j ≠ i) : va_up f i v j = f j := by
  unfold va_up
  rw [if_neg h]
theorem vu_me9 {α : Type} (f : Nat → α) (i : Nat) (v : α) : va_up f i v i = v := by
  unfold va_up
  rw [if_pos rfl]
theorem ot_item {L N9 : Nat → Nat} {I9 : Nat → Nat → Int64} {t la i : Int32} {v : Int64} {q t9 : Nat} (hq : q < 4) (hx : 0 ≤ t.toInt ∧ t.toInt ≤ 3 → t = nI q) (hn : t9 ≠ q) : ni_item L N9 I9 t la i v t9 = I9 t9 := by
  unfold ni_item
  split
  · rename_i h
    rw [rn_at hq (hx h.1.1)]
    exact vu_ne9 _ _ _ _ hn
  · rfl
theorem ot_film {S : Sc} {L N9 : Nat → Nat} {I9 : Nat → Nat → Int64} {n t la i : Int32} {q t9 : Nat} (hq : q < 4) (hx : 0 ≤ t.toInt ∧ t.toInt ≤ 3 → t = nI q) (hn : t9 ≠ q) : ni_film S L N9 I9 n t la i t9 = I9 t9 := by
  unfold ni_film
  split
  · rename_i h
    unfold pw_put
    rw [rn_at hq (hx h.1.2.1)]
    exact vu_ne9 _ _ _ _ hn
  · rfl
theorem ot_copy {L N9 : Nat → Nat} {I9 : Nat → Nat → Int64} {a i t j n : Int32} {q t9 : Nat} (hq : q < 4) (hx : 0 ≤ t.toInt ∧ t.toInt ≤ 3 → t = nI q) (hn : t9 ≠ q) : ni_copy L N9 I9 a i t j n t9 = I9 t9 := by
  unfold ni_copy
  split
  · rename_i h
    unfold pw_put
    rw [rn_at hq (hx h.1.2)]
    exact vu_ne9 _ _ _ _ hn
  · rfl
/-- the first state -/
theorem iV_0 (zt : RS) (hz : zt.1 4 = 0) : iV zt zN5 zN4 zN5 zN4 zN1 (fun _ => zN6) zN8 := by
  refine ⟨⟨sc_0, 0, 0, fun _ _ => 0, vS_0, cSc_0, rSc_0, cPa_0 _, rPa_0 _, lP_0 _ _⟩, ⟨0, fun _ => 0, cTp_0, rTp_0⟩, ⟨fun _ => 0, fun _ => 0, fun _ _ => 0, fun _ _ => cSt_0, rSh_0⟩, z8_0.1, ⟨fun _ => 0, rLt_0⟩, 0, (fun _ => 0, fun _ _ => 0, fun _ _ => 0), by decide, hz, z8_0.2, ⟨rfl, rfl, rfl, rfl, fun _ _ => rfl, fun _ _ => rfl, fun _ _ => rfl, fun _ _ => rfl⟩, fun h9 => absurd rfl h9⟩
