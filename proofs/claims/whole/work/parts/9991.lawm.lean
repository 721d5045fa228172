/-! the first state -/
def sc_0 : Sc := (fun k => if k = 0 then 1 else 0, fun _ _ => 0, nI 1)
theorem z0_0 : (0 : Int32) = nI 0 := by decide
theorem cSc_0 : cSc zN5 sc_0 := by
  refine ⟨⟨rfl, z0_0, z0_0, z0_0, (show iZ (-4) = pc_sd 0 from by decide), rfl, fun c _ => z0_0, fun c hc => ?_, fun f hf => absurd hf (Nat.not_lt_zero _), fun f hf => absurd hf (Nat.not_lt_zero _), fun f hf => absurd hf (Nat.not_lt_zero _), fun f hf => absurd hf (Nat.not_lt_zero _)⟩, fun w9 => absurd rfl w9⟩
  have hc : c < 1 := hc
  rw [show c = 0 by omega]
  exact z0_0
theorem rSc_0 : rSc zN8 sc_0 := by
  refine ⟨rfl, z0_0, z0_0, ?_, (show iZ (-4) = pc_sd 0 from by decide), rfl, fun c _ => z0_0, fun f _ => z0_0, fun f _ => z0_0, fun f _ => z0_0, fun f hf => ?_, fun f hf => ?_⟩
  · exact z0_0
  · show (upd (upd (fun _ => 0) 1 (iZ (-4))) 2 (nI 1)) (3 + f) = nI 0
    unfold upd
    rw [if_neg (by omega), if_neg (by omega)]
    exact z0_0
  · show (upd (upd (fun _ => 0) 1 (iZ (-4))) 2 (nI 1)) (8 + f) = nI 0
    unfold upd
    rw [if_neg (by omega), if_neg (by omega)]
    exact z0_0
theorem vS_0 : vS sc_0 := ⟨⟨Nat.le_refl _, (show 1 ≤ 40 by decide), Nat.zero_le _, Nat.zero_le _, Nat.zero_le _, Nat.zero_le _, fun _ => Nat.zero_le _, fun _ => Nat.zero_le _, fun _ => Nat.zero_le _, fun _ => Nat.zero_le _, fun _ => Nat.zero_le _, fun _ => Nat.zero_le _⟩, Nat.zero_le _, fun w9 => absurd rfl w9, fun _ => Nat.zero_le _⟩
theorem cPa_0 (P : Nat → Nat → Int32) : cPa zN4 0 0 P 0 := ⟨z0_0, by decide, z0_0, by decide, by decide, fun j hj => absurd hj (Nat.not_lt_zero _)⟩
theorem rPa_0 (P : Nat → Nat → Int32) : rPa zN8 0 P := ⟨z0_0, by decide, fun j hj => absurd hj (Nat.not_lt_zero _)⟩
theorem cTp_0 : cTp zN1 0 (fun _ => 0) := ⟨z0_0, by decide, fun j hj => absurd hj (Nat.not_lt_zero _), fun _ => Nat.zero_le _⟩
theorem rTp_0 : rTp zN8 0 (fun _ => 0) := ⟨z0_0, by decide, fun j _ => z0_0, fun _ => Nat.zero_le _⟩
theorem cSt_0 : cSt zN6 0 0 (fun _ => 0) := ⟨(show iZ (-1) = iZ (((0 : Nat) : Int) - 1) from rfl), z0_0, by decide, by decide, fun _ _ => rfl⟩
theorem rSh_0 : rSh zN8 (fun _ => 0) (fun _ => 0) (fun _ _ => 0) := by
  intro t ht
  refine ⟨?_, z0_0, Nat.zero_le _, Nat.zero_le _, fun _ _ => rfl⟩
  rcases (show t = 0 ∨ t = 1 ∨ t = 2 ∨ t = 3 by omega) with rfl | rfl | rfl | rfl <;> rfl
theorem rLt_0 : rLt zN8 (fun _ => 0) := ⟨fun j _ => z0_0, fun _ => Nat.zero_le _⟩
theorem z8_0 : zN8.1 6 = nI 0 ∧ zN8.1 25 = nI 0 := ⟨z0_0, z0_0⟩
/-- what the reference's frames leave as it was -/
theorem fr_tp {z z9 : RS} {is ks : List Nat} {n : Nat} {T : Nat → Nat} (h : rTp z n T) (hf : rFr is ks z z9) (h1 : 8 ∉ is) (h2 : 7 ∉ ks) : rTp z9 n T := ⟨(hf.1 8 h1).trans h.1, h.2.1, fun j hj => by rw [hf.2.1 7 h2]; exact h.2.2.1 j hj, h.2.2.2⟩
theorem fr_sh {z z9 : RS} {is ks : List Nat} {L N9 : Nat → Nat} {I9 : Nat → Nat → Int64} (h : rSh z L N9 I9) (hf : rFr is ks z z9) (h1 : 26 ∉ ks) (h2 : 27 ∉ ks) : rSh z9 L N9 I9 := by
  intro t ht
  obtain ⟨a1, a2, a3, a4, a5⟩ := h t ht
  refine ⟨by rw [hf.2.1 26 h1]; exact a1, by rw [hf.2.1 27 h2]; exact a2, a3, a4, fun i hi => by rw [hf.2.2]; exact a5 i hi⟩
theorem fr_pa {z z9 : RS} {is ks : List Nat} {u : Nat} {P : Nat → Nat → Int32} (h : rPa z u P) (hf : rFr is ks z z9) (h1 : 16 ∉ is) (h2 : 15 ∉ ks) : rPa z9 u P := ⟨(hf.1 16 h1).trans h.1, h.2.1, fun j hj k hk => by rw [hf.2.1 15 h2]; exact h.2.2 j hj k hk⟩
theorem fr_im {z z9 zI : RS} {is ks : List Nat} (h : rIm z zI) (hf : rFr is ks z z9) (h2 : 24 ∉ ks) : rIm z9 zI := by
  unfold rIm
  rw [hf.2.1 24 h2]
  exact h
theorem fr_lt {z z9 : RS} {is ks : List Nat} (h : ∃ U9, rLt z U9) (hf : rFr is ks z z9) (h2 : 19 ∉ ks) : ∃ U9, rLt z9 U9 := by
  obtain ⟨U9, h3⟩ := h
  refine ⟨U9, ?_, h3.2⟩
  rw [hf.2.1 19 h2]
  exact h3.1
