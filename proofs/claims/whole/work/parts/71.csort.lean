/-! a CELL's sort is changed: those from it on cost more -/
def csI (S : Sc) (z : RS) (k v i : Nat) (zz : RS) : Prop := zz.1 0 = nI (S.1 0) ∧ (∀ q, k ≤ q → q < i → q < S.1 0 → zz.2.1 2 q = nI (pc_cost (va_up (S.2.1 0) k v) q)) ∧ (∀ q, i ≤ q → q < S.1 0 → zz.2.1 2 q = nI (pc_cost (S.2.1 0) q)) ∧ (∀ q, q < k → q < S.1 0 → zz.2.1 2 q = nI (pc_cost (S.2.1 0) q)) ∧ zz.1 = z.1 ∧ zz.2.1 1 = upd (z.2.1 1) k (nI v) ∧ ∀ j, j ≠ 1 → j ≠ 2 → zz.2.1 j = z.2.1 j
theorem cs_I0 {S : Sc} {z : RS} {k : Nat} (h : cSn z S) (hk : k < S.1 0) (v : Nat) : csI S z k v k (sA z 1 k (nI v)) := by
  refine ⟨h.1, fun q h1 h2 => by omega, fun q _ h2 => cs_cs h q h2, fun q _ h2 => cs_cs h q h2, rfl, rfl, fun j h1 _ => va_up_ne _ _ h1⟩
theorem cs_Is {S : Sc} {z : RS} {k v i : Nat} {zz : RS} (h : csI S z k v i zz) (h1 : 1 ≤ k) (hi : k ≤ i) (hi2 : i < S.1 0) (h40 : S.1 0 ≤ 40) : csI S z k v (i + 1) (sA zz 2 i (iZ (((pc_cost (S.2.1 0) i : Nat) : Int) + (((v + 1 : Nat) : Int) - ((S.2.1 0 k + 1 : Nat) : Int))))) := by
  obtain ⟨a1, a2, a3, a4, a5, a6, a7⟩ := h
  have hc := cost_so (S.2.1 0) k v h1 i
  rw [if_pos hi, if_pos hi] at hc
  refine ⟨a1, fun q b1 b2 b3 => ?_, fun q b1 b2 => ?_, fun q b1 b2 => ?_, a5, a6, fun j b1 b2 => (va_up_ne _ _ b2).trans (a7 j b1 b2)⟩
  · show upd (zz.2.1 2) i _ q = _
    by_cases e : q = i
    · rw [e, pk_us, ← iZ_n]
      refine congrArg iZ ?_
      omega
    · rw [pk_un e]
      exact a2 q b1 (by omega) b3
  · show upd (zz.2.1 2) i _ q = _
    rw [pk_un (by omega)]
    exact a3 q (by omega) b2
  · show upd (zz.2.1 2) i _ q = _
    rw [pk_un (by omega)]
    exact a4 q b1 b2
theorem cost_lt (so : Nat → Nat) (k v : Nat) : ∀ c, c < k → pc_cost (va_up so k v) c = pc_cost so c := cost_up so k v
theorem cs_Ie {S : Sc} {z : RS} {k v i : Nat} {zz : RS} (hz : cSc z S) (h1 : 1 ≤ k) (hk : k < S.1 0) (h : csI S z k v i zz) (hi : S.1 0 ≤ i) : cSc zz (sR S 0 k v) := by
  obtain ⟨a1, a2, a3, a4, a5, a6, a7⟩ := h
  obtain ⟨⟨h0, g1, h2, h3, h4, h5, h6, h7, h8, h9, h10, h11⟩, h12⟩ := hz
  refine ⟨⟨a1, by rw [a5]; exact g1, by rw [a5]; exact h2, by rw [a5]; exact h3, by rw [a5]; exact h4, by rw [a5]; exact h5, ?_, fun q hq => ?_, ?_, ?_, ?_, ?_⟩, ?_⟩
  · rw [a6]
    exact up_row h6
  · have hq : q < S.1 0 := hq
    show _ = nI (pc_cost (va_up (S.2.1 0) k v) q)
    by_cases e : q < k
    · rw [cost_lt _ _ _ q e]
      exact a4 q e hq
    · exact a2 q (by omega) (by omega) hq
  · rw [a7 4 (by decide) (by decide)]; exact h8
  · rw [a7 5 (by decide) (by decide)]; exact h9
  · rw [a7 6 (by decide) (by decide)]; exact h10
  · rw [a7 7 (by decide) (by decide)]; exact h11
  · rw [a7 11 (by decide) (by decide)]; exact h12
