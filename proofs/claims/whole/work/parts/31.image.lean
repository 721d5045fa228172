/-! images -/
/-- the image row holds what zI held -/
def rIm (z zI : RS) : Prop := z.2.1 24 0 = zI.1 0 ∧ z.2.1 24 1 = zI.1 1 ∧ z.2.1 24 2 = zI.1 4 ∧ z.2.1 24 3 = zI.1 16 ∧ (∀ j, j < 40 → z.2.1 24 (4 + j) = zI.2.1 2 j) ∧ (∀ j, j < 15 → z.2.1 24 (44 + j) = zI.2.1 3 j) ∧ (∀ j, j < 13 → z.2.1 24 (59 + j) = zI.2.1 5 j) ∧ ∀ j, j < 104 → z.2.1 24 (72 + j) = zI.2.1 15 j
/-- z holds the scene and the past of zI -/
def rAs (z zI : RS) : Prop := z.1 0 = zI.1 0 ∧ z.1 1 = zI.1 1 ∧ z.1 4 = zI.1 4 ∧ z.1 16 = zI.1 16 ∧ (∀ j, j < 40 → z.2.1 2 j = zI.2.1 2 j) ∧ (∀ j, j < 15 → z.2.1 3 j = zI.2.1 3 j) ∧ (∀ j, j < 13 → z.2.1 5 j = zI.2.1 5 j) ∧ ∀ j, j < 104 → z.2.1 15 j = zI.2.1 15 j
theorem rSc_as {z zI : RS} {S : Sc} (h : rAs z zI) (hz : rSc zI S) : rSc z S := by
  obtain ⟨a0, a1, a2, a3, a4, a5, a6, a7⟩ := h
  obtain ⟨h0, h1, h2, h3, h4, h5, h6, h7, h8, h9, h10, h11⟩ := hz
  exact ⟨a0.trans h0, a1.trans h1, a2.trans h2, (a6 0 (by omega)).trans h3, (a6 1 (by omega)).trans h4, (a6 2 (by omega)).trans h5, fun q hq => (a4 q hq).trans (h6 q hq), fun f hf => (a5 _ (by omega)).trans (h7 f hf), fun f hf => (a5 _ (by omega)).trans (h8 f hf), fun f hf => (a5 _ (by omega)).trans (h9 f hf), fun f hf => (a6 _ (by omega)).trans (h10 f hf), fun f hf => (a6 _ (by omega)).trans (h11 f hf)⟩
theorem rPa_as {z zI : RS} {u : Nat} {P : Nat → Nat → Int32} (h : rAs z zI) (hz : rPa zI u P) : rPa z u P :=
  ⟨h.2.2.2.1.trans hz.1, hz.2.1, fun j hj k hk => (h.2.2.2.2.2.2.2 _ (by have := hz.2.1; omega)).trans (hz.2.2 j hj k hk)⟩
theorem im_all {z z39 za zb zd ze : RS} (e0 : z39.2.1 24 0 = z.1 0 ∧ z39.2.1 24 1 = z.1 1 ∧ z39.2.1 24 2 = z.1 4 ∧ z39.2.1 24 3 = z.1 16) (f39 : rFr [] [24] z z39) (ha : fl (za.2.1 24) (z39.2.1 2) (z39.2.1 24) 4 40) (fa : rFr [] [24] z39 za) (hb : fl (zb.2.1 24) (za.2.1 3) (za.2.1 24) 44 15) (fb : rFr [] [24] za zb) (hd : fl (zd.2.1 24) (zb.2.1 5) (zb.2.1 24) 59 13) (fd : rFr [] [24] zb zd) (he : fl (ze.2.1 24) (zd.2.1 15) (zd.2.1 24) 72 104) : rIm ze z := by
  have c (k : Nat) (hk : k < 4) : ze.2.1 24 k = z39.2.1 24 k := by
    rw [fl_out he (by omega), fl_out hd (by omega), fl_out hb (by omega), fl_out ha (by omega)]
  refine ⟨(c 0 (by omega)).trans e0.1, (c 1 (by omega)).trans e0.2.1, (c 2 (by omega)).trans e0.2.2.1, (c 3 (by omega)).trans e0.2.2.2, fun j hj => ?_, fun j hj => ?_, fun j hj => ?_, fun j hj => ?_⟩
  · rw [fl_out he (by omega), fl_out hd (by omega), fl_out hb (by omega), fl_in ha hj, f39.2.1 2 (by decide)]
  · rw [fl_out he (by omega), fl_out hd (by omega), fl_in hb hj, fa.2.1 3 (by decide), f39.2.1 3 (by decide)]
  · rw [fl_out he (by omega), fl_in hd hj, fb.2.1 5 (by decide), fa.2.1 5 (by decide), f39.2.1 5 (by decide)]
  · rw [fl_in he hj, fd.2.1 15 (by decide), fb.2.1 15 (by decide), fa.2.1 15 (by decide), f39.2.1 15 (by decide)]
