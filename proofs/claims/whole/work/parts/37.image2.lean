theorem as_all {z zI z47 za zb zd ze : RS} (him : rIm z zI) (e0 : z47.1 0 = z.2.1 24 0 ∧ z47.1 1 = z.2.1 24 1 ∧ z47.1 4 = z.2.1 24 2 ∧ z47.1 16 = z.2.1 24 3) (e1 : z47.2.1 24 = z.2.1 24) (ha : fl (za.2.1 2) (fun q => z47.2.1 24 (4 + q)) (z47.2.1 2) 0 40) (fa : rFr [] [2] z47 za) (hb : fl (zb.2.1 3) (fun q => za.2.1 24 (44 + q)) (za.2.1 3) 0 15) (fb : rFr [] [3] za zb) (hd : fl (zd.2.1 5) (fun q => zb.2.1 24 (59 + q)) (zb.2.1 5) 0 13) (fd : rFr [] [5] zb zd) (he : fl (ze.2.1 15) (fun q => zd.2.1 24 (72 + q)) (zd.2.1 15) 0 104) (fe : rFr [] [15] zd ze) : rAs ze zI := by
  obtain ⟨i0, i1, i2, i3, i4, i5, i6, i7⟩ := him
  have s (k : Nat) : ze.1 k = z47.1 k := by
    rw [fe.1 k (by simp), fd.1 k (by simp), fb.1 k (by simp), fa.1 k (by simp)]
  refine ⟨(s 0).trans (e0.1.trans i0), (s 1).trans (e0.2.1.trans i1), (s 4).trans (e0.2.2.1.trans i2), (s 16).trans (e0.2.2.2.trans i3), fun j hj => ?_, fun j hj => ?_, fun j hj => ?_, fun j hj => ?_⟩
  · rw [fe.2.1 2 (by decide), fd.2.1 2 (by decide), fb.2.1 2 (by decide), fl_in0 ha hj]
    show z47.2.1 24 (4 + j) = _
    rw [e1]
    exact i4 j hj
  · rw [fe.2.1 3 (by decide), fd.2.1 3 (by decide), fl_in0 hb hj]
    show za.2.1 24 (44 + j) = _
    rw [fa.2.1 24 (by decide), e1]
    exact i5 j hj
  · rw [fe.2.1 5 (by decide), fl_in0 hd hj]
    show zb.2.1 24 (59 + j) = _
    rw [fb.2.1 24 (by decide), fa.2.1 24 (by decide), e1]
    exact i6 j hj
  · rw [fl_in0 he hj]
    show zd.2.1 24 (72 + j) = _
    rw [fd.2.1 24 (by decide), fb.2.1 24 (by decide), fa.2.1 24 (by decide), e1]
    exact i7 j hj
