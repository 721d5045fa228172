theorem of_k {S : Sc} {fa9 wa9 : Int32} {k j : Nat} (hk : (k : Int) = fa9.toInt) (h1 : k < S.1 1) (hw : wa9.toInt = (j : Int)) (hj : j ≤ 2) : nI (S.2.1 (j + 1) k) = an_of S fa9 wa9 := by
  unfold an_of
  rw [if_pos (by omega), if_neg (by omega), if_neg (by omega), if_neg (by omega), if_neg (by omega), show fa9.toInt.toNat = k by omega, show wa9.toInt.toNat = j by omega]
theorem pa_no {z : RS} {u x : Nat} {P : Nat → Nat → Int32} {nf nf9 : Nat} (h : cPa z u x P nf) (h5 : nf9 ≤ 5) : cPa (sI z 0 (nI 0)) 0 x P nf9 := ⟨rfl, by omega, h.2.2.1, h.2.2.2.1, h5, fun j hj => absurd hj (Nat.not_lt_zero _)⟩
abbrev wFo (G : CG) (ad : Nat → Nat → Nat) (z : RS) : va_W := [(ad 6 0, .inr (2, [.ref (ad 8 0), .ref (ad 9 0), .ref (ad 6 3)])), (ad 6 3, .inl (G.2.1, 61, .inl (z.2.1 2)))]
abbrev wTa (G : CG) (ad : Nat → Nat → Nat) (z : RS) : va_W := [(ad 5 0, .inr (1, [.ref (ad 5 1), .int (z.1 1), .int (z.1 2), .ref (ad 7 0)])), (ad 5 1, .inl (G.2.1, 100, .inl (z.2.1 0)))]
