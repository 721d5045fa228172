/-! the cells of each object of the class: itself, then its rows -/
abbrev w0 (G : CG) (a : Nat → Nat) (z : RS) : va_W := [(a 0, .inr (0, [.int (z.1 0), .ref (a 2), .ref (a 3), .ref (a 4), .ref (a 5), .ref (a 6), .ref (a 7), .ref (a 8), .ref (a 9), .ref (a 10), .ref (a 11), .ref (a 12)])), (a 2, .inl (G.2.1, 4, .inl (z.2.1 1))), (a 3, .inl (G.2.1, 5, .inl (z.2.1 2))), (a 4, .inl (G.2.1, 4, .inl (z.2.1 3))), (a 5, .inl (G.2.1, 5, .inl (z.2.1 4))), (a 6, .inl (G.2.1, 4, .inl (z.2.1 5))), (a 7, .inl (G.2.1, 24, .inl (z.2.1 6))), (a 8, .inl (G.2.1, 24, .inl (z.2.1 7))), (a 9, .inl (G.2.1, 6, .inl (z.2.1 8))), (a 10, .inl (G.2.1, 175, .inl (z.2.1 9))), (a 11, .inl (G.2.1, 128, .inl (z.2.1 10))), (a 12, .inl (G.2.1, 128, .inl (z.2.1 11)))]
theorem gX0 : ∀ w ∈ u_ws RX0 TX0 12, w ∈ gT := by
  intro w hw
  have h1 : (u_ws RX0 TX0 12).all (fun w => decide (w ∈ tables_1) && goodWord w) = true := by decide +kernel
  have h2 := List.all_eq_true.mp h1 w hw
  simp only [Bool.and_eq_true, decide_eq_true_eq] at h2
  exact List.mem_filter.mpr ⟨List.mem_append_right _ h2.1, h2.2⟩
abbrev w1 (G : CG) (a : Nat → Nat) (r : Nat → Nat) (z : RS) : va_W := [(a 0, .inr (1, [.ref (a 1), .int (z.1 1), .int (z.1 2), .ref (r 3)])), (a 1, .inl (G.2.1, 100, .inl (z.2.1 0)))]
theorem gX1 : ∀ w ∈ u_ws RX1 TX1 4, w ∈ gT := by
  intro w hw
  have h1 : (u_ws RX1 TX1 4).all (fun w => decide (w ∈ tables_1) && goodWord w) = true := by decide +kernel
  have h2 := List.all_eq_true.mp h1 w hw
  simp only [Bool.and_eq_true, decide_eq_true_eq] at h2
  exact List.mem_filter.mpr ⟨List.mem_append_right _ h2.1, h2.2⟩
abbrev w2 (G : CG) (a : Nat → Nat) (r : Nat → Nat) (z : RS) : va_W := [(a 0, .inr (2, [.ref (r 0), .ref (r 1), .ref (a 3)])), (a 3, .inl (G.2.1, 61, .inl (z.2.1 2)))]
theorem gX2 : ∀ w ∈ u_ws RX2 TX2 3, w ∈ gT := by
  intro w hw
  have h1 : (u_ws RX2 TX2 3).all (fun w => decide (w ∈ tables_1) && goodWord w) = true := by decide +kernel
  have h2 := List.all_eq_true.mp h1 w hw
  simp only [Bool.and_eq_true, decide_eq_true_eq] at h2
  exact List.mem_filter.mpr ⟨List.mem_append_right _ h2.1, h2.2⟩
abbrev w4 (G : CG) (a : Nat → Nat) (z : RS) : va_W := [(a 0, .inr (3, [.int (z.1 0), .int (z.1 1), .ref (a 3), .ref (a 4), .ref (a 5), .ref (a 6)])), (a 3, .inl (G.2.1, 40, .inl (z.2.1 2))), (a 4, .inl (G.2.1, 8, .inl (z.2.1 3))), (a 5, .inl (G.2.1, 8, .inl (z.2.1 4))), (a 6, .inl (G.2.1, 8, .inl (z.2.1 5)))]
theorem gX4 : ∀ w ∈ u_ws RX4 TX4 6, w ∈ gT := by
  intro w hw
  have h1 : (u_ws RX4 TX4 6).all (fun w => decide (w ∈ tables_1) && goodWord w) = true := by decide +kernel
  have h2 := List.all_eq_true.mp h1 w hw
  simp only [Bool.and_eq_true, decide_eq_true_eq] at h2
  exact List.mem_filter.mpr ⟨List.mem_append_right _ h2.1, h2.2⟩
abbrev w5 (G : CG) (a : Nat → Nat) (z : RS) : va_W := [(a 0, .inr (4, [.int (z.1 0), .ref (a 2), .ref (a 3), .int (z.1 3), .ref (a 5), .ref (a 6), .ref (a 7), .ref (a 8), .int (z.1 8), .int (z.1 9), .int (z.1 10), .ref (a 12), .int (z.1 12)])), (a 2, .inl (G.2.1, 40, .inl (z.2.1 1))), (a 3, .inl (G.2.1, 40, .inl (z.2.1 2))), (a 5, .inl (G.2.1, 5, .inl (z.2.1 4))), (a 6, .inl (G.2.1, 5, .inl (z.2.1 5))), (a 7, .inl (G.2.1, 5, .inl (z.2.1 6))), (a 8, .inl (G.2.1, 5, .inl (z.2.1 7))), (a 12, .inl (G.2.1, 5, .inl (z.2.1 11)))]
theorem gX5 : ∀ w ∈ u_ws RX5 TX5 13, w ∈ gT := by
  intro w hw
  have h1 : (u_ws RX5 TX5 13).all (fun w => decide (w ∈ tables_1) && goodWord w) = true := by decide +kernel
  have h2 := List.all_eq_true.mp h1 w hw
  simp only [Bool.and_eq_true, decide_eq_true_eq] at h2
  exact List.mem_filter.mpr ⟨List.mem_append_right _ h2.1, h2.2⟩
abbrev w6 (G : CG) (a : Nat → Nat) (z : RS) : va_W := [(a 0, .inr (5, [.int (z.1 0), .int (z.1 1), .ref (a 3)])), (a 3, .inl (G.2.2.1, 24, .inr (.inl (z.2.2 2))))]
theorem gX6 : ∀ w ∈ u_ws RX6 TX6 3, w ∈ gT := by
  intro w hw
  have h1 : (u_ws RX6 TX6 3).all (fun w => decide (w ∈ tables_1) && goodWord w) = true := by decide +kernel
  have h2 := List.all_eq_true.mp h1 w hw
  simp only [Bool.and_eq_true, decide_eq_true_eq] at h2
  exact List.mem_filter.mpr ⟨List.mem_append_right _ h2.1, h2.2⟩
abbrev w7 (G : CG) (a : Nat → Nat) (r : Nat → Nat) (z : RS) : va_W := [(a 0, .inr (6, [.ref (r 0), .ref (r 1), .ref (r 2), .ref (r 3), .int (z.1 4), .ref (r 5), .ref (r 6), .ref (a 8)])), (a 8, .inl (G.2.2.2, 4, .inr (.inr (.inr (.inr (fun j => some (r (10 + j))))))))]
theorem gX7 : ∀ w ∈ u_ws RX7 TX7 8, w ∈ gT := by
  intro w hw
  have h1 : (u_ws RX7 TX7 8).all (fun w => decide (w ∈ tables_1) && goodWord w) = true := by decide +kernel
  have h2 := List.all_eq_true.mp h1 w hw
  simp only [Bool.and_eq_true, decide_eq_true_eq] at h2
  exact List.mem_filter.mpr ⟨List.mem_append_right _ h2.1, h2.2⟩
