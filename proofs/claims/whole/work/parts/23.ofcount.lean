theorem rs_row {z : RS} {S : Sc} (h : rSc z S) (k j : Nat) (hk : k < 5) (hj : j < 3) : z.2.1 3 (3 * k + j) = nI (S.2.1 (j + 1) k) := by
  rcases (show j = 0 ∨ j = 1 ∨ j = 2 by omega) with rfl | rfl | rfl
  · exact rs_ki h k hk
  · exact rs_sr h k hk
  · exact rs_pa h k hk
def sp_of6 (S : Sc) (f : Nat) : Int32 := if f = 0 then iZ (-4) else (if S.1 4 = 0 then iZ (-4) else (if pc_dn S f = 0 then nI (S.2.1 5 f) else iZ (-4)))
def an_of (S : Sc) (f w : Int32) : Int32 := if (0 ≤ f.toInt ∧ f.toInt < S.1 1) ∧ 0 ≤ w.toInt ∧ w.toInt ≤ 6 then (if w.toInt = 3 then nI (S.2.1 4 f.toInt.toNat) else (if w.toInt = 4 then nI (sp_frc S f.toInt.toNat) else (if w.toInt = 5 then nI (sp_place S f.toInt.toNat) else (if w.toInt = 6 then sp_of6 S f.toInt.toNat else nI (S.2.1 (w.toInt.toNat + 1) f.toInt.toNat))))) else iZ (-1)
def an_cnt (S : Sc) (u : Nat) (w : Int32) : Int32 := if w.toInt = 0 then nI (S.1 0) else (if w.toInt = 1 then nI (S.1 1) else (if w.toInt = 2 then nI (S.1 3) else (if w.toInt = 3 then nI (pc_td S) else (if w.toInt = 4 then pc_sd (S.1 4) else (if w.toInt = 5 then nI u else (if w.toInt = 6 then nI (sp_dnL S (S.1 1)) else (if w.toInt = 7 then nI (sp_over S) else iZ (-1))))))))
