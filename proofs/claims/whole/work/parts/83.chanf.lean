/-! CHANCE out of what is known, or reckoned anew -/
theorem cf_A {z : RS} {na p9 : Nat} {ro wa : Nat → Nat} (hA : chA z na ro wa) (hK : ∀ k, k < na → 1 ≤ ro k ∧ ro k ≤ 4 ∧ (if k = 0 then 0 else wa k - wa (k - 1)) ≤ 31) (h0 : wa 0 = 0) (hm : ∀ j, j + 1 < na → wa j ≤ wa (j + 1)) (v : Int32) : chA (sA z 10 p9 v) na (dO (oK ro wa na) na) (dW (oK ro wa na) na) :=
  ⟨hA.1, fun j hj => (hA.2.1 j hj).trans (congrArg nI (dO_ok hK hj).symm), fun j hj => (hA.2.2 j hj).trans (congrArg nI (dW_ok hK h0 hm j hj).symm)⟩
theorem cf_V {S9 S : Sc} {cf ro wa : Nat → Nat} {na ma9 : Nat} (ho : oSc S) (hO : oOrd S cf (S.1 1 - 1) na ro) (hn1 : 1 ≤ na) (hwa : wa = cwW (fun j => cf (ro j)) (max ma9 (cf (ro 0) - 1))) (hK : ∀ k, k < na → 1 ≤ ro k ∧ ro k ≤ 4 ∧ (if k = 0 then 0 else wa k - wa (k - 1)) ≤ 31) (h0 : wa 0 = 0) (hm : ∀ j, j + 1 < na → wa j ≤ wa (j + 1)) (he : eqv S9 S) (hc : ∀ f, 1 ≤ f → f < S.1 1 → pc_dn S f = 0 → S9.2.1 5 f = cf f) (h3 : S9.1 3 = ma9) : cvK S na (oK ro wa na) = sp_c S9 := by
  rw [c_cv he ho hc hO hn1 (b9 := max ma9 (cf (ro 0) - 1)) (by rw [h3]), ← hwa]
  exact cv_cg rfl rfl rfl (fun j hj => dO_ok hK hj) (fun j hj => dW_ok hK h0 hm j hj) hn1
theorem cf_K {ro cf : Nat → Nat} {wa : Nat → Nat} {na b9 : Nat} (hwa : wa = cwW (fun j => cf (ro j)) b9) (hr : ∀ j, j < na → 1 ≤ ro j ∧ ro j < 5) : (∀ k, k < na → 1 ≤ ro k ∧ ro k ≤ 4 ∧ (if k = 0 then 0 else wa k - wa (k - 1)) ≤ 31) ∧ wa 0 = 0 ∧ (∀ j, j + 1 < na → wa j ≤ wa (j + 1)) ∧ ∀ j, j < na → wa j ≤ 31 * j := by
  subst hwa
  refine ⟨fun k hk => ?_, rfl, fun j _ => (cw_m _ _ j).1, fun j _ => cw_le _ _ j⟩
  have h1 := hr k hk
  refine ⟨h1.1, by omega, ?_⟩
  cases k with
  | zero => rw [if_pos rfl]; omega
  | succ k =>
    rw [if_neg (by omega)]
    exact (cw_m _ _ k).2
theorem dW_le {K9 n : Nat} (j : Nat) : dW K9 n j ≤ dW K9 n (j + 1) := Nat.le_add_right _ _
theorem cf_M {S : Sc} {z : RS} {p9 K9 na : Nat} (h : chM S z) (hp : p9 < 128) (hK : K9 < 2147483648) (hn : na = sp_ou S (S.1 1 - 1)) (he : z.2.1 10 p9 = nI K9) : z.2.1 11 p9 = nI (cvK S na K9) := by
  rcases h p9 hp with g1 | ⟨J9, g1, g2, g3⟩
  · exact (nI_m1 hK (he.symm.trans g1)).elim
  · have := nI_inj hK g1 (he.symm.trans g2)
    rw [this, g3, hn]
theorem cf_0 {S : Sc} {cf ro : Nat → Nat} {k na : Nat} (h0 : na = 0) (h : oOrd S cf k na ro) : oOrd S cf k 0 ro := by
  subst h0
  exact h
