/-! bounds of keys and waits; the fights of a MOMENT in the cells -/
theorem oK_b {ro wa : Nat → Nat} {i : Nat} (hi : i ≤ 3) (h : ∀ k, k < i → 1 ≤ ro k ∧ ro k ≤ 4 ∧ (if k = 0 then 0 else wa k - wa (k - 1)) ≤ 31) : oK ro wa i < 2097152 := Nat.lt_of_lt_of_le (oK_lt i h) (Nat.le_trans (Nat.pow_le_pow_right (by decide) hi) (by decide))
theorem oK_b4 {ro wa : Nat → Nat} {i : Nat} (hi : i ≤ 4) (h : ∀ k, k < i → 1 ≤ ro k ∧ ro k ≤ 4 ∧ (if k = 0 then 0 else wa k - wa (k - 1)) ≤ 31) : oK ro wa i < 268435456 := Nat.lt_of_lt_of_le (oK_lt i h) (Nat.le_trans (Nat.pow_le_pow_right (by decide) hi) (by decide))
theorem cw_le (cf : Nat → Nat) (b9 : Nat) : ∀ j, cwW cf b9 j ≤ 31 * j
  | 0 => Nat.le_refl _
  | j + 1 => by
    have h := cw_le cf b9 j
    show cwW cf b9 j + min 31 _ ≤ _
    omega
theorem cw_m (cf : Nat → Nat) (b9 j : Nat) : cwW cf b9 j ≤ cwW cf b9 (j + 1) ∧ cwW cf b9 (j + 1) - cwW cf b9 j ≤ 31 := by
  show cwW cf b9 j ≤ cwW cf b9 j + min 31 (cwt cf b9 (j + 1) - cwt cf b9 j) ∧ cwW cf b9 j + min 31 (cwt cf b9 (j + 1) - cwt cf b9 j) - cwW cf b9 j ≤ 31
  omega
theorem nI_inj {a b : Nat} (ha : a < 2147483648) (hb : b < 2147483648) (h : nI a = nI b) : a = b := (nI_eq ha hb).mp h
theorem nI_m1 {a : Nat} (ha : a < 2147483648) (h : nI a = iZ (-1)) : False := by
  have := congrArg Int32.toInt h
  rw [nI_toInt ha, iZ_toInt (by decide) (by decide)] at this
  omega
section FmP
variable {S : Sc} {ro wa : Nat → Nat} {na fi m : Nat} {z zz : RS}
theorem fm_T {j b : Nat} (hj : j < na) (h1 : oB S ro j ≤ b) (h2 : b < oB S ro (j + 1)) : oT S ro na b = j := oT_eq hj h1 h2
/-- into the j-th's BLOWS -/
theorem fm_b0 {j le : Nat} (hj : j < na) (hfi : fi ≤ 5) (hle : le = max (oB S ro j) (m - oI S ro wa (j + 1) - (5 - fi))) (hd : mD S ro na wa fi m (oB S ro j) 0 zz) : mD S ro na wa fi m (min le (oB S ro (j + 1))) 0 zz := by
  have hs := oB_s (S := S) (ro := ro) j
  refine mD_skip hd (by omega) (fun k c hc g1 g2 => ?_)
  have hT : oT S ro na c = j := oT_eq hj (by omega) (by omega)
  obtain ⟨r1, r2, r3, r4, r5⟩ := hc
  rw [hT] at r4
  omega
theorem fm_be {j b mo : Nat} (hj : j < na) (hmo : mo = min (oB S ro (j + 1) - 1) m) (hb : mo < b) (h1 : 1 ≤ oB S ro (j + 1)) (hd : mD S ro na wa fi m (min b (oB S ro (j + 1))) 0 zz) : mD S ro na wa fi m (oB S ro (j + 1)) 0 zz := by
  refine mD_skip hd (by omega) (fun k c hc g1 g2 => ?_)
  obtain ⟨r1, r2, r3, r4, r5⟩ := hc
  omega
theorem fm_h0 {j b lh : Nat} (hj : j < na) (h1 : oB S ro j ≤ b) (h2 : b < oB S ro (j + 1)) (hlh : lh = max fi (fi + m - oI S ro wa (j + 1) - b)) (hd : mD S ro na wa fi m b 0 zz) : mD S ro na wa fi m b lh zz := by
  refine mD_skip hd (by omega) (fun k c hc g1 g2 => ?_)
  have hT : oT S ro na c = j := oT_eq hj (by omega) (by omega)
  obtain ⟨r1, r2, r3, r4, r5⟩ := hc
  rw [hT] at r4
  omega
theorem fm_he {b hh la : Nat} (hla : la = min 5 (fi + m - b)) (hl : la < hh) (hd : mD S ro na wa fi m b hh zz) : mD S ro na wa fi m (b + 1) 0 zz := by
  refine mD_skip hd (by omega) (fun k c hc g1 g2 => ?_)
  obtain ⟨r1, r2, r3, r4, r5⟩ := hc
  omega
theorem fm_R {j b hh : Nat} (hj : j < na) (h1 : oB S ro j ≤ b) (h2 : b < oB S ro (j + 1)) (h3 : fi ≤ hh) (h4 : fi + m - oI S ro wa (j + 1) - b ≤ hh) (h5 : hh ≤ 5) (h6 : hh + b ≤ fi + m) : mR S ro na wa fi m hh b := by
  have hT : oT S ro na b = j := oT_eq hj h1 h2
  have := oB_mono (S := S) (ro := ro) (show j + 1 ≤ na by omega)
  exact ⟨h3, by omega, by omega, by rw [hT]; omega, h6⟩
/-- the first table: into the BLOWS of the j-th from behind -/
theorem bd_h {b k9 lh : Nat} (hlh : lh = max fi (fi + wa (na - 1) - oI S ro wa (oT S ro na b + 1) - b)) (hk : k9 ≤ lh) (hd : bD S ro na wa fi b k9 zz) : bD S ro na wa fi b 0 zz := by
  refine bD_skip hd (fun k c c1 c2 c3 c4 g1 g2 => ?_)
  have : c = b := by omega
  subst this
  omega
theorem bd_b {b : Nat} (hd : bD S ro na wa fi (b + 1) 0 zz) : bD S ro na wa fi b 6 zz := bD_skip hd (fun k c c1 c2 c3 c4 g1 g2 => by omega)
theorem bd_0 (hE : mE S ro na fi zz) : bD S ro na wa fi (oB S ro na) 0 zz := ⟨hE, fun k c c1 c2 c3 c4 g1 => by omega⟩
end FmP
theorem tf_e {S : Sc} {ro : Nat → Nat} {na i : Nat} {z zz : RS} (hi : i = na) (h : tfI S ro na z i (oB S ro i) zz) : tfI S ro na z (na + 1) (oB S ro na) (sA zz 4 na (nI (oB S ro i))) := by
  subst hi
  exact tf_b h rfl
theorem ct_x {wa : Nat → Nat} {ma i na : Nat} (h1 : i ≤ na) (h2 : ∀ j, j < i → wa j ≤ ma) (hm : ∀ i j, i < j → j < na → wa i ≤ wa j) (h3 : i = na ∨ ma < wa i) : i = cntL wa ma na := by
  refine ((cnt_of (t := i) na (fun k hk => ⟨fun g1 => ?_, fun g1 => h2 k g1⟩)).trans (by omega)).symm
  rcases Nat.lt_or_ge k i with v9 | v9
  · exact v9
  · rcases Nat.lt_or_ge i k with u9 | u9
    · have := hm i k u9 hk
      omega
    · have e9 : k = i := by omega
      rw [e9] at g1
      omega
