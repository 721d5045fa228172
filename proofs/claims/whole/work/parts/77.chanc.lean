/-! the cells of the chances: the row, the waits, the BLOWS, the table, what is known -/
def chA (z : RS) (na : Nat) (ro wa : Nat → Nat) : Prop := z.1 0 = nI na ∧ (∀ j, j < na → z.2.1 1 j = nI (ro j)) ∧ ∀ j, j < na → z.2.1 3 j = nI (wa j)
def chF (z : RS) (S : Sc) (ro : Nat → Nat) (na : Nat) : Prop := (∀ i, i ≤ na → z.2.1 4 i = nI (oB S ro i)) ∧ (∀ b, b < oB S ro na → z.2.1 6 b = nI (oT S ro na b) ∧ z.2.1 7 b = nI (oF S ro na b)) ∧ ∀ k, S.2.1 4 0 ≤ k → k < 6 → z.2.1 8 k = nI (pc_force (S.2.1 1 0) (S.2.1 2 0) k)
def chI (z : RS) (S : Sc) (ro wa : Nat → Nat) (na : Nat) : Prop := ∀ j, j < na → z.2.1 5 j = nI (oI S ro wa (j + 1))
section ChC
variable {z z9 zz : RS} {S : Sc} {na : Nat} {ro wa : Nat → Nat} {is ks : List Nat}
theorem chA_fr (h : chA z na ro wa) (f9 : rFr is ks z z9) (h0 : 0 ∉ is) (h1 : 1 ∉ ks) (h3 : 3 ∉ ks) : chA z9 na ro wa :=
  ⟨(f9.1 0 h0).trans h.1, fun j hj => (congrFun (f9.2.1 1 h1) j).trans (h.2.1 j hj), fun j hj => (congrFun (f9.2.1 3 h3) j).trans (h.2.2 j hj)⟩
theorem chF_fr (h : chF z S ro na) (f9 : rFr is ks z z9) (h4 : 4 ∉ ks) (h6 : 6 ∉ ks) (h7 : 7 ∉ ks) (h8 : 8 ∉ ks) : chF z9 S ro na :=
  ⟨fun i hi => (congrFun (f9.2.1 4 h4) i).trans (h.1 i hi), fun b hb => ⟨(congrFun (f9.2.1 6 h6) b).trans (h.2.1 b hb).1, (congrFun (f9.2.1 7 h7) b).trans (h.2.1 b hb).2⟩, fun k k1 k2 => (congrFun (f9.2.1 8 h8) k).trans (h.2.2 k k1 k2)⟩
theorem chI_fr (h : chI z S ro wa na) (f9 : rFr is ks z z9) (h5 : 5 ∉ ks) : chI z9 S ro wa na := fun j hj => (congrFun (f9.2.1 5 h5) j).trans (h j hj)
/-- filling the BLOWS -/
def tfI (S : Sc) (ro : Nat → Nat) (na : Nat) (z : RS) (jb b0 : Nat) (zz : RS) : Prop := rFr [] [4, 6, 7, 8] z zz ∧ (∀ i, i < jb → zz.2.1 4 i = nI (oB S ro i)) ∧ ∀ b, b < b0 → zz.2.1 6 b = nI (oT S ro na b) ∧ zz.2.1 7 b = nI (oF S ro na b)
theorem tf_0 (z : RS) : tfI S ro na z 0 0 z := ⟨rFr_rf _ _ _, fun i hi => by omega, fun b hb => by omega⟩
theorem tf_b {jb b0 v : Nat} (h : tfI S ro na z jb b0 zz) (hv : v = oB S ro jb) : tfI S ro na z (jb + 1) b0 (sA zz 4 jb (nI v)) := by
  subst hv
  refine ⟨rFr_tr h.1 (rFr_A _ (by decide)), fun i hi => ?_, h.2.2⟩
  show upd (zz.2.1 4) jb (nI (oB S ro jb)) i = _
  by_cases e9 : i = jb
  · rw [e9, pk_us]
  · rw [pk_un e9]
    exact h.2.1 i (by omega)
theorem tf_s {i d : Nat} (hi : i < na) (hd : S.2.1 4 (ro i) + d < 6) (h : tfI S ro na z (i + 1) (oB S ro i + d) zz) : tfI S ro na z (i + 1) (oB S ro i + (d + 1)) (sA (sA zz 6 (oB S ro i + d) (nI i)) 7 (oB S ro i + d) (nI (pc_force (S.2.1 1 (ro i)) (S.2.1 2 (ro i)) (S.2.1 4 (ro i) + d)))) := by
  have e : oB S ro (i + 1) = oB S ro i + (6 - S.2.1 4 (ro i)) := rfl
  have hT : oT S ro na (oB S ro i + d) = i := oT_eq hi (by omega) (by omega)
  have hF : oF S ro na (oB S ro i + d) = pc_force (S.2.1 1 (ro i)) (S.2.1 2 (ro i)) (S.2.1 4 (ro i) + d) := by
    unfold oF
    rw [hT, Nat.add_sub_cancel_left]
  refine ⟨rFr_tr (rFr_tr h.1 (rFr_A _ (by decide))) (rFr_A _ (by decide)), h.2.1, fun b hb => ?_⟩
  show upd (zz.2.1 6) (oB S ro i + d) (nI i) b = _ ∧ upd (zz.2.1 7) (oB S ro i + d) _ b = _
  by_cases e9 : b = oB S ro i + d
  · rw [e9, pk_us, pk_us, hT, hF]
    exact ⟨rfl, rfl⟩
  · rw [pk_un e9, pk_un e9]
    exact h.2.2 b (by omega)
theorem tf_n (hA : chA z na ro wa) {jb b0 : Nat} (h : tfI S ro na z jb b0 zz) : zz.1 0 = nI na := (h.1.1 0 (by decide)).trans hA.1
theorem tf_o (hA : chA z na ro wa) {jb b0 : Nat} (h : tfI S ro na z jb b0 zz) (i : Nat) (hi : i < na) : zz.2.1 1 i = nI (ro i) := (congrFun (h.1.2.1 1 (by decide)) i).trans (hA.2.1 i hi)
end ChC
/-- the key of row and waits -/
def oK (ro wa : Nat → Nat) : Nat → Nat
  | 0 => 0
  | j + 1 => oK ro wa j * 128 + ((if j = 0 then 0 else wa j - wa (j - 1)) * 4 + (ro j - 1))
theorem oK_lt {ro wa : Nat → Nat} : ∀ j, (∀ i, i < j → 1 ≤ ro i ∧ ro i ≤ 4 ∧ (if i = 0 then 0 else wa i - wa (i - 1)) ≤ 31) → oK ro wa j < 128 ^ j
  | 0, _ => Nat.one_pos
  | j + 1, h => by
    have ih := oK_lt j (fun i hi => h i (by omega))
    have h1 := h j (by omega)
    show oK ro wa j * 128 + ((if j = 0 then 0 else wa j - wa (j - 1)) * 4 + (ro j - 1)) < _
    rw [Nat.pow_succ]
    omega
theorem or_3 {a b c : Nat} (hb : b < 32) (hc : c < 4) : a * 128 ||| b * 4 ||| c = a * 128 + (b * 4 + c) := by
  have h1 : a * 128 ||| b * 4 = a * 128 + b * 4 := by
    have := Nat.two_pow_add_eq_or_of_lt (i := 7) (b := b * 4) (by omega) a
    rw [Nat.mul_comm] at this
    exact this.symm
  rw [h1]
  have h2 := Nat.two_pow_add_eq_or_of_lt (i := 2) (b := c) (by omega) (a * 32 + b)
  rw [show 2 ^ 2 * (a * 32 + b) = a * 128 + b * 4 by omega] at h2
  omega
theorem sh_n {a k : Nat} (hk : k < 32) (ha : a * 2 ^ k < 2147483648) : nI a <<< (nI k &&& 31) = nI (a * 2 ^ k) := pk_shlN (n := a) (nI k &&& 31) k (s_l k hk) (by omega)
/-- row and waits out of the key -/
def dO (K9 n j : Nat) : Nat := K9 / 128 ^ (n - 1 - j) % 4 + 1
def dW (K9 n : Nat) : Nat → Nat
  | 0 => 0
  | j + 1 => dW K9 n j + K9 / 128 ^ (n - 1 - (j + 1)) / 4 % 32
theorem oK_div {ro wa : Nat → Nat} {n : Nat} (h : ∀ i, i < n → 1 ≤ ro i ∧ ro i ≤ 4 ∧ (if i = 0 then 0 else wa i - wa (i - 1)) ≤ 31) : ∀ d j, j + d = n → oK ro wa n / 128 ^ d = oK ro wa j
  | 0, j, hj => by
    rw [Nat.pow_zero, Nat.div_one]
    rw [show j = n by omega]
  | d + 1, j, hj => by
    have ih := oK_div h d (j + 1) (by omega)
    have h1 := h j (by omega)
    rw [Nat.pow_succ, ← Nat.div_div_eq_div_mul, ih]
    show (oK ro wa j * 128 + ((if j = 0 then 0 else wa j - wa (j - 1)) * 4 + (ro j - 1))) / 128 = _
    omega
theorem dO_ok {ro wa : Nat → Nat} {n : Nat} (h : ∀ i, i < n → 1 ≤ ro i ∧ ro i ≤ 4 ∧ (if i = 0 then 0 else wa i - wa (i - 1)) ≤ 31) {j : Nat} (hj : j < n) : dO (oK ro wa n) n j = ro j := by
  have h1 := h j hj
  unfold dO
  rw [oK_div h (n - 1 - j) (j + 1) (by omega)]
  show (oK ro wa j * 128 + ((if j = 0 then 0 else wa j - wa (j - 1)) * 4 + (ro j - 1))) % 4 + 1 = _
  omega
theorem dW_ok {ro wa : Nat → Nat} {n : Nat} (h : ∀ i, i < n → 1 ≤ ro i ∧ ro i ≤ 4 ∧ (if i = 0 then 0 else wa i - wa (i - 1)) ≤ 31) (h0 : wa 0 = 0) (hm : ∀ j, j + 1 < n → wa j ≤ wa (j + 1)) : ∀ j, j < n → dW (oK ro wa n) n j = wa j
  | 0, _ => h0.symm
  | j + 1, hj => by
    have ih := dW_ok h h0 hm j (by omega)
    have h1 := h (j + 1) hj
    have h2 := hm j hj
    show dW (oK ro wa n) n j + oK ro wa n / 128 ^ (n - 1 - (j + 1)) / 4 % 32 = _
    rw [ih, oK_div h (n - 1 - (j + 1)) (j + 1 + 1) (by omega)]
    show wa j + (oK ro wa (j + 1) * 128 + ((if j + 1 = 0 then 0 else wa (j + 1) - wa (j + 1 - 1)) * 4 + (ro (j + 1) - 1))) / 4 % 32 = _
    rw [if_neg (by omega)] at h1 ⊢
    rw [show j + 1 - 1 = j by omega] at h1 ⊢
    omega
/-- the same rows give the same CHANCE -/
theorem cv_cg {S9 S : Sc} {rp ro w9 wa : Nat → Nat} {n : Nat} (e1 : S9.2.1 1 = S.2.1 1) (e2 : S9.2.1 2 = S.2.1 2) (e4 : S9.2.1 4 = S.2.1 4) (hr : ∀ j, j < n → rp j = ro j) (hw : ∀ j, j < n → w9 j = wa j) (hn : 1 ≤ n) : cvV S9 rp n w9 = cvV S ro n wa := by
  have hft : ∀ (V9 : Nat → Nat) (k hi ow ot : Nat), k < n → sp_ft S9 rp V9 k n hi ow ot = sp_ft S ro V9 k n hi ow ot := by
    intro V9 k hi ow ot hk
    have eo : sp_od S9 (rp k) hi ow ot = sp_od S (ro k) hi ow ot := by
      unfold sp_od
      rw [e1, e2, hr k hk]
    have ew : sp_wl S9 rp V9 k n hi ow = sp_wl S ro V9 k n hi ow := by
      unfold sp_wl
      by_cases g5 : 5 ≤ ow
      · rw [if_pos g5, if_pos g5]
        by_cases gn : k + 1 = n
        · rw [if_pos gn, if_pos gn]
        · rw [if_neg gn, if_neg gn, e4, hr (k + 1) (by omega)]
      · rw [if_neg g5, if_neg g5]
    unfold sp_ft
    rw [eo, ew]
  have hbs : ∀ d, sp_bs S9 rp n (fun _ => 0) d = sp_bs S ro n (fun _ => 0) d := by
    intro d
    induction d with
    | zero => rfl
    | succ d ih =>
      show va_up (sp_bs S9 rp n (fun _ => 0) d) (36 * n - (d + 1)) (sp_ft S9 rp (sp_bs S9 rp n (fun _ => 0) d) ((36 * n - (d + 1)) / 36) n ((36 * n - (d + 1)) % 6) ((36 * n - (d + 1)) / 6 % 6) (n - 1 - (36 * n - (d + 1)) / 36)) = _
      rw [ih, hft _ _ _ _ _ (by omega)]
      rfl
  have hah : ∀ t (V9 : Nat → Nat), ah1 S9 rp n t V9 = ah1 S ro n t V9 := by
    intro t V9
    funext q
    unfold ah1
    by_cases g0 : q < 36 * n
    · rw [if_pos g0, if_pos g0, hft _ _ _ _ _ (by omega)]
    · rw [if_neg g0, if_neg g0]
  have hit : ∀ t (V9 : Nat → Nat) d, itF S9 rp n t V9 d = itF S ro n t V9 d := by
    intro t V9 d
    induction d with
    | zero => rfl
    | succ d ih =>
      show ah1 S9 rp n t (itF S9 rp n t V9 d) = ah1 S ro n t (itF S ro n t V9 d)
      rw [ih, hah]
  have hch : ∀ (V9 : Nat → Nat) i, i ≤ n - 1 → chn S9 rp n (fun j => w9 j - w9 (j - 1)) V9 i = chn S ro n (fun j => wa j - wa (j - 1)) V9 i := by
    intro V9 i
    induction i with
    | zero => intro _; rfl
    | succ i ih =>
      intro hi
      show itF S9 rp n (n - 1 - i) (chn S9 rp n _ V9 i) (w9 (n - 1 - i) - w9 (n - 1 - i - 1)) = itF S ro n (n - 1 - i) (chn S ro n _ V9 i) (wa (n - 1 - i) - wa (n - 1 - i - 1))
      rw [ih (by omega), hit, hw _ (by omega), hw _ (by omega)]
  unfold cvV
  rw [hch _ _ (Nat.le_refl _), hbs, e4, hr 0 (by omega)]
def cvK (S : Sc) (n K9 : Nat) : Nat := cvV S (dO K9 n) n (dW K9 n)
/-- what is known by the keys -/
def chM (S : Sc) (z : RS) : Prop := ∀ p9, p9 < 128 → z.2.1 10 p9 = iZ (-1) ∨ ∃ K9, K9 < 2147483648 ∧ z.2.1 10 p9 = nI K9 ∧ z.2.1 11 p9 = nI (cvK S (sp_ou S (S.1 1 - 1)) K9)
theorem chM_fr {S : Sc} {z z9 : RS} {is ks : List Nat} (h : chM S z) (f9 : rFr is ks z z9) (h1 : 10 ∉ ks) (h2 : 11 ∉ ks) : chM S z9 := by
  intro p9 hp
  rw [f9.2.1 10 h1, f9.2.1 11 h2]
  exact h p9 hp
theorem chM_0 {S : Sc} {z : RS} (h : ∀ k, k < 128 → z.2.1 10 k = iZ (-1)) : chM S z := fun p9 hp => Or.inl (h p9 hp)
theorem chM_cg {S9 S : Sc} {z : RS} (h : chM S z) (e1 : S9.2.1 1 = S.2.1 1) (e2 : S9.2.1 2 = S.2.1 2) (e4 : S9.2.1 4 = S.2.1 4) (en : S9.1 1 = S.1 1) (hn : 1 ≤ sp_ou S (S.1 1 - 1)) : chM S9 z := by
  have ed : ∀ k, sp_ou S9 k = sp_ou S k := by
    intro k
    induction k with
    | zero => rfl
    | succ k ih =>
      show sp_ou S9 k + (if pc_dn S9 (k + 1) = 0 then 1 else 0) = sp_ou S k + (if pc_dn S (k + 1) = 0 then 1 else 0)
      unfold pc_dn
      rw [ih, e4]
  intro p9 hp
  rcases h p9 hp with g1 | ⟨K9, g1, g2, g3⟩
  · exact Or.inl g1
  · refine Or.inr ⟨K9, g1, g2, g3.trans (congrArg nI ?_)⟩
    rw [en, ed]
    exact (cv_cg e1 e2 e4 (fun _ _ => rfl) (fun _ _ => rfl) hn).symm
theorem chM_put {S : Sc} {z : RS} (h : chM S z) {p9 K9 : Nat} (hK : K9 < 2147483648) {z9 : RS} (h1 : z9.2.1 10 = upd (z.2.1 10) p9 (nI K9)) (h2 : z9.2.1 11 = upd (z.2.1 11) p9 (nI (cvK S (sp_ou S (S.1 1 - 1)) K9))) : chM S z9 := by
  intro q hq
  rw [h1, h2]
  by_cases e9 : q = p9
  · rw [e9]
    exact Or.inr ⟨K9, hK, pk_us, pk_us⟩
  · rw [pk_un e9, pk_un e9]
    exact h q hq
theorem pl_ex (x : Int32) : ∃ p9, p9 < 128 ∧ x &&& nI 127 = nI p9 := by
  refine ⟨x.toBitVec.toNat % 128, Nat.mod_lt _ (by decide), ?_⟩
  apply Int32.toBitVec_inj.1
  show x.toBitVec &&& BitVec.ofNat 32 127 = BitVec.ofNat 32 (x.toBitVec.toNat % 128)
  apply BitVec.eq_of_toNat_eq
  rw [BitVec.toNat_and, BitVec.toNat_ofNat, BitVec.toNat_ofNat]
  have h1 : x.toBitVec.toNat % 128 < 2 ^ 32 := Nat.lt_of_lt_of_le (Nat.mod_lt _ (by decide)) (by decide)
  rw [Nat.mod_eq_of_lt h1, show 127 % 2 ^ 32 = 2 ^ 7 - 1 by decide, Nat.and_two_pow_sub_one_eq_mod]
