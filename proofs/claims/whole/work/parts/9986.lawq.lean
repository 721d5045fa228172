/-! the law's world as blocks: which come first is chosen by their numbers -/
theorem fl_perm (Bs Ds : List va_W) (is : List Nat) (h : is.map (fun i => Bs[i]?) = Ds.map some) (hp : is.Perm (List.range Bs.length)) : Bs.flatten.Perm Ds.flatten := by
  have h1 : (List.range Bs.length).map (fun i => Bs[i]?) = Bs.map some := by
    apply List.ext_getElem
    · simp
    · intro k h1 h2
      have h3 : k < Bs.length := by simpa using h1
      simp [h3]
  have h2 : (Ds.map some).Perm (Bs.map some) := by
    rw [← h, ← h1]
    exact hp.map _
  have h3 : ∀ (Es : List va_W), (Es.map some).filterMap id = Es := by
    intro Es
    simp
  have h4 : Ds.Perm Bs := by
    rw [← h3 Ds, ← h3 Bs]
    exact h2.filterMap _
  exact (h4.symm).flatten
section LawB
variable {s : State} {H : Heap} {locs : List Loc} {G : CG} {A : Nat → Prop}
/-- the blocks of the callee to the front -/
theorem bl_to {Bs : List va_W} (Cs Rs : List va_W) (wc : va_W) (is : List Nat) (w : cW G A s Bs.flatten H locs) (h : is.map (fun i => Bs[i]?) = (Cs ++ Rs).map some) (hp : is.Perm (List.range Bs.length)) (hc : Cs.flatten = wc) : cW G A s (wc ++ Rs.flatten) H locs := by
  have h1 := cW_perm (fl_perm Bs (Cs ++ Rs) is h hp) w
  rw [List.flatten_append, hc] at h1
  exact h1
/-- and back -/
theorem bl_of {Bs : List va_W} (Cs Rs : List va_W) (wc : va_W) (is : List Nat) (w : cW G A s (wc ++ Rs.flatten) H locs) (hc : Cs.flatten = wc) (h : is.map (fun i => (Cs ++ Rs)[i]?) = Bs.map some) (hp : is.Perm (List.range (Cs ++ Rs).length)) : cW G A s Bs.flatten H locs := by
  rw [← hc, ← List.flatten_append] at w
  exact cW_perm (fl_perm (Cs ++ Rs) Bs is h hp) w
end LawB
/-- all blocks: the object, scene, past, kept scene, kept past, tape, draft, foretelling, its scene, its chances, four sheets, the reference -/
abbrev bLs (G : CG) (a : Nat → Nat) (ad : Nat → Nat → Nat) (b : Nat) (rd : Nat → Nat) (zt sc pa ks kp ta dr fo tr ch : RS) (sh : Nat → RS) (zr : RS) : List va_W :=
  [wO G a ad zt, w5 G (ad 0) sc, w4 G (ad 1) pa, w5 G (ad 2) ks, w4 G (ad 3) kp, wT1 G (ad 5) (ad 7) ta, w5 G (ad 7) dr, wFo G ad fo, w5 G (ad 8) tr, w0 G (ad 9) ch, w6 G (ad 10) (sh 0), w6 G (ad 11) (sh 1), w6 G (ad 12) (sh 2), w6 G (ad 13) (sh 3), wR (gR G b rd) zr]
