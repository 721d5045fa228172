/-! THE CLAIM OUT OF ONE WALK OF THE LAW'S BODY. Your part is whole_start (and what it stands on); all else here is the same for every law, but numbers. -/
def R_law : String := "RunningThreeLaw"
def lw_P (b : Addr) (xs : List Int32) (args : Array Value) (s : State) : Prop := args = #[.ref b] ∧ s.IntsAt b xs ∧ xs.length ≤ 3072 ∧ (Jvm.Cond.and given_1 narrow_1).before args s = true
def lw_Q (_ : Array Value) (s : State) (o : Outcome) (t : State) : Prop := o = .returned (some (.int 1)) ∧ Framed s o t [] 600000 7302250
def lw_Z (below : List Frame) (a : Array Value) (s : State) : State → Prop := fun t => ∃ o, t.status = .running ∧ Ended t below o ∧ lw_Q a s o t
/-- the law's own end, with 1 on the stack, nothing written that was there before, its room as the claim has it -/
theorem lw_ret {p : Program} {l : Launch} {e : Env} {s : State} {m : MethodId} {below : List Frame} {meth : Method} {c : Code} {b : Nat} (hx : p.tables.exec = Jvm.exec) (hb : c.code = code) (hr : meth.sig.returnType = ret) (hlocks : meth.locks = false) {pc : Nat} {H : Heap} {ls : Array Slot} (hdg : decode code pc = .ok (.ireturn, 1)) : W p l e room_1 s m #[Value.ref b] below meth c H [] 600000 7302250 (lw_Z below #[Value.ref b] s) (F0 m pc ls [.int 1]) := by
  intro T hT X
  obtain ⟨fs, hret, hrun, hended, hW, hframe⟩ := X.leave (v := some (.int 1)) (hlocks := hlocks) (fun h => by rw [hr] at h; cases h)
  have hmeth' : T.vm.method? m = some meth := X.method'
  refine ⟨T.setFrames fs, ?_, .returned (some (.int 1)), hrun, hended, rfl, ⟨_, rfl⟩, hW, hframe⟩
  jvm_step X.here [X.here.top, hx, hb, hdg, hmeth', hr, ret, narrow_b1]
  (try refine ⟨rfl, ?_⟩); (try refine ⟨rfl, ?_⟩)
  first | (intro acts; rw [hret _ acts rfl rfl rfl]) | rw [hret _ _ rfl rfl rfl]
  exact Steps.refl _
/-- what holds at the law's entry: the machine, the code, the tables' words (any of lw_tbl by 'hts w (by decide +kernel)'), the script of L ints xs at the cell b, what the Statement gives of the start (any of its parts by flat_of_before) -/
def lw_At (p : Program) (s : State) (m : MethodId) (meth : Method) (c : Code) (b L : Nat) (xs : Nat → Int32) : Prop :=
  p.tables.exec = Jvm.exec ∧ c.code = code ∧ meth.sig.returnType = ret ∧ c.maxLocals = 4 ∧ s.vm.findClass R_law = some m.cls ∧ (∀ w ∈ lw_tbl, w.before #[Value.ref b] s = true) ∧ va_X b L xs s s.heap ∧ b < s.heap.size ∧ meth.locks = false ∧ (Jvm.Cond.and given_1 narrow_1).before #[Value.ref b] s = true
-- ===== YOUR PART BEGINS =====
set_option maxRecDepth 20000 in
/-- one round of the law's loop, behind the switch -/
theorem la_sw {p : Program} {l : Launch} {e : Env} {s : State} {m : MethodId} {args : Array Value} {below : List Frame} {meth : Method} {c : Code} {H : Heap} {locs : List Loc} {cells slots : Nat} {Q : State → Prop} {ls : Array Slot} {G : CG} {A : Nat → Prop} {b0 L i b : Nat} {xs : Nat → Int32} {a : Nat → Nat} {ad : Nat → Nat → Nat} {rd : Nat → Nat} {zt sc pa ks kp ta dr fo tr ch : RS} {sh : Nat → RS} {zr : RS} (U : lU p s m args c G A b0 L xs i cells slots a b ls) (hI : iV zt sc pa ks kp ta sh zr) (w : cW G A s (bLs G a ad b rd zt sc pa ks kp ta dr fo tr ch sh zr).flatten H locs) (kk : lG p l e s m args below meth c cells slots Q ls G A a ad b rd) {k9 : Nat} (hk9 : k9 < 32) : W p l e room_1 s m args below meth c H locs cells slots Q (F0 m 33 ls [.int (nI k9)]) := by
  have hx := U.1.1
  have hb := U.1.2.1
  rcases (show k9 = 0 ∨ k9 = 1 ∨ k9 = 2 ∨ k9 = 3 ∨ k9 = 4 ∨ k9 = 5 ∨ k9 = 6 ∨ k9 = 7 ∨ k9 = 8 ∨ k9 = 9 ∨ k9 = 10 ∨ k9 = 11 ∨ k9 = 12 ∨ k9 = 13 ∨ k9 = 14 ∨ k9 = 15 ∨ k9 = 16 ∨ k9 = 17 ∨ k9 = 18 ∨ k9 = 19 ∨ k9 = 20 ∨ k9 = 21 ∨ k9 = 22 ∨ k9 = 23 ∨ k9 = 24 ∨ k9 = 25 ∨ k9 = 26 ∨ k9 = 27 ∨ k9 = 28 ∨ k9 = 29 ∨ k9 = 30 ∨ k9 = 31 by omega) with rfl | rfl | rfl | rfl | rfl | rfl | rfl | rfl | rfl | rfl | rfl | rfl | rfl | rfl | rfl | rfl | rfl | rfl | rfl | rfl | rfl | rfl | rfl | rfl | rfl | rfl | rfl | rfl | rfl | rfl | rfl | rfl
  · exact lv_tableIn (off := 135) (tgt := 168) hx hb dL_law_33 (by decide) (by decide) (by decide) (by decide) (la_0 U hI w kk)
  · exact lv_tableIn (off := 178) (tgt := 211) hx hb dL_law_33 (by decide) (by decide) (by decide) (by decide) (la_1 U hI w kk)
  · exact lv_tableIn (off := 211) (tgt := 244) hx hb dL_law_33 (by decide) (by decide) (by decide) (by decide) (la_2 U hI w kk)
  · exact lv_tableIn (off := 244) (tgt := 277) hx hb dL_law_33 (by decide) (by decide) (by decide) (by decide) (la_3 U hI w kk)
  · exact lv_tableIn (off := 267) (tgt := 300) hx hb dL_law_33 (by decide) (by decide) (by decide) (by decide) (la_4 U hI w kk)
  · exact lv_tableIn (off := 290) (tgt := 323) hx hb dL_law_33 (by decide) (by decide) (by decide) (by decide) (la_5 U hI w kk)
  · exact lv_tableIn (off := 313) (tgt := 346) hx hb dL_law_33 (by decide) (by decide) (by decide) (by decide) (la_6 U hI w kk)
  · exact lv_tableIn (off := 346) (tgt := 379) hx hb dL_law_33 (by decide) (by decide) (by decide) (by decide) (la_7 U hI w kk)
  · exact lv_tableIn (off := 369) (tgt := 402) hx hb dL_law_33 (by decide) (by decide) (by decide) (by decide) (la_8 U hI w kk)
  · exact lv_tableIn (off := 382) (tgt := 415) hx hb dL_law_33 (by decide) (by decide) (by decide) (by decide) (la_9 U hI w kk)
  · exact lv_tableIn (off := 405) (tgt := 438) hx hb dL_law_33 (by decide) (by decide) (by decide) (by decide) (la_10 U hI w kk)
  · exact lv_tableIn (off := 418) (tgt := 451) hx hb dL_law_33 (by decide) (by decide) (by decide) (by decide) (la_11 U hI w kk)
  · exact lv_tableIn (off := 431) (tgt := 464) hx hb dL_law_33 (by decide) (by decide) (by decide) (by decide) (la_12 U hI w kk)
  · exact lv_tableIn (off := 444) (tgt := 477) hx hb dL_law_33 (by decide) (by decide) (by decide) (by decide) (la_13 U hI w kk)
  · exact lv_tableIn (off := 467) (tgt := 500) hx hb dL_law_33 (by decide) (by decide) (by decide) (by decide) (la_14 U hI w kk)
  · exact lv_tableIn (off := 490) (tgt := 523) hx hb dL_law_33 (by decide) (by decide) (by decide) (by decide) (la_15 U hI w kk)
  · exact lv_tableIn (off := 513) (tgt := 546) hx hb dL_law_33 (by decide) (by decide) (by decide) (by decide) (la_16 U hI w kk)
  · exact lv_tableIn (off := 536) (tgt := 569) hx hb dL_law_33 (by decide) (by decide) (by decide) (by decide) (la_17 U hI w kk)
  · exact lv_tableIn (off := 569) (tgt := 602) hx hb dL_law_33 (by decide) (by decide) (by decide) (by decide) (la_18 U hI w kk)
  · exact lv_tableIn (off := 582) (tgt := 615) hx hb dL_law_33 (by decide) (by decide) (by decide) (by decide) (la_19 U hI w kk)
  · exact lv_tableIn (off := 605) (tgt := 638) hx hb dL_law_33 (by decide) (by decide) (by decide) (by decide) (la_20 U hI w kk)
  · exact lv_tableIn (off := 638) (tgt := 671) hx hb dL_law_33 (by decide) (by decide) (by decide) (by decide) (la_21 U hI w kk)
  · exact lv_tableIn (off := 651) (tgt := 684) hx hb dL_law_33 (by decide) (by decide) (by decide) (by decide) (la_22 U hI w kk)
  · exact lv_tableIn (off := 664) (tgt := 697) hx hb dL_law_33 (by decide) (by decide) (by decide) (by decide) (la_23 U hI w kk)
  · exact lv_tableIn (off := 727) (tgt := 760) hx hb dL_law_33 (by decide) (by decide) (by decide) (by decide) (la_24 U hI w kk)
  · exact lv_tableIn (off := 780) (tgt := 813) hx hb dL_law_33 (by decide) (by decide) (by decide) (by decide) (la_25 U hI w kk)
  · exact lv_tableIn (off := 833) (tgt := 866) hx hb dL_law_33 (by decide) (by decide) (by decide) (by decide) (la_26 U hI w kk)
  · exact lv_tableIn (off := 876) (tgt := 909) hx hb dL_law_33 (by decide) (by decide) (by decide) (by decide) (la_27 U hI w kk)
  · exact lv_tableIn (off := 899) (tgt := 932) hx hb dL_law_33 (by decide) (by decide) (by decide) (by decide) (la_28 U hI w kk)
  · exact lv_tableIn (off := 982) (tgt := 1015) hx hb dL_law_33 (by decide) (by decide) (by decide) (by decide) (la_29 U hI w kk)
  · exact lv_tableOut (tgt := 1078) hx hb dL_law_33 (by decide) (by decide) (kk _ _ _ _ _ _ _ _ _ _ _ _ _ _ hI w)
  · exact lv_tableOut (tgt := 1078) hx hb dL_law_33 (by decide) (by decide) (kk _ _ _ _ _ _ _ _ _ _ _ _ _ _ hI w)
theorem law_loop {p : Program} {l : Launch} {e : Env} {s : State} {m : MethodId} {below : List Frame} {meth : Method} {c : Code} {G : CG} {b0 L b : Nat} {xs : Nat → Int32} {a : Nat → Nat} {ad : Nat → Nat → Nat} {rd : Nat → Nat} {cells slots : Nat} (hL : L ≤ 3072) (C0 : lw_At p s m meth c b0 L xs) (hK : nK G s) (hf : cells ≤ room_1.cells ∧ slots ≤ room_1.slots) :
    ∀ (n i : Nat), i ≤ L → L + 1 ≤ i + n → ∀ (zt sc pa ks kp ta dr fo tr ch : RS) (sh : Nat → RS) (zr : RS) (H : Heap) (locs : List Loc), iV zt sc pa ks kp ta sh zr → cW G (fun q : Nat => s.heap.size ≤ q) s (bLs G a ad b rd zt sc pa ks kp ta dr fo tr ch sh zr).flatten H locs → ∀ (ls : Array Slot), lv_has ls 4 [(0, .ref b0), (1, .ref (a 0)), (2, .ref b), (3, .int (nI i))] → W p l e room_1 s m #[Value.ref b0] below meth c H locs cells slots (lw_Z below #[Value.ref b0] s) (F0 m 18 ls []) := by
  obtain ⟨hx, hb, hr, hml, hown, hts, hX, hbl, hlocks, hgv⟩ := C0
  have hbA : ¬ (fun q : Nat => s.heap.size ≤ q) b0 := Nat.not_le.mpr hbl
  have X : cX RL G (fun q : Nat => s.heap.size ≤ q) p c cL_law s #[Value.ref b0] m := ⟨hx, hb, law_gT hts, hown, ⟨hK.1, hK.2.1⟩, fun _ h => h⟩
  have hT : sT (fun q : Nat => s.heap.size ≤ q) s s.heap := law_sT hts hgv (fun q hq => Nat.not_le.mpr hq)
  intro n
  induction n with
  | zero =>
    intro i h1 h2
    exact absurd h2 (by omega)
  | succ n ih =>
    intro i hi hin zt sc pa ks kp ta dr fo tr ch sh zr H locs hI w ls hl
    refine lv_iload_n hx hb dL_law_18 rfl (lv_at hl 3 rfl) ?_
    refine tp_i (iZ_n i).symm ?_
    refine lv_aload_n hx hb dL_law_19 rfl (lv_at hl 0 rfl) ?_
    refine va_slen hx hb hX hbl hbA w.2.2 dL_law_20 ?_
    refine tp_i (y := iZ (L : Int)) (iZ_n L).symm ?_
    refine lv_bipush (v := iZ 6) hx hb dL_law_21 (by decide) ?_
    refine z_isub hx hb dL_law_23 ?_
    refine z_icmp_gt (tgt := 1084) hx hb dL_law_24 (by decide) (by omega) (by omega) (by omega) (by omega) (fun c9 => ?_) (fun c9 => ?_)
    · refine lv_iconst (v := 1) hx hb dL_law_1084 (by decide) ?_
      refine va_forget (fun q hq => w.2.2.2.2 q hq) ?_
      refine W.widen (k := 600000) (n := 7302250) hf.1 hf.2 ?_
      exact lw_ret hx hb hr hlocks dL_law_1085
    · have hi6 : i + 5 < L := by omega
      refine lv_aload_n hx hb dL_law_27 rfl (lv_at hl 0 rfl) ?_
      refine lv_iload_n hx hb dL_law_28 rfl (lv_at hl 3 rfl) ?_
      refine va_sld hx hb hX hbl hbA w.2.2 (vp_in_nI (by omega) (by omega)) dL_law_29 ?_
      refine lv_bipush (v := nI 31) hx hb dL_law_30 (by decide) ?_
      refine lv_iand hx hb dL_law_32 ?_
      obtain ⟨k9, hk9, ek9⟩ := an_31 (xs (nI i).toNatClampNeg)
      refine tp_i ek9 ?_
      refine la_sw (G := G) (A := fun q : Nat => s.heap.size ≤ q) (b0 := b0) (L := L) (xs := xs) (i := i) (a := a) (ad := ad) (b := b) (rd := rd) ⟨X, hml, hT, hX, hbl, hbA, hL, hi6, hf, hl⟩ hI w ?_ hk9
      intro zt sc pa ks kp ta dr fo tr ch sh zr H locs hI w
      refine lv_iinc (v := nI (i + 6)) (lv' := [(3, .int (nI (i + 6))), (0, .ref b0), (1, .ref (a 0)), (2, .ref b)]) hx hb dL_law_1078 hl (k := 3) rfl (nI_add i 6) (by decide) rfl (fun ls hl => ?_)
      refine lv_goto (tgt := 18) hx hb dL_law_1081 (by decide) ?_
      exact ih (i + 6) (by omega) (by omega) zt sc pa ks kp ta dr fo tr ch sh zr H locs hI w ls (lv_sub hl [1, 2, 3, 0] rfl)
set_option maxHeartbeats 4000000 in
set_option maxRecDepth 100000 in
/-- YOUR PART: from the entry, for every script of at most 3072 ints, the law comes to its end with true -/
theorem whole_start {p : Program} {e : Env} {s : State} {m : MethodId} {below : List Frame} {meth : Method} {c : Code} (l : Launch) {b L : Nat} {xs : Nat → Int32} (hL : L ≤ 3072) (C0 : lw_At p s m meth c b L xs) : W p l e room_1 s m #[Value.ref b] below meth c s.heap [] 0 0 (lw_Z below #[Value.ref b] s) (entryFrame m ([Value.ref b] : List Value).toArray 4) := by
  obtain ⟨hx, hb, hr, hml, hown, hts, hX, hbl, hlocks, hgv⟩ := id C0
  obtain ⟨G, hK⟩ := law_K hts
  have hg := law_gT hts
  have X : nX RL G (fun q : Nat => s.heap.size ≤ q) p c cL_law s #[Value.ref b] m := ⟨hx, hb, hg, hown, hK, fun _ h => h⟩
  have hl := lv_entry ([.ref b]) (n := 4) (Nat.le_of_ble_eq_true rfl)
  rw [lg_entry_eq]
  generalize (lg_sl ([.ref b]) ++ List.replicate (4 - (lg_sl ([.ref b])).length) Slot.unset).toArray = ls at hl ⊢
  have hl : lv_has ls 4 [(0, .ref b)] := hl
  have w0 : cW G (fun q : Nat => s.heap.size ≤ q) s [] s.heap [] := ⟨fun k q h => by simp at h, ⟨fun i j p q h => by simp at h, fun k q h => by simp at h⟩, va_S.rf⟩
  refine va_new (ci := 6) (fs := [.null, .null, .null, .null, .int 0, .null, .null, .null]) (C := RX7) (T := TX7) (N := 8) hx hb hg gX7 tyX7 tyX7_ok hown (hg _ wL_RL_7) (hg _ wB_X7) (hg _ wn_X7) hK.1 w0.1 w0.2.1 w0.2.2 (fun _ h => h) rfl (fun j hj => by rcases (show j = 0 ∨ j = 1 ∨ j = 2 ∨ j = 3 ∨ j = 4 ∨ j = 5 ∨ j = 6 ∨ j = 7 by omega) with rfl | rfl | rfl | rfl | rfl | rfl | rfl | rfl <;> rfl) (Nat.le_of_ble_eq_true rfl) (Nat.le_of_ble_eq_true rfl) dL_law_0 (fun qa9 H hP hD hS => ?_)
  have w : cW G (fun q : Nat => s.heap.size ≤ q) s ([] ++ [(qa9, .inr (6, [.null, .null, .null, .null, .int 0, .null, .null, .null]))]) H [] := ⟨hP, hD, hS⟩
  refine lv_dup hx hb dL_law_3 rfl ?_
  refine ni_callL (own := RL) (rest := [.ref qa9]) X hml hl.1 (nX7_init l G qa9) okn_X7 wm_L_9 ⟨Nat.le_of_ble_eq_true rfl, Nat.le_of_ble_eq_true rfl⟩ ⟨Nat.le_of_ble_eq_true rfl, Nat.le_of_ble_eq_true rfl⟩ w (Nat.le_of_ble_eq_true rfl) dL_law_4 (fun ua9 H locs eua9 w => ?_)
  have w : cW G (fun q : Nat => s.heap.size ≤ q) s (wN7 G ua9) H locs := w
  refine lv_astore_n (lv' := [(1, .ref qa9), (0, .ref b)]) hx hb dL_law_7 rfl hl (by decide) rfl (fun ls hl => ?_)
  refine va_new (ci := 7) (fs := [.int 0, .int 0, .null, .null, .int 0, .null, .int 0, .null, .int 0, .int 0, .int 0, .int 0, .int 0, .null, .null, .null, .int 0, .null, .null, .null, .null, .null, .int 0, .int 0, .null, .int 0, .null, .null, .null, .null]) (C := RX8) (T := TX8) (N := 30) hx hb hg gX8 tyX8 tyX8_ok hown (hg _ wL_RL_10) (hg _ wB_X8) (hg _ wn_X8) hK.1 w.1 w.2.1 w.2.2 (fun _ h => h) rfl (fun j hj => by rcases (show j = 0 ∨ j = 1 ∨ j = 2 ∨ j = 3 ∨ j = 4 ∨ j = 5 ∨ j = 6 ∨ j = 7 ∨ j = 8 ∨ j = 9 ∨ j = 10 ∨ j = 11 ∨ j = 12 ∨ j = 13 ∨ j = 14 ∨ j = 15 ∨ j = 16 ∨ j = 17 ∨ j = 18 ∨ j = 19 ∨ j = 20 ∨ j = 21 ∨ j = 22 ∨ j = 23 ∨ j = 24 ∨ j = 25 ∨ j = 26 ∨ j = 27 ∨ j = 28 ∨ j = 29 by omega) with rfl | rfl | rfl | rfl | rfl | rfl | rfl | rfl | rfl | rfl | rfl | rfl | rfl | rfl | rfl | rfl | rfl | rfl | rfl | rfl | rfl | rfl | rfl | rfl | rfl | rfl | rfl | rfl | rfl | rfl <;> rfl) (Nat.le_of_ble_eq_true rfl) (Nat.le_of_ble_eq_true rfl) dL_law_8 (fun qb9 H hP hD hS => ?_)
  have w : cW G (fun q : Nat => s.heap.size ≤ q) s (wN7 G ua9 ++ [(qb9, .inr (7, [.int 0, .int 0, .null, .null, .int 0, .null, .int 0, .null, .int 0, .int 0, .int 0, .int 0, .int 0, .null, .null, .null, .int 0, .null, .null, .null, .null, .null, .int 0, .int 0, .null, .int 0, .null, .null, .null, .null]))]) H locs := ⟨hP, hD, hS⟩
  refine lv_dup hx hb dL_law_11 rfl ?_
  refine ni_callL (own := RL) (rest := [.ref qb9]) X hml hl.1 (nX8_init l G qb9) okn_X8 wm_L_12 ⟨Nat.le_of_ble_eq_true rfl, Nat.le_of_ble_eq_true rfl⟩ ⟨Nat.le_of_ble_eq_true rfl, Nat.le_of_ble_eq_true rfl⟩ w (Nat.le_of_ble_eq_true rfl) dL_law_12 (fun ub9 H locs eub9 w => ?_)
  have w : cW G (fun q : Nat => s.heap.size ≤ q) s (bLs G ua9.1 ua9.2 ub9.1 ub9.2 zT0 zN5 zN4 zN5 zN4 zN1 zN5 zN2 zN5 zN0 (fun _ => zN6) zN8).flatten H locs := by
    rw [← wN_bl]
    exact w
  refine lv_astore_n (lv' := [(2, .ref qb9), (1, .ref qa9), (0, .ref b)]) hx hb dL_law_15 rfl hl (by decide) rfl (fun ls hl => ?_)
  refine lv_iconst (v := nI 0) hx hb dL_law_16 (by decide) ?_
  refine lv_istore_n (lv' := [(3, .int (nI 0)), (2, .ref qb9), (1, .ref qa9), (0, .ref b)]) hx hb dL_law_17 rfl hl (by decide) rfl (fun ls hl => ?_)
  have hl : lv_has ls 4 [(0, .ref b), (1, .ref qa9), (2, .ref qb9), (3, .int (nI 0))] := lv_sub hl [3, 2, 1, 0] rfl
  rw [← eua9, ← eub9] at hl
  exact law_loop hL C0 hK ⟨Nat.le_of_ble_eq_true rfl, Nat.le_of_ble_eq_true rfl⟩ (L + 1) 0 (Nat.zero_le L) (by omega) _ _ _ _ _ _ _ _ _ _ _ _ _ _ (iV_0 zT0 rfl) w ls hl
-- ===== YOUR PART ENDS =====
set_option maxHeartbeats 4000000 in
theorem lw_walk (l : Launch) (b : Addr) (xs : List Int32) : MetFree l x (headSpec (Jvm.Cond.code x code maxLocals ret :: tables_1) room_1) (lw_P b xs) (fun _ _ _ _ _ => True) lw_Q := by
  refine MetFree.of_bodyS (code := code) (maxLocals := maxLocals) (ret := ret) (by decide) ?_ ?_
  · intro args s m h hn
    obtain ⟨meth, c, h1, h2, h3, h4, h5, h6, -, -⟩ := Cond.code_spec hn (atoms_spec (ws := Jvm.Cond.code x code maxLocals ret :: tables_1) h _ List.mem_cons_self)
    exact ⟨meth, c, h1, h2, h3, h4, h5, h6⟩
  · intro p e s m args below meth c s₁ B hml0 hP _
    obtain ⟨rfl, hx, hbd, hgv⟩ := hP
    obtain ⟨scr, harrAt, hlist, hof, hsmall⟩ := hx
    obtain ⟨hcb, hkn, -, -⟩ := State.arrayAt?_spec harrAt
    have hown : s.vm.findClass R_law = some m.cls := findClass_of_methodNamed B.named
    have hts0 : ∀ c ∈ (Jvm.Cond.code x code maxLocals ret :: tables_1), c.before #[Value.ref b] s = true := atoms_spec (ws := Jvm.Cond.code x code maxLocals ret :: tables_1) B.pre
    have hts : ∀ w ∈ lw_tbl, w.before #[Value.ref b] s = true := k2_hts_sels lw_privs (fun w hw => hts0 w (List.mem_cons_of_mem _ hw)) lw_privs_ok
    have hml : c.maxLocals = 4 := B.maxLocals_eq (hts0 _ List.mem_cons_self)
    have X₀ : Stand p l e room_1 s m #[Value.ref b] below meth c s₁ [] 0 0 := Stand.of_body B
    have hh0 : s₁.heap = s.heap := by rw [B.state]; rfl
    have hsz : scr.slots.size = xs.length := by rw [← Array.length_toList, hlist, List.length_map]
    have hval : ∀ j : Nat, j < xs.length → scr.slots[j]? = some (.int (xs.getD j 0)) := fun j hj => by
      rw [← Array.getElem?_toList, hlist]
      simp [hj]
    have hbl : b < s.heap.size := (Array.getElem?_eq_some_iff.mp hcb).1
    have hX : va_X b xs.length (fun j => xs.getD j 0) s s.heap := ⟨scr, hcb, hof, hkn, hsz, hval⟩
    have K : W p l e room_1 s m #[Value.ref b] below meth c s₁.heap [] 0 0 (lw_Z below #[Value.ref b] s) (entryFrame m ([Value.ref b] : List Value).toArray 4) := by
      rw [hh0]
      exact whole_start l hbd ⟨B.exec, B.bytes, B.returns, hml, hown, hts, hX, hbl, B.notSynchronized, hgv⟩
    obtain ⟨t, a1, o, b1, b2, b3⟩ := K s₁ rfl X₀
    exact ⟨t, o, a1, b1, b2, b3⟩
theorem lw_pre_spec {args : Array Value} {s : State} (h : (Jvm.Cond.and given_1 narrow_1).before args s = true) (hr : rest_1_c.before args s = true) : ∃ (b : Addr) (xs : List Int32), lw_P b xs args s := by
  have hs := flat_of_before _ h
  have hq := flat_of_before _ hr
  have hc : (Cond.count 1).before args s = true := hs _ (by decide +kernel)
  have harr : (Cond.arrayOf (.arg 0) .int).before args s = true := hs _ (by decide +kernel)
  have hle : (Cond.le (.length (.arg 0)) (.int 3072)).before args s = true := hs _ (by decide +kernel)
  have hlen : (Cond.isInt (.length (.arg 0))).before args s = true := hq _ (by decide +kernel)
  have hall : (Cond.all (.arg 0) (.isInt (.elem (.arg 0) (.index 0)))).before args s = true := hq _ (by decide +kernel)
  obtain ⟨b, xs, hb, hx⟩ := State.ints_of_pre rfl harr hlen hall
  have hsm : xs.length < 2 ^ 31 := hx.choose_spec.2.2.2
  have hev : (Term.length (.arg 0)).eval args s none [] s = some (.int xs.length.toInt32) := hx.length_eval hb
  have hv := Cond.le_ints hev (show (Term.int 3072).eval args s none [] s = some (.int 3072) from rfl)
  have hd : xs.length.toInt32 ≤ 3072 := by
    simpa [Cond.before, Cond.holds, hv] using hle
  have hN : xs.length ≤ 3072 := (Int32.ofNat_le_ofNat hsm (by decide)).mp (show Int32.ofNat xs.length ≤ Int32.ofNat 3072 from hd)
  exact ⟨b, xs, Cond.one_arg hc (show args[0]? = some (.ref b) from hb), hx, hN, h⟩
theorem lw_comes (l : Launch) : Comes l x (Jvm.Cond.code x code maxLocals ret :: tables_1) room_1 (fun tb e args s => Calls_1 tb e args s ∧ rest_1 tb e args s ∧ Pre_1 tb e args s)
    (fun _ _ args s o t => lw_Q args s o t) := by
  intro p e ha hc hk s m args below hf hfit hheap happ hpre
  obtain ⟨b, xs, hP⟩ := lw_pre_spec hpre.2.2 hpre.2.1
  obtain ⟨k, o, h1, h2, h3, hQ⟩ := lw_walk l b xs p e ha hc hk s m args below hf ((Spec.applies_iff_loose hf).mp happ).1 hP trivial
  exact ⟨k, o, h1, h2, h3, hQ⟩
theorem lw_frame {s t : State} {o : Outcome} {args : Array Value} (h : Framed s o t [] 600000 7302250) :
    Framed s o t (fieldLocs frame_1_writes args s ++ arrayLocs frame_1_arrays args s ++ staticLocs frame_1_statics s) 600000 7302250 := h
theorem lw_limb (L : Cond) (hL : ∀ (args : Array Value) (s t : State), L.after args s (.returned (some (.int 1))) t = true) :
    ArmFor flags0 classFile x code maxLocals ret World_1 tables_1 room_1 Calls_1 rest_1 Pre_1
      (fun tb e a s o t => postC L tb e a s o t ∧ Framed s o t (fieldLocs frame_1_writes a s ++ arrayLocs frame_1_arrays a s ++ staticLocs frame_1_statics s) 600000 7302250) := by
  intro l _ _ _ p e ha hc hk s m args below hf hfit hheap happ hpre
  obtain ⟨k, o, h1, h2, h3, rfl, hF⟩ := lw_comes l p e ha hc hk s m args below hf hfit hheap happ hpre
  exact ⟨k, _, h1, h2, h3, hL args s _, lw_frame hF⟩
theorem i_vc : Claimed_1_1 ∧ Claimed_1_2 := ⟨lw_limb limb_1_1 (fun args s t => by simp [limb_1_1, Cond.after, Cond.holds, Cond.value]), lw_limb limb_1_2 (fun args s t => Cond.after_iff.mpr (by
  first | (rw [show limb_1_2 = Cond.eq .result (.int 1) from rfl, Cond.eq_ints (x := 1) (y := 1) rfl rfl]; simp; done) | (simp [limb_1_2, Cond.value, Term.eval]; done)))⟩
