/-! the law, the calls 20 to 24 -/
set_option maxRecDepth 20000 in
theorem la_20 {p : Program} {l : Launch} {e : Env} {s : State} {m : MethodId} {args : Array Value} {below : List Frame} {meth : Method} {c : Code} {H : Heap} {locs : List Loc} {cells slots : Nat} {Q : State → Prop} {ls : Array Slot} {G : CG} {A : Nat → Prop} {b0 L i b : Nat} {xs : Nat → Int32} {a : Nat → Nat} {ad : Nat → Nat → Nat} {rd : Nat → Nat} {zt sc pa ks kp ta dr fo tr ch : RS} {sh : Nat → RS} {zr : RS} (U : lU p s m args c G A b0 L xs i cells slots a b ls) (hI : iV zt sc pa ks kp ta sh zr) (w : cW G A s (bLs G a ad b rd zt sc pa ks kp ta dr fo tr ch sh zr).flatten H locs) (kk : lG p l e s m args below meth c cells slots Q ls G A a ad b rd) : W p l e room_1 s m args below meth c H locs cells slots Q (F0 m 638 ls []) := by
  obtain ⟨X, hml, hT, hX, hbl, hbA, hL, hi, hf, hl⟩ := U
  obtain ⟨⟨S, u, x, P, hv, hsc, hrs, hcp, hrp, hlp⟩, ⟨n, T, hct⟩, ⟨Lh, N9, I9, hih⟩, h6, hlt, hM⟩ := hI
  have hx := X.1
  have hb := X.2.1
  refine lv_aload_n hx hb dL_law_638 rfl (lv_at hl 1 rfl) ?_
  refine la_ld X hX hbl hbA w hl (k := 1) (by decide) (by omega) hL dL_law_639 dL_law_640 dL_law_641 dL_law_642 dL_law_643 ?_
  refine la_ld X hX hbl hbA w hl (k := 2) (by decide) (by omega) hL dL_law_644 dL_law_645 dL_law_646 dL_law_647 dL_law_648 ?_
  obtain ⟨wr, w1, bk⟩ := bq_c5 w
  refine gl_i (own := RL) (C := RX7) (ci := 6) (rest := []) X hml hl.1 (c7_fields l G a ad zt (sc, fo, tr, ch) (xs (i + 1)) (xs (i + 2)) S hsc hv.1 hv.2.1 (fun h9 => vS_cm hv h9)) ok7_fields wm_L_97 ⟨Nat.le_of_ble_eq_true rfl, Nat.le_of_ble_eq_true rfl⟩ hf w1 rfl rfl rfl (Nat.le_of_ble_eq_true rfl) dL_law_649 (fun r1 z1 H locs hr1 w1 => ?_)
  have w := bk z1.1 z1.2.1 z1.2.2.1 z1.2.2.2 H locs w1
  refine lv_aload_n hx hb dL_law_652 rfl (lv_at hl 2 rfl) ?_
  refine la_ld X hX hbl hbA w hl (k := 1) (by decide) (by omega) hL dL_law_653 dL_law_654 dL_law_655 dL_law_656 dL_law_657 ?_
  refine la_ld X hX hbl hbA w hl (k := 2) (by decide) (by omega) hL dL_law_658 dL_law_659 dL_law_660 dL_law_661 dL_law_662 ?_
  obtain ⟨wr2, w3, bk2⟩ := bq_cR w
  refine gr_i (own := RL) (rest := [.int r1]) X hml hl.1 (k_fields l (gR G b rd) zr (xs (i + 1)) (xs (i + 2)) S hrs hv.1 h6 hv.2.1 (fun h9 => vS_cm hv h9)) ok_fields wm_L_100 ⟨Nat.le_of_ble_eq_true rfl, Nat.le_of_ble_eq_true rfl⟩ hf w3 rfl (Nat.le_of_ble_eq_true rfl) dL_law_663 (fun r2 z2 H locs hr2 w3 => ?_)
  have w := bk2 z2 H locs w3
  have hF := fx_of hr2.2.2
  refine lv_icmp_eq (tgt := 1078) hx hb dL_law_666 (by decide) (fun _ => ?_) (fun c9 => absurd (hr1.1.trans hr2.1.symm) c9)
  exact kk _ _ _ _ _ _ _ _ _ _ _ _ _ _ (⟨⟨nx_flds S (xs (i + 1)) (xs (i + 2)), u, x, P, vS_flds hv _ _, hr1.2, hr2.2.1, (by rw [(lE_flds S _ _).1]; exact hcp), fx_pa hrp hF (by decide) (by decide), lP_flds hlp _ _⟩, ⟨n, T, iT_fx hct hF (by decide) (by decide)⟩, ⟨Lh, N9, I9, iH_fx hih hF (by decide) (by decide) (by decide)⟩, (hF.1 6 (by decide)).trans h6, iL_fx hlt hF (by decide), iM_fx hM hF (by decide) (by decide)⟩) w
set_option maxRecDepth 20000 in
theorem la_21 {p : Program} {l : Launch} {e : Env} {s : State} {m : MethodId} {args : Array Value} {below : List Frame} {meth : Method} {c : Code} {H : Heap} {locs : List Loc} {cells slots : Nat} {Q : State → Prop} {ls : Array Slot} {G : CG} {A : Nat → Prop} {b0 L i b : Nat} {xs : Nat → Int32} {a : Nat → Nat} {ad : Nat → Nat → Nat} {rd : Nat → Nat} {zt sc pa ks kp ta dr fo tr ch : RS} {sh : Nat → RS} {zr : RS} (U : lU p s m args c G A b0 L xs i cells slots a b ls) (hI : iV zt sc pa ks kp ta sh zr) (w : cW G A s (bLs G a ad b rd zt sc pa ks kp ta dr fo tr ch sh zr).flatten H locs) (kk : lG p l e s m args below meth c cells slots Q ls G A a ad b rd) : W p l e room_1 s m args below meth c H locs cells slots Q (F0 m 671 ls []) := by
  obtain ⟨X, hml, hT, hX, hbl, hbA, hL, hi, hf, hl⟩ := U
  obtain ⟨⟨S, u, x, P, hv, hsc, hrs, hcp, hrp, hlp⟩, ⟨n, T, hct⟩, ⟨Lh, N9, I9, hih⟩, h6, hlt, hM⟩ := hI
  have hx := X.1
  have hb := X.2.1
  refine lv_aload_n hx hb dL_law_671 rfl (lv_at hl 1 rfl) ?_
  obtain ⟨wr, w1, bk⟩ := bq_c6 w
  refine gl_i (own := RL) (C := RX7) (ci := 6) (rest := []) X hml hl.1 (c7_image l G a ad (zt, sc, pa, ks, kp)) ok7_image wm_L_101 ⟨Nat.le_of_ble_eq_true rfl, Nat.le_of_ble_eq_true rfl⟩ hf w1 rfl rfl rfl (Nat.le_of_ble_eq_true rfl) dL_law_672 (fun r1 z1 H locs hr1 w1 => ?_)
  have w := bk z1.1 z1.2.1 z1.2.2.1 z1.2.2.2.1 z1.2.2.2.2 H locs w1
  refine lv_aload_n hx hb dL_law_675 rfl (lv_at hl 2 rfl) ?_
  obtain ⟨wr2, w3, bk2⟩ := bq_cR w
  refine gr_i (own := RL) (rest := [.int r1]) X hml hl.1 (k_image l (gR G b rd) zr) ok_image wm_L_104 ⟨Nat.le_of_ble_eq_true rfl, Nat.le_of_ble_eq_true rfl⟩ hf w3 rfl (Nat.le_of_ble_eq_true rfl) dL_law_676 (fun r2 z2 H locs hr2 w3 => ?_)
  have w := bk2 z2 H locs w3
  have hF := fx_of hr2.2.2.2
  refine lv_icmp_eq (tgt := 1078) hx hb dL_law_679 (by decide) (fun _ => ?_) (fun c9 => absurd (hr1.1.trans hr2.1.symm) c9)
  exact kk _ _ _ _ _ _ _ _ _ _ _ _ _ _ (⟨⟨S, u, x, P, hv, (by rw [hr1.2.2.2.2.1]; exact hsc), fx_sc hrs hF (by decide) (by decide) (by decide) (by decide) (by decide) (by decide), (by rw [hr1.2.2.2.2.2]; exact hcp), fx_pa hrp hF (by decide) (by decide), hlp⟩, ⟨n, T, iT_fx hct hF (by decide) (by decide)⟩, ⟨Lh, N9, I9, iH_fx hih hF (by decide) (by decide) (by decide)⟩, (hF.1 6 (by decide)).trans h6, iL_fx hlt hF (by decide), ⟨1, zr, Nat.le_refl _, hr1.2.2.2.1, hr2.2.2.1, hr2.2.1, fun _ => ⟨S, u, x, P, hv, cEq_c hr1.2.1 hv.1.2.1 hcp.2.2.2.2.1 hsc, hrs, pEq_p hr1.2.2.1 hcp, hrp, hlp⟩⟩⟩) w
set_option maxRecDepth 20000 in
theorem la_22 {p : Program} {l : Launch} {e : Env} {s : State} {m : MethodId} {args : Array Value} {below : List Frame} {meth : Method} {c : Code} {H : Heap} {locs : List Loc} {cells slots : Nat} {Q : State → Prop} {ls : Array Slot} {G : CG} {A : Nat → Prop} {b0 L i b : Nat} {xs : Nat → Int32} {a : Nat → Nat} {ad : Nat → Nat → Nat} {rd : Nat → Nat} {zt sc pa ks kp ta dr fo tr ch : RS} {sh : Nat → RS} {zr : RS} (U : lU p s m args c G A b0 L xs i cells slots a b ls) (hI : iV zt sc pa ks kp ta sh zr) (w : cW G A s (bLs G a ad b rd zt sc pa ks kp ta dr fo tr ch sh zr).flatten H locs) (kk : lG p l e s m args below meth c cells slots Q ls G A a ad b rd) : W p l e room_1 s m args below meth c H locs cells slots Q (F0 m 684 ls []) := by
  obtain ⟨X, hml, hT, hX, hbl, hbA, hL, hi, hf, hl⟩ := U
  obtain ⟨⟨S, u, x, P, hv, hsc, hrs, hcp, hrp, hlp⟩, ⟨n, T, hct⟩, ⟨Lh, N9, I9, hih⟩, h6, hlt, hM⟩ := hI
  have hx := X.1
  have hb := X.2.1
  refine lv_aload_n hx hb dL_law_684 rfl (lv_at hl 1 rfl) ?_
  obtain ⟨b9, zI, m1, m2, m3, m4, m5⟩ := hM
  obtain ⟨wr, w1, bk⟩ := bq_c6 w
  refine gl_i (own := RL) (C := RX7) (ci := 6) (rest := []) X hml hl.1 (c7_restore l G a ad (zt, sc, pa, ks, kp) b9 m2 m1) ok7_restore wm_L_105 ⟨Nat.le_of_ble_eq_true rfl, Nat.le_of_ble_eq_true rfl⟩ hf w1 rfl rfl rfl (Nat.le_of_ble_eq_true rfl) dL_law_685 (fun r1 z1 H locs hr1 w1 => ?_)
  have w := bk z1.1 z1.2.1 z1.2.2.1 z1.2.2.2.1 z1.2.2.2.2 H locs w1
  refine lv_aload_n hx hb dL_law_688 rfl (lv_at hl 2 rfl) ?_
  obtain ⟨wr2, w3, bk2⟩ := bq_cR w
  refine gr_i (own := RL) (rest := [.int r1]) X hml hl.1 (k_restore l (gR G b rd) zr zI m4 b9 m3 m1) ok_restore wm_L_108 ⟨Nat.le_of_ble_eq_true rfl, Nat.le_of_ble_eq_true rfl⟩ hf w3 rfl (Nat.le_of_ble_eq_true rfl) dL_law_689 (fun r2 z2 H locs hr2 w3 => ?_)
  have w := bk2 z2 H locs w3
  by_cases q9 : b9 = 0
  · obtain ⟨f1, f2⟩ := hr1.1 q9
    obtain ⟨f3, f4⟩ := hr2.1 q9
    refine lv_icmp_eq (tgt := 1078) hx hb dL_law_692 (by decide) (fun _ => ?_) (fun c9 => absurd (f1.trans f3.symm) c9)
    exact kk _ _ _ _ _ _ _ _ _ _ _ _ _ _ (⟨⟨S, u, x, P, hv, (by rw [f2]; exact hsc), (by rw [f4]; exact hrs), (by rw [f2]; exact hcp), (by rw [f4]; exact hrp), hlp⟩, ⟨n, T, (by rw [f4]; exact hct)⟩, ⟨Lh, N9, I9, (by rw [f4]; exact hih)⟩, (by rw [f4]; exact h6), (by rw [f4]; exact hlt), (by rw [f2, f4]; exact ⟨b9, zI, m1, m2, m3, m4, m5⟩)⟩) w
  · obtain ⟨f1, f2, f3, f4, f5, f6⟩ := hr1.2 q9
    obtain ⟨f7, f8, f9⟩ := hr2.2 q9
    have hF := fx_of f9
    obtain ⟨Sa9, ua9, xa9, Pa9, i1, i2, i3, i4, i5, i6⟩ := m5 q9
    refine lv_icmp_eq (tgt := 1078) hx hb dL_law_692 (by decide) (fun _ => ?_) (fun c9 => absurd (f1.trans f7.symm) c9)
    exact kk _ _ _ _ _ _ _ _ _ _ _ _ _ _ (⟨⟨Sa9, ua9, xa9, Pa9, i1, cEq_c f2 i1.1.2.1 i4.2.2.2.2.1 i2, rSc_as f8 i3, pEq_p f3 i4, rPa_as f8 i5, i6⟩, ⟨n, T, iT_fx hct hF (by decide) (by decide)⟩, ⟨Lh, N9, I9, iH_fx hih hF (by decide) (by decide) (by decide)⟩, (hF.1 6 (by decide)).trans h6, iL_fx hlt hF (by decide), iM_fx ⟨b9, zI, m1, (by rw [f4]; exact m2), m3, m4, (by rw [f5, f6]; exact m5)⟩ hF (by decide) (by decide)⟩) w
set_option maxRecDepth 20000 in
theorem la_23 {p : Program} {l : Launch} {e : Env} {s : State} {m : MethodId} {args : Array Value} {below : List Frame} {meth : Method} {c : Code} {H : Heap} {locs : List Loc} {cells slots : Nat} {Q : State → Prop} {ls : Array Slot} {G : CG} {A : Nat → Prop} {b0 L i b : Nat} {xs : Nat → Int32} {a : Nat → Nat} {ad : Nat → Nat → Nat} {rd : Nat → Nat} {zt sc pa ks kp ta dr fo tr ch : RS} {sh : Nat → RS} {zr : RS} (U : lU p s m args c G A b0 L xs i cells slots a b ls) (hI : iV zt sc pa ks kp ta sh zr) (w : cW G A s (bLs G a ad b rd zt sc pa ks kp ta dr fo tr ch sh zr).flatten H locs) (kk : lG p l e s m args below meth c cells slots Q ls G A a ad b rd) : W p l e room_1 s m args below meth c H locs cells slots Q (F0 m 697 ls []) := by
  obtain ⟨X, hml, hT, hX, hbl, hbA, hL, hi, hf, hl⟩ := U
  obtain ⟨⟨S, u, x, P, hv, hsc, hrs, hcp, hrp, hlp⟩, ⟨n, T, hct⟩, ⟨Lh, N9, I9, hih⟩, h6, hlt, hM⟩ := hI
  have hx := X.1
  have hb := X.2.1
  refine lv_aload_n hx hb dL_law_697 rfl (lv_at hl 1 rfl) ?_
  refine la_ld X hX hbl hbA w hl (k := 1) (by decide) (by omega) hL dL_law_698 dL_law_699 dL_law_700 dL_law_701 dL_law_702 ?_
  refine la_ld X hX hbl hbA w hl (k := 2) (by decide) (by omega) hL dL_law_703 dL_law_704 dL_law_705 dL_law_706 dL_law_707 ?_
  refine la_ld X hX hbl hbA w hl (k := 3) (by decide) (by omega) hL dL_law_708 dL_law_709 dL_law_710 dL_law_711 dL_law_712 ?_
  refine la_ld X hX hbl hbA w hl (k := 4) (by decide) (by omega) hL dL_law_713 dL_law_714 dL_law_715 dL_law_716 dL_law_717 ?_
  refine la_ld X hX hbl hbA w hl (k := 5) (by decide) (by omega) hL dL_law_718 dL_law_719 dL_law_720 dL_law_721 dL_law_722 ?_
  obtain ⟨tq9, hq4, hx9⟩ := rn_ex (xs (i + 2))
  obtain ⟨wr, w1, bk⟩ := bq_q2 hq4 w
  refine gl_p (own := RL) (C := RX7) (ci := 6) (rest := []) X hml hl.1 (c7_strides l G a ad zt tq9 (sc, sh tq9) (xs (i + 1)) (xs (i + 2)) (xs (i + 3)) (xs (i + 4)) (xs (i + 5)) S hsc hv.1 Lh N9 I9 (hih.1 tq9 hq4) hq4 hx9) ok7_strides wm_L_109 ⟨Nat.le_of_ble_eq_true rfl, Nat.le_of_ble_eq_true rfl⟩ hf w1 rfl rfl rfl (Nat.le_of_ble_eq_true rfl) dL_law_723 (fun r1 hr1 => ?_)
  refine lv_aload_n hx hb dL_law_726 rfl (lv_at hl 2 rfl) ?_
  refine la_ld X hX hbl hbA w hl (k := 1) (by decide) (by omega) hL dL_law_727 dL_law_728 dL_law_729 dL_law_730 dL_law_731 ?_
  refine la_ld X hX hbl hbA w hl (k := 2) (by decide) (by omega) hL dL_law_732 dL_law_733 dL_law_734 dL_law_735 dL_law_736 ?_
  refine la_ld X hX hbl hbA w hl (k := 3) (by decide) (by omega) hL dL_law_737 dL_law_738 dL_law_739 dL_law_740 dL_law_741 ?_
  refine la_ld X hX hbl hbA w hl (k := 4) (by decide) (by omega) hL dL_law_742 dL_law_743 dL_law_744 dL_law_745 dL_law_746 ?_
  refine la_ld X hX hbl hbA w hl (k := 5) (by decide) (by omega) hL dL_law_747 dL_law_748 dL_law_749 dL_law_750 dL_law_751 ?_
  obtain ⟨wr2, w3, bk2⟩ := bq_cR w
  refine gr_p (own := RL) (rest := [.int r1]) X hml hl.1 (k_strides l (gR G b rd) zr (xs (i + 1)) (xs (i + 2)) (xs (i + 3)) (xs (i + 4)) (xs (i + 5)) S hrs hv.1 Lh N9 I9 hih.2) ok_strides wm_L_113 ⟨Nat.le_of_ble_eq_true rfl, Nat.le_of_ble_eq_true rfl⟩ hf w3 rfl (Nat.le_of_ble_eq_true rfl) dL_law_752 (fun r2 hr2 => ?_)
  refine lv_icmp_eq (tgt := 1078) hx hb dL_law_755 (by decide) (fun _ => ?_) (fun c9 => absurd (hr1.trans hr2.symm) c9)
  exact kk _ _ _ _ _ _ _ _ _ _ _ _ _ _ (⟨⟨S, u, x, P, hv, hsc, hrs, hcp, hrp, hlp⟩, ⟨n, T, hct⟩, ⟨Lh, N9, I9, hih⟩, h6, hlt, hM⟩) w
set_option maxRecDepth 20000 in
theorem la_24 {p : Program} {l : Launch} {e : Env} {s : State} {m : MethodId} {args : Array Value} {below : List Frame} {meth : Method} {c : Code} {H : Heap} {locs : List Loc} {cells slots : Nat} {Q : State → Prop} {ls : Array Slot} {G : CG} {A : Nat → Prop} {b0 L i b : Nat} {xs : Nat → Int32} {a : Nat → Nat} {ad : Nat → Nat → Nat} {rd : Nat → Nat} {zt sc pa ks kp ta dr fo tr ch : RS} {sh : Nat → RS} {zr : RS} (U : lU p s m args c G A b0 L xs i cells slots a b ls) (hI : iV zt sc pa ks kp ta sh zr) (w : cW G A s (bLs G a ad b rd zt sc pa ks kp ta dr fo tr ch sh zr).flatten H locs) (kk : lG p l e s m args below meth c cells slots Q ls G A a ad b rd) : W p l e room_1 s m args below meth c H locs cells slots Q (F0 m 760 ls []) := by
  obtain ⟨X, hml, hT, hX, hbl, hbA, hL, hi, hf, hl⟩ := U
  obtain ⟨⟨S, u, x, P, hv, hsc, hrs, hcp, hrp, hlp⟩, ⟨n, T, hct⟩, ⟨Lh, N9, I9, hih⟩, h6, hlt, hM⟩ := hI
  have hx := X.1
  have hb := X.2.1
  refine lv_aload_n hx hb dL_law_760 rfl (lv_at hl 1 rfl) ?_
  refine la_ld X hX hbl hbA w hl (k := 1) (by decide) (by omega) hL dL_law_761 dL_law_762 dL_law_763 dL_law_764 dL_law_765 ?_
  refine la_ld X hX hbl hbA w hl (k := 2) (by decide) (by omega) hL dL_law_766 dL_law_767 dL_law_768 dL_law_769 dL_law_770 ?_
  refine la_ld X hX hbl hbA w hl (k := 3) (by decide) (by omega) hL dL_law_771 dL_law_772 dL_law_773 dL_law_774 dL_law_775 ?_
  refine la_ld X hX hbl hbA w hl (k := 4) (by decide) (by omega) hL dL_law_776 dL_law_777 dL_law_778 dL_law_779 dL_law_780 ?_
  obtain ⟨tq9, hq4, hx9⟩ := rn_ex (xs (i + 1))
  obtain ⟨wr, w1, bk⟩ := bq_q2 hq4 w
  refine gl_p (own := RL) (C := RX7) (ci := 6) (rest := []) X hml hl.1 (c7_far l G a ad zt tq9 (sc, sh tq9) (xs (i + 1)) (xs (i + 2)) (xs (i + 3)) (xs (i + 4)) S hsc hv.1 Lh N9 I9 (hih.1 tq9 hq4) hq4 hx9) ok7_far wm_L_114 ⟨Nat.le_of_ble_eq_true rfl, Nat.le_of_ble_eq_true rfl⟩ hf w1 rfl rfl rfl (Nat.le_of_ble_eq_true rfl) dL_law_781 (fun r1 hr1 => ?_)
  refine lv_aload_n hx hb dL_law_784 rfl (lv_at hl 2 rfl) ?_
  refine la_ld X hX hbl hbA w hl (k := 1) (by decide) (by omega) hL dL_law_785 dL_law_786 dL_law_787 dL_law_788 dL_law_789 ?_
  refine la_ld X hX hbl hbA w hl (k := 2) (by decide) (by omega) hL dL_law_790 dL_law_791 dL_law_792 dL_law_793 dL_law_794 ?_
  refine la_ld X hX hbl hbA w hl (k := 3) (by decide) (by omega) hL dL_law_795 dL_law_796 dL_law_797 dL_law_798 dL_law_799 ?_
  refine la_ld X hX hbl hbA w hl (k := 4) (by decide) (by omega) hL dL_law_800 dL_law_801 dL_law_802 dL_law_803 dL_law_804 ?_
  obtain ⟨wr2, w3, bk2⟩ := bq_cR w
  refine gr_p (own := RL) (rest := [.int r1]) X hml hl.1 (k_far l (gR G b rd) zr (xs (i + 1)) (xs (i + 2)) (xs (i + 3)) (xs (i + 4)) S hrs hv.1 h6 Lh N9 I9 hih.2) ok_far wm_L_118 ⟨Nat.le_of_ble_eq_true rfl, Nat.le_of_ble_eq_true rfl⟩ hf w3 rfl (Nat.le_of_ble_eq_true rfl) dL_law_805 (fun r2 hr2 => ?_)
  refine lv_icmp_eq (tgt := 1078) hx hb dL_law_808 (by decide) (fun _ => ?_) (fun c9 => absurd (hr1.trans hr2.symm) c9)
  exact kk _ _ _ _ _ _ _ _ _ _ _ _ _ _ (⟨⟨S, u, x, P, hv, hsc, hrs, hcp, hrp, hlp⟩, ⟨n, T, hct⟩, ⟨Lh, N9, I9, hih⟩, h6, hlt, hM⟩) w
