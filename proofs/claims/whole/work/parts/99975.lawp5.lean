/-! the law, the calls 25 to 29 -/
set_option maxRecDepth 20000 in
theorem la_25 {p : Program} {l : Launch} {e : Env} {s : State} {m : MethodId} {args : Array Value} {below : List Frame} {meth : Method} {c : Code} {H : Heap} {locs : List Loc} {cells slots : Nat} {Q : State → Prop} {ls : Array Slot} {G : CG} {A : Nat → Prop} {b0 L i b : Nat} {xs : Nat → Int32} {a : Nat → Nat} {ad : Nat → Nat → Nat} {rd : Nat → Nat} {zt sc pa ks kp ta dr fo tr ch : RS} {sh : Nat → RS} {zr : RS} (U : lU p s m args c G A b0 L xs i cells slots a b ls) (hI : iV zt sc pa ks kp ta sh zr) (w : cW G A s (bLs G a ad b rd zt sc pa ks kp ta dr fo tr ch sh zr).flatten H locs) (kk : lG p l e s m args below meth c cells slots Q ls G A a ad b rd) : W p l e room_1 s m args below meth c H locs cells slots Q (F0 m 813 ls []) := by
  obtain ⟨X, hml, hT, hX, hbl, hbA, hL, hi, hf, hl⟩ := U
  obtain ⟨⟨S, u, x, P, hv, hsc, hrs, hcp, hrp, hlp⟩, ⟨n, T, hct⟩, ⟨Lh, N9, I9, hih⟩, h6, hlt, hM⟩ := hI
  have hx := X.1
  have hb := X.2.1
  refine lv_aload_n hx hb dL_law_813 rfl (lv_at hl 1 rfl) ?_
  refine la_ld X hX hbl hbA w hl (k := 1) (by decide) (by omega) hL dL_law_814 dL_law_815 dL_law_816 dL_law_817 dL_law_818 ?_
  refine la_ld X hX hbl hbA w hl (k := 2) (by decide) (by omega) hL dL_law_819 dL_law_820 dL_law_821 dL_law_822 dL_law_823 ?_
  refine la_ld X hX hbl hbA w hl (k := 3) (by decide) (by omega) hL dL_law_824 dL_law_825 dL_law_826 dL_law_827 dL_law_828 ?_
  refine la_ld X hX hbl hbA w hl (k := 4) (by decide) (by omega) hL dL_law_829 dL_law_830 dL_law_831 dL_law_832 dL_law_833 ?_
  obtain ⟨tq9, hq4, hx9⟩ := rn_ex (xs (i + 2))
  obtain ⟨wr, w1, bk⟩ := bq_q3 hq4 w
  refine gl_i (own := RL) (C := RX7) (ci := 6) (rest := []) X hml hl.1 (c7_film l G a ad zt tq9 (sc, sh tq9, fo, tr, ch) (xs (i + 1)) (xs (i + 2)) (xs (i + 3)) (xs (i + 4)) S hsc hv.1 hv.2.1 Lh N9 I9 (hih.1 tq9 hq4) hq4 hx9) ok7_film wm_L_119 ⟨Nat.le_of_ble_eq_true rfl, Nat.le_of_ble_eq_true rfl⟩ hf w1 rfl rfl rfl (Nat.le_of_ble_eq_true rfl) dL_law_834 (fun r1 z1 H locs hr1 w1 => ?_)
  have w := bk z1.1 z1.2.1 z1.2.2.1 z1.2.2.2.1 z1.2.2.2.2 H locs w1
  refine lv_aload_n hx hb dL_law_837 rfl (lv_at hl 2 rfl) ?_
  refine la_ld X hX hbl hbA w hl (k := 1) (by decide) (by omega) hL dL_law_838 dL_law_839 dL_law_840 dL_law_841 dL_law_842 ?_
  refine la_ld X hX hbl hbA w hl (k := 2) (by decide) (by omega) hL dL_law_843 dL_law_844 dL_law_845 dL_law_846 dL_law_847 ?_
  refine la_ld X hX hbl hbA w hl (k := 3) (by decide) (by omega) hL dL_law_848 dL_law_849 dL_law_850 dL_law_851 dL_law_852 ?_
  refine la_ld X hX hbl hbA w hl (k := 4) (by decide) (by omega) hL dL_law_853 dL_law_854 dL_law_855 dL_law_856 dL_law_857 ?_
  obtain ⟨wr2, w3, bk2⟩ := bq_cR w
  refine gr_i (own := RL) (rest := [.int r1]) X hml hl.1 (k_film l (gR G b rd) zr (xs (i + 1)) (xs (i + 2)) (xs (i + 3)) (xs (i + 4)) S hrs hv.1 h6 hlt hv.2.1 Lh N9 I9 hih.2) ok_film wm_L_122 ⟨Nat.le_of_ble_eq_true rfl, Nat.le_of_ble_eq_true rfl⟩ hf w3 rfl (Nat.le_of_ble_eq_true rfl) dL_law_858 (fun r2 z2 H locs hr2 w3 => ?_)
  have w := bk2 z2 H locs w3
  have hF := hr2.2.2.2.2
  refine lv_icmp_eq (tgt := 1078) hx hb dL_law_861 (by decide) (fun _ => ?_) (fun c9 => absurd (hr1.1.trans hr2.1.symm) c9)
  exact kk _ _ _ _ _ _ _ _ _ _ _ _ _ _ (⟨⟨S, u, x, P, hv, (by rw [hr1.2.2]; exact hsc), hr2.2.1, hcp, fx_pa hrp hF (by decide) (by decide), hlp⟩, ⟨n, T, iT_fx hct hF (by decide) (by decide)⟩, ⟨Lh, N9, ni_film S Lh N9 I9 (xs (i + 1)) (xs (i + 2)) (xs (i + 3)) (xs (i + 4)), st_up hih.1 hr1.2.1 (fun t9 hn9 => ⟨rfl, rfl, ot_film hq4 hx9 hn9⟩), hr2.2.2.2.1⟩, (hF.1 6 (by decide)).trans h6, hr2.2.2.1, iM_fx hM hF (by decide) (by decide)⟩) w
set_option maxRecDepth 20000 in
theorem la_26 {p : Program} {l : Launch} {e : Env} {s : State} {m : MethodId} {args : Array Value} {below : List Frame} {meth : Method} {c : Code} {H : Heap} {locs : List Loc} {cells slots : Nat} {Q : State → Prop} {ls : Array Slot} {G : CG} {A : Nat → Prop} {b0 L i b : Nat} {xs : Nat → Int32} {a : Nat → Nat} {ad : Nat → Nat → Nat} {rd : Nat → Nat} {zt sc pa ks kp ta dr fo tr ch : RS} {sh : Nat → RS} {zr : RS} (U : lU p s m args c G A b0 L xs i cells slots a b ls) (hI : iV zt sc pa ks kp ta sh zr) (w : cW G A s (bLs G a ad b rd zt sc pa ks kp ta dr fo tr ch sh zr).flatten H locs) (kk : lG p l e s m args below meth c cells slots Q ls G A a ad b rd) : W p l e room_1 s m args below meth c H locs cells slots Q (F0 m 866 ls []) := by
  obtain ⟨X, hml, hT, hX, hbl, hbA, hL, hi, hf, hl⟩ := U
  obtain ⟨⟨S, u, x, P, hv, hsc, hrs, hcp, hrp, hlp⟩, ⟨n, T, hct⟩, ⟨Lh, N9, I9, hih⟩, h6, hlt, hM⟩ := hI
  have hx := X.1
  have hb := X.2.1
  refine lv_aload_n hx hb dL_law_866 rfl (lv_at hl 1 rfl) ?_
  refine la_ld X hX hbl hbA w hl (k := 1) (by decide) (by omega) hL dL_law_867 dL_law_868 dL_law_869 dL_law_870 dL_law_871 ?_
  refine la_ld X hX hbl hbA w hl (k := 2) (by decide) (by omega) hL dL_law_872 dL_law_873 dL_law_874 dL_law_875 dL_law_876 ?_
  refine la_ld X hX hbl hbA w hl (k := 3) (by decide) (by omega) hL dL_law_877 dL_law_878 dL_law_879 dL_law_880 dL_law_881 ?_
  obtain ⟨tq9, hq4, hx9⟩ := rn_ex (xs (i + 1))
  obtain ⟨wr, w1, bk⟩ := bq_q1 hq4 w
  refine gl_i (own := RL) (C := RX7) (ci := 6) (rest := []) X hml hl.1 (c7_sheet l G a ad zt tq9 (sh tq9) (xs (i + 1)) (xs (i + 2)) (xs (i + 3)) Lh N9 I9 (hih.1 tq9 hq4) hq4 hx9) ok7_sheet wm_L_123 ⟨Nat.le_of_ble_eq_true rfl, Nat.le_of_ble_eq_true rfl⟩ hf w1 rfl rfl rfl (Nat.le_of_ble_eq_true rfl) dL_law_882 (fun r1 z1 H locs hr1 w1 => ?_)
  have w := bk z1 H locs w1
  refine lv_aload_n hx hb dL_law_885 rfl (lv_at hl 2 rfl) ?_
  refine la_ld X hX hbl hbA w hl (k := 1) (by decide) (by omega) hL dL_law_886 dL_law_887 dL_law_888 dL_law_889 dL_law_890 ?_
  refine la_ld X hX hbl hbA w hl (k := 2) (by decide) (by omega) hL dL_law_891 dL_law_892 dL_law_893 dL_law_894 dL_law_895 ?_
  refine la_ld X hX hbl hbA w hl (k := 3) (by decide) (by omega) hL dL_law_896 dL_law_897 dL_law_898 dL_law_899 dL_law_900 ?_
  obtain ⟨wr2, w3, bk2⟩ := bq_cR w
  refine gr_i (own := RL) (rest := [.int r1]) X hml hl.1 (k_sheet l (gR G b rd) zr (xs (i + 1)) (xs (i + 2)) (xs (i + 3)) Lh N9 I9 hih.2) ok_sheet wm_L_126 ⟨Nat.le_of_ble_eq_true rfl, Nat.le_of_ble_eq_true rfl⟩ hf w3 rfl (Nat.le_of_ble_eq_true rfl) dL_law_901 (fun r2 z2 H locs hr2 w3 => ?_)
  have w := bk2 z2 H locs w3
  have hF := hr2.2.2.2
  have hW : ∃ (L N9 : Nat → Nat) (I9 : Nat → Nat → Int64), iH (va_up sh tq9 z1) z2 L N9 I9 := by
    by_cases q9 : od_sheet (xs (i + 1)) (xs (i + 2)) (xs (i + 3))
    · have e9 : (xs (i + 1)).toInt.toNat = tq9 := rn_at hq4 (hx9 q9.1.1)
      have g1 := hr1.2.1 q9
      have g2 := hr2.2.1 q9
      rw [e9] at g2
      refine ⟨_, _, _, st_up hih.1 ?_ ?_, g2⟩
      · rw [vu_me9, vu_me9, vu_me9]; exact g1
      · exact fun t9 hn9 => ⟨vu_ne9 _ _ _ _ hn9, vu_ne9 _ _ _ _ hn9, vu_ne9 _ _ _ _ hn9⟩
    · have g1 := hr1.2.2 q9
      have g2 := hr2.2.2.1 q9
      refine ⟨Lh, N9, I9, st_up hih.1 ?_ (fun _ _ => ⟨rfl, rfl, rfl⟩), ?_⟩
      · rw [g1]; exact hih.1 tq9 hq4
      · rw [g2]; exact hih.2
  refine lv_icmp_eq (tgt := 1078) hx hb dL_law_904 (by decide) (fun _ => ?_) (fun c9 => absurd (hr1.1.trans hr2.1.symm) c9)
  exact kk _ _ _ _ _ _ _ _ _ _ _ _ _ _ (⟨⟨S, u, x, P, hv, hsc, fx_sc hrs hF (by decide) (by decide) (by decide) (by decide) (by decide) (by decide), hcp, fx_pa hrp hF (by decide) (by decide), hlp⟩, ⟨n, T, iT_fx hct hF (by decide) (by decide)⟩, hW, (hF.1 6 (by decide)).trans h6, iL_fx hlt hF (by decide), iM_fx hM hF (by decide) (by decide)⟩) w
set_option maxRecDepth 20000 in
theorem la_27 {p : Program} {l : Launch} {e : Env} {s : State} {m : MethodId} {args : Array Value} {below : List Frame} {meth : Method} {c : Code} {H : Heap} {locs : List Loc} {cells slots : Nat} {Q : State → Prop} {ls : Array Slot} {G : CG} {A : Nat → Prop} {b0 L i b : Nat} {xs : Nat → Int32} {a : Nat → Nat} {ad : Nat → Nat → Nat} {rd : Nat → Nat} {zt sc pa ks kp ta dr fo tr ch : RS} {sh : Nat → RS} {zr : RS} (U : lU p s m args c G A b0 L xs i cells slots a b ls) (hI : iV zt sc pa ks kp ta sh zr) (w : cW G A s (bLs G a ad b rd zt sc pa ks kp ta dr fo tr ch sh zr).flatten H locs) (kk : lG p l e s m args below meth c cells slots Q ls G A a ad b rd) : W p l e room_1 s m args below meth c H locs cells slots Q (F0 m 909 ls []) := by
  obtain ⟨X, hml, hT, hX, hbl, hbA, hL, hi, hf, hl⟩ := U
  obtain ⟨⟨S, u, x, P, hv, hsc, hrs, hcp, hrp, hlp⟩, ⟨n, T, hct⟩, ⟨Lh, N9, I9, hih⟩, h6, hlt, hM⟩ := hI
  have hx := X.1
  have hb := X.2.1
  refine lv_aload_n hx hb dL_law_909 rfl (lv_at hl 1 rfl) ?_
  refine la_ld X hX hbl hbA w hl (k := 1) (by decide) (by omega) hL dL_law_910 dL_law_911 dL_law_912 dL_law_913 dL_law_914 ?_
  obtain ⟨tq9, hq4, hx9⟩ := rn_ex (xs (i + 1))
  obtain ⟨wr, w1, bk⟩ := bq_q1 hq4 w
  refine gl_i (own := RL) (C := RX7) (ci := 6) (rest := []) X hml hl.1 (c7_drop l G a ad zt tq9 (sh tq9) (xs (i + 1)) Lh N9 I9 (hih.1 tq9 hq4) hq4 hx9) ok7_drop wm_L_127 ⟨Nat.le_of_ble_eq_true rfl, Nat.le_of_ble_eq_true rfl⟩ hf w1 rfl rfl rfl (Nat.le_of_ble_eq_true rfl) dL_law_915 (fun r1 z1 H locs hr1 w1 => ?_)
  have w := bk z1 H locs w1
  refine lv_aload_n hx hb dL_law_918 rfl (lv_at hl 2 rfl) ?_
  refine la_ld X hX hbl hbA w hl (k := 1) (by decide) (by omega) hL dL_law_919 dL_law_920 dL_law_921 dL_law_922 dL_law_923 ?_
  obtain ⟨wr2, w3, bk2⟩ := bq_cR w
  refine gr_i (own := RL) (rest := [.int r1]) X hml hl.1 (k_drop l (gR G b rd) zr (xs (i + 1)) Lh N9 I9 hih.2) ok_drop wm_L_130 ⟨Nat.le_of_ble_eq_true rfl, Nat.le_of_ble_eq_true rfl⟩ hf w3 rfl (Nat.le_of_ble_eq_true rfl) dL_law_924 (fun r2 z2 H locs hr2 w3 => ?_)
  have w := bk2 z2 H locs w3
  have hF := hr2.2.2
  have hW : ∃ (L N9 : Nat → Nat) (I9 : Nat → Nat → Int64), iH (va_up sh tq9 z1) z2 L N9 I9 := by
    have g2 := hr2.2.1
    unfold nl_drop at g2
    by_cases q9 : 0 ≤ (xs (i + 1)).toInt ∧ (xs (i + 1)).toInt ≤ 3
    · have e9 : (xs (i + 1)).toInt.toNat = tq9 := rn_at hq4 (hx9 q9)
      have g1 := hr1.2.1 q9
      rw [if_pos q9, e9] at g2
      refine ⟨_, _, _, st_up hih.1 ?_ ?_, g2⟩
      · rw [vu_me9]; exact g1
      · exact fun t9 hn9 => ⟨vu_ne9 _ _ _ _ hn9, rfl, rfl⟩
    · have g1 := hr1.2.2 q9
      rw [if_neg q9] at g2
      refine ⟨Lh, N9, I9, st_up hih.1 ?_ (fun _ _ => ⟨rfl, rfl, rfl⟩), g2⟩
      rw [g1]; exact hih.1 tq9 hq4
  refine lv_icmp_eq (tgt := 1078) hx hb dL_law_927 (by decide) (fun _ => ?_) (fun c9 => absurd (hr1.1.trans hr2.1.symm) c9)
  exact kk _ _ _ _ _ _ _ _ _ _ _ _ _ _ (⟨⟨S, u, x, P, hv, hsc, fx_sc hrs hF (by decide) (by decide) (by decide) (by decide) (by decide) (by decide), hcp, fx_pa hrp hF (by decide) (by decide), hlp⟩, ⟨n, T, iT_fx hct hF (by decide) (by decide)⟩, hW, (hF.1 6 (by decide)).trans h6, iL_fx hlt hF (by decide), iM_fx hM hF (by decide) (by decide)⟩) w
set_option maxRecDepth 20000 in
theorem la_28 {p : Program} {l : Launch} {e : Env} {s : State} {m : MethodId} {args : Array Value} {below : List Frame} {meth : Method} {c : Code} {H : Heap} {locs : List Loc} {cells slots : Nat} {Q : State → Prop} {ls : Array Slot} {G : CG} {A : Nat → Prop} {b0 L i b : Nat} {xs : Nat → Int32} {a : Nat → Nat} {ad : Nat → Nat → Nat} {rd : Nat → Nat} {zt sc pa ks kp ta dr fo tr ch : RS} {sh : Nat → RS} {zr : RS} (U : lU p s m args c G A b0 L xs i cells slots a b ls) (hI : iV zt sc pa ks kp ta sh zr) (w : cW G A s (bLs G a ad b rd zt sc pa ks kp ta dr fo tr ch sh zr).flatten H locs) (kk : lG p l e s m args below meth c cells slots Q ls G A a ad b rd) : W p l e room_1 s m args below meth c H locs cells slots Q (F0 m 932 ls []) := by
  obtain ⟨X, hml, hT, hX, hbl, hbA, hL, hi, hf, hl⟩ := U
  obtain ⟨⟨S, u, x, P, hv, hsc, hrs, hcp, hrp, hlp⟩, ⟨n, T, hct⟩, ⟨Lh, N9, I9, hih⟩, h6, hlt, hM⟩ := hI
  have hx := X.1
  have hb := X.2.1
  refine lv_aload_n hx hb dL_law_932 rfl (lv_at hl 1 rfl) ?_
  refine la_ld X hX hbl hbA w hl (k := 1) (by decide) (by omega) hL dL_law_933 dL_law_934 dL_law_935 dL_law_936 dL_law_937 ?_
  refine la_ld X hX hbl hbA w hl (k := 2) (by decide) (by omega) hL dL_law_938 dL_law_939 dL_law_940 dL_law_941 dL_law_942 ?_
  refine la_ld X hX hbl hbA w hl (k := 3) (by decide) (by omega) hL dL_law_943 dL_law_944 dL_law_945 dL_law_946 dL_law_947 ?_
  refine la_ld X hX hbl hbA w hl (k := 4) (by decide) (by omega) hL dL_law_948 dL_law_949 dL_law_950 dL_law_951 dL_law_952 ?_
  refine lv_i2l hx hb dL_law_953 rfl ?_
  refine lv_bipush (v := 32) hx hb dL_law_954 (by decide) ?_
  refine lv_lshl hx hb dL_law_956 rfl ?_
  refine la_ld X hX hbl hbA w hl (k := 5) (by decide) (by omega) hL dL_law_957 dL_law_958 dL_law_959 dL_law_960 dL_law_961 ?_
  refine lv_i2l hx hb dL_law_962 rfl ?_
  refine lv_ldc2 hx hb X.2.2.2.1 (X.2.2.1 _ wk_L_131) dL_law_963 ?_
  refine lv_land hx hb dL_law_966 ?_
  refine lv_lor hx hb dL_law_967 ?_
  obtain ⟨tq9, hq4, hx9⟩ := rn_ex (xs (i + 1))
  obtain ⟨wr, w1, bk⟩ := bq_q1 hq4 w
  refine gl_i (own := RL) (C := RX7) (ci := 6) (rest := []) X hml hl.1 (c7_item l G a ad zt tq9 (sh tq9) (xs (i + 1)) (xs (i + 2)) (xs (i + 3)) _ Lh N9 I9 (hih.1 tq9 hq4) hq4 hx9) ok7_item wm_L_133 ⟨Nat.le_of_ble_eq_true rfl, Nat.le_of_ble_eq_true rfl⟩ hf w1 rfl rfl rfl (Nat.le_of_ble_eq_true rfl) dL_law_968 (fun r1 z1 H locs hr1 w1 => ?_)
  have w := bk z1 H locs w1
  refine lv_aload_n hx hb dL_law_971 rfl (lv_at hl 2 rfl) ?_
  refine la_ld X hX hbl hbA w hl (k := 1) (by decide) (by omega) hL dL_law_972 dL_law_973 dL_law_974 dL_law_975 dL_law_976 ?_
  refine la_ld X hX hbl hbA w hl (k := 2) (by decide) (by omega) hL dL_law_977 dL_law_978 dL_law_979 dL_law_980 dL_law_981 ?_
  refine la_ld X hX hbl hbA w hl (k := 3) (by decide) (by omega) hL dL_law_982 dL_law_983 dL_law_984 dL_law_985 dL_law_986 ?_
  refine la_ld X hX hbl hbA w hl (k := 4) (by decide) (by omega) hL dL_law_987 dL_law_988 dL_law_989 dL_law_990 dL_law_991 ?_
  refine lv_i2l hx hb dL_law_992 rfl ?_
  refine lv_bipush (v := 32) hx hb dL_law_993 (by decide) ?_
  refine lv_lshl hx hb dL_law_995 rfl ?_
  refine la_ld X hX hbl hbA w hl (k := 5) (by decide) (by omega) hL dL_law_996 dL_law_997 dL_law_998 dL_law_999 dL_law_1000 ?_
  refine lv_i2l hx hb dL_law_1001 rfl ?_
  refine lv_ldc2 hx hb X.2.2.2.1 (X.2.2.1 _ wk_L_131) dL_law_1002 ?_
  refine lv_land hx hb dL_law_1005 ?_
  refine lv_lor hx hb dL_law_1006 ?_
  obtain ⟨wr2, w3, bk2⟩ := bq_cR w
  refine gr_i (own := RL) (rest := [.int r1]) X hml hl.1 (k_item l (gR G b rd) zr (xs (i + 1)) (xs (i + 2)) (xs (i + 3)) _ Lh N9 I9 hih.2) ok_item wm_L_137 ⟨Nat.le_of_ble_eq_true rfl, Nat.le_of_ble_eq_true rfl⟩ hf w3 rfl (Nat.le_of_ble_eq_true rfl) dL_law_1007 (fun r2 z2 H locs hr2 w3 => ?_)
  have w := bk2 z2 H locs w3
  have hF := hr2.2.2
  refine lv_icmp_eq (tgt := 1078) hx hb dL_law_1010 (by decide) (fun _ => ?_) (fun c9 => absurd (hr1.1.trans hr2.1.symm) c9)
  exact kk _ _ _ _ _ _ _ _ _ _ _ _ _ _ (⟨⟨S, u, x, P, hv, hsc, fx_sc hrs hF (by decide) (by decide) (by decide) (by decide) (by decide) (by decide), hcp, fx_pa hrp hF (by decide) (by decide), hlp⟩, ⟨n, T, iT_fx hct hF (by decide) (by decide)⟩, ⟨Lh, N9, ni_item Lh N9 I9 (xs (i + 1)) (xs (i + 2)) (xs (i + 3)) _, st_up hih.1 hr1.2 (fun t9 hn9 => ⟨rfl, rfl, ot_item hq4 hx9 hn9⟩), hr2.2.1⟩, (hF.1 6 (by decide)).trans h6, iL_fx hlt hF (by decide), iM_fx hM hF (by decide) (by decide)⟩) w
set_option maxRecDepth 20000 in
theorem la_29 {p : Program} {l : Launch} {e : Env} {s : State} {m : MethodId} {args : Array Value} {below : List Frame} {meth : Method} {c : Code} {H : Heap} {locs : List Loc} {cells slots : Nat} {Q : State → Prop} {ls : Array Slot} {G : CG} {A : Nat → Prop} {b0 L i b : Nat} {xs : Nat → Int32} {a : Nat → Nat} {ad : Nat → Nat → Nat} {rd : Nat → Nat} {zt sc pa ks kp ta dr fo tr ch : RS} {sh : Nat → RS} {zr : RS} (U : lU p s m args c G A b0 L xs i cells slots a b ls) (hI : iV zt sc pa ks kp ta sh zr) (w : cW G A s (bLs G a ad b rd zt sc pa ks kp ta dr fo tr ch sh zr).flatten H locs) (kk : lG p l e s m args below meth c cells slots Q ls G A a ad b rd) : W p l e room_1 s m args below meth c H locs cells slots Q (F0 m 1015 ls []) := by
  obtain ⟨X, hml, hT, hX, hbl, hbA, hL, hi, hf, hl⟩ := U
  obtain ⟨⟨S, u, x, P, hv, hsc, hrs, hcp, hrp, hlp⟩, ⟨n, T, hct⟩, ⟨Lh, N9, I9, hih⟩, h6, hlt, hM⟩ := hI
  have hx := X.1
  have hb := X.2.1
  refine lv_aload_n hx hb dL_law_1015 rfl (lv_at hl 1 rfl) ?_
  refine la_ld X hX hbl hbA w hl (k := 1) (by decide) (by omega) hL dL_law_1016 dL_law_1017 dL_law_1018 dL_law_1019 dL_law_1020 ?_
  refine la_ld X hX hbl hbA w hl (k := 2) (by decide) (by omega) hL dL_law_1021 dL_law_1022 dL_law_1023 dL_law_1024 dL_law_1025 ?_
  refine la_ld X hX hbl hbA w hl (k := 3) (by decide) (by omega) hL dL_law_1026 dL_law_1027 dL_law_1028 dL_law_1029 dL_law_1030 ?_
  refine la_ld X hX hbl hbA w hl (k := 4) (by decide) (by omega) hL dL_law_1031 dL_law_1032 dL_law_1033 dL_law_1034 dL_law_1035 ?_
  refine la_ld X hX hbl hbA w hl (k := 5) (by decide) (by omega) hL dL_law_1036 dL_law_1037 dL_law_1038 dL_law_1039 dL_law_1040 ?_
  obtain ⟨tq9, hq4, hx9⟩ := rn_ex (xs (i + 1))
  obtain ⟨tr9, hr4, hy9⟩ := rn_ex (xs (i + 3))
  by_cases q9 : tq9 = tr9
  · subst q9
    obtain ⟨wr, w1, bk⟩ := bq_q1 hq4 w
    refine gl_i (own := RL) (C := RX7) (ci := 6) (rest := []) X hml hl.1 (c7_copy1 l G a ad zt tq9 (sh tq9) (xs (i + 1)) (xs (i + 2)) (xs (i + 3)) (xs (i + 4)) (xs (i + 5)) Lh N9 I9 (hih.1 tq9 hq4) hq4 hx9 hy9) ok7_copy wm_L_138 ⟨Nat.le_of_ble_eq_true rfl, Nat.le_of_ble_eq_true rfl⟩ hf w1 rfl rfl rfl (Nat.le_of_ble_eq_true rfl) dL_law_1041 (fun r1 z1 H locs hr1 w1 => ?_)
    have w := bk z1 H locs w1
    refine lv_aload_n hx hb dL_law_1044 rfl (lv_at hl 2 rfl) ?_
    refine la_ld X hX hbl hbA w hl (k := 1) (by decide) (by omega) hL dL_law_1045 dL_law_1046 dL_law_1047 dL_law_1048 dL_law_1049 ?_
    refine la_ld X hX hbl hbA w hl (k := 2) (by decide) (by omega) hL dL_law_1050 dL_law_1051 dL_law_1052 dL_law_1053 dL_law_1054 ?_
    refine la_ld X hX hbl hbA w hl (k := 3) (by decide) (by omega) hL dL_law_1055 dL_law_1056 dL_law_1057 dL_law_1058 dL_law_1059 ?_
    refine la_ld X hX hbl hbA w hl (k := 4) (by decide) (by omega) hL dL_law_1060 dL_law_1061 dL_law_1062 dL_law_1063 dL_law_1064 ?_
    refine la_ld X hX hbl hbA w hl (k := 5) (by decide) (by omega) hL dL_law_1065 dL_law_1066 dL_law_1067 dL_law_1068 dL_law_1069 ?_
    obtain ⟨wr2, w3, bk2⟩ := bq_cR w
    refine gr_i (own := RL) (rest := [.int r1]) X hml hl.1 (k_copy l (gR G b rd) zr (xs (i + 1)) (xs (i + 2)) (xs (i + 3)) (xs (i + 4)) (xs (i + 5)) Lh N9 I9 hih.2) ok_copy wm_L_141 ⟨Nat.le_of_ble_eq_true rfl, Nat.le_of_ble_eq_true rfl⟩ hf w3 rfl (Nat.le_of_ble_eq_true rfl) dL_law_1070 (fun r2 z2 H locs hr2 w3 => ?_)
    have w := bk2 z2 H locs w3
    have hF := hr2.2.2
    refine lv_icmp_eq (tgt := 1078) hx hb dL_law_1073 (by decide) (fun _ => ?_) (fun c9 => absurd (hr1.1.trans hr2.1.symm) c9)
    exact kk _ _ _ _ _ _ _ _ _ _ _ _ _ _ (⟨⟨S, u, x, P, hv, hsc, fx_sc hrs hF (by decide) (by decide) (by decide) (by decide) (by decide) (by decide), hcp, fx_pa hrp hF (by decide) (by decide), hlp⟩, ⟨n, T, iT_fx hct hF (by decide) (by decide)⟩, ⟨Lh, N9, ni_copy Lh N9 I9 (xs (i + 1)) (xs (i + 2)) (xs (i + 3)) (xs (i + 4)) (xs (i + 5)), st_up hih.1 hr1.2 (fun t9 hn9 => ⟨rfl, rfl, ot_copy hq4 hy9 hn9⟩), hr2.2.1⟩, (hF.1 6 (by decide)).trans h6, iL_fx hlt hF (by decide), iM_fx hM hF (by decide) (by decide)⟩) w
  · obtain ⟨wr, w1, bk⟩ := bq_q4 hq4 hr4 q9 w
    refine gl_i (own := RL) (C := RX7) (ci := 6) (rest := []) X hml hl.1 (c7_copy l G a ad zt tq9 tr9 (sh tq9, sh tr9) (xs (i + 1)) (xs (i + 2)) (xs (i + 3)) (xs (i + 4)) (xs (i + 5)) Lh N9 I9 (hih.1 tq9 hq4) (hih.1 tr9 hr4) hq4 hr4 hx9 hy9) ok7_copy wm_L_138 ⟨Nat.le_of_ble_eq_true rfl, Nat.le_of_ble_eq_true rfl⟩ hf w1 rfl rfl rfl (Nat.le_of_ble_eq_true rfl) dL_law_1041 (fun r1 z1 H locs hr1 w1 => ?_)
    have w := bk z1.1 z1.2 H locs w1
    refine lv_aload_n hx hb dL_law_1044 rfl (lv_at hl 2 rfl) ?_
    refine la_ld X hX hbl hbA w hl (k := 1) (by decide) (by omega) hL dL_law_1045 dL_law_1046 dL_law_1047 dL_law_1048 dL_law_1049 ?_
    refine la_ld X hX hbl hbA w hl (k := 2) (by decide) (by omega) hL dL_law_1050 dL_law_1051 dL_law_1052 dL_law_1053 dL_law_1054 ?_
    refine la_ld X hX hbl hbA w hl (k := 3) (by decide) (by omega) hL dL_law_1055 dL_law_1056 dL_law_1057 dL_law_1058 dL_law_1059 ?_
    refine la_ld X hX hbl hbA w hl (k := 4) (by decide) (by omega) hL dL_law_1060 dL_law_1061 dL_law_1062 dL_law_1063 dL_law_1064 ?_
    refine la_ld X hX hbl hbA w hl (k := 5) (by decide) (by omega) hL dL_law_1065 dL_law_1066 dL_law_1067 dL_law_1068 dL_law_1069 ?_
    obtain ⟨wr2, w3, bk2⟩ := bq_cR w
    refine gr_i (own := RL) (rest := [.int r1]) X hml hl.1 (k_copy l (gR G b rd) zr (xs (i + 1)) (xs (i + 2)) (xs (i + 3)) (xs (i + 4)) (xs (i + 5)) Lh N9 I9 hih.2) ok_copy wm_L_141 ⟨Nat.le_of_ble_eq_true rfl, Nat.le_of_ble_eq_true rfl⟩ hf w3 rfl (Nat.le_of_ble_eq_true rfl) dL_law_1070 (fun r2 z2 H locs hr2 w3 => ?_)
    have w := bk2 z2 H locs w3
    have hF := hr2.2.2
    have hk9 : cSt z1.1 (Lh tq9) (N9 tq9) (I9 tq9) := by rw [hr1.2.2]; exact hih.1 tq9 hq4
    refine lv_icmp_eq (tgt := 1078) hx hb dL_law_1073 (by decide) (fun _ => ?_) (fun c9 => absurd (hr1.1.trans hr2.1.symm) c9)
    exact kk _ _ _ _ _ _ _ _ _ _ _ _ _ _ (⟨⟨S, u, x, P, hv, hsc, fx_sc hrs hF (by decide) (by decide) (by decide) (by decide) (by decide) (by decide), hcp, fx_pa hrp hF (by decide) (by decide), hlp⟩, ⟨n, T, iT_fx hct hF (by decide) (by decide)⟩, ⟨Lh, N9, ni_copy Lh N9 I9 (xs (i + 1)) (xs (i + 2)) (xs (i + 3)) (xs (i + 4)) (xs (i + 5)), st_up (st_up hih.1 hk9 (fun _ _ => ⟨rfl, rfl, rfl⟩)) hr1.2.1 (fun t9 hn9 => ⟨rfl, rfl, ot_copy hr4 hy9 hn9⟩), hr2.2.1⟩, (hF.1 6 (by decide)).trans h6, iL_fx hlt hF (by decide), iM_fx hM hF (by decide) (by decide)⟩) w
