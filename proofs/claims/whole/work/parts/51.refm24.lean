theorem tp_fr {is ks : List Nat} {z z' : RS} {n : Nat} {T : Nat → Nat} (f : rFr is ks z z') (h1 : 8 ∉ is) (h2 : 7 ∉ ks) (h : rTp z n T) : rTp z' n T :=
  ⟨(f.1 8 h1).trans h.1, h.2.1, fun j hj => (congrFun (f.2.1 7 h2) j).trans (h.2.2.1 j hj), h.2.2.2⟩
theorem rf4 {r0 r : Nat → Int32} {j : Nat} {v0 v1 v2 v3 : Int32} (h : r = upd (upd (upd (upd r0 (4 * j) v0) (4 * j + 1) v1) (4 * j + 2) v2) (4 * j + 3) v3) : (r (4 * j) = v0 ∧ r (4 * j + 1) = v1 ∧ r (4 * j + 2) = v2 ∧ r (4 * j + 3) = v3) ∧ ∀ q, q < 4 * j → r q = r0 q := by
  subst h
  unfold upd
  refine ⟨⟨?_, ?_, ?_, ?_⟩, ?_⟩
  · rw [if_neg (by omega), if_neg (by omega), if_neg (by omega), if_pos rfl]
  · rw [if_neg (by omega), if_neg (by omega), if_pos rfl]
  · rw [if_neg (by omega), if_pos rfl]
  · rw [if_pos rfl]
  · intro q hq
    rw [if_neg (by omega), if_neg (by omega), if_neg (by omega), if_neg (by omega)]
theorem ok_here : rOk yX8_here cX8_here 1 (some .int) 0 := ⟨wc_X8_here, wi_X8_here, ws_X8_here, rfl, by decide, by decide, by decide +kernel⟩
set_option maxHeartbeats 4000000 in
set_option maxRecDepth 100000 in
theorem k_here (l : Launch) (g : RG) (z : RS)  (T : Nat → Nat) (n : Nat) (htp : rTp z n T) (a : Nat) (hat : z.1 9 = nI a) (ha9 : a ≤ 100000) : rMi g l yX8_here cX8_here 1 (some .int) 0 0 [] z (fun r z' => r = nI (tk_h T n a) ∧ z'.1 9 = nI (tk_s T n a) ∧ rFr [9] [] z z') := by
  refine rMi_in (by decide) rfl (Nat.le_of_ble_eq_true rfl) ?_
  intro p e s m args below meth c A ls X hml hr hk hl w
  have hx := X.1
  have hb := X.2.1
  have hts := X.2.2.1
  have hown := X.2.2.2.1
  have hl : lv_has ls 1 [(0, .ref g.2.2.2.1)] := hl
  obtain ⟨t1, t2, t3, t4⟩ := id htp
  have lp_0 : ∀ (n_0 : Nat) (kb9 : Nat) (hkb : tk_s T n kb9 = tk_s T n a) (hkc : kb9 ≤ 100100) (hm_0 : n - kb9 < n_0) (ls : Array Slot) (zz : RS) (H : Heap) (locs : List Loc) (w : rW g A s zz H locs) (h9z : zz.1 9 = nI kb9) (hfz : rFr [9] [] z zz), lv_has ls 1 [(0, .ref g.2.2.2.1)] → W p l e (ro_m 0 0) s m args below meth c H locs 0 0 (MQ below (va_Qi (fun r z' => r = nI (tk_h T n a) ∧ z'.1 9 = nI (tk_s T n a) ∧ rFr [9] [] z z') (rB g A) A) args s 0 0 A) (F0 m 0 ls []) := by
    intro n_0
    induction n_0 with
    | zero => intro kb9 hkb hkc hm; exact absurd hm (Nat.not_lt_zero _)
    | succ n_0 ih_0 =>
      intro kb9 hkb hkc hm_0 ls zz H locs w h9z hfz hl
      have t5 := t4 kb9
      refine lv_aload_n hx hb dX8_here_0 rfl (lv_at hl 0 rfl) ?_
      refine rg_9 X w.1 dX8_here_1 ?_
      refine tp_i (show zz.1 9 = (nI kb9) from h9z) ?_
      refine lv_aload_n hx hb dX8_here_4 rfl (lv_at hl 0 rfl) ?_
      refine rg_8 X w.1 dX8_here_5 ?_
      refine tp_i (show zz.1 8 = (nI n) from (hfz.1 8 (by decide)).trans t1) ?_
      refine n_icmp_ge (tgt := 38) hx hb dX8_here_8 (by decide) (by omega) (by omega) (fun c_8_1 => ?_) (fun c_8_1 => ?_)
      · skip
        refine lv_aload_n hx hb dX8_here_38 rfl (lv_at hl 0 rfl) ?_
        refine rg_9 X w.1 dX8_here_39 ?_
        refine tp_i (show zz.1 9 = (nI kb9) from h9z) ?_
        refine lv_aload_n hx hb dX8_here_42 rfl (lv_at hl 0 rfl) ?_
        refine rg_8 X w.1 dX8_here_43 ?_
        refine tp_i (show zz.1 8 = (nI n) from (hfz.1 8 (by decide)).trans t1) ?_
        refine n_icmp_ge (tgt := 61) hx hb dX8_here_46 (by decide) (by omega) (by omega) (fun c_46_2 => ?_) (fun c_46_2 => ?_)
        · skip
          refine lv_iconst (v := (nI 0)) hx hb dX8_here_61 (by decide) ?_
          exact re_i X hr hk w (by have e8 : kb9 = tk_s T n a := (by rw [← hkb]; exact (tk_n (by omega)).symm); refine ⟨?_, by rw [← e8]; exact h9z, hfz⟩; unfold tk_h; rw [← e8]; first | (rw [if_pos (by omega)]; done) | (rw [if_neg (by omega)]; done)) dX8_here_62
        · skip
          refine lv_aload_n hx hb dX8_here_49 rfl (lv_at hl 0 rfl) ?_
          refine rg_7 X w.1 dX8_here_50 ?_
          refine lv_aload_n hx hb dX8_here_53 rfl (lv_at hl 0 rfl) ?_
          refine rg_9 X w.1 dX8_here_54 ?_
          refine tp_i (show zz.1 9 = (nI kb9) from h9z) ?_
          refine rn_7 X w.1 (by omega) dX8_here_57 ?_
          refine tp_i (show zz.2.1 7 kb9 = (nI (T kb9)) from (congrFun (hfz.2.1 7 (by decide)) _).trans (t3 kb9 (by omega))) ?_
          refine lv_goto (tgt := 62) hx hb dX8_here_58 (by decide) ?_
          exact re_i X hr hk w (by have e8 : kb9 = tk_s T n a := (by rw [← hkb]; exact (tk_n (by omega)).symm); refine ⟨?_, by rw [← e8]; exact h9z, hfz⟩; unfold tk_h; rw [← e8]; first | (rw [if_pos (by omega)]; done) | (rw [if_neg (by omega)]; done)) dX8_here_62
      · skip
        refine lv_aload_n hx hb dX8_here_11 rfl (lv_at hl 0 rfl) ?_
        refine rg_7 X w.1 dX8_here_12 ?_
        refine lv_aload_n hx hb dX8_here_15 rfl (lv_at hl 0 rfl) ?_
        refine rg_9 X w.1 dX8_here_16 ?_
        refine tp_i (show zz.1 9 = (nI kb9) from h9z) ?_
        refine rn_7 X w.1 (by omega) dX8_here_19 ?_
        refine tp_i (show zz.2.1 7 kb9 = (nI (T kb9)) from (congrFun (hfz.2.1 7 (by decide)) _).trans (t3 kb9 (by omega))) ?_
        refine lv_bipush (v := (nI 32)) hx hb dX8_here_20 (by decide) ?_
        refine n_icmp_ne (tgt := 38) hx hb dX8_here_22 (by decide) (by omega) (by omega) (fun c_22_3 => ?_) (fun c_22_3 => ?_)
        · skip
          refine lv_aload_n hx hb dX8_here_38 rfl (lv_at hl 0 rfl) ?_
          refine rg_9 X w.1 dX8_here_39 ?_
          refine tp_i (show zz.1 9 = (nI kb9) from h9z) ?_
          refine lv_aload_n hx hb dX8_here_42 rfl (lv_at hl 0 rfl) ?_
          refine rg_8 X w.1 dX8_here_43 ?_
          refine tp_i (show zz.1 8 = (nI n) from (hfz.1 8 (by decide)).trans t1) ?_
          refine n_icmp_ge (tgt := 61) hx hb dX8_here_46 (by decide) (by omega) (by omega) (fun c_46_4 => ?_) (fun c_46_4 => ?_)
          · skip
            refine lv_iconst (v := (nI 0)) hx hb dX8_here_61 (by decide) ?_
            exact re_i X hr hk w (by have e8 : kb9 = tk_s T n a := (by rw [← hkb]; exact (tk_n (by omega)).symm); refine ⟨?_, by rw [← e8]; exact h9z, hfz⟩; unfold tk_h; rw [← e8]; first | (rw [if_pos (by omega)]; done) | (rw [if_neg (by omega)]; done)) dX8_here_62
          · skip
            refine lv_aload_n hx hb dX8_here_49 rfl (lv_at hl 0 rfl) ?_
            refine rg_7 X w.1 dX8_here_50 ?_
            refine lv_aload_n hx hb dX8_here_53 rfl (lv_at hl 0 rfl) ?_
            refine rg_9 X w.1 dX8_here_54 ?_
            refine tp_i (show zz.1 9 = (nI kb9) from h9z) ?_
            refine rn_7 X w.1 (by omega) dX8_here_57 ?_
            refine tp_i (show zz.2.1 7 kb9 = (nI (T kb9)) from (congrFun (hfz.2.1 7 (by decide)) _).trans (t3 kb9 (by omega))) ?_
            refine lv_goto (tgt := 62) hx hb dX8_here_58 (by decide) ?_
            exact re_i X hr hk w (by have e8 : kb9 = tk_s T n a := (by rw [← hkb]; exact (tk_n (by omega)).symm); refine ⟨?_, by rw [← e8]; exact h9z, hfz⟩; unfold tk_h; rw [← e8]; first | (rw [if_pos (by omega)]; done) | (rw [if_neg (by omega)]; done)) dX8_here_62
        · skip
          refine lv_aload_n hx hb dX8_here_25 rfl (lv_at hl 0 rfl) ?_
          refine lv_dup hx hb dX8_here_26 rfl ?_
          refine rg_9 X w.1 dX8_here_27 ?_
          refine tp_i (show zz.1 9 = (nI kb9) from h9z) ?_
          refine lv_iconst (v := (nI 1)) hx hb dX8_here_30 (by decide) ?_
          refine n_iadd hx hb dX8_here_31 ?_
          refine rp_9 X w dX8_here_32 (fun z_32 H locs ez_32 w => ?_)
          refine lv_goto (tgt := 0) hx hb dX8_here_35 (by decide) ?_
          exact ih_0 (kb9 + 1) ((tk_y (by omega)).symm.trans hkb) (by omega) (by omega) ls z_32 _ _ w (by first | (rw [ez_32]; done) | (rw [ez_32]; rfl)) (by rw [ez_32]; exact rFr_tr hfz (rFr_I _ (by decide))) (lv_sub hl [0] rfl)
  exact lp_0 _ a rfl (by omega) (Nat.lt_succ_self _) ls z _ _ w hat (rFr_rf _ _ _) (lv_sub hl [0] rfl)

theorem ok_has : rOk yX8_has cX8_has 3 (some .boolean) 1 := ⟨wc_X8_has, wi_X8_has, ws_X8_has, rfl, by decide, by decide, by decide +kernel⟩
set_option maxHeartbeats 4000000 in
set_option maxRecDepth 100000 in
theorem k_has (l : Launch) (g : RG) (z : RS) (ca9 : Nat) (T : Nat → Nat) (n : Nat) (htp : rTp z n T) (a : Nat) (hat : z.1 9 = nI a) (ha9 : a ≤ 100000) (w9 : Nat) (hwr : z.1 10 = nI w9) (hw1 : w9 ≤ 1) (hca : ca9 < 200) : rMi g l yX8_has cX8_has 3 (some .boolean) 1 20 [.int (nI ca9)] z (fun r z' => r = nI (tk_hv T n ca9 a w9) ∧ z'.1 9 = nI (tk_ha T n ca9 a w9) ∧ rFr [9] [] z z') := by
  refine rMi_in (by decide) rfl (Nat.le_of_ble_eq_true rfl) ?_
  intro p e s m args below meth c A ls X hml hr hk hl w
  have hx := X.1
  have hb := X.2.1
  have hts := X.2.2.1
  have hown := X.2.2.2.1
  have hl : lv_has ls 3 [(0, .ref g.2.2.2.1), (1, .int (nI ca9))] := hl
  obtain ⟨t1, t2, t3, t4⟩ := id htp
  refine lv_aload_n hx hb dX8_has_0 rfl (lv_at hl 0 rfl) ?_
  refine rg_10 X w.1 dX8_has_1 ?_
  refine tp_i (show z.1 10 = (nI w9) from hwr) ?_
  refine n_if_ne (tgt := 19) hx hb dX8_has_4 (by decide) (by omega) (fun c_4_1 => ?_) (fun c_4_1 => ?_)
  · skip
    refine lv_iconst (v := (nI 0)) hx hb dX8_has_19 (by decide) ?_
    refine lv_istore_n (lv' := [(2, .int (nI 0)), (0, .ref g.2.2.2.1), (1, .int (nI ca9))]) hx hb dX8_has_20 rfl hl (by decide) rfl (fun ls hl => ?_)
    refine lv_aload_n hx hb dX8_has_21 rfl (lv_at hl 1 rfl) ?_
    refine lv_dup hx hb dX8_has_22 rfl ?_
    refine rg_9 X w.1 dX8_has_23 ?_
    refine tp_i (show z.1 9 = (nI a) from hat) ?_
    refine lv_iload_n hx hb dX8_has_26 rfl (lv_at hl 0 rfl) ?_
    refine jn (tgt := 35) (rest := [.int (nI a), .ref g.2.2.2.1]) (fun v9 => ∃ x9 : Nat, x9 = (if 0 = 0 then 0 else 1) ∧ v9 = nI x9) (fun v_ hv_ => ?_) (fun k_35 => ?_)
    · obtain ⟨x_35, ex_35, rfl⟩ := hv_
      refine n_iadd hx hb dX8_has_35 ?_
      refine rp_9 X w dX8_has_36 (fun z_36 H locs ez_36 w => ?_)
      refine lv_iload_n hx hb dX8_has_39 rfl (lv_at hl 0 rfl) ?_
      exact re_iz X hr hk w (by have q9 := hv01 T n ca9 a w9; first | exact Or.inl rfl | (rw [ex_20]; split; exact Or.inr rfl; exact Or.inl rfl)) (⟨by unfold tk_hv; rw [if_neg (by omega)], by rw [ez_36]; show nI (a + x_35) = _; unfold tk_ha; rw [if_neg (by omega), ex_35]; rfl, by rw [ez_36]; exact rFr_I _ (by decide)⟩) dX8_has_40
    · skip
      refine n_if_eq (tgt := 34) hx hb dX8_has_27 (by decide) (by omega) (fun c_27_3 => ?_) (fun c_27_3 => ?_)
      · skip
        refine lv_iconst (v := (nI 0)) hx hb dX8_has_34 (by decide) ?_
        exact k_35 _ ⟨_, by first | (simp only [if_pos c_27_3]; done) | (simp only [eq_self, ite_true]; done) | rfl | (exact absurd rfl c_27_3), rfl⟩
      · skip
        refine lv_iconst (v := (nI 1)) hx hb dX8_has_30 (by decide) ?_
        refine lv_goto (tgt := 35) hx hb dX8_has_31 (by decide) ?_
        exact k_35 _ ⟨_, by first | (simp only [if_neg c_27_3]; done) | (simp only [eq_self, ite_true]; done) | rfl | (exact absurd rfl c_27_3), rfl⟩
  · skip
    refine lv_aload_n hx hb dX8_has_7 rfl (lv_at hl 0 rfl) ?_
    refine rc_i (rest := []) X hml hl.1 (k_here l g z T n htp a hat (by omega)) ok_here wm_X8_149 ⟨Nat.le_of_ble_eq_true rfl, Nat.le_of_ble_eq_true rfl⟩ ⟨Nat.le_refl _, Nat.le_refl _⟩ w rfl (Nat.le_of_ble_eq_true rfl) dX8_has_8 (fun r_8 z_8 H locs hr_8 w => ?_)
    obtain ⟨h9, hs9, fz9⟩ := hr_8
    subst h9
    have hl9 := tk_h_le t4 n a
    have sl9 := tk_le T n a
    refine lv_iload_n hx hb dX8_has_11 rfl (lv_at hl 1 rfl) ?_
    refine jn (tgt := 20) (rest := []) (fun v9 => ∃ x9 : Nat, x9 = (if (tk_h T n a) = ca9 then 1 else 0) ∧ v9 = nI x9) (fun v_ hv_ => ?_) (fun k_20 => ?_)
    · obtain ⟨x_20, ex_20, rfl⟩ := hv_
      have x20 : x_20 ≤ 1 := by rw [ex_20]; exact it_le (by omega) (by omega)
      refine lv_istore_n (lv' := [(2, .int (nI x_20)), (0, .ref g.2.2.2.1), (1, .int (nI ca9))]) hx hb dX8_has_20 rfl hl (by decide) rfl (fun ls hl => ?_)
      refine lv_aload_n hx hb dX8_has_21 rfl (lv_at hl 1 rfl) ?_
      refine lv_dup hx hb dX8_has_22 rfl ?_
      refine rg_9 X w.1 dX8_has_23 ?_
      refine tp_i (show z_8.1 9 = (nI (tk_s T n a)) from hs9) ?_
      refine lv_iload_n hx hb dX8_has_26 rfl (lv_at hl 0 rfl) ?_
      refine jn (tgt := 35) (rest := [.int (nI (tk_s T n a)), .ref g.2.2.2.1]) (fun v9 => ∃ x9 : Nat, x9 = (if x_20 = 0 then 0 else 1) ∧ v9 = nI x9) (fun v_ hv_ => ?_) (fun k_35 => ?_)
      · obtain ⟨x_35, ex_35, rfl⟩ := hv_
        refine n_iadd hx hb dX8_has_35 ?_
        refine rp_9 X w dX8_has_36 (fun z_36 H locs ez_36 w => ?_)
        refine lv_iload_n hx hb dX8_has_39 rfl (lv_at hl 0 rfl) ?_
        exact re_iz X hr hk w (by have q9 := hv01 T n ca9 a w9; first | exact Or.inl rfl | (rw [ex_20]; split; exact Or.inr rfl; exact Or.inl rfl)) (⟨by unfold tk_hv; rw [if_pos (by omega), ex_20], by rw [ez_36]; show nI (tk_s T n a + x_35) = _; unfold tk_ha; rw [if_pos (by omega), ex_35, ex_20]; congr 2; split <;> rfl, by rw [ez_36]; exact rFr_tr fz9 (rFr_I _ (by decide))⟩) dX8_has_40
      · skip
        refine n_if_eq (tgt := 34) hx hb dX8_has_27 (by decide) (by omega) (fun c_27_6 => ?_) (fun c_27_6 => ?_)
        · skip
          refine lv_iconst (v := (nI 0)) hx hb dX8_has_34 (by decide) ?_
          exact k_35 _ ⟨_, by simp only [if_pos c_27_6], rfl⟩
        · skip
          refine lv_iconst (v := (nI 1)) hx hb dX8_has_30 (by decide) ?_
          refine lv_goto (tgt := 35) hx hb dX8_has_31 (by decide) ?_
          exact k_35 _ ⟨_, by simp only [if_neg c_27_6], rfl⟩
    · skip
      refine n_icmp_ne (tgt := 19) hx hb dX8_has_12 (by decide) (by omega) (by omega) (fun c_12_7 => ?_) (fun c_12_7 => ?_)
      · skip
        refine lv_iconst (v := (nI 0)) hx hb dX8_has_19 (by decide) ?_
        exact k_20 _ ⟨_, by simp only [if_neg c_12_7], rfl⟩
      · skip
        refine lv_iconst (v := (nI 1)) hx hb dX8_has_15 (by decide) ?_
        refine lv_goto (tgt := 20) hx hb dX8_has_16 (by decide) ?_
        exact k_20 _ ⟨_, by simp only [if_pos c_12_7], rfl⟩

theorem ok_sign : rOk yX8_sign cX8_sign 2 (some .int) 0 := ⟨wc_X8_sign, wi_X8_sign, ws_X8_sign, rfl, by decide, by decide, by decide +kernel⟩
set_option maxHeartbeats 4000000 in
set_option maxRecDepth 100000 in
theorem k_sign (l : Launch) (g : RG) (z : RS)  (T : Nat → Nat) (n : Nat) (htp : rTp z n T) (a : Nat) (hat : z.1 9 = nI a) (ha9 : a ≤ 100000) : rMi g l yX8_sign cX8_sign 2 (some .int) 1 20 [] z (fun r z' => r = iZ (tk_sg (tk_h T n a)) ∧ z'.1 9 = nI (tk_s T n a) ∧ rFr [9] [] z z') := by
  refine rMi_in (by decide) rfl (Nat.le_of_ble_eq_true rfl) ?_
  intro p e s m args below meth c A ls X hml hr hk hl w
  have hx := X.1
  have hb := X.2.1
  have hts := X.2.2.1
  have hown := X.2.2.2.1
  have hl : lv_has ls 2 [(0, .ref g.2.2.2.1)] := hl
  obtain ⟨t1, t2, t3, t4⟩ := id htp
  refine lv_aload_n hx hb dX8_sign_0 rfl (lv_at hl 0 rfl) ?_
  refine rc_i (rest := []) X hml hl.1 (k_here l g z T n htp a hat (by omega)) ok_here wm_X8_149 ⟨Nat.le_of_ble_eq_true rfl, Nat.le_of_ble_eq_true rfl⟩ ⟨Nat.le_refl _, Nat.le_refl _⟩ w rfl (Nat.le_of_ble_eq_true rfl) dX8_sign_1 (fun r_1 z_1 H locs hr_1 w => ?_)
  obtain ⟨h9, hs9, fz9⟩ := hr_1
  subst h9
  have hl9 := tk_h_le t4 n a
  have sl9 := tk_le T n a
  refine lv_istore_n (lv' := [(1, .int (nI (tk_h T n a))), (0, .ref g.2.2.2.1)]) hx hb dX8_sign_4 rfl hl (by decide) rfl (fun ls hl => ?_)
  refine lv_iload_n hx hb dX8_sign_5 rfl (lv_at hl 0 rfl) ?_
  refine lv_bipush (v := (nI 46)) hx hb dX8_sign_6 (by decide) ?_
  refine jn (tgt := 37) (rest := []) (fun v9 => ∃ x9 : Int, x9 = (if (tk_h T n a) = 46 then ((0 : Int)) else (if (tk_h T n a) = 47 then ((1 : Int)) else (if (tk_h T n a) = 118 then ((2 : Int)) else (-4)))) ∧ v9 = iZ x9) (fun v_ hv_ => ?_) (fun k_37 => ?_)
  · obtain ⟨x_37, ex_37, rfl⟩ := hv_
    exact re_i X hr hk w (⟨by rw [ex_37]; rfl, hs9, fz9⟩) dX8_sign_37
  · skip
    refine n_icmp_ne (tgt := 15) hx hb dX8_sign_8 (by decide) (by omega) (by omega) (fun c_8_2 => ?_) (fun c_8_2 => ?_)
    · skip
      refine lv_iload_n hx hb dX8_sign_15 rfl (lv_at hl 0 rfl) ?_
      refine lv_bipush (v := (nI 47)) hx hb dX8_sign_16 (by decide) ?_
      refine n_icmp_ne (tgt := 25) hx hb dX8_sign_18 (by decide) (by omega) (by omega) (fun c_18_3 => ?_) (fun c_18_3 => ?_)
      · skip
        refine lv_iload_n hx hb dX8_sign_25 rfl (lv_at hl 0 rfl) ?_
        refine lv_bipush (v := (nI 118)) hx hb dX8_sign_26 (by decide) ?_
        refine n_icmp_ne (tgt := 35) hx hb dX8_sign_28 (by decide) (by omega) (by omega) (fun c_28_4 => ?_) (fun c_28_4 => ?_)
        · skip
          refine lv_bipush (v := (iZ (-4))) hx hb dX8_sign_35 (by decide) ?_
          exact k_37 _ ⟨_, by simp only [if_neg c_8_2, if_neg c_18_3, if_neg c_28_4], rfl⟩
        · skip
          refine lv_iconst (v := (nI 2)) hx hb dX8_sign_31 (by decide) ?_
          refine lv_goto (tgt := 37) hx hb dX8_sign_32 (by decide) ?_
          exact k_37 _ ⟨(2 : Int), by simp only [if_neg c_8_2, if_neg c_18_3, if_pos c_28_4], (show nI 2 = iZ (2 : Int) from by decide)⟩
      · skip
        refine lv_iconst (v := (nI 1)) hx hb dX8_sign_21 (by decide) ?_
        refine lv_goto (tgt := 37) hx hb dX8_sign_22 (by decide) ?_
        exact k_37 _ ⟨(1 : Int), by simp only [if_neg c_8_2, if_pos c_18_3], (show nI 1 = iZ (1 : Int) from by decide)⟩
    · skip
      refine lv_iconst (v := (nI 0)) hx hb dX8_sign_11 (by decide) ?_
      refine lv_goto (tgt := 37) hx hb dX8_sign_12 (by decide) ?_
      exact k_37 _ ⟨(0 : Int), by simp only [if_pos c_8_2], (show nI 0 = iZ (0 : Int) from by decide)⟩

theorem ok_digit : rOk yX8_digit cX8_digit 4 (some .int) 2 := ⟨wc_X8_digit, wi_X8_digit, ws_X8_digit, rfl, by decide, by decide, by decide +kernel⟩
set_option maxHeartbeats 4000000 in
set_option maxRecDepth 100000 in
theorem k_digit (l : Launch) (g : RG) (z : RS) (la9 : Nat) (lb9 : Nat) (T : Nat → Nat) (n : Nat) (htp : rTp z n T) (a : Nat) (hat : z.1 9 = nI a) (ha9 : a ≤ 100000) (w9 : Nat) (hwr : z.1 10 = nI w9) (hw1 : w9 ≤ 1) (hla : la9 < 200) (hlb : lb9 < 200) : rMi g l yX8_digit cX8_digit 4 (some .int) 1 25 [.int (nI la9), .int (nI lb9)] z (fun r z' => r = iZ (tk_dv T n la9 a w9) ∧ z'.1 9 = nI (tk_da T n la9 lb9 a w9) ∧ z'.1 10 = nI (tk_dw T n la9 lb9 a w9) ∧ rFr [9, 10] [] z z') := by
  refine rMi_in (by decide) rfl (Nat.le_of_ble_eq_true rfl) ?_
  intro p e s m args below meth c A ls X hml hr hk hl w
  have hx := X.1
  have hb := X.2.1
  have hts := X.2.2.1
  have hown := X.2.2.2.1
  have hl : lv_has ls 4 [(0, .ref g.2.2.2.1), (1, .int (nI la9)), (2, .int (nI lb9))] := hl
  obtain ⟨t1, t2, t3, t4⟩ := id htp
  refine lv_aload_n hx hb dX8_digit_0 rfl (lv_at hl 0 rfl) ?_
  refine rg_10 X w.1 dX8_digit_1 ?_
  refine tp_i (show z.1 10 = (nI w9) from hwr) ?_
  refine n_if_eq (tgt := 11) hx hb dX8_digit_4 (by decide) (by omega) (fun c_4_1 => ?_) (fun c_4_1 => ?_)
  · skip
    refine lv_aload_n hx hb dX8_digit_11 rfl (lv_at hl 0 rfl) ?_
    refine rc_i (rest := []) X hml hl.1 (k_here l g z T n htp a hat (by omega)) ok_here wm_X8_149 ⟨Nat.le_of_ble_eq_true rfl, Nat.le_of_ble_eq_true rfl⟩ ⟨Nat.le_refl _, Nat.le_refl _⟩ w rfl (Nat.le_of_ble_eq_true rfl) dX8_digit_12 (fun r_12 z_12 H locs hr_12 w => ?_)
    obtain ⟨h9, hs9, fz9⟩ := hr_12
    subst h9
    have hl9 := tk_h_le t4 n a
    have sl9 := tk_le T n a
    refine lv_bipush (v := (nI 48)) hx hb dX8_digit_15 (by decide) ?_
    refine tp_i (show nI 48 = iZ (48 : Int) from by decide) ?_
    refine tp_i2 (iZ_n (tk_h T n a)).symm ?_
    refine z_isub hx hb dX8_digit_17 ?_
    refine lv_istore_n (lv' := [(3, .int (iZ ((((tk_h T n a : Nat) : Int)) - ((48 : Int))))), (0, .ref g.2.2.2.1), (1, .int (nI la9)), (2, .int (nI lb9))]) hx hb dX8_digit_18 rfl hl (by decide) rfl (fun ls hl => ?_)
    refine lv_aload_n hx hb dX8_digit_19 rfl (lv_at hl 1 rfl) ?_
    refine lv_aload_n hx hb dX8_digit_20 rfl (lv_at hl 1 rfl) ?_
    refine rg_10 X w.1 dX8_digit_21 ?_
    refine tp_i (show z_12.1 10 = (nI w9) from (fz9.1 10 (by decide)).trans hwr) ?_
    refine jn (tgt := 44) (rest := [.ref g.2.2.2.1]) (fun v9 => ∃ x9 : Nat, x9 = (if w9 = 0 then (if (pc_inI ((((tk_h T n a : Nat) : Int)) - ((48 : Int))) ((la9 : Nat) : Int) ((lb9 : Nat) : Int)) = 0 then 1 else 0) else 1) ∧ v9 = nI x9) (fun v_ hv_ => ?_) (fun k_44 => ?_)
    · obtain ⟨x_44, ex_44, rfl⟩ := hv_
      refine rp_10 X w (by have q9 : x_44 ≤ 1 := (by rw [ex_44]; exact it_le (it_le (by omega) (by omega)) (by omega)); rcases (show x_44 = 0 ∨ x_44 = 1 by omega) with q | q <;> rw [q]; exact Or.inl rfl; exact Or.inr rfl) dX8_digit_44 (fun z_44 H locs ez_44 w => ?_)
      have w44 : z_44.1 10 = nI x_44 := by first | (rw [ez_44]; done) | (rw [ez_44]; rfl)
      have x44 : x_44 ≤ 1 := (by rw [ex_44]; exact it_le (it_le (by omega) (by omega)) (by omega))
      obtain ⟨pa9, hpa9, a44⟩ : ∃ q9 : Nat, q9 = tk_s T n a ∧ z_44.1 9 = nI q9 := ⟨_, rfl, by rw [ez_44]; exact hs9⟩
      have x1 : x_44 = (if pc_inI (((tk_h T n a : Nat) : Int) - (48 : Int)) ((la9 : Nat) : Int) ((lb9 : Nat) : Int) = 0 then 1 else 0) := by rw [ex_44, if_pos (by omega)]
      refine lv_aload_n hx hb dX8_digit_47 rfl (lv_at hl 1 rfl) ?_
      refine lv_dup hx hb dX8_digit_48 rfl ?_
      refine rg_9 X w.1 dX8_digit_49 ?_
      refine tp_i (show z_44.1 9 = (nI pa9) from a44) ?_
      refine lv_aload_n hx hb dX8_digit_52 rfl (lv_at hl 1 rfl) ?_
      refine rg_10 X w.1 dX8_digit_53 ?_
      refine tp_i (show z_44.1 10 = (nI x_44) from w44) ?_
      refine jn (tgt := 64) (rest := [.int (nI pa9), .ref g.2.2.2.1]) (fun v9 => ∃ x9 : Nat, x9 = (if x_44 = 0 then 1 else 0) ∧ v9 = nI x9) (fun v_ hv_ => ?_) (fun k_64 => ?_)
      · obtain ⟨x_64, ex_64, rfl⟩ := hv_
        refine n_iadd hx hb dX8_digit_64 ?_
        refine rp_9 X w dX8_digit_65 (fun z_65 H locs ez_65 w => ?_)
        refine lv_iload_n hx hb dX8_digit_68 rfl (lv_at hl 0 rfl) ?_
        exact re_i X hr hk w (⟨by unfold tk_dv; rw [if_pos (by omega)], by rw [ez_65]; show nI (pa9 + x_64) = _; unfold tk_da; rw [if_pos (by omega), ex_64, x1, hpa9]; by_cases q9 : pc_inI (((tk_h T n a : Nat) : Int) - (48 : Int)) ((la9 : Nat) : Int) ((lb9 : Nat) : Int) = 0; (rw [if_pos q9, if_pos q9]; rfl); (rw [if_neg q9, if_neg q9]; rfl), by rw [ez_65]; show z_44.1 10 = _; rw [w44]; unfold tk_dw; rw [if_pos (by omega), x1], by rw [ez_65]; exact rFr_tr (by rw [ez_44]; exact rFr_tr (rFr_w fz9 (by simp) (fun _ q => q)) (rFr_I _ (by decide))) (rFr_I _ (by decide))⟩) dX8_digit_69
      · skip
        refine n_if_eq (tgt := 63) hx hb dX8_digit_56 (by decide) (by omega) (fun c_56_4 => ?_) (fun c_56_4 => ?_)
        · skip
          refine lv_iconst (v := (nI 1)) hx hb dX8_digit_63 (by decide) ?_
          exact k_64 _ ⟨_, by simp only [if_pos c_56_4], rfl⟩
        · skip
          refine lv_iconst (v := (nI 0)) hx hb dX8_digit_59 (by decide) ?_
          refine lv_goto (tgt := 64) hx hb dX8_digit_60 (by decide) ?_
          exact k_64 _ ⟨_, by simp only [if_neg c_56_4], rfl⟩
    · skip
      refine n_if_ne (tgt := 39) hx hb dX8_digit_24 (by decide) (by omega) (fun c_24_5 => ?_) (fun c_24_5 => ?_)
      · skip
        refine lv_iconst (v := (nI 1)) hx hb dX8_digit_39 (by decide) ?_
        refine lv_goto (tgt := 44) hx hb dX8_digit_40 (by decide) ?_
        exact k_44 _ ⟨_, by simp only [if_neg c_24_5], rfl⟩
      · skip
        refine lv_iload_n hx hb dX8_digit_27 rfl (lv_at hl 0 rfl) ?_
        refine lv_i2l (v := (iZ ((((tk_h T n a : Nat) : Int)) - ((48 : Int)))).toInt64) hx hb dX8_digit_28 rfl ?_
        refine lv_iload_n hx hb dX8_digit_29 rfl (lv_at hl 2 rfl) ?_
        refine lv_i2l (v := (nI la9).toInt64) hx hb dX8_digit_30 rfl ?_
        refine lv_iload_n hx hb dX8_digit_31 rfl (lv_at hl 3 rfl) ?_
        refine lv_i2l (v := (nI lb9).toInt64) hx hb dX8_digit_32 rfl ?_
        refine rc_s (rest := [.ref g.2.2.2.1]) ⟨X.1, X.2.1, X.2.2.1, X.2.2.2.1⟩ hml hl.1 (k_in l ((iZ ((((tk_h T n a : Nat) : Int)) - ((48 : Int)))).toInt64) ((nI la9).toInt64) ((nI lb9).toInt64)) ok_in wm_X8_69 ⟨Nat.le_of_ble_eq_true rfl, Nat.le_of_ble_eq_true rfl⟩ ⟨Nat.le_refl _, Nat.le_refl _⟩ rfl (Nat.le_of_ble_eq_true rfl) dX8_digit_33 (fun r_33 hr_33 => ?_)
        have h9 : r_33 = nI (pc_inI ((((tk_h T n a : Nat) : Int)) - ((48 : Int))) ((la9 : Nat) : Int) ((lb9 : Nat) : Int)) := by rw [hr_33]; exact congrArg nI (pc_in_I (in_toZ (by omega) (by omega)) (in_toN (by omega)) (in_toN (by omega)))
        subst h9
        have i_33 := pc_inI_ok ((((tk_h T n a : Nat) : Int)) - ((48 : Int))) ((la9 : Nat) : Int) ((lb9 : Nat) : Int)
        refine n_if_ne (tgt := 43) hx hb dX8_digit_36 (by decide) (by omega) (fun c_36_6 => ?_) (fun c_36_6 => ?_)
        · skip
          refine lv_iconst (v := (nI 0)) hx hb dX8_digit_43 (by decide) ?_
          exact k_44 _ ⟨_, by simp only [if_pos c_24_5, if_neg c_36_6], rfl⟩
        · skip
          refine lv_iconst (v := (nI 1)) hx hb dX8_digit_39 (by decide) ?_
          refine lv_goto (tgt := 44) hx hb dX8_digit_40 (by decide) ?_
          exact k_44 _ ⟨_, by simp only [if_pos c_24_5, if_pos c_36_6], rfl⟩
  · skip
    refine lv_iload_n hx hb dX8_digit_7 rfl (lv_at hl 1 rfl) ?_
    refine lv_goto (tgt := 18) hx hb dX8_digit_8 (by decide) ?_
    refine lv_istore_n (lv' := [(3, .int (nI la9)), (0, .ref g.2.2.2.1), (1, .int (nI la9)), (2, .int (nI lb9))]) hx hb dX8_digit_18 rfl hl (by decide) rfl (fun ls hl => ?_)
    refine lv_aload_n hx hb dX8_digit_19 rfl (lv_at hl 1 rfl) ?_
    refine lv_aload_n hx hb dX8_digit_20 rfl (lv_at hl 1 rfl) ?_
    refine rg_10 X w.1 dX8_digit_21 ?_
    refine tp_i (show z.1 10 = (nI w9) from hwr) ?_
    refine jn (tgt := 44) (rest := [.ref g.2.2.2.1]) (fun v9 => ∃ x9 : Nat, x9 = (if w9 = 0 then (if (pc_inI ((la9 : Nat) : Int) ((la9 : Nat) : Int) ((lb9 : Nat) : Int)) = 0 then 1 else 0) else 1) ∧ v9 = nI x9) (fun v_ hv_ => ?_) (fun k_44 => ?_)
    · obtain ⟨x_44, ex_44, rfl⟩ := hv_
      refine rp_10 X w (by have q9 : x_44 ≤ 1 := (by rw [ex_44]; exact it_le (it_le (by omega) (by omega)) (by omega)); rcases (show x_44 = 0 ∨ x_44 = 1 by omega) with q | q <;> rw [q]; exact Or.inl rfl; exact Or.inr rfl) dX8_digit_44 (fun z_44 H locs ez_44 w => ?_)
      have w44 : z_44.1 10 = nI x_44 := by first | (rw [ez_44]; done) | (rw [ez_44]; rfl)
      have x44 : x_44 ≤ 1 := (by rw [ex_44]; exact it_le (it_le (by omega) (by omega)) (by omega))
      obtain ⟨pa9, hpa9, a44⟩ : ∃ q9 : Nat, q9 = a ∧ z_44.1 9 = nI q9 := ⟨_, rfl, by rw [ez_44]; exact hat⟩
      have x1 : x_44 = 1 := by rw [ex_44, if_neg (by omega)]
      refine lv_aload_n hx hb dX8_digit_47 rfl (lv_at hl 1 rfl) ?_
      refine lv_dup hx hb dX8_digit_48 rfl ?_
      refine rg_9 X w.1 dX8_digit_49 ?_
      refine tp_i (show z_44.1 9 = (nI pa9) from a44) ?_
      refine lv_aload_n hx hb dX8_digit_52 rfl (lv_at hl 1 rfl) ?_
      refine rg_10 X w.1 dX8_digit_53 ?_
      refine tp_i (show z_44.1 10 = (nI x_44) from w44) ?_
      refine jn (tgt := 64) (rest := [.int (nI pa9), .ref g.2.2.2.1]) (fun v9 => ∃ x9 : Nat, x9 = (if x_44 = 0 then 1 else 0) ∧ v9 = nI x9) (fun v_ hv_ => ?_) (fun k_64 => ?_)
      · obtain ⟨x_64, ex_64, rfl⟩ := hv_
        refine n_iadd hx hb dX8_digit_64 ?_
        refine rp_9 X w dX8_digit_65 (fun z_65 H locs ez_65 w => ?_)
        refine lv_iload_n hx hb dX8_digit_68 rfl (lv_at hl 0 rfl) ?_
        exact re_i X hr hk w (⟨by unfold tk_dv; rw [if_neg (by omega)]; exact (iZ_n la9).symm, by rw [ez_65]; show nI (pa9 + x_64) = _; unfold tk_da; rw [if_neg (by omega), ex_64, if_neg (by omega)]; exact congrArg nI (by omega), by rw [ez_65]; show z_44.1 10 = _; rw [w44]; unfold tk_dw; rw [if_neg (by omega)]; exact congrArg nI (by omega), by rw [ez_65]; exact rFr_tr (by rw [ez_44]; exact rFr_I _ (by decide)) (rFr_I _ (by decide))⟩) dX8_digit_69
      · skip
        refine n_if_eq (tgt := 63) hx hb dX8_digit_56 (by decide) (by omega) (fun c_56_9 => ?_) (fun c_56_9 => ?_)
        · skip
          refine lv_iconst (v := (nI 1)) hx hb dX8_digit_63 (by decide) ?_
          exact k_64 _ ⟨_, by simp only [if_pos c_56_9], rfl⟩
        · skip
          refine lv_iconst (v := (nI 0)) hx hb dX8_digit_59 (by decide) ?_
          refine lv_goto (tgt := 64) hx hb dX8_digit_60 (by decide) ?_
          exact k_64 _ ⟨_, by simp only [if_neg c_56_9], rfl⟩
    · skip
      refine n_if_ne (tgt := 39) hx hb dX8_digit_24 (by decide) (by omega) (fun c_24_10 => ?_) (fun c_24_10 => ?_)
      · skip
        refine lv_iconst (v := (nI 1)) hx hb dX8_digit_39 (by decide) ?_
        refine lv_goto (tgt := 44) hx hb dX8_digit_40 (by decide) ?_
        exact k_44 _ ⟨_, by simp only [if_neg c_24_10], rfl⟩
      · skip
        refine lv_iload_n hx hb dX8_digit_27 rfl (lv_at hl 0 rfl) ?_
        refine lv_i2l (v := (nI la9).toInt64) hx hb dX8_digit_28 rfl ?_
        refine lv_iload_n hx hb dX8_digit_29 rfl (lv_at hl 2 rfl) ?_
        refine lv_i2l (v := (nI la9).toInt64) hx hb dX8_digit_30 rfl ?_
        refine lv_iload_n hx hb dX8_digit_31 rfl (lv_at hl 3 rfl) ?_
        refine lv_i2l (v := (nI lb9).toInt64) hx hb dX8_digit_32 rfl ?_
        refine rc_s (rest := [.ref g.2.2.2.1]) ⟨X.1, X.2.1, X.2.2.1, X.2.2.2.1⟩ hml hl.1 (k_in l ((nI la9).toInt64) ((nI la9).toInt64) ((nI lb9).toInt64)) ok_in wm_X8_69 ⟨Nat.le_of_ble_eq_true rfl, Nat.le_of_ble_eq_true rfl⟩ ⟨Nat.le_refl _, Nat.le_refl _⟩ rfl (Nat.le_of_ble_eq_true rfl) dX8_digit_33 (fun r_33 hr_33 => ?_)
        have h9 : r_33 = nI (pc_inI ((la9 : Nat) : Int) ((la9 : Nat) : Int) ((lb9 : Nat) : Int)) := by rw [hr_33]; exact congrArg nI (pc_in_I (in_toN (by omega)) (in_toN (by omega)) (in_toN (by omega)))
        subst h9
        have i_33 := pc_inI_ok ((la9 : Nat) : Int) ((la9 : Nat) : Int) ((lb9 : Nat) : Int)
        refine n_if_ne (tgt := 43) hx hb dX8_digit_36 (by decide) (by omega) (fun c_36_11 => ?_) (fun c_36_11 => ?_)
        · skip
          refine lv_iconst (v := (nI 0)) hx hb dX8_digit_43 (by decide) ?_
          exact k_44 _ ⟨_, by simp only [if_pos c_24_10, if_neg c_36_11], rfl⟩
        · skip
          refine lv_iconst (v := (nI 1)) hx hb dX8_digit_39 (by decide) ?_
          refine lv_goto (tgt := 44) hx hb dX8_digit_40 (by decide) ?_
          exact k_44 _ ⟨_, by simp only [if_pos c_24_10, if_pos c_36_11], rfl⟩

theorem ok_readFighter : rOk yX8_readFighter cX8_readFighter 3 none 0 := ⟨wc_X8_readFighter, wi_X8_readFighter, ws_X8_readFighter, rfl, by decide, by decide, by decide +kernel⟩
set_option maxHeartbeats 4000000 in
set_option maxRecDepth 100000 in
theorem k_readFighter (l : Launch) (g : RG) (z : RS)  (T : Nat → Nat) (n : Nat) (htp : rTp z n T) (a : Nat) (hat : z.1 9 = nI a) (ha9 : a ≤ 100000) (hwr : z.1 10 = nI 0) (j9 : Nat) (hj9 : z.1 12 = nI j9) (hj5 : j9 < 5) (hn2 : a ≤ 50000) : rMv g l yX8_readFighter cX8_readFighter 3 none 2 48 [] z (fun z' => z'.1 9 = nI (fk_a T n a) ∧ z'.1 10 = nI (fk_w T n a) ∧ z'.1 12 = nI (j9 + 1) ∧ (∀ q, q < 4 → z'.2.1 14 (4 * j9 + q) = iZ (fk_v T n a q)) ∧ (∀ q, q < 4 * j9 → z'.2.1 14 q = z.2.1 14 q) ∧ rFr [9, 10, 12] [14] z z') := by
  refine rMv_in (by decide) rfl (Nat.le_of_ble_eq_true rfl) ?_
  intro p e s m args below meth c A ls X hml hr hk hl w
  have hx := X.1
  have hb := X.2.1
  have hts := X.2.2.1
  have hown := X.2.2.2.1
  have hl : lv_has ls 3 [(0, .ref g.2.2.2.1)] := hl
  obtain ⟨t1, t2, t3, t4⟩ := id htp
  have al := fk_a_le T n a
  have w1l := w01 T n 1 9 (fk_a0 T n a) (fk_w0 (tk_h T n a))
  have w2l := w01 T n 1 6 (fk_a1 T n a) (fk_w1 T n a)
  have w0l := fk_w0_le (tk_h T n a)
  refine lv_iconst (v := (nI 4)) hx hb dX8_readFighter_0 (by decide) ?_
  refine lv_aload_n hx hb dX8_readFighter_1 rfl (lv_at hl 0 rfl) ?_
  refine rg_12 X w.1 dX8_readFighter_2 ?_
  refine tp_i (show z.1 12 = (nI j9) from hj9) ?_
  refine n_imul hx hb dX8_readFighter_5 ?_
  refine lv_istore_n (lv' := [(1, .int (nI (4 * j9))), (0, .ref g.2.2.2.1)]) hx hb dX8_readFighter_6 rfl hl (by decide) rfl (fun ls hl => ?_)
  refine lv_aload_n hx hb dX8_readFighter_7 rfl (lv_at hl 1 rfl) ?_
  refine rg_10 X w.1 dX8_readFighter_8 ?_
  refine tp_i (show z.1 10 = (nI 0) from hwr) ?_
  refine n_if_eq (tgt := 18) hx hb dX8_readFighter_11 (by decide) (by omega) (fun c_11_1 => ?_) (fun c_11_1 => ?_)
  · skip
    refine lv_aload_n hx hb dX8_readFighter_18 rfl (lv_at hl 1 rfl) ?_
    refine rc_i (rest := []) X hml hl.1 (k_here l g z T n htp a hat (by omega)) ok_here wm_X8_149 ⟨Nat.le_of_ble_eq_true rfl, Nat.le_of_ble_eq_true rfl⟩ ⟨Nat.le_refl _, Nat.le_refl _⟩ w rfl (Nat.le_of_ble_eq_true rfl) dX8_readFighter_19 (fun r_19 z_19 H locs hr_19 w => ?_)
    obtain ⟨h9, hs9, fz9⟩ := hr_19
    subst h9
    have hl9 := tk_h_le t4 n a
    have sl9 := tk_le T n a
    refine lv_istore_n (lv' := [(2, .int (nI (tk_h T n a))), (1, .int (nI (4 * j9))), (0, .ref g.2.2.2.1)]) hx hb dX8_readFighter_22 rfl hl (by decide) rfl (fun ls hl => ?_)
    refine lv_aload_n hx hb dX8_readFighter_23 rfl (lv_at hl 2 rfl) ?_
    refine rg_14 X w.1 dX8_readFighter_24 ?_
    refine lv_iload_n hx hb dX8_readFighter_27 rfl (lv_at hl 1 rfl) ?_
    refine lv_iload_n hx hb dX8_readFighter_28 rfl (lv_at hl 0 rfl) ?_
    refine lv_bipush (v := (nI 112)) hx hb dX8_readFighter_29 (by decide) ?_
    refine jn (tgt := 59) (rest := [.int (nI (4 * j9)), .ref (g.2.2.2.2 14)]) (fun v9 => ∃ x9 : Nat, x9 = (if (tk_h T n a) = 112 then 0 else (if (tk_h T n a) = 115 then 1 else (if (tk_h T n a) = 108 then 2 else 3))) ∧ v9 = nI x9) (fun v_ hv_ => ?_) (fun k_59 => ?_)
    · obtain ⟨x_59, ex_59, rfl⟩ := hv_
      refine ru_14 X w (by omega) dX8_readFighter_59 (fun z_59 H locs ez_59 w => ?_)
      have fz19 := rFr_w (is' := [9, 10]) (ks' := [14]) fz9 (by simp) (by simp)
      have f59 : rFr [9, 10] [14] z z_59 := by rw [ez_59]; exact rFr_tr fz19 (rFr_A _ (by decide))
      have w59 : z_59.1 10 = nI 0 := by rw [ez_59]; exact (fz9.1 10 (by decide)).trans hwr
      have r59 : z_59.2.1 14 = upd (z.2.1 14) (4 * j9) (nI x_59) := by rw [ez_59]; show upd (z_19.2.1 14) (4 * j9) (nI x_59) = _; rw [fz9.2.1 14 (by decide)]
      have a59 : z_59.1 9 = nI (tk_s T n a) := by rw [ez_59]; exact hs9
      refine lv_aload_n hx hb dX8_readFighter_60 rfl (lv_at hl 2 rfl) ?_
      refine lv_aload_n hx hb dX8_readFighter_61 rfl (lv_at hl 2 rfl) ?_
      refine rg_10 X w.1 dX8_readFighter_62 ?_
      refine tp_i (show z_59.1 10 = (nI 0) from w59) ?_
      refine jn (tgt := 97) (rest := [.ref g.2.2.2.1]) (fun v9 => ∃ x9 : Nat, x9 = (if 0 = 0 then (if (tk_h T n a) = 112 then 0 else (if (tk_h T n a) = 115 then 0 else (if (tk_h T n a) = 108 then 0 else (if (tk_h T n a) = 102 then 0 else 1)))) else 1) ∧ v9 = nI x9) (fun v_ hv_ => ?_) (fun k_97 => ?_)
      · obtain ⟨x_97, ex_97, rfl⟩ := hv_
        refine rp_10 X w (by have q9 : x_97 ≤ 1 := (by rw [ex_97]; exact it_le (fk_w0_le _) (by omega)); rcases (show x_97 = 0 ∨ x_97 = 1 by omega) with q | q <;> rw [q]; exact Or.inl rfl; exact Or.inr rfl) dX8_readFighter_97 (fun z_97 H locs ez_97 w => ?_)
        have w97 : z_97.1 10 = nI x_97 := by first | (rw [ez_97]; done) | (rw [ez_97]; rfl)
        have a97 : z_97.1 9 = nI (tk_s T n a) := by rw [ez_97]; exact a59
        have e97 : x_97 = fk_w0 (tk_h T n a) := by rw [ex_97]; rfl
        have x97 : x_97 ≤ 1 := by rw [e97]; exact w0l
        refine lv_aload_n hx hb dX8_readFighter_100 rfl (lv_at hl 2 rfl) ?_
        refine lv_dup hx hb dX8_readFighter_101 rfl ?_
        refine rg_9 X w.1 dX8_readFighter_102 ?_
        refine tp_i (show z_97.1 9 = (nI (tk_s T n a)) from a97) ?_
        refine lv_aload_n hx hb dX8_readFighter_105 rfl (lv_at hl 2 rfl) ?_
        refine rg_10 X w.1 dX8_readFighter_106 ?_
        refine tp_i (show z_97.1 10 = (nI x_97) from w97) ?_
        refine jn (tgt := 117) (rest := [.int (nI (tk_s T n a)), .ref g.2.2.2.1]) (fun v9 => ∃ x9 : Nat, x9 = (if x_97 = 0 then 1 else 0) ∧ v9 = nI x9) (fun v_ hv_ => ?_) (fun k_117 => ?_)
        · obtain ⟨x_117, ex_117, rfl⟩ := hv_
          refine n_iadd hx hb dX8_readFighter_117 ?_
          refine rp_9 X w dX8_readFighter_118 (fun z_118 H locs ez_118 w => ?_)
          have a118 : z_118.1 9 = nI (fk_a0 T n a) := by rw [ez_118]; show nI (tk_s T n a + x_117) = _; rw [ex_117, e97]; rfl
          have w118 : z_118.1 10 = nI (fk_w0 (tk_h T n a)) := by rw [ez_118, ← e97]; exact w97
          have f118 : rFr [9, 10] [14] z z_118 := by rw [ez_118]; exact rFr_tr (by rw [ez_97]; exact rFr_tr f59 (rFr_I _ (by decide))) (rFr_I _ (by decide))
          have r118 : z_118.2.1 14 = upd (z.2.1 14) (4 * j9) (nI x_59) := by rw [ez_118, ez_97]; exact r59
          have tp118 := tp_fr f118 (by decide) (by decide) htp
          refine lv_aload_n hx hb dX8_readFighter_121 rfl (lv_at hl 2 rfl) ?_
          refine rg_14 X w.1 dX8_readFighter_122 ?_
          refine lv_iload_n hx hb dX8_readFighter_125 rfl (lv_at hl 1 rfl) ?_
          refine lv_iconst (v := (nI 1)) hx hb dX8_readFighter_126 (by decide) ?_
          refine n_iadd hx hb dX8_readFighter_127 ?_
          refine lv_aload_n hx hb dX8_readFighter_128 rfl (lv_at hl 2 rfl) ?_
          refine lv_iconst (v := (nI 1)) hx hb dX8_readFighter_129 (by decide) ?_
          refine lv_bipush (v := (nI 9)) hx hb dX8_readFighter_130 (by decide) ?_
          refine rc_i (rest := [.int (nI ((4 * j9) + 1)), .ref (g.2.2.2.2 14)]) X hml hl.1 (k_digit l g z_118 1 9 T n tp118 (fk_a0 T n a) a118 (by omega) (fk_w0 (tk_h T n a)) w118 w0l (by omega) (by omega)) ok_digit wm_X8_156 ⟨Nat.le_of_ble_eq_true rfl, Nat.le_of_ble_eq_true rfl⟩ ⟨Nat.le_refl _, Nat.le_refl _⟩ w rfl (Nat.le_of_ble_eq_true rfl) dX8_readFighter_132 (fun r_132 z_132 H locs hr_132 w => ?_)
          obtain ⟨h9, a132, w132, f132⟩ := id hr_132
          subst h9
          have f132 := rFr_w (is' := [9, 10]) (ks' := [14]) f132 (by simp) (by simp)
          refine ru_14 X w (by omega) dX8_readFighter_135 (fun z_135 H locs ez_135 w => ?_)
          have f135 : rFr [9, 10] [14] z z_135 := by rw [ez_135]; exact rFr_tr (rFr_tr f118 f132) (rFr_A _ (by decide))
          have a135 : z_135.1 9 = nI (fk_a1 T n a) := by rw [ez_135]; exact a132
          have w135 : z_135.1 10 = nI (fk_w1 T n a) := by rw [ez_135]; exact w132
          have r135 : z_135.2.1 14 = upd (upd (z.2.1 14) (4 * j9) (nI x_59)) (4 * j9 + 1) (iZ (fk_v T n a 1)) := by rw [ez_135]; show upd (z_132.2.1 14) (4 * j9 + 1) _ = _; rw [hr_132.2.2.2.2.1 14 (by decide), r118]; rfl
          have tp135 := tp_fr f135 (by decide) (by decide) htp
          refine lv_aload_n hx hb dX8_readFighter_136 rfl (lv_at hl 2 rfl) ?_
          refine rg_14 X w.1 dX8_readFighter_137 ?_
          refine lv_iload_n hx hb dX8_readFighter_140 rfl (lv_at hl 1 rfl) ?_
          refine lv_iconst (v := (nI 2)) hx hb dX8_readFighter_141 (by decide) ?_
          refine n_iadd hx hb dX8_readFighter_142 ?_
          refine lv_aload_n hx hb dX8_readFighter_143 rfl (lv_at hl 2 rfl) ?_
          refine lv_iconst (v := (nI 1)) hx hb dX8_readFighter_144 (by decide) ?_
          refine lv_bipush (v := (nI 6)) hx hb dX8_readFighter_145 (by decide) ?_
          refine rc_i (rest := [.int (nI ((4 * j9) + 2)), .ref (g.2.2.2.2 14)]) X hml hl.1 (k_digit l g z_135 1 6 T n tp135 (fk_a1 T n a) a135 (by omega) (fk_w1 T n a) w135 w1l (by omega) (by omega)) ok_digit wm_X8_156 ⟨Nat.le_of_ble_eq_true rfl, Nat.le_of_ble_eq_true rfl⟩ ⟨Nat.le_refl _, Nat.le_refl _⟩ w rfl (Nat.le_of_ble_eq_true rfl) dX8_readFighter_147 (fun r_147 z_147 H locs hr_147 w => ?_)
          obtain ⟨h9, a147, w147, f147⟩ := id hr_147
          subst h9
          have f147 := rFr_w (is' := [9, 10]) (ks' := [14]) f147 (by simp) (by simp)
          refine ru_14 X w (by omega) dX8_readFighter_150 (fun z_150 H locs ez_150 w => ?_)
          have f150 : rFr [9, 10] [14] z z_150 := by rw [ez_150]; exact rFr_tr (rFr_tr f135 f147) (rFr_A _ (by decide))
          have a150 : z_150.1 9 = nI (fk_a2 T n a) := by rw [ez_150]; exact a147
          have w150 : z_150.1 10 = nI (fk_w2 T n a) := by rw [ez_150]; exact w147
          have r150 : z_150.2.1 14 = upd (upd (upd (z.2.1 14) (4 * j9) (nI x_59)) (4 * j9 + 1) (iZ (fk_v T n a 1))) (4 * j9 + 2) (iZ (fk_v T n a 2)) := by rw [ez_150]; show upd (z_147.2.1 14) (4 * j9 + 2) _ = _; rw [hr_147.2.2.2.2.1 14 (by decide), r135]; rfl
          have tp150 := tp_fr f150 (by decide) (by decide) htp
          refine lv_aload_n hx hb dX8_readFighter_151 rfl (lv_at hl 2 rfl) ?_
          refine rg_14 X w.1 dX8_readFighter_152 ?_
          refine lv_iload_n hx hb dX8_readFighter_155 rfl (lv_at hl 1 rfl) ?_
          refine lv_iconst (v := (nI 3)) hx hb dX8_readFighter_156 (by decide) ?_
          refine n_iadd hx hb dX8_readFighter_157 ?_
          refine lv_aload_n hx hb dX8_readFighter_158 rfl (lv_at hl 2 rfl) ?_
          refine lv_bipush (v := (nI 45)) hx hb dX8_readFighter_159 (by decide) ?_
          refine rc_i (rest := [.int (nI ((4 * j9) + 3)), .ref (g.2.2.2.2 14)]) X hml hl.1 (k_has l g z_150 45 T n tp150 (fk_a2 T n a) a150 (by omega) (fk_w2 T n a) w150 w2l (by omega)) ok_has wm_X8_159 ⟨Nat.le_of_ble_eq_true rfl, Nat.le_of_ble_eq_true rfl⟩ ⟨Nat.le_refl _, Nat.le_refl _⟩ w rfl (Nat.le_of_ble_eq_true rfl) dX8_readFighter_161 (fun r_161 z_161 H locs hr_161 w => ?_)
          obtain ⟨h9, a161, f161⟩ := id hr_161
          have h8 : r_161 = nI (fk_q T n a) := h9
          subst h8
          have q01 := hv01 T n 45 (fk_a2 T n a) (fk_w2 T n a)
          have q02 : fk_q T n a ≤ 1 := q01
          have w161 : z_161.1 10 = nI (fk_w2 T n a) := (f161.1 10 (by decide)).trans w150
          have f161 := rFr_w (is' := [9, 10]) (ks' := [14]) f161 (by simp) (by simp)
          refine n_if_eq (tgt := 177) hx hb dX8_readFighter_164 (by decide) (by omega) (fun c_164_5 => ?_) (fun c_164_5 => ?_)
          · skip
            refine lv_iconst (v := (nI 0)) hx hb dX8_readFighter_177 (by decide) ?_
            refine ru_14 X w (by omega) dX8_readFighter_178 (fun z_178 H locs ez_178 w => ?_)
            have f178 : rFr [9, 10] [14] z z_178 := by rw [ez_178]; exact rFr_tr (rFr_tr f150 f161) (rFr_A _ (by decide))
            have a178 : z_178.1 9 = nI (fk_a T n a) := by rw [ez_178]; unfold fk_a; rw [if_pos (by omega)]; exact a161
            have w178 : z_178.1 10 = nI (fk_w T n a) := by rw [ez_178]; unfold fk_w; rw [if_pos (by omega)]; exact w161
            have r178 : z_178.2.1 14 = upd (z_150.2.1 14) (4 * j9 + 3) (iZ (fk_v T n a 3)) := by rw [ez_178]; show upd (z_161.2.1 14) (4 * j9 + 3) _ = _; rw [hr_161.2.2.2.1 14 (by decide)]; show _ = upd _ _ (iZ (if fk_q T n a = 0 then 0 else _)); rw [if_pos (by omega)]; rfl
            have j178 : z_178.1 12 = nI j9 := (f178.1 12 (by decide)).trans hj9
            refine lv_aload_n hx hb dX8_readFighter_179 rfl (lv_at hl 2 rfl) ?_
            refine lv_dup hx hb dX8_readFighter_180 rfl ?_
            refine rg_12 X w.1 dX8_readFighter_181 ?_
            refine tp_i (show z_178.1 12 = (nI j9) from j178) ?_
            refine lv_iconst (v := (nI 1)) hx hb dX8_readFighter_184 (by decide) ?_
            refine n_iadd hx hb dX8_readFighter_185 ?_
            refine rp_12 X w dX8_readFighter_186 (fun z_186 H locs ez_186 w => ?_)
            exact re_v X hr hk w (by obtain ⟨u1, u2⟩ := rf4 (show z_178.2.1 14 = _ by rw [r178, r150]); exact ⟨by rw [ez_186]; exact a178, by rw [ez_186]; exact w178, by first | (rw [ez_186]; done) | (rw [ez_186]; rfl), by rw [ez_186]; intro q hq; rcases (show q = 0 ∨ q = 1 ∨ q = 2 ∨ q = 3 by omega) with rfl | rfl | rfl | rfl; exact u1.1.trans (by rw [ex_59, ← iZ_n]; rfl); exact u1.2.1; exact u1.2.2.1; exact u1.2.2.2, by rw [ez_186]; exact u2, by rw [ez_186]; exact rFr_tr (rFr_w f178 (by simp) (fun _ q => q)) (rFr_I _ (by decide))⟩) dX8_readFighter_189
          · skip
            refine lv_aload_n hx hb dX8_readFighter_167 rfl (lv_at hl 2 rfl) ?_
            refine lv_iconst (v := (nI 0)) hx hb dX8_readFighter_168 (by decide) ?_
            refine lv_bipush (v := (nI 6)) hx hb dX8_readFighter_169 (by decide) ?_
            refine rc_i (rest := [.int (nI ((4 * j9) + 3)), .ref (g.2.2.2.2 14)]) X hml hl.1 (k_digit l g z_161 0 6 T n (tp_fr f161 (by decide) (by decide) tp150) (fk_a3 T n a) a161 (by omega) (fk_w2 T n a) w161 w2l (by omega) (by omega)) ok_digit wm_X8_156 ⟨Nat.le_of_ble_eq_true rfl, Nat.le_of_ble_eq_true rfl⟩ ⟨Nat.le_refl _, Nat.le_refl _⟩ w rfl (Nat.le_of_ble_eq_true rfl) dX8_readFighter_171 (fun r_171 z_171 H locs hr_171 w => ?_)
            obtain ⟨h9, a171, w171, f171⟩ := id hr_171
            subst h9
            have f171 := rFr_w (is' := [9, 10]) (ks' := [14]) f171 (by simp) (by simp)
            refine lv_goto (tgt := 178) hx hb dX8_readFighter_174 (by decide) ?_
            refine ru_14 X w (by omega) dX8_readFighter_178 (fun z_178 H locs ez_178 w => ?_)
            have f178 : rFr [9, 10] [14] z z_178 := by rw [ez_178]; exact rFr_tr (rFr_tr (rFr_tr f150 f161) f171) (rFr_A _ (by decide))
            have a178 : z_178.1 9 = nI (fk_a T n a) := by rw [ez_178]; unfold fk_a; rw [if_neg (by omega)]; exact a171
            have w178 : z_178.1 10 = nI (fk_w T n a) := by rw [ez_178]; unfold fk_w; rw [if_neg (by omega)]; exact w171
            have r178 : z_178.2.1 14 = upd (z_150.2.1 14) (4 * j9 + 3) (iZ (fk_v T n a 3)) := by rw [ez_178]; show upd (z_171.2.1 14) (4 * j9 + 3) _ = _; rw [hr_171.2.2.2.2.1 14 (by decide), hr_161.2.2.2.1 14 (by decide)]; show _ = upd _ _ (iZ (if fk_q T n a = 0 then 0 else _)); rw [if_neg (by omega)]
            have j178 : z_178.1 12 = nI j9 := (f178.1 12 (by decide)).trans hj9
            refine lv_aload_n hx hb dX8_readFighter_179 rfl (lv_at hl 2 rfl) ?_
            refine lv_dup hx hb dX8_readFighter_180 rfl ?_
            refine rg_12 X w.1 dX8_readFighter_181 ?_
            refine tp_i (show z_178.1 12 = (nI j9) from j178) ?_
            refine lv_iconst (v := (nI 1)) hx hb dX8_readFighter_184 (by decide) ?_
            refine n_iadd hx hb dX8_readFighter_185 ?_
            refine rp_12 X w dX8_readFighter_186 (fun z_186 H locs ez_186 w => ?_)
            exact re_v X hr hk w (by obtain ⟨u1, u2⟩ := rf4 (show z_178.2.1 14 = _ by rw [r178, r150]); exact ⟨by rw [ez_186]; exact a178, by rw [ez_186]; exact w178, by first | (rw [ez_186]; done) | (rw [ez_186]; rfl), by rw [ez_186]; intro q hq; rcases (show q = 0 ∨ q = 1 ∨ q = 2 ∨ q = 3 by omega) with rfl | rfl | rfl | rfl; exact u1.1.trans (by rw [ex_59, ← iZ_n]; rfl); exact u1.2.1; exact u1.2.2.1; exact u1.2.2.2, by rw [ez_186]; exact u2, by rw [ez_186]; exact rFr_tr (rFr_w f178 (by simp) (fun _ q => q)) (rFr_I _ (by decide))⟩) dX8_readFighter_189
        · skip
          refine n_if_eq (tgt := 116) hx hb dX8_readFighter_109 (by decide) (by omega) (fun c_109_6 => ?_) (fun c_109_6 => ?_)
          · skip
            refine lv_iconst (v := (nI 1)) hx hb dX8_readFighter_116 (by decide) ?_
            exact k_117 _ ⟨_, by simp only [if_pos c_109_6], rfl⟩
          · skip
            refine lv_iconst (v := (nI 0)) hx hb dX8_readFighter_112 (by decide) ?_
            refine lv_goto (tgt := 117) hx hb dX8_readFighter_113 (by decide) ?_
            exact k_117 _ ⟨_, by simp only [if_neg c_109_6], rfl⟩
      · skip
        refine n_if_ne (tgt := 92) hx hb dX8_readFighter_65 (by decide) (by omega) (fun c_65_7 => ?_) (fun c_65_7 => ?_)
        · skip
          refine lv_iconst (v := (nI 1)) hx hb dX8_readFighter_92 (by decide) ?_
          refine lv_goto (tgt := 97) hx hb dX8_readFighter_93 (by decide) ?_
          exact k_97 _ ⟨_, by first | (simp only [if_neg c_65_7]; done) | (simp only [eq_self, ite_true]; done) | rfl | (exact absurd rfl c_65_7), rfl⟩
        · skip
          refine lv_iload_n hx hb dX8_readFighter_68 rfl (lv_at hl 0 rfl) ?_
          refine lv_bipush (v := (nI 112)) hx hb dX8_readFighter_69 (by decide) ?_
          refine n_icmp_eq (tgt := 96) hx hb dX8_readFighter_71 (by decide) (by omega) (by omega) (fun c_71_8 => ?_) (fun c_71_8 => ?_)
          · skip
            refine lv_iconst (v := (nI 0)) hx hb dX8_readFighter_96 (by decide) ?_
            exact k_97 _ ⟨_, by first | (simp only [if_pos c_65_7, if_pos c_71_8]; done) | (simp only [eq_self, ite_true, if_pos c_71_8]; done) | rfl | (exact absurd rfl c_71_8), rfl⟩
          · skip
            refine lv_iload_n hx hb dX8_readFighter_74 rfl (lv_at hl 0 rfl) ?_
            refine lv_bipush (v := (nI 115)) hx hb dX8_readFighter_75 (by decide) ?_
            refine n_icmp_eq (tgt := 96) hx hb dX8_readFighter_77 (by decide) (by omega) (by omega) (fun c_77_9 => ?_) (fun c_77_9 => ?_)
            · skip
              refine lv_iconst (v := (nI 0)) hx hb dX8_readFighter_96 (by decide) ?_
              exact k_97 _ ⟨_, by first | (simp only [if_pos c_65_7, if_neg c_71_8, if_pos c_77_9]; done) | (simp only [eq_self, ite_true, if_neg c_71_8, if_pos c_77_9]; done) | rfl | (exact absurd rfl c_77_9), rfl⟩
            · skip
              refine lv_iload_n hx hb dX8_readFighter_80 rfl (lv_at hl 0 rfl) ?_
              refine lv_bipush (v := (nI 108)) hx hb dX8_readFighter_81 (by decide) ?_
              refine n_icmp_eq (tgt := 96) hx hb dX8_readFighter_83 (by decide) (by omega) (by omega) (fun c_83_10 => ?_) (fun c_83_10 => ?_)
              · skip
                refine lv_iconst (v := (nI 0)) hx hb dX8_readFighter_96 (by decide) ?_
                exact k_97 _ ⟨_, by first | (simp only [if_pos c_65_7, if_neg c_71_8, if_neg c_77_9, if_pos c_83_10]; done) | (simp only [eq_self, ite_true, if_neg c_71_8, if_neg c_77_9, if_pos c_83_10]; done) | rfl | (exact absurd rfl c_83_10), rfl⟩
              · skip
                refine lv_iload_n hx hb dX8_readFighter_86 rfl (lv_at hl 0 rfl) ?_
                refine lv_bipush (v := (nI 102)) hx hb dX8_readFighter_87 (by decide) ?_
                refine n_icmp_eq (tgt := 96) hx hb dX8_readFighter_89 (by decide) (by omega) (by omega) (fun c_89_11 => ?_) (fun c_89_11 => ?_)
                · skip
                  refine lv_iconst (v := (nI 0)) hx hb dX8_readFighter_96 (by decide) ?_
                  exact k_97 _ ⟨_, by first | (simp only [if_pos c_65_7, if_neg c_71_8, if_neg c_77_9, if_neg c_83_10, if_pos c_89_11]; done) | (simp only [eq_self, ite_true, if_neg c_71_8, if_neg c_77_9, if_neg c_83_10, if_pos c_89_11]; done) | rfl | (exact absurd rfl c_89_11), rfl⟩
                · skip
                  refine lv_iconst (v := (nI 1)) hx hb dX8_readFighter_92 (by decide) ?_
                  refine lv_goto (tgt := 97) hx hb dX8_readFighter_93 (by decide) ?_
                  exact k_97 _ ⟨_, by first | (simp only [if_pos c_65_7, if_neg c_71_8, if_neg c_77_9, if_neg c_83_10, if_neg c_89_11]; done) | (simp only [eq_self, ite_true, if_neg c_71_8, if_neg c_77_9, if_neg c_83_10, if_neg c_89_11]; done) | rfl | (exact absurd rfl c_89_11), rfl⟩
    · skip
      refine n_icmp_ne (tgt := 38) hx hb dX8_readFighter_31 (by decide) (by omega) (by omega) (fun c_31_12 => ?_) (fun c_31_12 => ?_)
      · skip
        refine lv_iload_n hx hb dX8_readFighter_38 rfl (lv_at hl 0 rfl) ?_
        refine lv_bipush (v := (nI 115)) hx hb dX8_readFighter_39 (by decide) ?_
        refine n_icmp_ne (tgt := 48) hx hb dX8_readFighter_41 (by decide) (by omega) (by omega) (fun c_41_13 => ?_) (fun c_41_13 => ?_)
        · skip
          refine lv_iload_n hx hb dX8_readFighter_48 rfl (lv_at hl 0 rfl) ?_
          refine lv_bipush (v := (nI 108)) hx hb dX8_readFighter_49 (by decide) ?_
          refine n_icmp_ne (tgt := 58) hx hb dX8_readFighter_51 (by decide) (by omega) (by omega) (fun c_51_14 => ?_) (fun c_51_14 => ?_)
          · skip
            refine lv_iconst (v := (nI 3)) hx hb dX8_readFighter_58 (by decide) ?_
            exact k_59 _ ⟨_, by simp only [if_neg c_31_12, if_neg c_41_13, if_neg c_51_14], rfl⟩
          · skip
            refine lv_iconst (v := (nI 2)) hx hb dX8_readFighter_54 (by decide) ?_
            refine lv_goto (tgt := 59) hx hb dX8_readFighter_55 (by decide) ?_
            exact k_59 _ ⟨_, by simp only [if_neg c_31_12, if_neg c_41_13, if_pos c_51_14], rfl⟩
        · skip
          refine lv_iconst (v := (nI 1)) hx hb dX8_readFighter_44 (by decide) ?_
          refine lv_goto (tgt := 59) hx hb dX8_readFighter_45 (by decide) ?_
          exact k_59 _ ⟨_, by simp only [if_neg c_31_12, if_pos c_41_13], rfl⟩
      · skip
        refine lv_iconst (v := (nI 0)) hx hb dX8_readFighter_34 (by decide) ?_
        refine lv_goto (tgt := 59) hx hb dX8_readFighter_35 (by decide) ?_
        exact k_59 _ ⟨_, by simp only [if_pos c_31_12], rfl⟩
  · skip
    exact absurd rfl c_11_1
