theorem ok_in : rOkS yX8_in cX8_in 6 (some .boolean) 3 := ⟨wc_X8_in, wt_X8_in, rfl, by decide, by decide, by decide +kernel⟩
set_option maxHeartbeats 4000000 in
set_option maxRecDepth 100000 in
theorem k_in (l : Launch) (v : Int64) (low : Int64) (high : Int64)  : rMs l yX8_in cX8_in 6 (some .boolean) 0 0 [.long (v), .long (low), .long (high)] (fun r => r = nI (pc_in v low high)) := by
  refine rMs_in (by decide) rfl (Nat.le_of_ble_eq_true rfl) ?_
  intro p e s m args below meth c ls X hml hr hk hl
  have hx := X.1
  have hb := X.2.1
  have hts := X.2.2.1
  have hown := X.2.2.2
  have hl : lv_has ls 6 [(0, .long (v)), (2, .long (low)), (4, .long (high))] := hl
  refine lv_lload_n hx hb dX8_in_0 rfl (lv_at hl 0 rfl) ?_
  refine lv_lload_n hx hb dX8_in_1 rfl (lv_at hl 1 rfl) ?_
  refine W.lcmp hx hb dX8_in_2 ?_
  refine jn (tgt := 18) (rest := []) (fun v9 => ∃ x9 : Nat, x9 = (if ((lg_cmp v low)) < 0 then 0 else (if 0 < ((lg_cmp v high)) then 0 else 1)) ∧ v9 = nI x9) (fun v_ hv_ => ?_) (fun k_18 => ?_)
  · obtain ⟨x_18, ex_18, rfl⟩ := hv_
    exact re_pz hx hb hr hk (by subst_vars; split; exact Or.inl rfl; split; exact Or.inl rfl; exact Or.inr rfl) (by subst_vars; simp only [pc_in, lg_cmp_lt, lg_cmp_gt]) dX8_in_18
  · skip
    refine lv_if_lt (tgt := 17) hx hb dX8_in_3 (by decide) (fun c_3_2 => ?_) (fun c_3_2 => ?_)
    · skip
      refine lv_iconst (v := (nI 0)) hx hb dX8_in_17 (by decide) ?_
      exact k_18 _ ⟨_, by simp only [if_pos c_3_2], rfl⟩
    · skip
      refine lv_lload_n hx hb dX8_in_6 rfl (lv_at hl 0 rfl) ?_
      refine lv_lload hx hb dX8_in_7 (lv_at hl 2 rfl) ?_
      refine W.lcmp hx hb dX8_in_9 ?_
      refine lv_if_gt (tgt := 17) hx hb dX8_in_10 (by decide) (fun c_10_3 => ?_) (fun c_10_3 => ?_)
      · skip
        refine lv_iconst (v := (nI 0)) hx hb dX8_in_17 (by decide) ?_
        exact k_18 _ ⟨_, by simp only [if_neg c_3_2, if_pos c_10_3], rfl⟩
      · skip
        refine lv_iconst (v := (nI 1)) hx hb dX8_in_13 (by decide) ?_
        refine lv_goto (tgt := 18) hx hb dX8_in_14 (by decide) ?_
        exact k_18 _ ⟨_, by simp only [if_neg c_3_2, if_neg c_10_3], rfl⟩

theorem ok_isFighter : rOk yX8_isFighter cX8_isFighter 2 (some .boolean) 1 := ⟨wc_X8_isFighter, wi_X8_isFighter, ws_X8_isFighter, rfl, by decide, by decide, by decide +kernel⟩
set_option maxHeartbeats 4000000 in
set_option maxRecDepth 100000 in
theorem k_isFighter (l : Launch) (g : RG) (z : RS) (f : Int32) (nf : Nat) (hnf : z.1 1 = nI nf) (hn5 : nf ≤ 5) : rMp g l yX8_isFighter cX8_isFighter 2 (some .boolean) 1 25 [.int f] z (fun r => r = nI (if f.toInt < 0 then 0 else if (nf : Int) ≤ f.toInt then 0 else 1)) := by
  refine rMp_in (by decide) rfl (Nat.le_of_ble_eq_true rfl) ?_
  intro p e s m args below meth c ls X hml hr hk hl w
  have hx := X.1
  have hb := X.2.1
  have hts := X.2.2.1
  have hown := X.2.2.2.1
  have hl : lv_has ls 2 [(0, .ref g.2.2.2.1), (1, .int f)] := hl
  refine lv_iload_n hx hb dX8_isFighter_0 rfl (lv_at hl 1 rfl) ?_
  refine lv_i2l (v := f.toInt64) hx hb dX8_isFighter_1 rfl ?_
  refine lv_lconst (v := 0) hx hb dX8_isFighter_2 (by decide) ?_
  refine lv_aload_n hx hb dX8_isFighter_3 rfl (lv_at hl 0 rfl) ?_
  refine rg_1 X w dX8_isFighter_4 ?_
  refine tp_i (show z.1 1 = (nI nf) from hnf) ?_
  refine lv_iconst (v := (nI 1)) hx hb dX8_isFighter_7 (by decide) ?_
  refine tp_i (show nI 1 = iZ (1 : Int) from by decide) ?_
  refine tp_i2 (iZ_n nf).symm ?_
  refine z_isub hx hb dX8_isFighter_8 ?_
  refine lv_i2l (v := (iZ ((((nf : Nat) : Int)) - ((1 : Int)))).toInt64) hx hb dX8_isFighter_9 rfl ?_
  refine rc_s (rest := []) ⟨X.1, X.2.1, X.2.2.1, X.2.2.2.1⟩ hml hl.1 (k_in l f.toInt64 0 ((iZ ((((nf : Nat) : Int)) - ((1 : Int)))).toInt64)) ok_in wm_X8_69 ⟨Nat.le_of_ble_eq_true rfl, Nat.le_of_ble_eq_true rfl⟩ ⟨Nat.le_refl _, Nat.le_refl _⟩ rfl (Nat.le_of_ble_eq_true rfl) dX8_isFighter_10 (fun r_10 hr_10 => ?_)
  subst hr_10
  exact re_pz hx hb hr hk (pc_in01 _ _ _) (by subst_vars; exact congrArg nI (pc_in_f f nf hn5)) dX8_isFighter_13

theorem ok_isTurned : rOk yX8_isTurned cX8_isTurned 1 (some .boolean) 0 := ⟨wc_X8_isTurned, wi_X8_isTurned, ws_X8_isTurned, rfl, by decide, by decide, by decide +kernel⟩
set_option maxHeartbeats 4000000 in
set_option maxRecDepth 100000 in
theorem k_isTurned (l : Launch) (g : RG) (z : RS)   : rMp g l yX8_isTurned cX8_isTurned 1 (some .boolean) 0 0 [] z (fun r => r = nI (if z.2.1 5 1 = -4 then 0 else 1)) := by
  refine rMp_in (by decide) rfl (Nat.le_of_ble_eq_true rfl) ?_
  intro p e s m args below meth c ls X hml hr hk hl w
  have hx := X.1
  have hb := X.2.1
  have hts := X.2.2.1
  have hown := X.2.2.2.1
  have hl : lv_has ls 1 [(0, .ref g.2.2.2.1)] := hl
  refine lv_aload_n hx hb dX8_isTurned_0 rfl (lv_at hl 0 rfl) ?_
  refine rg_5 X w dX8_isTurned_1 ?_
  refine lv_iconst (v := (nI 1)) hx hb dX8_isTurned_4 (by decide) ?_
  refine rn_5 X w (by omega) dX8_isTurned_5 ?_
  refine lv_bipush (v := (iZ (-4))) hx hb dX8_isTurned_6 (by decide) ?_
  refine jn (tgt := 16) (rest := []) (fun v9 => ∃ x9 : Nat, x9 = (if ((z.2.1 5 1)) = ((iZ (-4))) then 0 else 1) ∧ v9 = nI x9) (fun v_ hv_ => ?_) (fun k_16 => ?_)
  · obtain ⟨x_16, ex_16, rfl⟩ := hv_
    exact re_pz hx hb hr hk (by subst_vars; split; exact Or.inl rfl; exact Or.inr rfl) (by subst_vars; rfl) dX8_isTurned_16
  · skip
    refine lv_icmp_eq (tgt := 15) hx hb dX8_isTurned_8 (by decide) (fun c_8_2 => ?_) (fun c_8_2 => ?_)
    · skip
      refine lv_iconst (v := (nI 0)) hx hb dX8_isTurned_15 (by decide) ?_
      exact k_16 _ ⟨_, by simp only [if_pos c_8_2], rfl⟩
    · skip
      refine lv_iconst (v := (nI 1)) hx hb dX8_isTurned_11 (by decide) ?_
      refine lv_goto (tgt := 16) hx hb dX8_isTurned_12 (by decide) ?_
      exact k_16 _ ⟨_, by simp only [if_neg c_8_2], rfl⟩

theorem ok_hurtOf : rOk yX8_hurtOf cX8_hurtOf 2 (some .int) 1 := ⟨wc_X8_hurtOf, wi_X8_hurtOf, ws_X8_hurtOf, rfl, by decide, by decide, by decide +kernel⟩
set_option maxHeartbeats 4000000 in
set_option maxRecDepth 100000 in
theorem k_hurtOf (l : Launch) (g : RG) (z : RS) (f : Nat) (hf : f < 5) : rMp g l yX8_hurtOf cX8_hurtOf 2 (some .int) 0 0 [.int (nI f)] z (fun r => r = z.2.1 5 (3 + f)) := by
  refine rMp_in (by decide) rfl (Nat.le_of_ble_eq_true rfl) ?_
  intro p e s m args below meth c ls X hml hr hk hl w
  have hx := X.1
  have hb := X.2.1
  have hts := X.2.2.1
  have hown := X.2.2.2.1
  have hl : lv_has ls 2 [(0, .ref g.2.2.2.1), (1, .int (nI f))] := hl
  refine lv_aload_n hx hb dX8_hurtOf_0 rfl (lv_at hl 0 rfl) ?_
  refine rg_5 X w dX8_hurtOf_1 ?_
  refine lv_iconst (v := (nI 3)) hx hb dX8_hurtOf_4 (by decide) ?_
  refine lv_iload_n hx hb dX8_hurtOf_5 rfl (lv_at hl 1 rfl) ?_
  refine n_iadd hx hb dX8_hurtOf_6 ?_
  refine rn_5 X w (by omega) dX8_hurtOf_7 ?_
  exact re_p hx hb hr hk (by subst_vars; rfl) dX8_hurtOf_8

theorem ok_isDown : rOk yX8_isDown cX8_isDown 2 (some .boolean) 1 := ⟨wc_X8_isDown, wi_X8_isDown, ws_X8_isDown, rfl, by decide, by decide, by decide +kernel⟩
set_option maxHeartbeats 4000000 in
set_option maxRecDepth 100000 in
theorem k_isDown (l : Launch) (g : RG) (z : RS) (f : Nat) (hf : f < 5) : rMp g l yX8_isDown cX8_isDown 2 (some .boolean) 1 21 [.int (nI f)] z (fun r => r = nI (if z.2.1 5 (3 + f) = nI 6 then 1 else 0)) := by
  refine rMp_in (by decide) rfl (Nat.le_of_ble_eq_true rfl) ?_
  intro p e s m args below meth c ls X hml hr hk hl w
  have hx := X.1
  have hb := X.2.1
  have hts := X.2.2.1
  have hown := X.2.2.2.1
  have hl : lv_has ls 2 [(0, .ref g.2.2.2.1), (1, .int (nI f))] := hl
  refine lv_aload_n hx hb dX8_isDown_0 rfl (lv_at hl 0 rfl) ?_
  refine lv_iload_n hx hb dX8_isDown_1 rfl (lv_at hl 1 rfl) ?_
  refine rc_p (rest := []) X hml hl.1 (k_hurtOf l g z f (by omega)) ok_hurtOf wm_X8_91 ⟨Nat.le_of_ble_eq_true rfl, Nat.le_of_ble_eq_true rfl⟩ ⟨Nat.le_refl _, Nat.le_refl _⟩ w rfl (Nat.le_of_ble_eq_true rfl) dX8_isDown_2 (fun r_2 hr_2 => ?_)
  subst hr_2
  refine lv_bipush (v := (nI 6)) hx hb dX8_isDown_5 (by decide) ?_
  refine jn (tgt := 15) (rest := []) (fun v9 => ∃ x9 : Nat, x9 = (if ((z.2.1 5 (3 + f))) = ((nI 6)) then 1 else 0) ∧ v9 = nI x9) (fun v_ hv_ => ?_) (fun k_15 => ?_)
  · obtain ⟨x_15, ex_15, rfl⟩ := hv_
    exact re_pz hx hb hr hk (by subst_vars; split; exact Or.inr rfl; exact Or.inl rfl) (by subst_vars; rfl) dX8_isDown_15
  · skip
    refine lv_icmp_ne (tgt := 14) hx hb dX8_isDown_7 (by decide) (fun c_7_2 => ?_) (fun c_7_2 => ?_)
    · skip
      refine lv_iconst (v := (nI 0)) hx hb dX8_isDown_14 (by decide) ?_
      exact k_15 _ ⟨_, by simp only [if_neg c_7_2], rfl⟩
    · skip
      refine lv_iconst (v := (nI 1)) hx hb dX8_isDown_10 (by decide) ?_
      refine lv_goto (tgt := 15) hx hb dX8_isDown_11 (by decide) ?_
      exact k_15 _ ⟨_, by simp only [if_pos c_7_2], rfl⟩

theorem ok_costOf : rOk yX8_costOf cX8_costOf 4 (some .int) 1 := ⟨wc_X8_costOf, wi_X8_costOf, ws_X8_costOf, rfl, by decide, by decide, by decide +kernel⟩
set_option maxHeartbeats 4000000 in
set_option maxRecDepth 100000 in
theorem k_costOf (l : Launch) (g : RG) (z : RS) (cell : Nat) (so : Nat → Nat) (hso : ∀ c, c < 40 → z.2.1 2 c = nI (so c)) (hce : cell < 40) : rMp g l yX8_costOf cX8_costOf 4 (some .int) 0 0 [.int (nI cell)] z (fun r => r = nI (pc_cost so cell)) := by
  refine rMp_in (by decide) rfl (Nat.le_of_ble_eq_true rfl) ?_
  intro p e s m args below meth c ls X hml hr hk hl w
  have hx := X.1
  have hb := X.2.1
  have hts := X.2.2.1
  have hown := X.2.2.2.1
  have hl : lv_has ls 4 [(0, .ref g.2.2.2.1), (1, .int (nI cell))] := hl
  refine lv_iconst (v := (nI 0)) hx hb dX8_costOf_0 (by decide) ?_
  refine lv_istore_n (lv' := [(2, .int (nI 0)), (0, .ref g.2.2.2.1), (1, .int (nI cell))]) hx hb dX8_costOf_1 rfl hl (by decide) rfl (fun ls hl => ?_)
  refine lv_iconst (v := (nI 1)) hx hb dX8_costOf_2 (by decide) ?_
  refine lv_istore_n (lv' := [(3, .int (nI 1)), (2, .int (nI 0)), (0, .ref g.2.2.2.1), (1, .int (nI cell))]) hx hb dX8_costOf_3 rfl hl (by decide) rfl (fun ls hl => ?_)
  have lp_4 : ∀ (n_4 : Nat) (i : Nat) (hi : i ≤ cell) (hm_4 : cell - i < n_4) (ls : Array Slot), lv_has ls 4 [(0, .ref g.2.2.2.1), (1, .int (nI cell)), (2, .int (nI (pc_cost so i))), (3, .int (nI (i + 1)))] → W p l e (ro_m 0 0) s m args below meth c s.heap [] 0 0 (MQ below (vp_Si (fun r => r = nI (pc_cost so cell))) args s 0 0 (fun _ => False)) (F0 m 4 ls []) := by
    intro n_4
    induction n_4 with
    | zero => intro i hi hm; exact absurd hm (Nat.not_lt_zero _)
    | succ n_4 ih_4 =>
      intro i hi hm_4 ls hl
      refine lv_iload_n hx hb dX8_costOf_4 rfl (lv_at hl 3 rfl) ?_
      refine lv_iload_n hx hb dX8_costOf_5 rfl (lv_at hl 1 rfl) ?_
      refine n_icmp_gt (tgt := 26) hx hb dX8_costOf_6 (by decide) (by omega) (by omega) (fun c_6_1 => ?_) (fun c_6_1 => ?_)
      · skip
        refine lv_iload_n hx hb dX8_costOf_26 rfl (lv_at hl 2 rfl) ?_
        exact re_p hx hb hr hk (by rw [show i = cell by omega]) dX8_costOf_27
      · skip
        refine lv_iload_n hx hb dX8_costOf_9 rfl (lv_at hl 2 rfl) ?_
        refine lv_aload_n hx hb dX8_costOf_10 rfl (lv_at hl 0 rfl) ?_
        refine rg_2 X w dX8_costOf_11 ?_
        refine lv_iload_n hx hb dX8_costOf_14 rfl (lv_at hl 3 rfl) ?_
        refine rn_2 X w (by omega) dX8_costOf_15 ?_
        refine tp_i (show z.2.1 2 (i + 1) = (nI (so (i + 1))) from hso (i + 1) (by omega)) ?_
        refine lv_iconst (v := (nI 1)) hx hb dX8_costOf_16 (by decide) ?_
        refine n_iadd hx hb dX8_costOf_17 ?_
        refine n_iadd hx hb dX8_costOf_18 ?_
        refine lv_istore_n (lv' := [(2, .int (nI ((pc_cost so i) + ((so (i + 1)) + 1)))), (0, .ref g.2.2.2.1), (1, .int (nI cell)), (3, .int (nI (i + 1)))]) hx hb dX8_costOf_19 rfl hl (by decide) rfl (fun ls hl => ?_)
        refine lv_iinc (v := (nI (i + 1 + 1))) (lv' := [(3, .int (nI (i + 1 + 1))), (2, .int (nI ((pc_cost so i) + ((so (i + 1)) + 1)))), (0, .ref g.2.2.2.1), (1, .int (nI cell))]) hx hb dX8_costOf_20 hl (k := 3) rfl (by first | exact nI_1 _ | (rw [show Int32.ofInt 1 = nI 1 from by decide, nI_add])) (by decide) rfl (fun ls hl => ?_)
        refine lv_goto (tgt := 4) hx hb dX8_costOf_23 (by decide) ?_
        exact ih_4 (i + 1) (by omega) (by omega) ls (lv_sub hl [2, 3, 1, 0] rfl)
  exact lp_4 _ 0 (Nat.zero_le _) (Nat.lt_succ_self _) ls (lv_sub hl [2, 3, 1, 0] rfl)

theorem ok_farthest : rOk yX8_farthest cX8_farthest 5 (some .int) 1 := ⟨wc_X8_farthest, wi_X8_farthest, ws_X8_farthest, rfl, by decide, by decide, by decide +kernel⟩
set_option maxHeartbeats 4000000 in
set_option maxRecDepth 100000 in
theorem k_farthest (l : Launch) (g : RG) (z : RS) (pts : Nat) (so : Nat → Nat) (ce : Nat) (hso : ∀ c, c < 40 → z.2.1 2 c = nI (so c)) (hs2 : ∀ c, so c ≤ 2) (hz0 : z.1 0 = nI ce) (hce : 1 ≤ ce ∧ ce ≤ 40) (hpt : pts < 1000000) : rMp g l yX8_farthest cX8_farthest 5 (some .int) 0 0 [.int (nI pts)] z (fun r => r = nI (pc_far so pts (ce - 1))) := by
  refine rMp_in (by decide) rfl (Nat.le_of_ble_eq_true rfl) ?_
  intro p e s m args below meth c ls X hml hr hk hl w
  have hx := X.1
  have hb := X.2.1
  have hts := X.2.2.1
  have hown := X.2.2.2.1
  have hl : lv_has ls 5 [(0, .ref g.2.2.2.1), (1, .int (nI pts))] := hl
  refine lv_iconst (v := (nI 0)) hx hb dX8_farthest_0 (by decide) ?_
  refine lv_istore_n (lv' := [(2, .int (nI 0)), (0, .ref g.2.2.2.1), (1, .int (nI pts))]) hx hb dX8_farthest_1 rfl hl (by decide) rfl (fun ls hl => ?_)
  refine lv_iconst (v := (nI 0)) hx hb dX8_farthest_2 (by decide) ?_
  refine lv_istore_n (lv' := [(3, .int (nI 0)), (2, .int (nI 0)), (0, .ref g.2.2.2.1), (1, .int (nI pts))]) hx hb dX8_farthest_3 rfl hl (by decide) rfl (fun ls hl => ?_)
  refine lv_iconst (v := (nI 1)) hx hb dX8_farthest_4 (by decide) ?_
  refine lv_istore (lv' := [(4, .int (nI 1)), (3, .int (nI 0)), (2, .int (nI 0)), (0, .ref g.2.2.2.1), (1, .int (nI pts))]) hx hb dX8_farthest_5 hl (by decide) rfl (fun ls hl => ?_)
  have lp_7 : ∀ (n_7 : Nat) (i : Nat) (hi : i < ce) (hm_7 : ce - i < n_7) (ls : Array Slot), lv_has ls 5 [(0, .ref g.2.2.2.1), (1, .int (nI pts)), (2, .int (nI (pc_far so pts i))), (3, .int (nI (pc_cost so i))), (4, .int (nI (i + 1)))] → W p l e (ro_m 0 0) s m args below meth c s.heap [] 0 0 (MQ below (vp_Si (fun r => r = nI (pc_far so pts (ce - 1)))) args s 0 0 (fun _ => False)) (F0 m 7 ls []) := by
    intro n_7
    induction n_7 with
    | zero => intro i hi hm; exact absurd hm (Nat.not_lt_zero _)
    | succ n_7 ih_7 =>
      intro i hi hm_7 ls hl
      have q1 := pc_cost_le hs2 i
      have q2 := hs2 (i + 1)
      refine lv_iload hx hb dX8_farthest_7 (lv_at hl 4 rfl) ?_
      refine lv_aload_n hx hb dX8_farthest_9 rfl (lv_at hl 0 rfl) ?_
      refine rg_0 X w dX8_farthest_10 ?_
      refine tp_i (show z.1 0 = (nI ce) from hz0) ?_
      refine n_icmp_ge (tgt := 46) hx hb dX8_farthest_13 (by decide) (by omega) (by omega) (fun c_13_1 => ?_) (fun c_13_1 => ?_)
      · skip
        refine lv_iload_n hx hb dX8_farthest_46 rfl (lv_at hl 2 rfl) ?_
        exact re_p hx hb hr hk (by rw [show i = ce - 1 by omega]) dX8_farthest_47
      · skip
        refine lv_iload_n hx hb dX8_farthest_16 rfl (lv_at hl 3 rfl) ?_
        refine lv_aload_n hx hb dX8_farthest_17 rfl (lv_at hl 0 rfl) ?_
        refine rg_2 X w dX8_farthest_18 ?_
        refine lv_iload hx hb dX8_farthest_21 (lv_at hl 4 rfl) ?_
        refine rn_2 X w (by omega) dX8_farthest_23 ?_
        refine tp_i (show z.2.1 2 (i + 1) = (nI (so (i + 1))) from hso (i + 1) (by omega)) ?_
        refine lv_iconst (v := (nI 1)) hx hb dX8_farthest_24 (by decide) ?_
        refine n_iadd hx hb dX8_farthest_25 ?_
        refine n_iadd hx hb dX8_farthest_26 ?_
        refine lv_istore_n (lv' := [(3, .int (nI ((pc_cost so i) + ((so (i + 1)) + 1)))), (0, .ref g.2.2.2.1), (1, .int (nI pts)), (2, .int (nI (pc_far so pts i))), (4, .int (nI (i + 1)))]) hx hb dX8_farthest_27 rfl hl (by decide) rfl (fun ls hl => ?_)
        refine lv_iload_n hx hb dX8_farthest_28 rfl (lv_at hl 0 rfl) ?_
        refine lv_iload_n hx hb dX8_farthest_29 rfl (lv_at hl 2 rfl) ?_
        refine jn (tgt := 39) (rest := []) (fun v9 => ∃ x9 : Nat, x9 = (if pts < ((pc_cost so i) + ((so (i + 1)) + 1)) then (pc_far so pts i) else (i + 1)) ∧ v9 = nI x9) (fun v_ hv_ => ?_) (fun k_39 => ?_)
        · obtain ⟨x_39, ex_39, rfl⟩ := hv_
          refine lv_istore_n (lv' := [(2, .int (nI x_39)), (3, .int (nI ((pc_cost so i) + ((so (i + 1)) + 1)))), (0, .ref g.2.2.2.1), (1, .int (nI pts)), (4, .int (nI (i + 1)))]) hx hb dX8_farthest_39 rfl hl (by decide) rfl (fun ls hl => ?_)
          refine lv_iinc (v := (nI (i + 1 + 1))) (lv' := [(4, .int (nI (i + 1 + 1))), (2, .int (nI x_39)), (3, .int (nI ((pc_cost so i) + ((so (i + 1)) + 1)))), (0, .ref g.2.2.2.1), (1, .int (nI pts))]) hx hb dX8_farthest_40 hl (k := 4) rfl (by first | exact nI_1 _ | (rw [show Int32.ofInt 1 = nI 1 from by decide, nI_add])) (by decide) rfl (fun ls hl => ?_)
          refine lv_goto (tgt := 7) hx hb dX8_farthest_43 (by decide) ?_
          subst ex_39
          exact ih_7 (i + 1) (by omega) (by omega) ls (lv_sub hl [3, 4, 1, 2, 0] rfl)
        · skip
          refine n_icmp_gt (tgt := 38) hx hb dX8_farthest_30 (by decide) (by omega) (by omega) (fun c_30_3 => ?_) (fun c_30_3 => ?_)
          · skip
            refine lv_iload_n hx hb dX8_farthest_38 rfl (lv_at hl 3 rfl) ?_
            exact k_39 _ ⟨_, by simp only [if_pos c_30_3], rfl⟩
          · skip
            refine lv_iload hx hb dX8_farthest_33 (lv_at hl 4 rfl) ?_
            refine lv_goto (tgt := 39) hx hb dX8_farthest_35 (by decide) ?_
            exact k_39 _ ⟨_, by simp only [if_neg c_30_3], rfl⟩
  exact lp_7 _ 0 (by omega) (Nat.lt_succ_self _) ls (lv_sub hl [3, 4, 2, 1, 0] rfl)

theorem ok_between : rOkS yX8_between cX8_between 1 (some .int) 1 := ⟨wc_X8_between, wt_X8_between, rfl, by decide, by decide, by decide +kernel⟩
set_option maxHeartbeats 4000000 in
set_option maxRecDepth 100000 in
theorem k_between (l : Launch) (x : Int) (h1 : -1000 ≤ x) (h2 : x ≤ 1000) : rMs l yX8_between cX8_between 1 (some .int) 0 0 [.int (iZ (x))] (fun r => r = nI (pc_btw x)) := by
  refine rMs_in (by decide) rfl (Nat.le_of_ble_eq_true rfl) ?_
  intro p e s m args below meth c ls X hml hr hk hl
  have hx := X.1
  have hb := X.2.1
  have hts := X.2.2.1
  have hown := X.2.2.2
  have hl : lv_has ls 1 [(0, .int (iZ (x)))] := hl
  refine lv_iload_n hx hb dX8_between_0 rfl (lv_at hl 0 rfl) ?_
  refine lv_iconst (v := (nI 1)) hx hb dX8_between_1 (by decide) ?_
  refine jn (tgt := 21) (rest := []) (fun v9 => ∃ x9 : Int, x9 = (if ((1 : Int)) ≤ x then (if x ≤ ((15 : Int)) then x else ((15 : Int))) else ((1 : Int))) ∧ v9 = iZ x9) (fun v_ hv_ => ?_) (fun k_21 => ?_)
  · obtain ⟨x_21, ex_21, rfl⟩ := hv_
    exact re_p hx hb hr hk (by subst_vars; exact pc_btw_ok _) dX8_between_21
  · skip
    refine tp_i (show nI 1 = iZ (1 : Int) from by decide) ?_
    refine z_icmp_ge (tgt := 9) hx hb dX8_between_2 (by decide) (by omega) (by omega) (by omega) (by omega) (fun c_2_2 => ?_) (fun c_2_2 => ?_)
    · skip
      refine lv_iload_n hx hb dX8_between_9 rfl (lv_at hl 0 rfl) ?_
      refine lv_bipush (v := (nI 15)) hx hb dX8_between_10 (by decide) ?_
      refine tp_i (show nI 15 = iZ (15 : Int) from by decide) ?_
      refine z_icmp_le (tgt := 20) hx hb dX8_between_12 (by decide) (by omega) (by omega) (by omega) (by omega) (fun c_12_3 => ?_) (fun c_12_3 => ?_)
      · skip
        refine lv_iload_n hx hb dX8_between_20 rfl (lv_at hl 0 rfl) ?_
        exact k_21 _ ⟨_, by simp only [if_pos c_2_2, if_pos c_12_3], rfl⟩
      · skip
        refine lv_bipush (v := (nI 15)) hx hb dX8_between_15 (by decide) ?_
        refine lv_goto (tgt := 21) hx hb dX8_between_17 (by decide) ?_
        exact k_21 _ ⟨(15 : Int), by simp only [if_pos c_2_2, if_neg c_12_3], (show nI 15 = iZ (15 : Int) from by decide)⟩
    · skip
      refine lv_iconst (v := (nI 1)) hx hb dX8_between_5 (by decide) ?_
      refine lv_goto (tgt := 21) hx hb dX8_between_6 (by decide) ?_
      exact k_21 _ ⟨(1 : Int), by simp only [if_neg c_2_2], (show nI 1 = iZ (1 : Int) from by decide)⟩
