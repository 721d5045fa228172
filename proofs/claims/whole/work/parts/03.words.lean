/-- the words of the tables that stay over calls -/
def gT : List Cond := lw_tbl.filter goodWord
theorem gT_t {w : Cond} {i : Nat} (h : tables_1[i]? = some w) (hg : goodWord w = true) : w ∈ gT :=
  List.mem_filter.mpr ⟨List.mem_append_right _ (List.mem_of_getElem? h), hg⟩
theorem gT_s {q : MethodName × Nat} {i : Nat} (h : lw_privs[i]? = some q) (hg : goodWord (Cond.selects q.1.cls q.1 q.1) = true) : Cond.selects q.1.cls q.1 q.1 ∈ gT :=
  List.mem_filter.mpr ⟨List.mem_append_left _ (List.mem_map.mpr ⟨q, List.mem_of_getElem? h, rfl⟩), hg⟩
theorem gT_lw {w : Cond} (h : w ∈ gT) : w ∈ lw_tbl := (List.mem_filter.mp h).1
theorem gT_good {w : Cond} (h : w ∈ gT) : (w.onTables && w.keeps) = true ∨ ∃ ty, w = .arrayClass ty := good_of_word (List.mem_filter.mp h).2
theorem wn_L : Cond.initialized RL ∈ gT := gT_t (i := 0) (by decide +kernel) rfl
theorem wn_X7 : Cond.initialized RX7 ∈ gT := gT_t (i := 1) (by decide +kernel) rfl
theorem wn_X5 : Cond.initialized RX5 ∈ gT := gT_t (i := 2) (by decide +kernel) rfl
theorem wn_X4 : Cond.initialized RX4 ∈ gT := gT_t (i := 3) (by decide +kernel) rfl
theorem wn_X1 : Cond.initialized RX1 ∈ gT := gT_t (i := 4) (by decide +kernel) rfl
theorem wn_X2 : Cond.initialized RX2 ∈ gT := gT_t (i := 5) (by decide +kernel) rfl
theorem wn_X0 : Cond.initialized RX0 ∈ gT := gT_t (i := 6) (by decide +kernel) rfl
theorem wn_X6 : Cond.initialized RX6 ∈ gT := gT_t (i := 7) (by decide +kernel) rfl
theorem wn_X8 : Cond.initialized RX8 ∈ gT := gT_t (i := 8) (by decide +kernel) rfl
theorem wn_X3 : Cond.initialized RX3 ∈ gT := gT_t (i := 9) (by decide +kernel) rfl
theorem wm_L_9 : Cond.methodLink RL 9 yX7_init ∈ gT := gT_t (i := 19) (by decide +kernel) rfl
theorem wi_X7_init : Cond.instanceMethod yX7_init ∈ gT := gT_t (i := 20) (by decide +kernel) rfl
theorem wc_X7_init : Cond.code yX7_init cX7_init 2 none ∈ gT := gT_t (i := 21) (by decide +kernel) rfl
theorem wi_X5_init : Cond.instanceMethod yX5_init ∈ gT := gT_t (i := 28) (by decide +kernel) rfl
theorem wc_X5_init : Cond.code yX5_init cX5_init 1 none ∈ gT := gT_t (i := 29) (by decide +kernel) rfl
theorem wf_X5_9 : Cond.fieldLink RX5 9 "RunningThree$Scene" "cells" "I" ∈ gT := gT_t (i := 31) (by decide +kernel) rfl
theorem wf_X5_15 : Cond.fieldLink RX5 15 "RunningThree$Scene" "sorts" "[I" ∈ gT := gT_t (i := 34) (by decide +kernel) rfl
theorem wf_X5_19 : Cond.fieldLink RX5 19 "RunningThree$Scene" "costs" "[I" ∈ gT := gT_t (i := 36) (by decide +kernel) rfl
theorem wf_X5_43 : Cond.fieldLink RX5 43 "RunningThree$Scene" "fighters" "I" ∈ gT := gT_t (i := 38) (by decide +kernel) rfl
theorem wf_X5_22 : Cond.fieldLink RX5 22 "RunningThree$Scene" "kinds" "[I" ∈ gT := gT_t (i := 42) (by decide +kernel) rfl
theorem wf_X5_25 : Cond.fieldLink RX5 25 "RunningThree$Scene" "strengths" "[I" ∈ gT := gT_t (i := 45) (by decide +kernel) rfl
theorem wf_X5_28 : Cond.fieldLink RX5 28 "RunningThree$Scene" "paces" "[I" ∈ gT := gT_t (i := 48) (by decide +kernel) rfl
theorem wf_X5_31 : Cond.fieldLink RX5 31 "RunningThree$Scene" "hurts" "[I" ∈ gT := gT_t (i := 50) (by decide +kernel) rfl
theorem wf_X5_46 : Cond.fieldLink RX5 46 "RunningThree$Scene" "start" "I" ∈ gT := gT_t (i := 55) (by decide +kernel) rfl
theorem wf_X5_49 : Cond.fieldLink RX5 49 "RunningThree$Scene" "moment" "I" ∈ gT := gT_t (i := 58) (by decide +kernel) rfl
theorem wf_X5_34 : Cond.fieldLink RX5 34 "RunningThree$Scene" "stand" "I" ∈ gT := gT_t (i := 62) (by decide +kernel) rfl
theorem wf_X5_37 : Cond.fieldLink RX5 37 "RunningThree$Scene" "coming" "[I" ∈ gT := gT_t (i := 65) (by decide +kernel) rfl
theorem wf_X5_40 : Cond.fieldLink RX5 40 "RunningThree$Scene" "draw" "I" ∈ gT := gT_t (i := 67) (by decide +kernel) rfl
theorem wi_X4_init : Cond.instanceMethod yX4_init ∈ gT := gT_t (i := 103) (by decide +kernel) rfl
theorem wc_X4_init : Cond.code yX4_init cX4_init 1 none ∈ gT := gT_t (i := 104) (by decide +kernel) rfl
theorem wf_X4_24 : Cond.fieldLink RX4 24 "RunningThree$Past" "known" "I" ∈ gT := gT_t (i := 106) (by decide +kernel) rfl
theorem wf_X4_28 : Cond.fieldLink RX4 28 "RunningThree$Past" "next" "I" ∈ gT := gT_t (i := 108) (by decide +kernel) rfl
theorem wf_X4_11 : Cond.fieldLink RX4 11 "RunningThree$Past" "hurts" "[I" ∈ gT := gT_t (i := 109) (by decide +kernel) rfl
theorem wf_X4_15 : Cond.fieldLink RX4 15 "RunningThree$Past" "moments" "[I" ∈ gT := gT_t (i := 110) (by decide +kernel) rfl
theorem wf_X4_18 : Cond.fieldLink RX4 18 "RunningThree$Past" "stands" "[I" ∈ gT := gT_t (i := 111) (by decide +kernel) rfl
theorem wf_X4_21 : Cond.fieldLink RX4 21 "RunningThree$Past" "draws" "[I" ∈ gT := gT_t (i := 112) (by decide +kernel) rfl
theorem wi_X1_init : Cond.instanceMethod yX1_init ∈ gT := gT_t (i := 129) (by decide +kernel) rfl
theorem wc_X1_init : Cond.code yX1_init cX1_init 1 none ∈ gT := gT_t (i := 130) (by decide +kernel) rfl
theorem wf_X1_9 : Cond.fieldLink RX1 9 "RunningThree$FieldText" "letters" "[I" ∈ gT := gT_t (i := 134) (by decide +kernel) rfl
theorem wf_X1_22 : Cond.fieldLink RX1 22 "RunningThree$FieldText" "length" "I" ∈ gT := gT_t (i := 135) (by decide +kernel) rfl
theorem wf_X1_36 : Cond.fieldLink RX1 36 "RunningThree$FieldText" "at" "I" ∈ gT := gT_t (i := 137) (by decide +kernel) rfl
theorem wf_X1_18 : Cond.fieldLink RX1 18 "RunningThree$FieldText" "draft" "LRunningThree$Scene;" ∈ gT := gT_t (i := 139) (by decide +kernel) rfl
theorem wi_X2_init : Cond.instanceMethod yX2_init ∈ gT := gT_t (i := 152) (by decide +kernel) rfl
theorem wc_X2_init : Cond.code yX2_init cX2_init 1 none ∈ gT := gT_t (i := 153) (by decide +kernel) rfl
theorem wi_X0_init : Cond.instanceMethod yX0_init ∈ gT := gT_t (i := 160) (by decide +kernel) rfl
theorem wc_X0_init : Cond.code yX0_init cX0_init 1 none ∈ gT := gT_t (i := 161) (by decide +kernel) rfl
theorem wf_X0_69 : Cond.fieldLink RX0 69 "RunningThree$Chances" "others" "I" ∈ gT := gT_t (i := 163) (by decide +kernel) rfl
theorem wf_X0_11 : Cond.fieldLink RX0 11 "RunningThree$Chances" "order" "[I" ∈ gT := gT_t (i := 164) (by decide +kernel) rfl
theorem wf_X0_15 : Cond.fieldLink RX0 15 "RunningThree$Chances" "coming" "[I" ∈ gT := gT_t (i := 165) (by decide +kernel) rfl
theorem wf_X0_18 : Cond.fieldLink RX0 18 "RunningThree$Chances" "waits" "[I" ∈ gT := gT_t (i := 166) (by decide +kernel) rfl
theorem wf_X0_21 : Cond.fieldLink RX0 21 "RunningThree$Chances" "begins" "[I" ∈ gT := gT_t (i := 167) (by decide +kernel) rfl
theorem wf_X0_24 : Cond.fieldLink RX0 24 "RunningThree$Chances" "idle" "[I" ∈ gT := gT_t (i := 168) (by decide +kernel) rfl
theorem wf_X0_27 : Cond.fieldLink RX0 27 "RunningThree$Chances" "turnAt" "[I" ∈ gT := gT_t (i := 169) (by decide +kernel) rfl
theorem wf_X0_30 : Cond.fieldLink RX0 30 "RunningThree$Chances" "forceAt" "[I" ∈ gT := gT_t (i := 170) (by decide +kernel) rfl
theorem wf_X0_33 : Cond.fieldLink RX0 33 "RunningThree$Chances" "runnerForces" "[I" ∈ gT := gT_t (i := 171) (by decide +kernel) rfl
theorem wf_X0_36 : Cond.fieldLink RX0 36 "RunningThree$Chances" "values" "[I" ∈ gT := gT_t (i := 172) (by decide +kernel) rfl
theorem wf_X0_39 : Cond.fieldLink RX0 39 "RunningThree$Chances" "keys" "[I" ∈ gT := gT_t (i := 173) (by decide +kernel) rfl
theorem wf_X0_42 : Cond.fieldLink RX0 42 "RunningThree$Chances" "known" "[I" ∈ gT := gT_t (i := 174) (by decide +kernel) rfl
theorem wf_X2_12 : Cond.fieldLink RX2 12 "RunningThree$Foretelling" "trial" "LRunningThree$Scene;" ∈ gT := gT_t (i := 200) (by decide +kernel) rfl
theorem wf_X2_21 : Cond.fieldLink RX2 21 "RunningThree$Foretelling" "chances" "LRunningThree$Chances;" ∈ gT := gT_t (i := 201) (by decide +kernel) rfl
theorem wf_X2_25 : Cond.fieldLink RX2 25 "RunningThree$Foretelling" "row" "[I" ∈ gT := gT_t (i := 202) (by decide +kernel) rfl
theorem wi_X6_init : Cond.instanceMethod yX6_init ∈ gT := gT_t (i := 214) (by decide +kernel) rfl
theorem wc_X6_init : Cond.code yX6_init cX6_init 1 none ∈ gT := gT_t (i := 215) (by decide +kernel) rfl
theorem wf_X6_11 : Cond.fieldLink RX6 11 "RunningThree$Sheet" "lane" "I" ∈ gT := gT_t (i := 217) (by decide +kernel) rfl
theorem wf_X6_19 : Cond.fieldLink RX6 19 "RunningThree$Sheet" "size" "I" ∈ gT := gT_t (i := 219) (by decide +kernel) rfl
theorem wf_X6_15 : Cond.fieldLink RX6 15 "RunningThree$Sheet" "items" "[J" ∈ gT := gT_t (i := 221) (by decide +kernel) rfl
theorem wf_X7_10 : Cond.fieldLink RX7 10 "RunningThree" "scene" "LRunningThree$Scene;" ∈ gT := gT_t (i := 231) (by decide +kernel) rfl
theorem wf_X7_19 : Cond.fieldLink RX7 19 "RunningThree" "past" "LRunningThree$Past;" ∈ gT := gT_t (i := 232) (by decide +kernel) rfl
theorem wf_X7_23 : Cond.fieldLink RX7 23 "RunningThree" "keptScene" "LRunningThree$Scene;" ∈ gT := gT_t (i := 233) (by decide +kernel) rfl
theorem wf_X7_26 : Cond.fieldLink RX7 26 "RunningThree" "keptPast" "LRunningThree$Past;" ∈ gT := gT_t (i := 234) (by decide +kernel) rfl
theorem wf_X7_212 : Cond.fieldLink RX7 212 "RunningThree" "kept" "Z" ∈ gT := gT_t (i := 235) (by decide +kernel) rfl
theorem wf_X7_32 : Cond.fieldLink RX7 32 "RunningThree" "tape" "LRunningThree$FieldText;" ∈ gT := gT_t (i := 236) (by decide +kernel) rfl
theorem wf_X7_39 : Cond.fieldLink RX7 39 "RunningThree" "foretelling" "LRunningThree$Foretelling;" ∈ gT := gT_t (i := 237) (by decide +kernel) rfl
theorem wf_X7_45 : Cond.fieldLink RX7 45 "RunningThree" "sheets" "[LRunningThree$Sheet;" ∈ gT := gT_t (i := 238) (by decide +kernel) rfl
theorem wm_L_13 : Cond.methodLink RL 13 yX7_fighter ∈ gT := gT_t (i := 256) (by decide +kernel) rfl
theorem wi_X7_fighter : Cond.instanceMethod yX7_fighter ∈ gT := gT_t (i := 257) (by decide +kernel) rfl
theorem ws_X7_fighter : Cond.selects RX7 yX7_fighter yX7_fighter ∈ gT := gT_t (i := 258) (by decide +kernel) rfl
theorem wc_X7_fighter : Cond.code yX7_fighter cX7_fighter 4 (some .int) ∈ gT := gT_t (i := 259) (by decide +kernel) rfl
theorem wm_X7_50 : Cond.methodLink RX7 50 yX7_within ∈ gT := gT_t (i := 260) (by decide +kernel) rfl
theorem wt_X7_within : Cond.static yX7_within ∈ gT := gT_t (i := 261) (by decide +kernel) rfl
theorem wc_X7_within : Cond.code yX7_within cX7_within 3 (some .boolean) ∈ gT := gT_t (i := 262) (by decide +kernel) rfl
theorem wm_X7_54 : Cond.methodLink RX7 54 yX5_hasTurned ∈ gT := gT_t (i := 263) (by decide +kernel) rfl
theorem wi_X5_hasTurned : Cond.instanceMethod yX5_hasTurned ∈ gT := gT_t (i := 264) (by decide +kernel) rfl
theorem ws_X5_hasTurned : Cond.selects RX5 yX5_hasTurned yX5_hasTurned ∈ gT := gT_t (i := 265) (by decide +kernel) rfl
theorem wc_X5_hasTurned : Cond.code yX5_hasTurned cX5_hasTurned 1 (some .boolean) ∈ gT := gT_t (i := 266) (by decide +kernel) rfl
theorem wm_X7_62 : Cond.methodLink RX7 62 yX4_forget ∈ gT := gT_t (i := 267) (by decide +kernel) rfl
theorem wi_X4_forget : Cond.instanceMethod yX4_forget ∈ gT := gT_t (i := 268) (by decide +kernel) rfl
theorem ws_X4_forget : Cond.selects RX4 yX4_forget yX4_forget ∈ gT := gT_t (i := 269) (by decide +kernel) rfl
theorem wc_X4_forget : Cond.code yX4_forget cX4_forget 1 none ∈ gT := gT_t (i := 270) (by decide +kernel) rfl
theorem wm_X7_65 : Cond.methodLink RX7 65 yX5_addFighter ∈ gT := gT_t (i := 271) (by decide +kernel) rfl
theorem wi_X5_addFighter : Cond.instanceMethod yX5_addFighter ∈ gT := gT_t (i := 272) (by decide +kernel) rfl
theorem ws_X5_addFighter : Cond.selects RX5 yX5_addFighter yX5_addFighter ∈ gT := gT_t (i := 273) (by decide +kernel) rfl
theorem wc_X5_addFighter : Cond.code yX5_addFighter cX5_addFighter 6 (some .int) ∈ gT := gT_t (i := 274) (by decide +kernel) rfl
theorem wm_L_18 : Cond.methodLink RL 18 yX7_of ∈ gT := gT_t (i := 275) (by decide +kernel) rfl
theorem wi_X7_of : Cond.instanceMethod yX7_of ∈ gT := gT_t (i := 276) (by decide +kernel) rfl
theorem ws_X7_of : Cond.selects RX7 yX7_of yX7_of ∈ gT := gT_t (i := 277) (by decide +kernel) rfl
theorem wc_X7_of : Cond.code yX7_of cX7_of 3 (some .int) ∈ gT := gT_t (i := 278) (by decide +kernel) rfl
theorem wm_X7_69 : Cond.methodLink RX7 69 yX5_exists ∈ gT := gT_t (i := 279) (by decide +kernel) rfl
theorem wi_X5_exists : Cond.instanceMethod yX5_exists ∈ gT := gT_t (i := 280) (by decide +kernel) rfl
theorem ws_X5_exists : Cond.selects RX5 yX5_exists yX5_exists ∈ gT := gT_t (i := 281) (by decide +kernel) rfl
theorem wc_X5_exists : Cond.code yX5_exists cX5_exists 2 (some .boolean) ∈ gT := gT_t (i := 282) (by decide +kernel) rfl
theorem wm_X7_86 : Cond.methodLink RX7 86 yX5_forceOf ∈ gT := gT_t (i := 284) (by decide +kernel) rfl
theorem wi_X5_forceOf : Cond.instanceMethod yX5_forceOf ∈ gT := gT_t (i := 285) (by decide +kernel) rfl
theorem ws_X5_forceOf : Cond.selects RX5 yX5_forceOf yX5_forceOf ∈ gT := gT_t (i := 286) (by decide +kernel) rfl
theorem wc_X5_forceOf : Cond.code yX5_forceOf cX5_forceOf 2 (some .int) ∈ gT := gT_t (i := 287) (by decide +kernel) rfl
theorem wm_X5_81 : Cond.methodLink RX5 81 yX3_force ∈ gT := gT_t (i := 288) (by decide +kernel) rfl
theorem wt_X3_force : Cond.static yX3_force ∈ gT := gT_t (i := 289) (by decide +kernel) rfl
theorem wc_X3_force : Cond.code yX3_force cX3_force 4 (some .int) ∈ gT := gT_t (i := 290) (by decide +kernel) rfl
theorem wm_X7_90 : Cond.methodLink RX7 90 yX5_cellNow ∈ gT := gT_t (i := 294) (by decide +kernel) rfl
theorem wi_X5_cellNow : Cond.instanceMethod yX5_cellNow ∈ gT := gT_t (i := 295) (by decide +kernel) rfl
theorem ws_X5_cellNow : Cond.selects RX5 yX5_cellNow yX5_cellNow ∈ gT := gT_t (i := 296) (by decide +kernel) rfl
theorem wc_X5_cellNow : Cond.code yX5_cellNow cX5_cellNow 2 (some .int) ∈ gT := gT_t (i := 297) (by decide +kernel) rfl
theorem wm_X5_108 : Cond.methodLink RX5 108 yX5_hasTurned ∈ gT := gT_t (i := 298) (by decide +kernel) rfl
theorem wm_X5_112 : Cond.methodLink RX5 112 yX5_cellRunning ∈ gT := gT_t (i := 299) (by decide +kernel) rfl
theorem wi_X5_cellRunning : Cond.instanceMethod yX5_cellRunning ∈ gT := gT_t (i := 300) (by decide +kernel) rfl
theorem ws_X5_cellRunning : Cond.selects RX5 yX5_cellRunning yX5_cellRunning ∈ gT := gT_t (i := 301) (by decide +kernel) rfl
theorem wc_X5_cellRunning : Cond.code yX5_cellRunning cX5_cellRunning 3 (some .int) ∈ gT := gT_t (i := 302) (by decide +kernel) rfl
theorem wm_X5_74 : Cond.methodLink RX5 74 yX5_isUp ∈ gT := gT_t (i := 303) (by decide +kernel) rfl
theorem wi_X5_isUp : Cond.instanceMethod yX5_isUp ∈ gT := gT_t (i := 304) (by decide +kernel) rfl
theorem ws_X5_isUp : Cond.selects RX5 yX5_isUp yX5_isUp ∈ gT := gT_t (i := 305) (by decide +kernel) rfl
theorem wc_X5_isUp : Cond.code yX5_isUp cX5_isUp 2 (some .boolean) ∈ gT := gT_t (i := 306) (by decide +kernel) rfl
theorem wm_X5_93 : Cond.methodLink RX5 93 yX5_momentsOut ∈ gT := gT_t (i := 307) (by decide +kernel) rfl
theorem wi_X5_momentsOut : Cond.instanceMethod yX5_momentsOut ∈ gT := gT_t (i := 309) (by decide +kernel) rfl
theorem wc_X5_momentsOut : Cond.code yX5_momentsOut cX5_momentsOut 3 (some .int) ∈ gT := gT_t (i := 310) (by decide +kernel) rfl
theorem wm_X5_97 : Cond.methodLink RX5 97 yX5_pointsOf ∈ gT := gT_t (i := 312) (by decide +kernel) rfl
theorem wi_X5_pointsOf : Cond.instanceMethod yX5_pointsOf ∈ gT := gT_t (i := 313) (by decide +kernel) rfl
theorem ws_X5_pointsOf : Cond.selects RX5 yX5_pointsOf yX5_pointsOf ∈ gT := gT_t (i := 314) (by decide +kernel) rfl
theorem wc_X5_pointsOf : Cond.code yX5_pointsOf cX5_pointsOf 5 (some .int) ∈ gT := gT_t (i := 315) (by decide +kernel) rfl
theorem wm_X5_87 : Cond.methodLink RX5 87 yX3_stride ∈ gT := gT_t (i := 316) (by decide +kernel) rfl
theorem wt_X3_stride : Cond.static yX3_stride ∈ gT := gT_t (i := 317) (by decide +kernel) rfl
theorem wc_X3_stride : Cond.code yX3_stride cX3_stride 4 (some .int) ∈ gT := gT_t (i := 318) (by decide +kernel) rfl
theorem wm_X5_90 : Cond.methodLink RX5 90 yX3_pointsIn ∈ gT := gT_t (i := 319) (by decide +kernel) rfl
theorem wt_X3_pointsIn : Cond.static yX3_pointsIn ∈ gT := gT_t (i := 320) (by decide +kernel) rfl
theorem wc_X3_pointsIn : Cond.code yX3_pointsIn cX3_pointsIn 3 (some .int) ∈ gT := gT_t (i := 321) (by decide +kernel) rfl
theorem wm_X5_100 : Cond.methodLink RX5 100 yX5_cellBy ∈ gT := gT_t (i := 325) (by decide +kernel) rfl
theorem wi_X5_cellBy : Cond.instanceMethod yX5_cellBy ∈ gT := gT_t (i := 326) (by decide +kernel) rfl
theorem ws_X5_cellBy : Cond.selects RX5 yX5_cellBy yX5_cellBy ∈ gT := gT_t (i := 327) (by decide +kernel) rfl
theorem wc_X5_cellBy : Cond.code yX5_cellBy cX5_cellBy 3 (some .int) ∈ gT := gT_t (i := 328) (by decide +kernel) rfl
theorem wm_X5_115 : Cond.methodLink RX5 115 yX5_cellBehindTurn ∈ gT := gT_t (i := 329) (by decide +kernel) rfl
theorem wi_X5_cellBehindTurn : Cond.instanceMethod yX5_cellBehindTurn ∈ gT := gT_t (i := 331) (by decide +kernel) rfl
theorem wc_X5_cellBehindTurn : Cond.code yX5_cellBehindTurn cX5_cellBehindTurn 2 (some .int) ∈ gT := gT_t (i := 332) (by decide +kernel) rfl
theorem wk_X5_118 : Cond.constant RX5 118 (1073741824) ∈ gT := gT_t (i := 333) (by decide +kernel) rfl
theorem wm_X7_93 : Cond.methodLink RX7 93 yX5_comingOf ∈ gT := gT_t (i := 334) (by decide +kernel) rfl
theorem wi_X5_comingOf : Cond.instanceMethod yX5_comingOf ∈ gT := gT_t (i := 335) (by decide +kernel) rfl
theorem ws_X5_comingOf : Cond.selects RX5 yX5_comingOf yX5_comingOf ∈ gT := gT_t (i := 336) (by decide +kernel) rfl
theorem wc_X5_comingOf : Cond.code yX5_comingOf cX5_comingOf 2 (some .int) ∈ gT := gT_t (i := 337) (by decide +kernel) rfl
theorem wm_L_23 : Cond.methodLink RL 23 yX7_hurt ∈ gT := gT_t (i := 338) (by decide +kernel) rfl
theorem wi_X7_hurt : Cond.instanceMethod yX7_hurt ∈ gT := gT_t (i := 339) (by decide +kernel) rfl
theorem ws_X7_hurt : Cond.selects RX7 yX7_hurt yX7_hurt ∈ gT := gT_t (i := 340) (by decide +kernel) rfl
theorem wc_X7_hurt : Cond.code yX7_hurt cX7_hurt 4 (some .int) ∈ gT := gT_t (i := 341) (by decide +kernel) rfl
theorem wm_L_27 : Cond.methodLink RL 27 yX7_start ∈ gT := gT_t (i := 342) (by decide +kernel) rfl
theorem wi_X7_start : Cond.instanceMethod yX7_start ∈ gT := gT_t (i := 343) (by decide +kernel) rfl
theorem ws_X7_start : Cond.selects RX7 yX7_start yX7_start ∈ gT := gT_t (i := 344) (by decide +kernel) rfl
theorem wc_X7_start : Cond.code yX7_start cX7_start 3 (some .int) ∈ gT := gT_t (i := 345) (by decide +kernel) rfl
theorem wm_L_32 : Cond.methodLink RL 32 yX7_sort ∈ gT := gT_t (i := 346) (by decide +kernel) rfl
theorem wi_X7_sort : Cond.instanceMethod yX7_sort ∈ gT := gT_t (i := 347) (by decide +kernel) rfl
theorem ws_X7_sort : Cond.selects RX7 yX7_sort yX7_sort ∈ gT := gT_t (i := 348) (by decide +kernel) rfl
theorem wc_X7_sort : Cond.code yX7_sort cX7_sort 2 (some .int) ∈ gT := gT_t (i := 349) (by decide +kernel) rfl
theorem wm_X7_102 : Cond.methodLink RX7 102 yX5_hasCell ∈ gT := gT_t (i := 350) (by decide +kernel) rfl
theorem wi_X5_hasCell : Cond.instanceMethod yX5_hasCell ∈ gT := gT_t (i := 351) (by decide +kernel) rfl
theorem ws_X5_hasCell : Cond.selects RX5 yX5_hasCell yX5_hasCell ∈ gT := gT_t (i := 352) (by decide +kernel) rfl
theorem wc_X5_hasCell : Cond.code yX5_hasCell cX5_hasCell 2 (some .boolean) ∈ gT := gT_t (i := 353) (by decide +kernel) rfl
theorem wm_L_36 : Cond.methodLink RL 36 yX7_cost ∈ gT := gT_t (i := 354) (by decide +kernel) rfl
theorem wi_X7_cost : Cond.instanceMethod yX7_cost ∈ gT := gT_t (i := 355) (by decide +kernel) rfl
theorem ws_X7_cost : Cond.selects RX7 yX7_cost yX7_cost ∈ gT := gT_t (i := 356) (by decide +kernel) rfl
theorem wc_X7_cost : Cond.code yX7_cost cX7_cost 2 (some .int) ∈ gT := gT_t (i := 357) (by decide +kernel) rfl
theorem wm_L_40 : Cond.methodLink RL 40 yX7_points ∈ gT := gT_t (i := 358) (by decide +kernel) rfl
theorem wi_X7_points : Cond.instanceMethod yX7_points ∈ gT := gT_t (i := 359) (by decide +kernel) rfl
theorem ws_X7_points : Cond.selects RX7 yX7_points yX7_points ∈ gT := gT_t (i := 360) (by decide +kernel) rfl
theorem wc_X7_points : Cond.code yX7_points cX7_points 3 (some .int) ∈ gT := gT_t (i := 361) (by decide +kernel) rfl
theorem wm_X7_111 : Cond.methodLink RX7 111 yX5_pointsOf ∈ gT := gT_t (i := 362) (by decide +kernel) rfl
theorem wm_L_44 : Cond.methodLink RL 44 yX7_type ∈ gT := gT_t (i := 363) (by decide +kernel) rfl
theorem wi_X7_type : Cond.instanceMethod yX7_type ∈ gT := gT_t (i := 364) (by decide +kernel) rfl
theorem ws_X7_type : Cond.selects RX7 yX7_type yX7_type ∈ gT := gT_t (i := 365) (by decide +kernel) rfl
theorem wc_X7_type : Cond.code yX7_type cX7_type 2 (some .int) ∈ gT := gT_t (i := 366) (by decide +kernel) rfl
theorem wm_X7_115 : Cond.methodLink RX7 115 yX1_add ∈ gT := gT_t (i := 367) (by decide +kernel) rfl
theorem wi_X1_add : Cond.instanceMethod yX1_add ∈ gT := gT_t (i := 368) (by decide +kernel) rfl
theorem ws_X1_add : Cond.selects RX1 yX1_add yX1_add ∈ gT := gT_t (i := 369) (by decide +kernel) rfl
theorem wc_X1_add : Cond.code yX1_add cX1_add 2 (some .boolean) ∈ gT := gT_t (i := 370) (by decide +kernel) rfl
theorem wm_L_48 : Cond.methodLink RL 48 yX7_field ∈ gT := gT_t (i := 371) (by decide +kernel) rfl
theorem wi_X7_field : Cond.instanceMethod yX7_field ∈ gT := gT_t (i := 372) (by decide +kernel) rfl
theorem ws_X7_field : Cond.selects RX7 yX7_field yX7_field ∈ gT := gT_t (i := 373) (by decide +kernel) rfl
theorem wc_X7_field : Cond.code yX7_field cX7_field 2 (some .int) ∈ gT := gT_t (i := 374) (by decide +kernel) rfl
theorem wm_X7_121 : Cond.methodLink RX7 121 yX1_read ∈ gT := gT_t (i := 375) (by decide +kernel) rfl
theorem wi_X1_read : Cond.instanceMethod yX1_read ∈ gT := gT_t (i := 376) (by decide +kernel) rfl
theorem ws_X1_read : Cond.selects RX1 yX1_read yX1_read ∈ gT := gT_t (i := 377) (by decide +kernel) rfl
theorem wc_X1_read : Cond.code yX1_read cX1_read 1 (some .boolean) ∈ gT := gT_t (i := 378) (by decide +kernel) rfl
theorem wm_X1_39 : Cond.methodLink RX1 39 yX5_clear ∈ gT := gT_t (i := 379) (by decide +kernel) rfl
theorem wi_X5_clear : Cond.instanceMethod yX5_clear ∈ gT := gT_t (i := 380) (by decide +kernel) rfl
theorem ws_X5_clear : Cond.selects RX5 yX5_clear yX5_clear ∈ gT := gT_t (i := 381) (by decide +kernel) rfl
theorem wc_X5_clear : Cond.code yX5_clear cX5_clear 1 none ∈ gT := gT_t (i := 382) (by decide +kernel) rfl
theorem wm_X1_42 : Cond.methodLink RX1 42 yX1_readGround ∈ gT := gT_t (i := 383) (by decide +kernel) rfl
theorem wi_X1_readGround : Cond.instanceMethod yX1_readGround ∈ gT := gT_t (i := 385) (by decide +kernel) rfl
theorem wc_X1_readGround : Cond.code yX1_readGround cX1_readGround 2 (some .boolean) ∈ gT := gT_t (i := 386) (by decide +kernel) rfl
theorem wm_X1_46 : Cond.methodLink RX1 46 yX1_peek ∈ gT := gT_t (i := 388) (by decide +kernel) rfl
theorem wi_X1_peek : Cond.instanceMethod yX1_peek ∈ gT := gT_t (i := 390) (by decide +kernel) rfl
theorem wc_X1_peek : Cond.code yX1_peek cX1_peek 1 (some .int) ∈ gT := gT_t (i := 391) (by decide +kernel) rfl
theorem wm_X1_68 : Cond.methodLink RX1 68 yX5_addCell ∈ gT := gT_t (i := 474) (by decide +kernel) rfl
theorem wi_X5_addCell : Cond.instanceMethod yX5_addCell ∈ gT := gT_t (i := 475) (by decide +kernel) rfl
theorem ws_X5_addCell : Cond.selects RX5 yX5_addCell yX5_addCell ∈ gT := gT_t (i := 476) (by decide +kernel) rfl
theorem wc_X5_addCell : Cond.code yX5_addCell cX5_addCell 2 none ∈ gT := gT_t (i := 477) (by decide +kernel) rfl
theorem wm_X5_62 : Cond.methodLink RX5 62 yX5_costOf ∈ gT := gT_t (i := 478) (by decide +kernel) rfl
theorem wt_X5_costOf : Cond.static yX5_costOf ∈ gT := gT_t (i := 479) (by decide +kernel) rfl
theorem wc_X5_costOf : Cond.code yX5_costOf cX5_costOf 1 (some .int) ∈ gT := gT_t (i := 480) (by decide +kernel) rfl
theorem wm_X1_50 : Cond.methodLink RX1 50 yX1_take ∈ gT := gT_t (i := 481) (by decide +kernel) rfl
theorem wi_X1_take : Cond.instanceMethod yX1_take ∈ gT := gT_t (i := 483) (by decide +kernel) rfl
theorem wc_X1_take : Cond.code yX1_take cX1_take 2 (some .boolean) ∈ gT := gT_t (i := 484) (by decide +kernel) rfl
theorem wm_X1_54 : Cond.methodLink RX1 54 yX1_readFighters ∈ gT := gT_t (i := 485) (by decide +kernel) rfl
theorem wi_X1_readFighters : Cond.instanceMethod yX1_readFighters ∈ gT := gT_t (i := 487) (by decide +kernel) rfl
theorem wc_X1_readFighters : Cond.code yX1_readFighters cX1_readFighters 1 (some .boolean) ∈ gT := gT_t (i := 488) (by decide +kernel) rfl
theorem wm_X1_75 : Cond.methodLink RX1 75 yX1_readFighter ∈ gT := gT_t (i := 489) (by decide +kernel) rfl
theorem wi_X1_readFighter : Cond.instanceMethod yX1_readFighter ∈ gT := gT_t (i := 491) (by decide +kernel) rfl
theorem wc_X1_readFighter : Cond.code yX1_readFighter cX1_readFighter 5 (some .boolean) ∈ gT := gT_t (i := 492) (by decide +kernel) rfl
theorem wm_X1_80 : Cond.methodLink RX1 80 yX1_takeDigit ∈ gT := gT_t (i := 494) (by decide +kernel) rfl
theorem wi_X1_takeDigit : Cond.instanceMethod yX1_takeDigit ∈ gT := gT_t (i := 496) (by decide +kernel) rfl
theorem wc_X1_takeDigit : Cond.code yX1_takeDigit cX1_takeDigit 4 (some .int) ∈ gT := gT_t (i := 497) (by decide +kernel) rfl
theorem wm_X1_84 : Cond.methodLink RX1 84 yX5_addFighter ∈ gT := gT_t (i := 499) (by decide +kernel) rfl
theorem wm_X7_127 : Cond.methodLink RX7 127 yX1_setUp ∈ gT := gT_t (i := 500) (by decide +kernel) rfl
theorem wi_X1_setUp : Cond.instanceMethod yX1_setUp ∈ gT := gT_t (i := 501) (by decide +kernel) rfl
theorem ws_X1_setUp : Cond.selects RX1 yX1_setUp yX1_setUp ∈ gT := gT_t (i := 502) (by decide +kernel) rfl
theorem wc_X1_setUp : Cond.code yX1_setUp cX1_setUp 2 none ∈ gT := gT_t (i := 503) (by decide +kernel) rfl
theorem wm_X1_32 : Cond.methodLink RX1 32 yX5_takeFrom ∈ gT := gT_t (i := 504) (by decide +kernel) rfl
theorem wi_X5_takeFrom : Cond.instanceMethod yX5_takeFrom ∈ gT := gT_t (i := 505) (by decide +kernel) rfl
theorem ws_X5_takeFrom : Cond.selects RX5 yX5_takeFrom yX5_takeFrom ∈ gT := gT_t (i := 506) (by decide +kernel) rfl
theorem wc_X5_takeFrom : Cond.code yX5_takeFrom cX5_takeFrom 2 none ∈ gT := gT_t (i := 507) (by decide +kernel) rfl
theorem wm_X5_58 : Cond.methodLink RX5 58 yX5_takeHurts ∈ gT := gT_t (i := 511) (by decide +kernel) rfl
theorem wi_X5_takeHurts : Cond.instanceMethod yX5_takeHurts ∈ gT := gT_t (i := 512) (by decide +kernel) rfl
theorem ws_X5_takeHurts : Cond.selects RX5 yX5_takeHurts yX5_takeHurts ∈ gT := gT_t (i := 513) (by decide +kernel) rfl
theorem wc_X5_takeHurts : Cond.code yX5_takeHurts cX5_takeHurts 2 none ∈ gT := gT_t (i := 514) (by decide +kernel) rfl
theorem wm_L_53 : Cond.methodLink RL 53 yX7_count ∈ gT := gT_t (i := 516) (by decide +kernel) rfl
theorem wi_X7_count : Cond.instanceMethod yX7_count ∈ gT := gT_t (i := 517) (by decide +kernel) rfl
theorem ws_X7_count : Cond.selects RX7 yX7_count yX7_count ∈ gT := gT_t (i := 518) (by decide +kernel) rfl
theorem wc_X7_count : Cond.code yX7_count cX7_count 2 (some .int) ∈ gT := gT_t (i := 519) (by decide +kernel) rfl
theorem wm_X7_140 : Cond.methodLink RX7 140 yX5_thoseDown ∈ gT := gT_t (i := 520) (by decide +kernel) rfl
theorem wi_X5_thoseDown : Cond.instanceMethod yX5_thoseDown ∈ gT := gT_t (i := 521) (by decide +kernel) rfl
theorem ws_X5_thoseDown : Cond.selects RX5 yX5_thoseDown yX5_thoseDown ∈ gT := gT_t (i := 522) (by decide +kernel) rfl
theorem wc_X5_thoseDown : Cond.code yX5_thoseDown cX5_thoseDown 3 (some .int) ∈ gT := gT_t (i := 523) (by decide +kernel) rfl
theorem wm_X7_144 : Cond.methodLink RX7 144 yX5_outcome ∈ gT := gT_t (i := 524) (by decide +kernel) rfl
theorem wi_X5_outcome : Cond.instanceMethod yX5_outcome ∈ gT := gT_t (i := 525) (by decide +kernel) rfl
theorem ws_X5_outcome : Cond.selects RX5 yX5_outcome yX5_outcome ∈ gT := gT_t (i := 526) (by decide +kernel) rfl
theorem wc_X5_outcome : Cond.code yX5_outcome cX5_outcome 1 (some .int) ∈ gT := gT_t (i := 527) (by decide +kernel) rfl
theorem wm_X5_77 : Cond.methodLink RX5 77 yX5_othersUp ∈ gT := gT_t (i := 528) (by decide +kernel) rfl
theorem wi_X5_othersUp : Cond.instanceMethod yX5_othersUp ∈ gT := gT_t (i := 529) (by decide +kernel) rfl
theorem ws_X5_othersUp : Cond.selects RX5 yX5_othersUp yX5_othersUp ∈ gT := gT_t (i := 530) (by decide +kernel) rfl
theorem wc_X5_othersUp : Cond.code yX5_othersUp cX5_othersUp 3 (some .int) ∈ gT := gT_t (i := 531) (by decide +kernel) rfl
theorem wm_L_57 : Cond.methodLink RL 57 yX7_moment ∈ gT := gT_t (i := 532) (by decide +kernel) rfl
theorem wi_X7_moment : Cond.instanceMethod yX7_moment ∈ gT := gT_t (i := 533) (by decide +kernel) rfl
theorem ws_X7_moment : Cond.selects RX7 yX7_moment yX7_moment ∈ gT := gT_t (i := 534) (by decide +kernel) rfl
theorem wc_X7_moment : Cond.code yX7_moment cX7_moment 1 (some .int) ∈ gT := gT_t (i := 535) (by decide +kernel) rfl
theorem wm_X7_147 : Cond.methodLink RX7 147 yX4_remember ∈ gT := gT_t (i := 536) (by decide +kernel) rfl
theorem wi_X4_remember : Cond.instanceMethod yX4_remember ∈ gT := gT_t (i := 537) (by decide +kernel) rfl
theorem ws_X4_remember : Cond.selects RX4 yX4_remember yX4_remember ∈ gT := gT_t (i := 538) (by decide +kernel) rfl
theorem wc_X4_remember : Cond.code yX4_remember cX4_remember 2 none ∈ gT := gT_t (i := 539) (by decide +kernel) rfl
theorem wm_X7_150 : Cond.methodLink RX7 150 yX5_fightFirst ∈ gT := gT_t (i := 542) (by decide +kernel) rfl
theorem wi_X5_fightFirst : Cond.instanceMethod yX5_fightFirst ∈ gT := gT_t (i := 543) (by decide +kernel) rfl
theorem ws_X5_fightFirst : Cond.selects RX5 yX5_fightFirst yX5_fightFirst ∈ gT := gT_t (i := 544) (by decide +kernel) rfl
theorem wc_X5_fightFirst : Cond.code yX5_fightFirst cX5_fightFirst 4 (some .int) ∈ gT := gT_t (i := 545) (by decide +kernel) rfl
theorem wm_X5_131 : Cond.methodLink RX5 131 yX5_firstThere ∈ gT := gT_t (i := 546) (by decide +kernel) rfl
theorem wi_X5_firstThere : Cond.instanceMethod yX5_firstThere ∈ gT := gT_t (i := 548) (by decide +kernel) rfl
theorem wc_X5_firstThere : Cond.code yX5_firstThere cX5_firstThere 3 (some .int) ∈ gT := gT_t (i := 549) (by decide +kernel) rfl
theorem wm_X5_128 : Cond.methodLink RX5 128 yX5_isThere ∈ gT := gT_t (i := 550) (by decide +kernel) rfl
theorem wi_X5_isThere : Cond.instanceMethod yX5_isThere ∈ gT := gT_t (i := 552) (by decide +kernel) rfl
theorem wc_X5_isThere : Cond.code yX5_isThere cX5_isThere 2 (some .boolean) ∈ gT := gT_t (i := 553) (by decide +kernel) rfl
theorem wm_X5_134 : Cond.methodLink RX5 134 yX5_forceOf ∈ gT := gT_t (i := 554) (by decide +kernel) rfl
theorem wm_X5_137 : Cond.methodLink RX5 137 yX5_countThere ∈ gT := gT_t (i := 555) (by decide +kernel) rfl
theorem wi_X5_countThere : Cond.instanceMethod yX5_countThere ∈ gT := gT_t (i := 557) (by decide +kernel) rfl
theorem wc_X5_countThere : Cond.code yX5_countThere cX5_countThere 3 (some .int) ∈ gT := gT_t (i := 558) (by decide +kernel) rfl
theorem wm_X5_140 : Cond.methodLink RX5 140 yX5_odds ∈ gT := gT_t (i := 559) (by decide +kernel) rfl
theorem wt_X5_odds : Cond.static yX5_odds ∈ gT := gT_t (i := 560) (by decide +kernel) rfl
theorem wc_X5_odds : Cond.code yX5_odds cX5_odds 4 (some .int) ∈ gT := gT_t (i := 561) (by decide +kernel) rfl
theorem wm_X5_143 : Cond.methodLink RX5 143 yX5_drawOfSixteen ∈ gT := gT_t (i := 562) (by decide +kernel) rfl
theorem wi_X5_drawOfSixteen : Cond.instanceMethod yX5_drawOfSixteen ∈ gT := gT_t (i := 564) (by decide +kernel) rfl
theorem wc_X5_drawOfSixteen : Cond.code yX5_drawOfSixteen cX5_drawOfSixteen 1 (some .int) ∈ gT := gT_t (i := 565) (by decide +kernel) rfl
theorem wk_X5_146 : Cond.constant RX5 146 (1103515245) ∈ gT := gT_t (i := 566) (by decide +kernel) rfl
theorem wk_X5_147 : Cond.constant RX5 147 (2147483647) ∈ gT := gT_t (i := 567) (by decide +kernel) rfl
theorem wk_X5_148 : Cond.constant RX5 148 (65536) ∈ gT := gT_t (i := 568) (by decide +kernel) rfl
theorem wm_X7_153 : Cond.methodLink RX7 153 yX7_runOn ∈ gT := gT_t (i := 569) (by decide +kernel) rfl
theorem wi_X7_runOn : Cond.instanceMethod yX7_runOn ∈ gT := gT_t (i := 571) (by decide +kernel) rfl
theorem wc_X7_runOn : Cond.code yX7_runOn cX7_runOn 1 (some .int) ∈ gT := gT_t (i := 572) (by decide +kernel) rfl
theorem wm_X7_156 : Cond.methodLink RX7 156 yX5_isCaughtIn ∈ gT := gT_t (i := 573) (by decide +kernel) rfl
theorem wi_X5_isCaughtIn : Cond.instanceMethod yX5_isCaughtIn ∈ gT := gT_t (i := 574) (by decide +kernel) rfl
theorem ws_X5_isCaughtIn : Cond.selects RX5 yX5_isCaughtIn yX5_isCaughtIn ∈ gT := gT_t (i := 575) (by decide +kernel) rfl
theorem wc_X5_isCaughtIn : Cond.code yX5_isCaughtIn cX5_isCaughtIn 5 (some .boolean) ∈ gT := gT_t (i := 576) (by decide +kernel) rfl
theorem wm_X5_122 : Cond.methodLink RX5 122 yX5_comesTo ∈ gT := gT_t (i := 577) (by decide +kernel) rfl
theorem wi_X5_comesTo : Cond.instanceMethod yX5_comesTo ∈ gT := gT_t (i := 578) (by decide +kernel) rfl
theorem ws_X5_comesTo : Cond.selects RX5 yX5_comesTo yX5_comesTo ∈ gT := gT_t (i := 579) (by decide +kernel) rfl
theorem wc_X5_comesTo : Cond.code yX5_comesTo cX5_comesTo 5 (some .int) ∈ gT := gT_t (i := 580) (by decide +kernel) rfl
theorem wm_X5_119 : Cond.methodLink RX5 119 yX3_momentsFor ∈ gT := gT_t (i := 581) (by decide +kernel) rfl
theorem wt_X3_momentsFor : Cond.static yX3_momentsFor ∈ gT := gT_t (i := 582) (by decide +kernel) rfl
theorem wc_X3_momentsFor : Cond.code yX3_momentsFor cX3_momentsFor 4 (some .int) ∈ gT := gT_t (i := 583) (by decide +kernel) rfl
theorem wm_X3_18 : Cond.methodLink RX3 18 yX3_shares ∈ gT := gT_t (i := 584) (by decide +kernel) rfl
theorem wt_X3_shares : Cond.static yX3_shares ∈ gT := gT_t (i := 585) (by decide +kernel) rfl
theorem wc_X3_shares : Cond.code yX3_shares cX3_shares 2 (some .int) ∈ gT := gT_t (i := 586) (by decide +kernel) rfl
theorem wm_X7_159 : Cond.methodLink RX7 159 yX5_turnIn ∈ gT := gT_t (i := 587) (by decide +kernel) rfl
theorem wi_X5_turnIn : Cond.instanceMethod yX5_turnIn ∈ gT := gT_t (i := 588) (by decide +kernel) rfl
theorem ws_X5_turnIn : Cond.selects RX5 yX5_turnIn yX5_turnIn ∈ gT := gT_t (i := 589) (by decide +kernel) rfl
theorem wc_X5_turnIn : Cond.code yX5_turnIn cX5_turnIn 3 none ∈ gT := gT_t (i := 590) (by decide +kernel) rfl
theorem wm_L_61 : Cond.methodLink RL 61 yX7_turn ∈ gT := gT_t (i := 591) (by decide +kernel) rfl
theorem wi_X7_turn : Cond.instanceMethod yX7_turn ∈ gT := gT_t (i := 592) (by decide +kernel) rfl
theorem ws_X7_turn : Cond.selects RX7 yX7_turn yX7_turn ∈ gT := gT_t (i := 593) (by decide +kernel) rfl
theorem wc_X7_turn : Cond.code yX7_turn cX7_turn 1 (some .int) ∈ gT := gT_t (i := 594) (by decide +kernel) rfl
theorem wm_X7_163 : Cond.methodLink RX7 163 yX7_mayTurn ∈ gT := gT_t (i := 595) (by decide +kernel) rfl
theorem wi_X7_mayTurn : Cond.instanceMethod yX7_mayTurn ∈ gT := gT_t (i := 597) (by decide +kernel) rfl
theorem wc_X7_mayTurn : Cond.code yX7_mayTurn cX7_mayTurn 1 (some .boolean) ∈ gT := gT_t (i := 598) (by decide +kernel) rfl
theorem wm_L_65 : Cond.methodLink RL 65 yX7_undo ∈ gT := gT_t (i := 599) (by decide +kernel) rfl
theorem wi_X7_undo : Cond.instanceMethod yX7_undo ∈ gT := gT_t (i := 600) (by decide +kernel) rfl
theorem ws_X7_undo : Cond.selects RX7 yX7_undo yX7_undo ∈ gT := gT_t (i := 601) (by decide +kernel) rfl
theorem wc_X7_undo : Cond.code yX7_undo cX7_undo 1 (some .int) ∈ gT := gT_t (i := 602) (by decide +kernel) rfl
theorem wm_X7_166 : Cond.methodLink RX7 166 yX4_bringBack ∈ gT := gT_t (i := 603) (by decide +kernel) rfl
theorem wi_X4_bringBack : Cond.instanceMethod yX4_bringBack ∈ gT := gT_t (i := 604) (by decide +kernel) rfl
theorem ws_X4_bringBack : Cond.selects RX4 yX4_bringBack yX4_bringBack ∈ gT := gT_t (i := 605) (by decide +kernel) rfl
theorem wc_X4_bringBack : Cond.code yX4_bringBack cX4_bringBack 2 (some .boolean) ∈ gT := gT_t (i := 606) (by decide +kernel) rfl
theorem wm_L_69 : Cond.methodLink RL 69 yX7_seed ∈ gT := gT_t (i := 607) (by decide +kernel) rfl
theorem wi_X7_seed : Cond.instanceMethod yX7_seed ∈ gT := gT_t (i := 608) (by decide +kernel) rfl
theorem ws_X7_seed : Cond.selects RX7 yX7_seed yX7_seed ∈ gT := gT_t (i := 609) (by decide +kernel) rfl
theorem wc_X7_seed : Cond.code yX7_seed cX7_seed 3 (some .int) ∈ gT := gT_t (i := 610) (by decide +kernel) rfl
theorem wm_L_73 : Cond.methodLink RL 73 yX7_chance ∈ gT := gT_t (i := 611) (by decide +kernel) rfl
theorem wi_X7_chance : Cond.instanceMethod yX7_chance ∈ gT := gT_t (i := 612) (by decide +kernel) rfl
theorem ws_X7_chance : Cond.selects RX7 yX7_chance yX7_chance ∈ gT := gT_t (i := 613) (by decide +kernel) rfl
theorem wc_X7_chance : Cond.code yX7_chance cX7_chance 2 (some .int) ∈ gT := gT_t (i := 614) (by decide +kernel) rfl
theorem wm_X7_173 : Cond.methodLink RX7 173 yX2_begin ∈ gT := gT_t (i := 615) (by decide +kernel) rfl
theorem wi_X2_begin : Cond.instanceMethod yX2_begin ∈ gT := gT_t (i := 616) (by decide +kernel) rfl
theorem ws_X2_begin : Cond.selects RX2 yX2_begin yX2_begin ∈ gT := gT_t (i := 617) (by decide +kernel) rfl
theorem wc_X2_begin : Cond.code yX2_begin cX2_begin 2 none ∈ gT := gT_t (i := 618) (by decide +kernel) rfl
theorem wm_X2_29 : Cond.methodLink RX2 29 yX5_takeFrom ∈ gT := gT_t (i := 619) (by decide +kernel) rfl
theorem wm_X2_33 : Cond.methodLink RX2 33 yX0_forget ∈ gT := gT_t (i := 620) (by decide +kernel) rfl
theorem wi_X0_forget : Cond.instanceMethod yX0_forget ∈ gT := gT_t (i := 621) (by decide +kernel) rfl
theorem ws_X0_forget : Cond.selects RX0 yX0_forget yX0_forget ∈ gT := gT_t (i := 622) (by decide +kernel) rfl
theorem wc_X0_forget : Cond.code yX0_forget cX0_forget 2 none ∈ gT := gT_t (i := 623) (by decide +kernel) rfl
theorem wm_X7_176 : Cond.methodLink RX7 176 yX2_chanceBy ∈ gT := gT_t (i := 624) (by decide +kernel) rfl
theorem wi_X2_chanceBy : Cond.instanceMethod yX2_chanceBy ∈ gT := gT_t (i := 625) (by decide +kernel) rfl
theorem ws_X2_chanceBy : Cond.selects RX2 yX2_chanceBy yX2_chanceBy ∈ gT := gT_t (i := 626) (by decide +kernel) rfl
theorem wc_X2_chanceBy : Cond.code yX2_chanceBy cX2_chanceBy 3 (some .int) ∈ gT := gT_t (i := 627) (by decide +kernel) rfl
theorem wm_X2_40 : Cond.methodLink RX2 40 yX5_hasTurned ∈ gT := gT_t (i := 628) (by decide +kernel) rfl
theorem wm_X2_44 : Cond.methodLink RX2 44 yX0_takeComing ∈ gT := gT_t (i := 629) (by decide +kernel) rfl
theorem wi_X0_takeComing : Cond.instanceMethod yX0_takeComing ∈ gT := gT_t (i := 630) (by decide +kernel) rfl
theorem ws_X0_takeComing : Cond.selects RX0 yX0_takeComing yX0_takeComing ∈ gT := gT_t (i := 631) (by decide +kernel) rfl
theorem wc_X0_takeComing : Cond.code yX0_takeComing cX0_takeComing 2 none ∈ gT := gT_t (i := 632) (by decide +kernel) rfl
theorem wm_X2_47 : Cond.methodLink RX2 47 yX5_turnMoment ∈ gT := gT_t (i := 634) (by decide +kernel) rfl
theorem wi_X5_turnMoment : Cond.instanceMethod yX5_turnMoment ∈ gT := gT_t (i := 635) (by decide +kernel) rfl
theorem ws_X5_turnMoment : Cond.selects RX5 yX5_turnMoment yX5_turnMoment ∈ gT := gT_t (i := 636) (by decide +kernel) rfl
theorem wc_X5_turnMoment : Cond.code yX5_turnMoment cX5_turnMoment 4 (some .int) ∈ gT := gT_t (i := 637) (by decide +kernel) rfl
theorem wm_X5_125 : Cond.methodLink RX5 125 yX5_isCaughtIn ∈ gT := gT_t (i := 638) (by decide +kernel) rfl
theorem wm_X2_51 : Cond.methodLink RX2 51 yX0_tellComing ∈ gT := gT_t (i := 639) (by decide +kernel) rfl
theorem wi_X0_tellComing : Cond.instanceMethod yX0_tellComing ∈ gT := gT_t (i := 640) (by decide +kernel) rfl
theorem ws_X0_tellComing : Cond.selects RX0 yX0_tellComing yX0_tellComing ∈ gT := gT_t (i := 641) (by decide +kernel) rfl
theorem wc_X0_tellComing : Cond.code yX0_tellComing cX0_tellComing 5 none ∈ gT := gT_t (i := 642) (by decide +kernel) rfl
theorem wm_X0_54 : Cond.methodLink RX0 54 yX5_cellRunning ∈ gT := gT_t (i := 643) (by decide +kernel) rfl
theorem wm_X0_62 : Cond.methodLink RX0 62 yX5_comesTo ∈ gT := gT_t (i := 644) (by decide +kernel) rfl
theorem wm_X2_55 : Cond.methodLink RX2 55 yX0_chanceFrom ∈ gT := gT_t (i := 645) (by decide +kernel) rfl
theorem wi_X0_chanceFrom : Cond.instanceMethod yX0_chanceFrom ∈ gT := gT_t (i := 646) (by decide +kernel) rfl
theorem ws_X0_chanceFrom : Cond.selects RX0 yX0_chanceFrom yX0_chanceFrom ∈ gT := gT_t (i := 647) (by decide +kernel) rfl
theorem wc_X0_chanceFrom : Cond.code yX0_chanceFrom cX0_chanceFrom 5 (some .int) ∈ gT := gT_t (i := 648) (by decide +kernel) rfl
theorem wm_X0_65 : Cond.methodLink RX0 65 yX0_putInOrder ∈ gT := gT_t (i := 649) (by decide +kernel) rfl
theorem wi_X0_putInOrder : Cond.instanceMethod yX0_putInOrder ∈ gT := gT_t (i := 651) (by decide +kernel) rfl
theorem wc_X0_putInOrder : Cond.code yX0_putInOrder cX0_putInOrder 4 none ∈ gT := gT_t (i := 652) (by decide +kernel) rfl
theorem wm_X0_73 : Cond.methodLink RX0 73 yX5_isUp ∈ gT := gT_t (i := 653) (by decide +kernel) rfl
theorem wk_X0_72 : Cond.constant RX0 72 (1000000) ∈ gT := gT_t (i := 654) (by decide +kernel) rfl
theorem wm_X0_77 : Cond.methodLink RX0 77 yX0_tellWaits ∈ gT := gT_t (i := 655) (by decide +kernel) rfl
theorem wi_X0_tellWaits : Cond.instanceMethod yX0_tellWaits ∈ gT := gT_t (i := 657) (by decide +kernel) rfl
theorem wc_X0_tellWaits : Cond.code yX0_tellWaits cX0_tellWaits 6 none ∈ gT := gT_t (i := 658) (by decide +kernel) rfl
theorem wm_X0_81 : Cond.methodLink RX0 81 yX0_keyOf ∈ gT := gT_t (i := 661) (by decide +kernel) rfl
theorem wi_X0_keyOf : Cond.instanceMethod yX0_keyOf ∈ gT := gT_t (i := 663) (by decide +kernel) rfl
theorem wc_X0_keyOf : Cond.code yX0_keyOf cX0_keyOf 4 (some .int) ∈ gT := gT_t (i := 664) (by decide +kernel) rfl
theorem wm_X0_85 : Cond.methodLink RX0 85 yX0_foldBack ∈ gT := gT_t (i := 665) (by decide +kernel) rfl
theorem wi_X0_foldBack : Cond.instanceMethod yX0_foldBack ∈ gT := gT_t (i := 667) (by decide +kernel) rfl
theorem wc_X0_foldBack : Cond.code yX0_foldBack cX0_foldBack 8 (some .int) ∈ gT := gT_t (i := 668) (by decide +kernel) rfl
theorem wm_X0_97 : Cond.methodLink RX0 97 yX0_tellForces ∈ gT := gT_t (i := 669) (by decide +kernel) rfl
theorem wi_X0_tellForces : Cond.instanceMethod yX0_tellForces ∈ gT := gT_t (i := 671) (by decide +kernel) rfl
theorem wc_X0_tellForces : Cond.code yX0_tellForces cX0_tellForces 6 none ∈ gT := gT_t (i := 672) (by decide +kernel) rfl
theorem wm_X0_127 : Cond.methodLink RX0 127 yX3_force ∈ gT := gT_t (i := 673) (by decide +kernel) rfl
theorem wm_X0_100 : Cond.methodLink RX0 100 yX0_tellIdle ∈ gT := gT_t (i := 674) (by decide +kernel) rfl
theorem wi_X0_tellIdle : Cond.instanceMethod yX0_tellIdle ∈ gT := gT_t (i := 676) (by decide +kernel) rfl
theorem wc_X0_tellIdle : Cond.code yX0_tellIdle cX0_tellIdle 3 none ∈ gT := gT_t (i := 677) (by decide +kernel) rfl
theorem wm_X0_106 : Cond.methodLink RX0 106 yX0_settleEnds ∈ gT := gT_t (i := 678) (by decide +kernel) rfl
theorem wi_X0_settleEnds : Cond.instanceMethod yX0_settleEnds ∈ gT := gT_t (i := 680) (by decide +kernel) rfl
theorem wc_X0_settleEnds : Cond.code yX0_settleEnds cX0_settleEnds 4 none ∈ gT := gT_t (i := 681) (by decide +kernel) rfl
theorem wm_X0_109 : Cond.methodLink RX0 109 yX0_leastHurt ∈ gT := gT_t (i := 682) (by decide +kernel) rfl
theorem wi_X0_leastHurt : Cond.instanceMethod yX0_leastHurt ∈ gT := gT_t (i := 684) (by decide +kernel) rfl
theorem wc_X0_leastHurt : Cond.code yX0_leastHurt cX0_leastHurt 5 (some .int) ∈ gT := gT_t (i := 685) (by decide +kernel) rfl
theorem wm_X0_113 : Cond.methodLink RX0 113 yX0_fold ∈ gT := gT_t (i := 686) (by decide +kernel) rfl
theorem wi_X0_fold : Cond.instanceMethod yX0_fold ∈ gT := gT_t (i := 688) (by decide +kernel) rfl
theorem wc_X0_fold : Cond.code yX0_fold cX0_fold 6 none ∈ gT := gT_t (i := 689) (by decide +kernel) rfl
theorem wm_X0_137 : Cond.methodLink RX0 137 yX5_odds ∈ gT := gT_t (i := 690) (by decide +kernel) rfl
theorem wm_X0_117 : Cond.methodLink RX0 117 yX0_foldMoment ∈ gT := gT_t (i := 691) (by decide +kernel) rfl
theorem wi_X0_foldMoment : Cond.instanceMethod yX0_foldMoment ∈ gT := gT_t (i := 693) (by decide +kernel) rfl
theorem wc_X0_foldMoment : Cond.code yX0_foldMoment cX0_foldMoment 10 none ∈ gT := gT_t (i := 694) (by decide +kernel) rfl
theorem wm_X0_133 : Cond.methodLink RX0 133 yX0_countThere ∈ gT := gT_t (i := 695) (by decide +kernel) rfl
theorem wi_X0_countThere : Cond.instanceMethod yX0_countThere ∈ gT := gT_t (i := 697) (by decide +kernel) rfl
theorem wc_X0_countThere : Cond.code yX0_countThere cX0_countThere 3 (some .int) ∈ gT := gT_t (i := 698) (by decide +kernel) rfl
theorem wm_L_77 : Cond.methodLink RL 77 yX7_best ∈ gT := gT_t (i := 699) (by decide +kernel) rfl
theorem wi_X7_best : Cond.instanceMethod yX7_best ∈ gT := gT_t (i := 700) (by decide +kernel) rfl
theorem ws_X7_best : Cond.selects RX7 yX7_best yX7_best ∈ gT := gT_t (i := 701) (by decide +kernel) rfl
theorem wc_X7_best : Cond.code yX7_best cX7_best 3 (some .int) ∈ gT := gT_t (i := 702) (by decide +kernel) rfl
theorem wm_X7_179 : Cond.methodLink RX7 179 yX2_foresee ∈ gT := gT_t (i := 703) (by decide +kernel) rfl
theorem wi_X2_foresee : Cond.instanceMethod yX2_foresee ∈ gT := gT_t (i := 704) (by decide +kernel) rfl
theorem ws_X2_foresee : Cond.selects RX2 yX2_foresee yX2_foresee ∈ gT := gT_t (i := 705) (by decide +kernel) rfl
theorem wc_X2_foresee : Cond.code yX2_foresee cX2_foresee 7 (some .int) ∈ gT := gT_t (i := 706) (by decide +kernel) rfl
theorem wm_X2_62 : Cond.methodLink RX2 62 yX5_isCaughtIn ∈ gT := gT_t (i := 707) (by decide +kernel) rfl
theorem wm_X7_182 : Cond.methodLink RX7 182 yX2_firstWith ∈ gT := gT_t (i := 709) (by decide +kernel) rfl
theorem wi_X2_firstWith : Cond.instanceMethod yX2_firstWith ∈ gT := gT_t (i := 710) (by decide +kernel) rfl
theorem ws_X2_firstWith : Cond.selects RX2 yX2_firstWith yX2_firstWith ∈ gT := gT_t (i := 711) (by decide +kernel) rfl
theorem wc_X2_firstWith : Cond.code yX2_firstWith cX2_firstWith 3 (some .int) ∈ gT := gT_t (i := 712) (by decide +kernel) rfl
theorem wm_L_81 : Cond.methodLink RL 81 yX7_late ∈ gT := gT_t (i := 713) (by decide +kernel) rfl
theorem wi_X7_late : Cond.instanceMethod yX7_late ∈ gT := gT_t (i := 714) (by decide +kernel) rfl
theorem ws_X7_late : Cond.selects RX7 yX7_late yX7_late ∈ gT := gT_t (i := 715) (by decide +kernel) rfl
theorem wc_X7_late : Cond.code yX7_late cX7_late 2 (some .int) ∈ gT := gT_t (i := 716) (by decide +kernel) rfl
theorem wk_X7_185 : Cond.constant RX7 185 (1000000) ∈ gT := gT_t (i := 717) (by decide +kernel) rfl
theorem wm_X7_186 : Cond.methodLink RX7 186 yX2_lastWith ∈ gT := gT_t (i := 718) (by decide +kernel) rfl
theorem wi_X2_lastWith : Cond.instanceMethod yX2_lastWith ∈ gT := gT_t (i := 719) (by decide +kernel) rfl
theorem ws_X2_lastWith : Cond.selects RX2 yX2_lastWith yX2_lastWith ∈ gT := gT_t (i := 720) (by decide +kernel) rfl
theorem wc_X2_lastWith : Cond.code yX2_lastWith cX2_lastWith 3 (some .int) ∈ gT := gT_t (i := 721) (by decide +kernel) rfl
theorem wm_L_85 : Cond.methodLink RL 85 yX7_together ∈ gT := gT_t (i := 722) (by decide +kernel) rfl
theorem wi_X7_together : Cond.instanceMethod yX7_together ∈ gT := gT_t (i := 723) (by decide +kernel) rfl
theorem ws_X7_together : Cond.selects RX7 yX7_together yX7_together ∈ gT := gT_t (i := 724) (by decide +kernel) rfl
theorem wc_X7_together : Cond.code yX7_together cX7_together 4 (some .int) ∈ gT := gT_t (i := 725) (by decide +kernel) rfl
theorem wm_X7_189 : Cond.methodLink RX7 189 yX2_chanceTogether ∈ gT := gT_t (i := 726) (by decide +kernel) rfl
theorem wi_X2_chanceTogether : Cond.instanceMethod yX2_chanceTogether ∈ gT := gT_t (i := 727) (by decide +kernel) rfl
theorem ws_X2_chanceTogether : Cond.selects RX2 yX2_chanceTogether yX2_chanceTogether ∈ gT := gT_t (i := 728) (by decide +kernel) rfl
theorem wc_X2_chanceTogether : Cond.code yX2_chanceTogether cX2_chanceTogether 1 (some .int) ∈ gT := gT_t (i := 729) (by decide +kernel) rfl
theorem wm_X2_59 : Cond.methodLink RX2 59 yX0_tellAllAtOnce ∈ gT := gT_t (i := 730) (by decide +kernel) rfl
theorem wi_X0_tellAllAtOnce : Cond.instanceMethod yX0_tellAllAtOnce ∈ gT := gT_t (i := 731) (by decide +kernel) rfl
theorem ws_X0_tellAllAtOnce : Cond.selects RX0 yX0_tellAllAtOnce yX0_tellAllAtOnce ∈ gT := gT_t (i := 732) (by decide +kernel) rfl
theorem wc_X0_tellAllAtOnce : Cond.code yX0_tellAllAtOnce cX0_tellAllAtOnce 2 none ∈ gT := gT_t (i := 733) (by decide +kernel) rfl
theorem wm_L_89 : Cond.methodLink RL 89 yX7_ditched ∈ gT := gT_t (i := 734) (by decide +kernel) rfl
theorem wi_X7_ditched : Cond.instanceMethod yX7_ditched ∈ gT := gT_t (i := 735) (by decide +kernel) rfl
theorem ws_X7_ditched : Cond.selects RX7 yX7_ditched yX7_ditched ∈ gT := gT_t (i := 736) (by decide +kernel) rfl
theorem wc_X7_ditched : Cond.code yX7_ditched cX7_ditched 5 (some .int) ∈ gT := gT_t (i := 737) (by decide +kernel) rfl
theorem wm_X7_192 : Cond.methodLink RX7 192 yX2_suppose ∈ gT := gT_t (i := 738) (by decide +kernel) rfl
theorem wi_X2_suppose : Cond.instanceMethod yX2_suppose ∈ gT := gT_t (i := 739) (by decide +kernel) rfl
theorem ws_X2_suppose : Cond.selects RX2 yX2_suppose yX2_suppose ∈ gT := gT_t (i := 740) (by decide +kernel) rfl
theorem wc_X2_suppose : Cond.code yX2_suppose cX2_suppose 3 none ∈ gT := gT_t (i := 741) (by decide +kernel) rfl
theorem wm_X2_75 : Cond.methodLink RX2 75 yX5_changeSort ∈ gT := gT_t (i := 742) (by decide +kernel) rfl
theorem wi_X5_changeSort : Cond.instanceMethod yX5_changeSort ∈ gT := gT_t (i := 743) (by decide +kernel) rfl
theorem ws_X5_changeSort : Cond.selects RX5 yX5_changeSort yX5_changeSort ∈ gT := gT_t (i := 744) (by decide +kernel) rfl
theorem wc_X5_changeSort : Cond.code yX5_changeSort cX5_changeSort 5 none ∈ gT := gT_t (i := 745) (by decide +kernel) rfl
theorem wm_X5_66 : Cond.methodLink RX5 66 yX5_hasCell ∈ gT := gT_t (i := 746) (by decide +kernel) rfl
theorem wm_L_93 : Cond.methodLink RL 93 yX7_ahead ∈ gT := gT_t (i := 747) (by decide +kernel) rfl
theorem wi_X7_ahead : Cond.instanceMethod yX7_ahead ∈ gT := gT_t (i := 748) (by decide +kernel) rfl
theorem ws_X7_ahead : Cond.selects RX7 yX7_ahead yX7_ahead ∈ gT := gT_t (i := 749) (by decide +kernel) rfl
theorem wc_X7_ahead : Cond.code yX7_ahead cX7_ahead 6 (some .int) ∈ gT := gT_t (i := 750) (by decide +kernel) rfl
theorem wm_X7_196 : Cond.methodLink RX7 196 yX5_isUp ∈ gT := gT_t (i := 751) (by decide +kernel) rfl
theorem wm_X7_199 : Cond.methodLink RX7 199 yX2_supposeHurt ∈ gT := gT_t (i := 752) (by decide +kernel) rfl
theorem wi_X2_supposeHurt : Cond.instanceMethod yX2_supposeHurt ∈ gT := gT_t (i := 753) (by decide +kernel) rfl
theorem ws_X2_supposeHurt : Cond.selects RX2 yX2_supposeHurt yX2_supposeHurt ∈ gT := gT_t (i := 754) (by decide +kernel) rfl
theorem wc_X2_supposeHurt : Cond.code yX2_supposeHurt cX2_supposeHurt 3 none ∈ gT := gT_t (i := 755) (by decide +kernel) rfl
theorem wm_X2_79 : Cond.methodLink RX2 79 yX5_exists ∈ gT := gT_t (i := 756) (by decide +kernel) rfl
theorem wm_L_97 : Cond.methodLink RL 97 yX7_fields ∈ gT := gT_t (i := 757) (by decide +kernel) rfl
theorem wi_X7_fields : Cond.instanceMethod yX7_fields ∈ gT := gT_t (i := 758) (by decide +kernel) rfl
theorem ws_X7_fields : Cond.selects RX7 yX7_fields yX7_fields ∈ gT := gT_t (i := 759) (by decide +kernel) rfl
theorem wc_X7_fields : Cond.code yX7_fields cX7_fields 3 (some .int) ∈ gT := gT_t (i := 760) (by decide +kernel) rfl
theorem wm_X7_202 : Cond.methodLink RX7 202 yX2_winsOf ∈ gT := gT_t (i := 761) (by decide +kernel) rfl
theorem wi_X2_winsOf : Cond.instanceMethod yX2_winsOf ∈ gT := gT_t (i := 762) (by decide +kernel) rfl
theorem ws_X2_winsOf : Cond.selects RX2 yX2_winsOf yX2_winsOf ∈ gT := gT_t (i := 763) (by decide +kernel) rfl
theorem wc_X2_winsOf : Cond.code yX2_winsOf cX2_winsOf 7 (some .int) ∈ gT := gT_t (i := 764) (by decide +kernel) rfl
theorem wm_X2_85 : Cond.methodLink RX2 85 yX5_turnIn ∈ gT := gT_t (i := 765) (by decide +kernel) rfl
theorem wm_X2_89 : Cond.methodLink RX2 89 yX5_takeHurts ∈ gT := gT_t (i := 766) (by decide +kernel) rfl
theorem wm_X2_92 : Cond.methodLink RX2 92 yX2_winsOne ∈ gT := gT_t (i := 767) (by decide +kernel) rfl
theorem wi_X2_winsOne : Cond.instanceMethod yX2_winsOne ∈ gT := gT_t (i := 769) (by decide +kernel) rfl
theorem wc_X2_winsOne : Cond.code yX2_winsOne cX2_winsOne 2 (some .boolean) ∈ gT := gT_t (i := 770) (by decide +kernel) rfl
theorem wm_X2_98 : Cond.methodLink RX2 98 yX5_outcome ∈ gT := gT_t (i := 771) (by decide +kernel) rfl
theorem wm_X2_102 : Cond.methodLink RX2 102 yX5_waitForNext ∈ gT := gT_t (i := 772) (by decide +kernel) rfl
theorem wi_X5_waitForNext : Cond.instanceMethod yX5_waitForNext ∈ gT := gT_t (i := 773) (by decide +kernel) rfl
theorem ws_X5_waitForNext : Cond.selects RX5 yX5_waitForNext yX5_waitForNext ∈ gT := gT_t (i := 774) (by decide +kernel) rfl
theorem wc_X5_waitForNext : Cond.code yX5_waitForNext cX5_waitForNext 3 none ∈ gT := gT_t (i := 775) (by decide +kernel) rfl
theorem wm_X2_105 : Cond.methodLink RX2 105 yX5_fightFirst ∈ gT := gT_t (i := 777) (by decide +kernel) rfl
theorem wm_L_101 : Cond.methodLink RL 101 yX7_image ∈ gT := gT_t (i := 778) (by decide +kernel) rfl
theorem wi_X7_image : Cond.instanceMethod yX7_image ∈ gT := gT_t (i := 779) (by decide +kernel) rfl
theorem ws_X7_image : Cond.selects RX7 yX7_image yX7_image ∈ gT := gT_t (i := 780) (by decide +kernel) rfl
theorem wc_X7_image : Cond.code yX7_image cX7_image 1 (some .int) ∈ gT := gT_t (i := 781) (by decide +kernel) rfl
theorem wm_X7_206 : Cond.methodLink RX7 206 yX5_takeFrom ∈ gT := gT_t (i := 782) (by decide +kernel) rfl
theorem wm_X7_209 : Cond.methodLink RX7 209 yX4_takeFrom ∈ gT := gT_t (i := 783) (by decide +kernel) rfl
theorem wi_X4_takeFrom : Cond.instanceMethod yX4_takeFrom ∈ gT := gT_t (i := 784) (by decide +kernel) rfl
theorem ws_X4_takeFrom : Cond.selects RX4 yX4_takeFrom yX4_takeFrom ∈ gT := gT_t (i := 785) (by decide +kernel) rfl
theorem wc_X4_takeFrom : Cond.code yX4_takeFrom cX4_takeFrom 2 none ∈ gT := gT_t (i := 786) (by decide +kernel) rfl
theorem wm_L_105 : Cond.methodLink RL 105 yX7_restore ∈ gT := gT_t (i := 787) (by decide +kernel) rfl
theorem wi_X7_restore : Cond.instanceMethod yX7_restore ∈ gT := gT_t (i := 788) (by decide +kernel) rfl
theorem ws_X7_restore : Cond.selects RX7 yX7_restore yX7_restore ∈ gT := gT_t (i := 789) (by decide +kernel) rfl
theorem wc_X7_restore : Cond.code yX7_restore cX7_restore 1 (some .int) ∈ gT := gT_t (i := 790) (by decide +kernel) rfl
theorem wm_L_109 : Cond.methodLink RL 109 yX7_strides ∈ gT := gT_t (i := 791) (by decide +kernel) rfl
theorem wi_X7_strides : Cond.instanceMethod yX7_strides ∈ gT := gT_t (i := 792) (by decide +kernel) rfl
theorem ws_X7_strides : Cond.selects RX7 yX7_strides yX7_strides ∈ gT := gT_t (i := 793) (by decide +kernel) rfl
theorem wc_X7_strides : Cond.code yX7_strides cX7_strides 10 (some .int) ∈ gT := gT_t (i := 794) (by decide +kernel) rfl
theorem wm_X7_216 : Cond.methodLink RX7 216 yX7_isSheet ∈ gT := gT_t (i := 795) (by decide +kernel) rfl
theorem wt_X7_isSheet : Cond.static yX7_isSheet ∈ gT := gT_t (i := 796) (by decide +kernel) rfl
theorem wc_X7_isSheet : Cond.code yX7_isSheet cX7_isSheet 1 (some .boolean) ∈ gT := gT_t (i := 797) (by decide +kernel) rfl
theorem wm_X7_219 : Cond.methodLink RX7 219 yX7_isLane ∈ gT := gT_t (i := 798) (by decide +kernel) rfl
theorem wt_X7_isLane : Cond.static yX7_isLane ∈ gT := gT_t (i := 799) (by decide +kernel) rfl
theorem wc_X7_isLane : Cond.code yX7_isLane cX7_isLane 1 (some .boolean) ∈ gT := gT_t (i := 800) (by decide +kernel) rfl
theorem wm_X7_222 : Cond.methodLink RX7 222 yX6_refusal ∈ gT := gT_t (i := 801) (by decide +kernel) rfl
theorem wi_X6_refusal : Cond.instanceMethod yX6_refusal ∈ gT := gT_t (i := 802) (by decide +kernel) rfl
theorem ws_X6_refusal : Cond.selects RX6 yX6_refusal yX6_refusal ∈ gT := gT_t (i := 803) (by decide +kernel) rfl
theorem wc_X6_refusal : Cond.code yX6_refusal cX6_refusal 4 (some .int) ∈ gT := gT_t (i := 804) (by decide +kernel) rfl
theorem wm_X6_22 : Cond.methodLink RX6 22 yX6_isThere ∈ gT := gT_t (i := 805) (by decide +kernel) rfl
theorem wi_X6_isThere : Cond.instanceMethod yX6_isThere ∈ gT := gT_t (i := 806) (by decide +kernel) rfl
theorem ws_X6_isThere : Cond.selects RX6 yX6_isThere yX6_isThere ∈ gT := gT_t (i := 807) (by decide +kernel) rfl
theorem wc_X6_isThere : Cond.code yX6_isThere cX6_isThere 1 (some .boolean) ∈ gT := gT_t (i := 808) (by decide +kernel) rfl
theorem wm_X6_26 : Cond.methodLink RX6 26 yX6_holds ∈ gT := gT_t (i := 809) (by decide +kernel) rfl
theorem wi_X6_holds : Cond.instanceMethod yX6_holds ∈ gT := gT_t (i := 810) (by decide +kernel) rfl
theorem ws_X6_holds : Cond.selects RX6 yX6_holds yX6_holds ∈ gT := gT_t (i := 811) (by decide +kernel) rfl
theorem wc_X6_holds : Cond.code yX6_holds cX6_holds 3 (some .boolean) ∈ gT := gT_t (i := 812) (by decide +kernel) rfl
theorem wm_X7_225 : Cond.methodLink RX7 225 yX7_areSightings ∈ gT := gT_t (i := 813) (by decide +kernel) rfl
theorem wi_X7_areSightings : Cond.instanceMethod yX7_areSightings ∈ gT := gT_t (i := 815) (by decide +kernel) rfl
theorem wc_X7_areSightings : Cond.code yX7_areSightings cX7_areSightings 9 (some .boolean) ∈ gT := gT_t (i := 816) (by decide +kernel) rfl
theorem wm_X7_233 : Cond.methodLink RX7 233 yX6_itemAt ∈ gT := gT_t (i := 817) (by decide +kernel) rfl
theorem wi_X6_itemAt : Cond.instanceMethod yX6_itemAt ∈ gT := gT_t (i := 818) (by decide +kernel) rfl
theorem ws_X6_itemAt : Cond.selects RX6 yX6_itemAt yX6_itemAt ∈ gT := gT_t (i := 819) (by decide +kernel) rfl
theorem wc_X6_itemAt : Cond.code yX6_itemAt cX6_itemAt 2 (some .long) ∈ gT := gT_t (i := 820) (by decide +kernel) rfl
theorem wk_X7_237 : Cond.constantLong RX7 237 (400) ∈ gT := gT_t (i := 821) (by decide +kernel) rfl
theorem wm_X7_229 : Cond.methodLink RX7 229 yX7_strodeSo ∈ gT := gT_t (i := 822) (by decide +kernel) rfl
theorem wi_X7_strodeSo : Cond.instanceMethod yX7_strodeSo ∈ gT := gT_t (i := 824) (by decide +kernel) rfl
theorem wc_X7_strodeSo : Cond.code yX7_strodeSo cX7_strodeSo 8 (some .boolean) ∈ gT := gT_t (i := 825) (by decide +kernel) rfl
theorem wm_X7_239 : Cond.methodLink RX7 239 yX5_cellBy ∈ gT := gT_t (i := 826) (by decide +kernel) rfl
theorem wm_L_114 : Cond.methodLink RL 114 yX7_far ∈ gT := gT_t (i := 827) (by decide +kernel) rfl
theorem wi_X7_far : Cond.instanceMethod yX7_far ∈ gT := gT_t (i := 828) (by decide +kernel) rfl
theorem ws_X7_far : Cond.selects RX7 yX7_far yX7_far ∈ gT := gT_t (i := 829) (by decide +kernel) rfl
theorem wc_X7_far : Cond.code yX7_far cX7_far 8 (some .int) ∈ gT := gT_t (i := 830) (by decide +kernel) rfl
theorem wm_X7_242 : Cond.methodLink RX7 242 yX5_othersUp ∈ gT := gT_t (i := 831) (by decide +kernel) rfl
theorem wm_X7_245 : Cond.methodLink RX7 245 yX7_lastFarTurn ∈ gT := gT_t (i := 832) (by decide +kernel) rfl
theorem wi_X7_lastFarTurn : Cond.instanceMethod yX7_lastFarTurn ∈ gT := gT_t (i := 834) (by decide +kernel) rfl
theorem wc_X7_lastFarTurn : Cond.code yX7_lastFarTurn cX7_lastFarTurn 1 (some .int) ∈ gT := gT_t (i := 835) (by decide +kernel) rfl
theorem wm_X7_259 : Cond.methodLink RX7 259 yX5_turnMoment ∈ gT := gT_t (i := 836) (by decide +kernel) rfl
theorem wm_X7_248 : Cond.methodLink RX7 248 yX7_turnsThatFit ∈ gT := gT_t (i := 837) (by decide +kernel) rfl
theorem wi_X7_turnsThatFit : Cond.instanceMethod yX7_turnsThatFit ∈ gT := gT_t (i := 839) (by decide +kernel) rfl
theorem wc_X7_turnsThatFit : Cond.code yX7_turnsThatFit cX7_turnsThatFit 6 (some .int) ∈ gT := gT_t (i := 840) (by decide +kernel) rfl
theorem wm_X7_255 : Cond.methodLink RX7 255 yX7_comeAsTold ∈ gT := gT_t (i := 841) (by decide +kernel) rfl
theorem wi_X7_comeAsTold : Cond.instanceMethod yX7_comeAsTold ∈ gT := gT_t (i := 843) (by decide +kernel) rfl
theorem wc_X7_comeAsTold : Cond.code yX7_comeAsTold cX7_comeAsTold 7 (some .boolean) ∈ gT := gT_t (i := 844) (by decide +kernel) rfl
theorem wm_X7_263 : Cond.methodLink RX7 263 yX5_cellRunning ∈ gT := gT_t (i := 845) (by decide +kernel) rfl
theorem wm_X7_266 : Cond.methodLink RX7 266 yX5_comesTo ∈ gT := gT_t (i := 846) (by decide +kernel) rfl
theorem wm_X7_252 : Cond.methodLink RX7 252 yX7_firstTurnThatFits ∈ gT := gT_t (i := 847) (by decide +kernel) rfl
theorem wi_X7_firstTurnThatFits : Cond.instanceMethod yX7_firstTurnThatFits ∈ gT := gT_t (i := 849) (by decide +kernel) rfl
theorem wc_X7_firstTurnThatFits : Cond.code yX7_firstTurnThatFits cX7_firstTurnThatFits 5 (some .int) ∈ gT := gT_t (i := 850) (by decide +kernel) rfl
theorem wm_L_119 : Cond.methodLink RL 119 yX7_film ∈ gT := gT_t (i := 851) (by decide +kernel) rfl
theorem wi_X7_film : Cond.instanceMethod yX7_film ∈ gT := gT_t (i := 852) (by decide +kernel) rfl
theorem ws_X7_film : Cond.selects RX7 yX7_film yX7_film ∈ gT := gT_t (i := 853) (by decide +kernel) rfl
theorem wc_X7_film : Cond.code yX7_film cX7_film 8 (some .int) ∈ gT := gT_t (i := 854) (by decide +kernel) rfl
theorem wm_X7_269 : Cond.methodLink RX7 269 yX2_foreseen ∈ gT := gT_t (i := 855) (by decide +kernel) rfl
theorem wi_X2_foreseen : Cond.instanceMethod yX2_foreseen ∈ gT := gT_t (i := 856) (by decide +kernel) rfl
theorem ws_X2_foreseen : Cond.selects RX2 yX2_foreseen yX2_foreseen ∈ gT := gT_t (i := 857) (by decide +kernel) rfl
theorem wc_X2_foreseen : Cond.code yX2_foreseen cX2_foreseen 2 (some .int) ∈ gT := gT_t (i := 858) (by decide +kernel) rfl
theorem wm_X7_272 : Cond.methodLink RX7 272 yX6_put ∈ gT := gT_t (i := 860) (by decide +kernel) rfl
theorem wi_X6_put : Cond.instanceMethod yX6_put ∈ gT := gT_t (i := 861) (by decide +kernel) rfl
theorem ws_X6_put : Cond.selects RX6 yX6_put yX6_put ∈ gT := gT_t (i := 862) (by decide +kernel) rfl
theorem wc_X6_put : Cond.code yX6_put cX6_put 4 none ∈ gT := gT_t (i := 863) (by decide +kernel) rfl
theorem wm_X6_30 : Cond.methodLink RX6 30 yX6_lowestBits ∈ gT := gT_t (i := 864) (by decide +kernel) rfl
theorem wi_X6_lowestBits : Cond.instanceMethod yX6_lowestBits ∈ gT := gT_t (i := 866) (by decide +kernel) rfl
theorem wc_X6_lowestBits : Cond.code yX6_lowestBits cX6_lowestBits 3 (some .long) ∈ gT := gT_t (i := 867) (by decide +kernel) rfl
theorem wm_L_123 : Cond.methodLink RL 123 yX7_sheet ∈ gT := gT_t (i := 868) (by decide +kernel) rfl
theorem wi_X7_sheet : Cond.instanceMethod yX7_sheet ∈ gT := gT_t (i := 869) (by decide +kernel) rfl
theorem ws_X7_sheet : Cond.selects RX7 yX7_sheet yX7_sheet ∈ gT := gT_t (i := 870) (by decide +kernel) rfl
theorem wc_X7_sheet : Cond.code yX7_sheet cX7_sheet 4 (some .int) ∈ gT := gT_t (i := 871) (by decide +kernel) rfl
theorem wm_X7_276 : Cond.methodLink RX7 276 yX6_hold ∈ gT := gT_t (i := 872) (by decide +kernel) rfl
theorem wi_X6_hold : Cond.instanceMethod yX6_hold ∈ gT := gT_t (i := 873) (by decide +kernel) rfl
theorem ws_X6_hold : Cond.selects RX6 yX6_hold yX6_hold ∈ gT := gT_t (i := 874) (by decide +kernel) rfl
theorem wc_X6_hold : Cond.code yX6_hold cX6_hold 4 none ∈ gT := gT_t (i := 875) (by decide +kernel) rfl
theorem wm_L_127 : Cond.methodLink RL 127 yX7_drop ∈ gT := gT_t (i := 876) (by decide +kernel) rfl
theorem wi_X7_drop : Cond.instanceMethod yX7_drop ∈ gT := gT_t (i := 877) (by decide +kernel) rfl
theorem ws_X7_drop : Cond.selects RX7 yX7_drop yX7_drop ∈ gT := gT_t (i := 878) (by decide +kernel) rfl
theorem wc_X7_drop : Cond.code yX7_drop cX7_drop 3 (some .int) ∈ gT := gT_t (i := 879) (by decide +kernel) rfl
theorem wm_X7_279 : Cond.methodLink RX7 279 yX6_isThere ∈ gT := gT_t (i := 880) (by decide +kernel) rfl
theorem wm_X7_282 : Cond.methodLink RX7 282 yX6_dropAll ∈ gT := gT_t (i := 881) (by decide +kernel) rfl
theorem wi_X6_dropAll : Cond.instanceMethod yX6_dropAll ∈ gT := gT_t (i := 882) (by decide +kernel) rfl
theorem ws_X6_dropAll : Cond.selects RX6 yX6_dropAll yX6_dropAll ∈ gT := gT_t (i := 883) (by decide +kernel) rfl
theorem wc_X6_dropAll : Cond.code yX6_dropAll cX6_dropAll 1 none ∈ gT := gT_t (i := 884) (by decide +kernel) rfl
theorem wm_L_133 : Cond.methodLink RL 133 yX7_item ∈ gT := gT_t (i := 885) (by decide +kernel) rfl
theorem wi_X7_item : Cond.instanceMethod yX7_item ∈ gT := gT_t (i := 886) (by decide +kernel) rfl
theorem ws_X7_item : Cond.selects RX7 yX7_item yX7_item ∈ gT := gT_t (i := 887) (by decide +kernel) rfl
theorem wc_X7_item : Cond.code yX7_item cX7_item 8 (some .int) ∈ gT := gT_t (i := 888) (by decide +kernel) rfl
theorem wm_L_138 : Cond.methodLink RL 138 yX7_copy ∈ gT := gT_t (i := 889) (by decide +kernel) rfl
theorem wi_X7_copy : Cond.instanceMethod yX7_copy ∈ gT := gT_t (i := 890) (by decide +kernel) rfl
theorem ws_X7_copy : Cond.selects RX7 yX7_copy yX7_copy ∈ gT := gT_t (i := 891) (by decide +kernel) rfl
theorem wc_X7_copy : Cond.code yX7_copy cX7_copy 8 (some .int) ∈ gT := gT_t (i := 892) (by decide +kernel) rfl
theorem wm_X7_291 : Cond.methodLink RX7 291 yX6_holds ∈ gT := gT_t (i := 893) (by decide +kernel) rfl
theorem wm_L_12 : Cond.methodLink RL 12 yX8_init ∈ gT := gT_t (i := 897) (by decide +kernel) rfl
theorem wi_X8_init : Cond.instanceMethod yX8_init ∈ gT := gT_t (i := 898) (by decide +kernel) rfl
theorem wc_X8_init : Cond.code yX8_init cX8_init 2 none ∈ gT := gT_t (i := 899) (by decide +kernel) rfl
theorem wf_X8_62 : Cond.fieldLink RX8 62 "RunningThreeModel" "cells" "I" ∈ gT := gT_t (i := 901) (by decide +kernel) rfl
theorem wf_X8_66 : Cond.fieldLink RX8 66 "RunningThreeModel" "fighters" "I" ∈ gT := gT_t (i := 902) (by decide +kernel) rfl
theorem wf_X8_7 : Cond.fieldLink RX8 7 "RunningThreeModel" "sorts" "[I" ∈ gT := gT_t (i := 903) (by decide +kernel) rfl
theorem wf_X8_13 : Cond.fieldLink RX8 13 "RunningThreeModel" "fighter" "[I" ∈ gT := gT_t (i := 904) (by decide +kernel) rfl
theorem wf_X8_117 : Cond.fieldLink RX8 117 "RunningThreeModel" "start" "I" ∈ gT := gT_t (i := 905) (by decide +kernel) rfl
theorem wf_X8_16 : Cond.fieldLink RX8 16 "RunningThreeModel" "now" "[I" ∈ gT := gT_t (i := 906) (by decide +kernel) rfl
theorem wf_X8_99 : Cond.fieldLink RX8 99 "RunningThreeModel" "together" "Z" ∈ gT := gT_t (i := 907) (by decide +kernel) rfl
theorem wf_X8_19 : Cond.fieldLink RX8 19 "RunningThreeModel" "tape" "[I" ∈ gT := gT_t (i := 908) (by decide +kernel) rfl
theorem wf_X8_140 : Cond.fieldLink RX8 140 "RunningThreeModel" "taped" "I" ∈ gT := gT_t (i := 909) (by decide +kernel) rfl
theorem wf_X8_143 : Cond.fieldLink RX8 143 "RunningThreeModel" "at" "I" ∈ gT := gT_t (i := 910) (by decide +kernel) rfl
theorem wf_X8_146 : Cond.fieldLink RX8 146 "RunningThreeModel" "wrong" "Z" ∈ gT := gT_t (i := 911) (by decide +kernel) rfl
theorem wf_X8_162 : Cond.fieldLink RX8 162 "RunningThreeModel" "manyCells" "I" ∈ gT := gT_t (i := 912) (by decide +kernel) rfl
theorem wf_X8_153 : Cond.fieldLink RX8 153 "RunningThreeModel" "manyFighters" "I" ∈ gT := gT_t (i := 913) (by decide +kernel) rfl
theorem wf_X8_22 : Cond.fieldLink RX8 22 "RunningThreeModel" "readSorts" "[I" ∈ gT := gT_t (i := 914) (by decide +kernel) rfl
theorem wf_X8_25 : Cond.fieldLink RX8 25 "RunningThreeModel" "readFighters" "[I" ∈ gT := gT_t (i := 915) (by decide +kernel) rfl
theorem wf_X8_28 : Cond.fieldLink RX8 28 "RunningThreeModel" "undone" "[I" ∈ gT := gT_t (i := 916) (by decide +kernel) rfl
theorem wf_X8_88 : Cond.fieldLink RX8 88 "RunningThreeModel" "undos" "I" ∈ gT := gT_t (i := 917) (by decide +kernel) rfl
theorem wf_X8_31 : Cond.fieldLink RX8 31 "RunningThreeModel" "aside" "[I" ∈ gT := gT_t (i := 918) (by decide +kernel) rfl
theorem wf_X8_34 : Cond.fieldLink RX8 34 "RunningThreeModel" "row" "[I" ∈ gT := gT_t (i := 919) (by decide +kernel) rfl
theorem wf_X8_37 : Cond.fieldLink RX8 37 "RunningThreeModel" "later" "[I" ∈ gT := gT_t (i := 920) (by decide +kernel) rfl
theorem wf_X8_40 : Cond.fieldLink RX8 40 "RunningThreeModel" "sooner" "[I" ∈ gT := gT_t (i := 921) (by decide +kernel) rfl
theorem wf_X8_43 : Cond.fieldLink RX8 43 "RunningThreeModel" "by" "[I" ∈ gT := gT_t (i := 922) (by decide +kernel) rfl
theorem wf_X8_232 : Cond.fieldLink RX8 232 "RunningThreeModel" "most" "I" ∈ gT := gT_t (i := 923) (by decide +kernel) rfl
theorem wf_X8_238 : Cond.fieldLink RX8 238 "RunningThreeModel" "first" "I" ∈ gT := gT_t (i := 924) (by decide +kernel) rfl
theorem wf_X8_46 : Cond.fieldLink RX8 46 "RunningThreeModel" "image" "[I" ∈ gT := gT_t (i := 925) (by decide +kernel) rfl
theorem wf_X8_257 : Cond.fieldLink RX8 257 "RunningThreeModel" "isImage" "Z" ∈ gT := gT_t (i := 926) (by decide +kernel) rfl
theorem wf_X8_49 : Cond.fieldLink RX8 49 "RunningThreeModel" "lanes" "[I" ∈ gT := gT_t (i := 927) (by decide +kernel) rfl
theorem wf_X8_52 : Cond.fieldLink RX8 52 "RunningThreeModel" "sizes" "[I" ∈ gT := gT_t (i := 928) (by decide +kernel) rfl
theorem wf_X8_55 : Cond.fieldLink RX8 55 "RunningThreeModel" "items" "[J" ∈ gT := gT_t (i := 929) (by decide +kernel) rfl
theorem wf_X8_59 : Cond.fieldLink RX8 59 "RunningThreeModel" "moved" "[J" ∈ gT := gT_t (i := 930) (by decide +kernel) rfl
theorem wm_L_17 : Cond.methodLink RL 17 yX8_fighter ∈ gT := gT_t (i := 992) (by decide +kernel) rfl
theorem wi_X8_fighter : Cond.instanceMethod yX8_fighter ∈ gT := gT_t (i := 993) (by decide +kernel) rfl
theorem ws_X8_fighter : Cond.selects RX8 yX8_fighter yX8_fighter ∈ gT := gT_t (i := 994) (by decide +kernel) rfl
theorem wc_X8_fighter : Cond.code yX8_fighter cX8_fighter 4 (some .int) ∈ gT := gT_t (i := 995) (by decide +kernel) rfl
theorem wk_X8_74 : Cond.constantLong RX8 74 (3) ∈ gT := gT_t (i := 996) (by decide +kernel) rfl
theorem wm_X8_69 : Cond.methodLink RX8 69 yX8_in ∈ gT := gT_t (i := 997) (by decide +kernel) rfl
theorem wt_X8_in : Cond.static yX8_in ∈ gT := gT_t (i := 998) (by decide +kernel) rfl
theorem wc_X8_in : Cond.code yX8_in cX8_in 6 (some .boolean) ∈ gT := gT_t (i := 999) (by decide +kernel) rfl
theorem wk_X8_76 : Cond.constantLong RX8 76 (9) ∈ gT := gT_t (i := 1000) (by decide +kernel) rfl
theorem wk_X8_78 : Cond.constantLong RX8 78 (6) ∈ gT := gT_t (i := 1001) (by decide +kernel) rfl
theorem wm_X8_80 : Cond.methodLink RX8 80 yX8_isTurned ∈ gT := gT_t (i := 1002) (by decide +kernel) rfl
theorem wi_X8_isTurned : Cond.instanceMethod yX8_isTurned ∈ gT := gT_t (i := 1004) (by decide +kernel) rfl
theorem wc_X8_isTurned : Cond.code yX8_isTurned cX8_isTurned 1 (some .boolean) ∈ gT := gT_t (i := 1005) (by decide +kernel) rfl
theorem wm_X8_84 : Cond.methodLink RX8 84 yX8_fighterComes ∈ gT := gT_t (i := 1006) (by decide +kernel) rfl
theorem wi_X8_fighterComes : Cond.instanceMethod yX8_fighterComes ∈ gT := gT_t (i := 1008) (by decide +kernel) rfl
theorem wc_X8_fighterComes : Cond.code yX8_fighterComes cX8_fighterComes 5 none ∈ gT := gT_t (i := 1009) (by decide +kernel) rfl
theorem wk_X8_73 : Cond.constant RX8 73 (99999) ∈ gT := gT_t (i := 1010) (by decide +kernel) rfl
theorem wm_L_22 : Cond.methodLink RL 22 yX8_of ∈ gT := gT_t (i := 1011) (by decide +kernel) rfl
theorem wi_X8_of : Cond.instanceMethod yX8_of ∈ gT := gT_t (i := 1012) (by decide +kernel) rfl
theorem ws_X8_of : Cond.selects RX8 yX8_of yX8_of ∈ gT := gT_t (i := 1013) (by decide +kernel) rfl
theorem wc_X8_of : Cond.code yX8_of cX8_of 3 (some .int) ∈ gT := gT_t (i := 1014) (by decide +kernel) rfl
theorem wm_X8_123 : Cond.methodLink RX8 123 yX8_isFighter ∈ gT := gT_t (i := 1015) (by decide +kernel) rfl
theorem wi_X8_isFighter : Cond.instanceMethod yX8_isFighter ∈ gT := gT_t (i := 1017) (by decide +kernel) rfl
theorem wc_X8_isFighter : Cond.code yX8_isFighter cX8_isFighter 2 (some .boolean) ∈ gT := gT_t (i := 1018) (by decide +kernel) rfl
theorem wm_X8_91 : Cond.methodLink RX8 91 yX8_hurtOf ∈ gT := gT_t (i := 1019) (by decide +kernel) rfl
theorem wi_X8_hurtOf : Cond.instanceMethod yX8_hurtOf ∈ gT := gT_t (i := 1021) (by decide +kernel) rfl
theorem wc_X8_hurtOf : Cond.code yX8_hurtOf cX8_hurtOf 2 (some .int) ∈ gT := gT_t (i := 1022) (by decide +kernel) rfl
theorem wm_X8_126 : Cond.methodLink RX8 126 yX8_force ∈ gT := gT_t (i := 1023) (by decide +kernel) rfl
theorem wi_X8_force : Cond.instanceMethod yX8_force ∈ gT := gT_t (i := 1025) (by decide +kernel) rfl
theorem wc_X8_force : Cond.code yX8_force cX8_force 4 (some .int) ∈ gT := gT_t (i := 1026) (by decide +kernel) rfl
theorem wm_X8_129 : Cond.methodLink RX8 129 yX8_place ∈ gT := gT_t (i := 1027) (by decide +kernel) rfl
theorem wi_X8_place : Cond.instanceMethod yX8_place ∈ gT := gT_t (i := 1029) (by decide +kernel) rfl
theorem wc_X8_place : Cond.code yX8_place cX8_place 4 (some .int) ∈ gT := gT_t (i := 1030) (by decide +kernel) rfl
theorem wm_X8_120 : Cond.methodLink RX8 120 yX8_runs ∈ gT := gT_t (i := 1031) (by decide +kernel) rfl
theorem wi_X8_runs : Cond.instanceMethod yX8_runs ∈ gT := gT_t (i := 1033) (by decide +kernel) rfl
theorem wc_X8_runs : Cond.code yX8_runs cX8_runs 2 (some .int) ∈ gT := gT_t (i := 1034) (by decide +kernel) rfl
theorem wm_X8_103 : Cond.methodLink RX8 103 yX8_isDown ∈ gT := gT_t (i := 1035) (by decide +kernel) rfl
theorem wi_X8_isDown : Cond.instanceMethod yX8_isDown ∈ gT := gT_t (i := 1037) (by decide +kernel) rfl
theorem wc_X8_isDown : Cond.code yX8_isDown cX8_isDown 2 (some .boolean) ∈ gT := gT_t (i := 1038) (by decide +kernel) rfl
theorem wm_X8_95 : Cond.methodLink RX8 95 yX8_pointsOf ∈ gT := gT_t (i := 1039) (by decide +kernel) rfl
theorem wi_X8_pointsOf : Cond.instanceMethod yX8_pointsOf ∈ gT := gT_t (i := 1041) (by decide +kernel) rfl
theorem wc_X8_pointsOf : Cond.code yX8_pointsOf cX8_pointsOf 6 (some .int) ∈ gT := gT_t (i := 1042) (by decide +kernel) rfl
theorem wm_X8_107 : Cond.methodLink RX8 107 yX8_farthest ∈ gT := gT_t (i := 1043) (by decide +kernel) rfl
theorem wi_X8_farthest : Cond.instanceMethod yX8_farthest ∈ gT := gT_t (i := 1045) (by decide +kernel) rfl
theorem wc_X8_farthest : Cond.code yX8_farthest cX8_farthest 5 (some .int) ∈ gT := gT_t (i := 1046) (by decide +kernel) rfl
theorem wm_L_26 : Cond.methodLink RL 26 yX8_hurt ∈ gT := gT_t (i := 1047) (by decide +kernel) rfl
theorem wi_X8_hurt : Cond.instanceMethod yX8_hurt ∈ gT := gT_t (i := 1048) (by decide +kernel) rfl
theorem ws_X8_hurt : Cond.selects RX8 yX8_hurt yX8_hurt ∈ gT := gT_t (i := 1049) (by decide +kernel) rfl
theorem wc_X8_hurt : Cond.code yX8_hurt cX8_hurt 4 (some .int) ∈ gT := gT_t (i := 1050) (by decide +kernel) rfl
theorem wm_L_31 : Cond.methodLink RL 31 yX8_start ∈ gT := gT_t (i := 1051) (by decide +kernel) rfl
theorem wi_X8_start : Cond.instanceMethod yX8_start ∈ gT := gT_t (i := 1052) (by decide +kernel) rfl
theorem ws_X8_start : Cond.selects RX8 yX8_start yX8_start ∈ gT := gT_t (i := 1053) (by decide +kernel) rfl
theorem wc_X8_start : Cond.code yX8_start cX8_start 3 (some .int) ∈ gT := gT_t (i := 1054) (by decide +kernel) rfl
theorem wk_X8_132 : Cond.constantLong RX8 132 (20) ∈ gT := gT_t (i := 1055) (by decide +kernel) rfl
theorem wm_L_35 : Cond.methodLink RL 35 yX8_sort ∈ gT := gT_t (i := 1056) (by decide +kernel) rfl
theorem wi_X8_sort : Cond.instanceMethod yX8_sort ∈ gT := gT_t (i := 1057) (by decide +kernel) rfl
theorem ws_X8_sort : Cond.selects RX8 yX8_sort yX8_sort ∈ gT := gT_t (i := 1058) (by decide +kernel) rfl
theorem wc_X8_sort : Cond.code yX8_sort cX8_sort 2 (some .int) ∈ gT := gT_t (i := 1059) (by decide +kernel) rfl
theorem wm_L_39 : Cond.methodLink RL 39 yX8_cost ∈ gT := gT_t (i := 1060) (by decide +kernel) rfl
theorem wi_X8_cost : Cond.instanceMethod yX8_cost ∈ gT := gT_t (i := 1061) (by decide +kernel) rfl
theorem ws_X8_cost : Cond.selects RX8 yX8_cost yX8_cost ∈ gT := gT_t (i := 1062) (by decide +kernel) rfl
theorem wc_X8_cost : Cond.code yX8_cost cX8_cost 2 (some .int) ∈ gT := gT_t (i := 1063) (by decide +kernel) rfl
theorem wm_X8_110 : Cond.methodLink RX8 110 yX8_costOf ∈ gT := gT_t (i := 1064) (by decide +kernel) rfl
theorem wi_X8_costOf : Cond.instanceMethod yX8_costOf ∈ gT := gT_t (i := 1066) (by decide +kernel) rfl
theorem wc_X8_costOf : Cond.code yX8_costOf cX8_costOf 4 (some .int) ∈ gT := gT_t (i := 1067) (by decide +kernel) rfl
theorem wm_L_43 : Cond.methodLink RL 43 yX8_points ∈ gT := gT_t (i := 1068) (by decide +kernel) rfl
theorem wi_X8_points : Cond.instanceMethod yX8_points ∈ gT := gT_t (i := 1069) (by decide +kernel) rfl
theorem ws_X8_points : Cond.selects RX8 yX8_points yX8_points ∈ gT := gT_t (i := 1070) (by decide +kernel) rfl
theorem wc_X8_points : Cond.code yX8_points cX8_points 3 (some .int) ∈ gT := gT_t (i := 1071) (by decide +kernel) rfl
theorem wk_X8_134 : Cond.constantLong RX8 134 (400) ∈ gT := gT_t (i := 1072) (by decide +kernel) rfl
theorem wm_L_47 : Cond.methodLink RL 47 yX8_type ∈ gT := gT_t (i := 1073) (by decide +kernel) rfl
theorem wi_X8_type : Cond.instanceMethod yX8_type ∈ gT := gT_t (i := 1074) (by decide +kernel) rfl
theorem ws_X8_type : Cond.selects RX8 yX8_type yX8_type ∈ gT := gT_t (i := 1075) (by decide +kernel) rfl
theorem wc_X8_type : Cond.code yX8_type cX8_type 2 (some .int) ∈ gT := gT_t (i := 1076) (by decide +kernel) rfl
theorem wk_X8_136 : Cond.constantLong RX8 136 (32) ∈ gT := gT_t (i := 1077) (by decide +kernel) rfl
theorem wk_X8_138 : Cond.constantLong RX8 138 (126) ∈ gT := gT_t (i := 1078) (by decide +kernel) rfl
theorem wm_L_52 : Cond.methodLink RL 52 yX8_field ∈ gT := gT_t (i := 1079) (by decide +kernel) rfl
theorem wi_X8_field : Cond.instanceMethod yX8_field ∈ gT := gT_t (i := 1080) (by decide +kernel) rfl
theorem ws_X8_field : Cond.selects RX8 yX8_field yX8_field ∈ gT := gT_t (i := 1081) (by decide +kernel) rfl
theorem wc_X8_field : Cond.code yX8_field cX8_field 3 (some .int) ∈ gT := gT_t (i := 1082) (by decide +kernel) rfl
theorem wm_X8_149 : Cond.methodLink RX8 149 yX8_here ∈ gT := gT_t (i := 1083) (by decide +kernel) rfl
theorem wi_X8_here : Cond.instanceMethod yX8_here ∈ gT := gT_t (i := 1085) (by decide +kernel) rfl
theorem wc_X8_here : Cond.code yX8_here cX8_here 1 (some .int) ∈ gT := gT_t (i := 1086) (by decide +kernel) rfl
theorem wm_X8_165 : Cond.methodLink RX8 165 yX8_sign ∈ gT := gT_t (i := 1087) (by decide +kernel) rfl
theorem wi_X8_sign : Cond.instanceMethod yX8_sign ∈ gT := gT_t (i := 1089) (by decide +kernel) rfl
theorem wc_X8_sign : Cond.code yX8_sign cX8_sign 2 (some .int) ∈ gT := gT_t (i := 1090) (by decide +kernel) rfl
theorem wm_X8_159 : Cond.methodLink RX8 159 yX8_has ∈ gT := gT_t (i := 1091) (by decide +kernel) rfl
theorem wi_X8_has : Cond.instanceMethod yX8_has ∈ gT := gT_t (i := 1093) (by decide +kernel) rfl
theorem wc_X8_has : Cond.code yX8_has cX8_has 3 (some .boolean) ∈ gT := gT_t (i := 1094) (by decide +kernel) rfl
theorem wm_X8_168 : Cond.methodLink RX8 168 yX8_readFighter ∈ gT := gT_t (i := 1095) (by decide +kernel) rfl
theorem wi_X8_readFighter : Cond.instanceMethod yX8_readFighter ∈ gT := gT_t (i := 1097) (by decide +kernel) rfl
theorem wc_X8_readFighter : Cond.code yX8_readFighter cX8_readFighter 3 none ∈ gT := gT_t (i := 1098) (by decide +kernel) rfl
theorem wm_X8_156 : Cond.methodLink RX8 156 yX8_digit ∈ gT := gT_t (i := 1099) (by decide +kernel) rfl
theorem wi_X8_digit : Cond.instanceMethod yX8_digit ∈ gT := gT_t (i := 1101) (by decide +kernel) rfl
theorem wc_X8_digit : Cond.code yX8_digit cX8_digit 4 (some .int) ∈ gT := gT_t (i := 1102) (by decide +kernel) rfl
theorem wm_L_56 : Cond.methodLink RL 56 yX8_count ∈ gT := gT_t (i := 1103) (by decide +kernel) rfl
theorem wi_X8_count : Cond.instanceMethod yX8_count ∈ gT := gT_t (i := 1104) (by decide +kernel) rfl
theorem ws_X8_count : Cond.selects RX8 yX8_count yX8_count ∈ gT := gT_t (i := 1105) (by decide +kernel) rfl
theorem wc_X8_count : Cond.code yX8_count cX8_count 2 (some .int) ∈ gT := gT_t (i := 1106) (by decide +kernel) rfl
theorem wm_X8_171 : Cond.methodLink RX8 171 yX8_down ∈ gT := gT_t (i := 1107) (by decide +kernel) rfl
theorem wi_X8_down : Cond.instanceMethod yX8_down ∈ gT := gT_t (i := 1109) (by decide +kernel) rfl
theorem wc_X8_down : Cond.code yX8_down cX8_down 3 (some .int) ∈ gT := gT_t (i := 1110) (by decide +kernel) rfl
theorem wm_X8_174 : Cond.methodLink RX8 174 yX8_over ∈ gT := gT_t (i := 1111) (by decide +kernel) rfl
theorem wi_X8_over : Cond.instanceMethod yX8_over ∈ gT := gT_t (i := 1113) (by decide +kernel) rfl
theorem wc_X8_over : Cond.code yX8_over cX8_over 2 (some .int) ∈ gT := gT_t (i := 1114) (by decide +kernel) rfl
theorem wm_L_60 : Cond.methodLink RL 60 yX8_moment ∈ gT := gT_t (i := 1115) (by decide +kernel) rfl
theorem wi_X8_moment : Cond.instanceMethod yX8_moment ∈ gT := gT_t (i := 1116) (by decide +kernel) rfl
theorem ws_X8_moment : Cond.selects RX8 yX8_moment yX8_moment ∈ gT := gT_t (i := 1117) (by decide +kernel) rfl
theorem wc_X8_moment : Cond.code yX8_moment cX8_moment 1 (some .int) ∈ gT := gT_t (i := 1118) (by decide +kernel) rfl
theorem wm_X8_189 : Cond.methodLink RX8 189 yX8_notes ∈ gT := gT_t (i := 1119) (by decide +kernel) rfl
theorem wi_X8_notes : Cond.instanceMethod yX8_notes ∈ gT := gT_t (i := 1121) (by decide +kernel) rfl
theorem wc_X8_notes : Cond.code yX8_notes cX8_notes 2 none ∈ gT := gT_t (i := 1122) (by decide +kernel) rfl
theorem wm_X8_192 : Cond.methodLink RX8 192 yX8_fights ∈ gT := gT_t (i := 1123) (by decide +kernel) rfl
theorem wi_X8_fights : Cond.instanceMethod yX8_fights ∈ gT := gT_t (i := 1125) (by decide +kernel) rfl
theorem wc_X8_fights : Cond.code yX8_fights cX8_fights 5 (some .int) ∈ gT := gT_t (i := 1126) (by decide +kernel) rfl
theorem wm_X8_180 : Cond.methodLink RX8 180 yX8_meets ∈ gT := gT_t (i := 1127) (by decide +kernel) rfl
theorem wi_X8_meets : Cond.instanceMethod yX8_meets ∈ gT := gT_t (i := 1129) (by decide +kernel) rfl
theorem wc_X8_meets : Cond.code yX8_meets cX8_meets 5 (some .int) ∈ gT := gT_t (i := 1130) (by decide +kernel) rfl
theorem wm_X8_183 : Cond.methodLink RX8 183 yX8_between ∈ gT := gT_t (i := 1131) (by decide +kernel) rfl
theorem wt_X8_between : Cond.static yX8_between ∈ gT := gT_t (i := 1132) (by decide +kernel) rfl
theorem wc_X8_between : Cond.code yX8_between cX8_between 1 (some .int) ∈ gT := gT_t (i := 1133) (by decide +kernel) rfl
theorem wk_X8_186 : Cond.constant RX8 186 (1103515245) ∈ gT := gT_t (i := 1134) (by decide +kernel) rfl
theorem wk_X8_187 : Cond.constant RX8 187 (2147483647) ∈ gT := gT_t (i := 1135) (by decide +kernel) rfl
theorem wk_X8_188 : Cond.constant RX8 188 (65536) ∈ gT := gT_t (i := 1136) (by decide +kernel) rfl
theorem wm_X8_195 : Cond.methodLink RX8 195 yX8_isCaught ∈ gT := gT_t (i := 1137) (by decide +kernel) rfl
theorem wi_X8_isCaught : Cond.instanceMethod yX8_isCaught ∈ gT := gT_t (i := 1139) (by decide +kernel) rfl
theorem wc_X8_isCaught : Cond.code yX8_isCaught cX8_isCaught 6 (some .boolean) ∈ gT := gT_t (i := 1140) (by decide +kernel) rfl
theorem wm_X8_113 : Cond.methodLink RX8 113 yX8_pursues ∈ gT := gT_t (i := 1141) (by decide +kernel) rfl
theorem wi_X8_pursues : Cond.instanceMethod yX8_pursues ∈ gT := gT_t (i := 1143) (by decide +kernel) rfl
theorem wc_X8_pursues : Cond.code yX8_pursues cX8_pursues 6 (some .int) ∈ gT := gT_t (i := 1144) (by decide +kernel) rfl
theorem wm_X8_198 : Cond.methodLink RX8 198 yX8_turns ∈ gT := gT_t (i := 1145) (by decide +kernel) rfl
theorem wi_X8_turns : Cond.instanceMethod yX8_turns ∈ gT := gT_t (i := 1147) (by decide +kernel) rfl
theorem wc_X8_turns : Cond.code yX8_turns cX8_turns 3 none ∈ gT := gT_t (i := 1148) (by decide +kernel) rfl
theorem wm_X8_177 : Cond.methodLink RX8 177 yX8_comesTo ∈ gT := gT_t (i := 1149) (by decide +kernel) rfl
theorem wi_X8_comesTo : Cond.instanceMethod yX8_comesTo ∈ gT := gT_t (i := 1151) (by decide +kernel) rfl
theorem wc_X8_comesTo : Cond.code yX8_comesTo cX8_comesTo 5 (some .int) ∈ gT := gT_t (i := 1152) (by decide +kernel) rfl
theorem wm_L_64 : Cond.methodLink RL 64 yX8_turn ∈ gT := gT_t (i := 1153) (by decide +kernel) rfl
theorem wi_X8_turn : Cond.instanceMethod yX8_turn ∈ gT := gT_t (i := 1154) (by decide +kernel) rfl
theorem ws_X8_turn : Cond.selects RX8 yX8_turn yX8_turn ∈ gT := gT_t (i := 1155) (by decide +kernel) rfl
theorem wc_X8_turn : Cond.code yX8_turn cX8_turn 1 (some .int) ∈ gT := gT_t (i := 1156) (by decide +kernel) rfl
theorem wm_L_68 : Cond.methodLink RL 68 yX8_undo ∈ gT := gT_t (i := 1157) (by decide +kernel) rfl
theorem wi_X8_undo : Cond.instanceMethod yX8_undo ∈ gT := gT_t (i := 1158) (by decide +kernel) rfl
theorem ws_X8_undo : Cond.selects RX8 yX8_undo yX8_undo ∈ gT := gT_t (i := 1159) (by decide +kernel) rfl
theorem wc_X8_undo : Cond.code yX8_undo cX8_undo 2 (some .int) ∈ gT := gT_t (i := 1160) (by decide +kernel) rfl
theorem wm_L_72 : Cond.methodLink RL 72 yX8_seed ∈ gT := gT_t (i := 1161) (by decide +kernel) rfl
theorem wi_X8_seed : Cond.instanceMethod yX8_seed ∈ gT := gT_t (i := 1162) (by decide +kernel) rfl
theorem ws_X8_seed : Cond.selects RX8 yX8_seed yX8_seed ∈ gT := gT_t (i := 1163) (by decide +kernel) rfl
theorem wc_X8_seed : Cond.code yX8_seed cX8_seed 3 (some .int) ∈ gT := gT_t (i := 1164) (by decide +kernel) rfl
theorem wm_L_76 : Cond.methodLink RL 76 yX8_chance ∈ gT := gT_t (i := 1165) (by decide +kernel) rfl
theorem wi_X8_chance : Cond.instanceMethod yX8_chance ∈ gT := gT_t (i := 1166) (by decide +kernel) rfl
theorem ws_X8_chance : Cond.selects RX8 yX8_chance yX8_chance ∈ gT := gT_t (i := 1167) (by decide +kernel) rfl
theorem wc_X8_chance : Cond.code yX8_chance cX8_chance 2 (some .int) ∈ gT := gT_t (i := 1168) (by decide +kernel) rfl
theorem wm_X8_220 : Cond.methodLink RX8 220 yX8_chanceOf ∈ gT := gT_t (i := 1169) (by decide +kernel) rfl
theorem wi_X8_chanceOf : Cond.instanceMethod yX8_chanceOf ∈ gT := gT_t (i := 1171) (by decide +kernel) rfl
theorem wc_X8_chanceOf : Cond.code yX8_chanceOf cX8_chanceOf 3 (some .int) ∈ gT := gT_t (i := 1172) (by decide +kernel) rfl
theorem wm_X8_223 : Cond.methodLink RX8 223 yX8_asides ∈ gT := gT_t (i := 1173) (by decide +kernel) rfl
theorem wi_X8_asides : Cond.instanceMethod yX8_asides ∈ gT := gT_t (i := 1175) (by decide +kernel) rfl
theorem wc_X8_asides : Cond.code yX8_asides cX8_asides 2 none ∈ gT := gT_t (i := 1176) (by decide +kernel) rfl
theorem wm_X8_226 : Cond.methodLink RX8 226 yX8_likelyBy ∈ gT := gT_t (i := 1177) (by decide +kernel) rfl
theorem wi_X8_likelyBy : Cond.instanceMethod yX8_likelyBy ∈ gT := gT_t (i := 1179) (by decide +kernel) rfl
theorem wc_X8_likelyBy : Cond.code yX8_likelyBy cX8_likelyBy 2 (some .int) ∈ gT := gT_t (i := 1180) (by decide +kernel) rfl
theorem wm_X8_214 : Cond.methodLink RX8 214 yX8_reaches ∈ gT := gT_t (i := 1181) (by decide +kernel) rfl
theorem wi_X8_reaches : Cond.instanceMethod yX8_reaches ∈ gT := gT_t (i := 1183) (by decide +kernel) rfl
theorem wc_X8_reaches : Cond.code yX8_reaches cX8_reaches 2 none ∈ gT := gT_t (i := 1184) (by decide +kernel) rfl
theorem wm_X8_217 : Cond.methodLink RX8 217 yX8_likely ∈ gT := gT_t (i := 1185) (by decide +kernel) rfl
theorem wi_X8_likely : Cond.instanceMethod yX8_likely ∈ gT := gT_t (i := 1187) (by decide +kernel) rfl
theorem wc_X8_likely : Cond.code yX8_likely cX8_likely 5 (some .int) ∈ gT := gT_t (i := 1188) (by decide +kernel) rfl
theorem wm_X8_203 : Cond.methodLink RX8 203 yX8_lines ∈ gT := gT_t (i := 1189) (by decide +kernel) rfl
theorem wi_X8_lines : Cond.instanceMethod yX8_lines ∈ gT := gT_t (i := 1191) (by decide +kernel) rfl
theorem wc_X8_lines : Cond.code yX8_lines cX8_lines 8 (some .int) ∈ gT := gT_t (i := 1192) (by decide +kernel) rfl
theorem wk_X8_202 : Cond.constant RX8 202 (1000000) ∈ gT := gT_t (i := 1193) (by decide +kernel) rfl
theorem wm_X8_206 : Cond.methodLink RX8 206 yX8_fought ∈ gT := gT_t (i := 1194) (by decide +kernel) rfl
theorem wi_X8_fought : Cond.instanceMethod yX8_fought ∈ gT := gT_t (i := 1196) (by decide +kernel) rfl
theorem wc_X8_fought : Cond.code yX8_fought cX8_fought 11 (some .int) ∈ gT := gT_t (i := 1197) (by decide +kernel) rfl
theorem wm_X8_210 : Cond.methodLink RX8 210 yX8_aheadOf ∈ gT := gT_t (i := 1198) (by decide +kernel) rfl
theorem wi_X8_aheadOf : Cond.instanceMethod yX8_aheadOf ∈ gT := gT_t (i := 1200) (by decide +kernel) rfl
theorem wc_X8_aheadOf : Cond.code yX8_aheadOf cX8_aheadOf 8 none ∈ gT := gT_t (i := 1201) (by decide +kernel) rfl
theorem wm_X8_229 : Cond.methodLink RX8 229 yX8_backs ∈ gT := gT_t (i := 1202) (by decide +kernel) rfl
theorem wi_X8_backs : Cond.instanceMethod yX8_backs ∈ gT := gT_t (i := 1204) (by decide +kernel) rfl
theorem wc_X8_backs : Cond.code yX8_backs cX8_backs 2 none ∈ gT := gT_t (i := 1205) (by decide +kernel) rfl
theorem wm_L_80 : Cond.methodLink RL 80 yX8_best ∈ gT := gT_t (i := 1206) (by decide +kernel) rfl
theorem wi_X8_best : Cond.instanceMethod yX8_best ∈ gT := gT_t (i := 1207) (by decide +kernel) rfl
theorem ws_X8_best : Cond.selects RX8 yX8_best yX8_best ∈ gT := gT_t (i := 1208) (by decide +kernel) rfl
theorem wc_X8_best : Cond.code yX8_best cX8_best 2 (some .int) ∈ gT := gT_t (i := 1209) (by decide +kernel) rfl
theorem wm_X8_241 : Cond.methodLink RX8 241 yX8_isOff ∈ gT := gT_t (i := 1210) (by decide +kernel) rfl
theorem wi_X8_isOff : Cond.instanceMethod yX8_isOff ∈ gT := gT_t (i := 1212) (by decide +kernel) rfl
theorem wc_X8_isOff : Cond.code yX8_isOff cX8_isOff 1 (some .boolean) ∈ gT := gT_t (i := 1213) (by decide +kernel) rfl
theorem wm_X8_244 : Cond.methodLink RX8 244 yX8_looks ∈ gT := gT_t (i := 1214) (by decide +kernel) rfl
theorem wi_X8_looks : Cond.instanceMethod yX8_looks ∈ gT := gT_t (i := 1216) (by decide +kernel) rfl
theorem wc_X8_looks : Cond.code yX8_looks cX8_looks 5 none ∈ gT := gT_t (i := 1217) (by decide +kernel) rfl
theorem wm_X8_235 : Cond.methodLink RX8 235 yX8_isCaughtThen ∈ gT := gT_t (i := 1218) (by decide +kernel) rfl
theorem wi_X8_isCaughtThen : Cond.instanceMethod yX8_isCaughtThen ∈ gT := gT_t (i := 1220) (by decide +kernel) rfl
theorem wc_X8_isCaughtThen : Cond.code yX8_isCaughtThen cX8_isCaughtThen 2 (some .boolean) ∈ gT := gT_t (i := 1221) (by decide +kernel) rfl
theorem wm_L_84 : Cond.methodLink RL 84 yX8_late ∈ gT := gT_t (i := 1222) (by decide +kernel) rfl
theorem wi_X8_late : Cond.instanceMethod yX8_late ∈ gT := gT_t (i := 1223) (by decide +kernel) rfl
theorem ws_X8_late : Cond.selects RX8 yX8_late yX8_late ∈ gT := gT_t (i := 1224) (by decide +kernel) rfl
theorem wc_X8_late : Cond.code yX8_late cX8_late 4 (some .int) ∈ gT := gT_t (i := 1225) (by decide +kernel) rfl
theorem wk_X8_247 : Cond.constantLong RX8 247 (1000000) ∈ gT := gT_t (i := 1226) (by decide +kernel) rfl
theorem wm_L_88 : Cond.methodLink RL 88 yX8_together ∈ gT := gT_t (i := 1227) (by decide +kernel) rfl
theorem wi_X8_together : Cond.instanceMethod yX8_together ∈ gT := gT_t (i := 1228) (by decide +kernel) rfl
theorem ws_X8_together : Cond.selects RX8 yX8_together yX8_together ∈ gT := gT_t (i := 1229) (by decide +kernel) rfl
theorem wc_X8_together : Cond.code yX8_together cX8_together 5 (some .int) ∈ gT := gT_t (i := 1230) (by decide +kernel) rfl
theorem wk_X8_249 : Cond.constantLong RX8 249 (2) ∈ gT := gT_t (i := 1231) (by decide +kernel) rfl
theorem wm_L_92 : Cond.methodLink RL 92 yX8_ditched ∈ gT := gT_t (i := 1232) (by decide +kernel) rfl
theorem wi_X8_ditched : Cond.instanceMethod yX8_ditched ∈ gT := gT_t (i := 1233) (by decide +kernel) rfl
theorem ws_X8_ditched : Cond.selects RX8 yX8_ditched yX8_ditched ∈ gT := gT_t (i := 1234) (by decide +kernel) rfl
theorem wc_X8_ditched : Cond.code yX8_ditched cX8_ditched 4 (some .int) ∈ gT := gT_t (i := 1235) (by decide +kernel) rfl
theorem wm_L_96 : Cond.methodLink RL 96 yX8_ahead ∈ gT := gT_t (i := 1236) (by decide +kernel) rfl
theorem wi_X8_ahead : Cond.instanceMethod yX8_ahead ∈ gT := gT_t (i := 1237) (by decide +kernel) rfl
theorem ws_X8_ahead : Cond.selects RX8 yX8_ahead yX8_ahead ∈ gT := gT_t (i := 1238) (by decide +kernel) rfl
theorem wc_X8_ahead : Cond.code yX8_ahead cX8_ahead 5 (some .int) ∈ gT := gT_t (i := 1239) (by decide +kernel) rfl
theorem wm_L_100 : Cond.methodLink RL 100 yX8_fields ∈ gT := gT_t (i := 1240) (by decide +kernel) rfl
theorem wi_X8_fields : Cond.instanceMethod yX8_fields ∈ gT := gT_t (i := 1241) (by decide +kernel) rfl
theorem ws_X8_fields : Cond.selects RX8 yX8_fields yX8_fields ∈ gT := gT_t (i := 1242) (by decide +kernel) rfl
theorem wc_X8_fields : Cond.code yX8_fields cX8_fields 6 (some .int) ∈ gT := gT_t (i := 1243) (by decide +kernel) rfl
theorem wk_X8_251 : Cond.constantLong RX8 251 (90) ∈ gT := gT_t (i := 1244) (by decide +kernel) rfl
theorem wm_L_104 : Cond.methodLink RL 104 yX8_image ∈ gT := gT_t (i := 1245) (by decide +kernel) rfl
theorem wi_X8_image : Cond.instanceMethod yX8_image ∈ gT := gT_t (i := 1246) (by decide +kernel) rfl
theorem ws_X8_image : Cond.selects RX8 yX8_image yX8_image ∈ gT := gT_t (i := 1247) (by decide +kernel) rfl
theorem wc_X8_image : Cond.code yX8_image cX8_image 2 (some .int) ∈ gT := gT_t (i := 1248) (by decide +kernel) rfl
theorem wm_X8_253 : Cond.methodLink RX8 253 yX8_notesRow ∈ gT := gT_t (i := 1249) (by decide +kernel) rfl
theorem wi_X8_notesRow : Cond.instanceMethod yX8_notesRow ∈ gT := gT_t (i := 1251) (by decide +kernel) rfl
theorem wc_X8_notesRow : Cond.code yX8_notesRow cX8_notesRow 4 (some .int) ∈ gT := gT_t (i := 1252) (by decide +kernel) rfl
theorem wm_L_108 : Cond.methodLink RL 108 yX8_restore ∈ gT := gT_t (i := 1253) (by decide +kernel) rfl
theorem wi_X8_restore : Cond.instanceMethod yX8_restore ∈ gT := gT_t (i := 1254) (by decide +kernel) rfl
theorem ws_X8_restore : Cond.selects RX8 yX8_restore yX8_restore ∈ gT := gT_t (i := 1255) (by decide +kernel) rfl
theorem wc_X8_restore : Cond.code yX8_restore cX8_restore 2 (some .int) ∈ gT := gT_t (i := 1256) (by decide +kernel) rfl
theorem wm_X8_260 : Cond.methodLink RX8 260 yX8_gives ∈ gT := gT_t (i := 1257) (by decide +kernel) rfl
theorem wi_X8_gives : Cond.instanceMethod yX8_gives ∈ gT := gT_t (i := 1259) (by decide +kernel) rfl
theorem wc_X8_gives : Cond.code yX8_gives cX8_gives 4 (some .int) ∈ gT := gT_t (i := 1260) (by decide +kernel) rfl
theorem wm_L_113 : Cond.methodLink RL 113 yX8_strides ∈ gT := gT_t (i := 1261) (by decide +kernel) rfl
theorem wi_X8_strides : Cond.instanceMethod yX8_strides ∈ gT := gT_t (i := 1262) (by decide +kernel) rfl
theorem ws_X8_strides : Cond.selects RX8 yX8_strides yX8_strides ∈ gT := gT_t (i := 1263) (by decide +kernel) rfl
theorem wc_X8_strides : Cond.code yX8_strides cX8_strides 12 (some .int) ∈ gT := gT_t (i := 1264) (by decide +kernel) rfl
theorem wm_X8_264 : Cond.methodLink RX8 264 yX8_isSheet ∈ gT := gT_t (i := 1265) (by decide +kernel) rfl
theorem wt_X8_isSheet : Cond.static yX8_isSheet ∈ gT := gT_t (i := 1266) (by decide +kernel) rfl
theorem wc_X8_isSheet : Cond.code yX8_isSheet cX8_isSheet 1 (some .boolean) ∈ gT := gT_t (i := 1267) (by decide +kernel) rfl
theorem wm_X8_267 : Cond.methodLink RX8 267 yX8_isLane ∈ gT := gT_t (i := 1268) (by decide +kernel) rfl
theorem wt_X8_isLane : Cond.static yX8_isLane ∈ gT := gT_t (i := 1269) (by decide +kernel) rfl
theorem wc_X8_isLane : Cond.code yX8_isLane cX8_isLane 1 (some .boolean) ∈ gT := gT_t (i := 1270) (by decide +kernel) rfl
theorem wk_X8_270 : Cond.constantLong RX8 270 (8) ∈ gT := gT_t (i := 1271) (by decide +kernel) rfl
theorem wm_X8_272 : Cond.methodLink RX8 272 yX8_why ∈ gT := gT_t (i := 1272) (by decide +kernel) rfl
theorem wi_X8_why : Cond.instanceMethod yX8_why ∈ gT := gT_t (i := 1274) (by decide +kernel) rfl
theorem wc_X8_why : Cond.code yX8_why cX8_why 5 (some .int) ∈ gT := gT_t (i := 1275) (by decide +kernel) rfl
theorem wm_L_118 : Cond.methodLink RL 118 yX8_far ∈ gT := gT_t (i := 1276) (by decide +kernel) rfl
theorem wi_X8_far : Cond.instanceMethod yX8_far ∈ gT := gT_t (i := 1277) (by decide +kernel) rfl
theorem ws_X8_far : Cond.selects RX8 yX8_far yX8_far ∈ gT := gT_t (i := 1278) (by decide +kernel) rfl
theorem wc_X8_far : Cond.code yX8_far cX8_far 15 (some .int) ∈ gT := gT_t (i := 1279) (by decide +kernel) rfl
theorem wm_L_122 : Cond.methodLink RL 122 yX8_film ∈ gT := gT_t (i := 1280) (by decide +kernel) rfl
theorem wi_X8_film : Cond.instanceMethod yX8_film ∈ gT := gT_t (i := 1281) (by decide +kernel) rfl
theorem ws_X8_film : Cond.selects RX8 yX8_film yX8_film ∈ gT := gT_t (i := 1282) (by decide +kernel) rfl
theorem wc_X8_film : Cond.code yX8_film cX8_film 7 (some .int) ∈ gT := gT_t (i := 1283) (by decide +kernel) rfl
theorem wk_X8_276 : Cond.constantLong RX8 276 (24) ∈ gT := gT_t (i := 1284) (by decide +kernel) rfl
theorem wm_X8_278 : Cond.methodLink RX8 278 yX8_puts ∈ gT := gT_t (i := 1285) (by decide +kernel) rfl
theorem wi_X8_puts : Cond.instanceMethod yX8_puts ∈ gT := gT_t (i := 1287) (by decide +kernel) rfl
theorem wc_X8_puts : Cond.code yX8_puts cX8_puts 6 none ∈ gT := gT_t (i := 1288) (by decide +kernel) rfl
theorem wm_L_126 : Cond.methodLink RL 126 yX8_sheet ∈ gT := gT_t (i := 1289) (by decide +kernel) rfl
theorem wi_X8_sheet : Cond.instanceMethod yX8_sheet ∈ gT := gT_t (i := 1290) (by decide +kernel) rfl
theorem ws_X8_sheet : Cond.selects RX8 yX8_sheet yX8_sheet ∈ gT := gT_t (i := 1291) (by decide +kernel) rfl
theorem wc_X8_sheet : Cond.code yX8_sheet cX8_sheet 5 (some .int) ∈ gT := gT_t (i := 1292) (by decide +kernel) rfl
theorem wm_L_130 : Cond.methodLink RL 130 yX8_drop ∈ gT := gT_t (i := 1293) (by decide +kernel) rfl
theorem wi_X8_drop : Cond.instanceMethod yX8_drop ∈ gT := gT_t (i := 1294) (by decide +kernel) rfl
theorem ws_X8_drop : Cond.selects RX8 yX8_drop yX8_drop ∈ gT := gT_t (i := 1295) (by decide +kernel) rfl
theorem wc_X8_drop : Cond.code yX8_drop cX8_drop 2 (some .int) ∈ gT := gT_t (i := 1296) (by decide +kernel) rfl
theorem wm_L_137 : Cond.methodLink RL 137 yX8_item ∈ gT := gT_t (i := 1297) (by decide +kernel) rfl
theorem wi_X8_item : Cond.instanceMethod yX8_item ∈ gT := gT_t (i := 1298) (by decide +kernel) rfl
theorem ws_X8_item : Cond.selects RX8 yX8_item yX8_item ∈ gT := gT_t (i := 1299) (by decide +kernel) rfl
theorem wc_X8_item : Cond.code yX8_item cX8_item 7 (some .int) ∈ gT := gT_t (i := 1300) (by decide +kernel) rfl
theorem wm_L_141 : Cond.methodLink RL 141 yX8_copy ∈ gT := gT_t (i := 1301) (by decide +kernel) rfl
theorem wi_X8_copy : Cond.instanceMethod yX8_copy ∈ gT := gT_t (i := 1302) (by decide +kernel) rfl
theorem ws_X8_copy : Cond.selects RX8 yX8_copy yX8_copy ∈ gT := gT_t (i := 1303) (by decide +kernel) rfl
theorem wc_X8_copy : Cond.code yX8_copy cX8_copy 7 (some .int) ∈ gT := gT_t (i := 1304) (by decide +kernel) rfl
theorem wk_L_131 : Cond.constantLong RL 131 (4294967295) ∈ gT := gT_t (i := 1305) (by decide +kernel) rfl
theorem ws_X5_momentsOut : Cond.selects RX5 yX5_momentsOut yX5_momentsOut ∈ gT := gT_s (q := (yX5_momentsOut, 13)) (i := 0) (by decide +kernel) rfl
theorem ws_X5_cellBehindTurn : Cond.selects RX5 yX5_cellBehindTurn yX5_cellBehindTurn ∈ gT := gT_s (q := (yX5_cellBehindTurn, 13)) (i := 1) (by decide +kernel) rfl
theorem ws_X1_readGround : Cond.selects RX1 yX1_readGround yX1_readGround ∈ gT := gT_s (q := (yX1_readGround, 4)) (i := 2) (by decide +kernel) rfl
theorem ws_X1_peek : Cond.selects RX1 yX1_peek yX1_peek ∈ gT := gT_s (q := (yX1_peek, 4)) (i := 3) (by decide +kernel) rfl
theorem ws_X1_take : Cond.selects RX1 yX1_take yX1_take ∈ gT := gT_s (q := (yX1_take, 4)) (i := 4) (by decide +kernel) rfl
theorem ws_X1_readFighters : Cond.selects RX1 yX1_readFighters yX1_readFighters ∈ gT := gT_s (q := (yX1_readFighters, 4)) (i := 5) (by decide +kernel) rfl
theorem ws_X1_readFighter : Cond.selects RX1 yX1_readFighter yX1_readFighter ∈ gT := gT_s (q := (yX1_readFighter, 4)) (i := 6) (by decide +kernel) rfl
theorem ws_X1_takeDigit : Cond.selects RX1 yX1_takeDigit yX1_takeDigit ∈ gT := gT_s (q := (yX1_takeDigit, 4)) (i := 7) (by decide +kernel) rfl
theorem ws_X5_firstThere : Cond.selects RX5 yX5_firstThere yX5_firstThere ∈ gT := gT_s (q := (yX5_firstThere, 13)) (i := 8) (by decide +kernel) rfl
theorem ws_X5_isThere : Cond.selects RX5 yX5_isThere yX5_isThere ∈ gT := gT_s (q := (yX5_isThere, 13)) (i := 9) (by decide +kernel) rfl
theorem ws_X5_countThere : Cond.selects RX5 yX5_countThere yX5_countThere ∈ gT := gT_s (q := (yX5_countThere, 13)) (i := 10) (by decide +kernel) rfl
theorem ws_X5_drawOfSixteen : Cond.selects RX5 yX5_drawOfSixteen yX5_drawOfSixteen ∈ gT := gT_s (q := (yX5_drawOfSixteen, 13)) (i := 11) (by decide +kernel) rfl
theorem ws_X7_runOn : Cond.selects RX7 yX7_runOn yX7_runOn ∈ gT := gT_s (q := (yX7_runOn, 8)) (i := 12) (by decide +kernel) rfl
theorem ws_X7_mayTurn : Cond.selects RX7 yX7_mayTurn yX7_mayTurn ∈ gT := gT_s (q := (yX7_mayTurn, 8)) (i := 13) (by decide +kernel) rfl
theorem ws_X0_putInOrder : Cond.selects RX0 yX0_putInOrder yX0_putInOrder ∈ gT := gT_s (q := (yX0_putInOrder, 12)) (i := 14) (by decide +kernel) rfl
theorem ws_X0_tellWaits : Cond.selects RX0 yX0_tellWaits yX0_tellWaits ∈ gT := gT_s (q := (yX0_tellWaits, 12)) (i := 15) (by decide +kernel) rfl
theorem ws_X0_keyOf : Cond.selects RX0 yX0_keyOf yX0_keyOf ∈ gT := gT_s (q := (yX0_keyOf, 12)) (i := 16) (by decide +kernel) rfl
theorem ws_X0_foldBack : Cond.selects RX0 yX0_foldBack yX0_foldBack ∈ gT := gT_s (q := (yX0_foldBack, 12)) (i := 17) (by decide +kernel) rfl
theorem ws_X0_tellForces : Cond.selects RX0 yX0_tellForces yX0_tellForces ∈ gT := gT_s (q := (yX0_tellForces, 12)) (i := 18) (by decide +kernel) rfl
theorem ws_X0_tellIdle : Cond.selects RX0 yX0_tellIdle yX0_tellIdle ∈ gT := gT_s (q := (yX0_tellIdle, 12)) (i := 19) (by decide +kernel) rfl
theorem ws_X0_settleEnds : Cond.selects RX0 yX0_settleEnds yX0_settleEnds ∈ gT := gT_s (q := (yX0_settleEnds, 12)) (i := 20) (by decide +kernel) rfl
theorem ws_X0_leastHurt : Cond.selects RX0 yX0_leastHurt yX0_leastHurt ∈ gT := gT_s (q := (yX0_leastHurt, 12)) (i := 21) (by decide +kernel) rfl
theorem ws_X0_fold : Cond.selects RX0 yX0_fold yX0_fold ∈ gT := gT_s (q := (yX0_fold, 12)) (i := 22) (by decide +kernel) rfl
theorem ws_X0_foldMoment : Cond.selects RX0 yX0_foldMoment yX0_foldMoment ∈ gT := gT_s (q := (yX0_foldMoment, 12)) (i := 23) (by decide +kernel) rfl
theorem ws_X0_countThere : Cond.selects RX0 yX0_countThere yX0_countThere ∈ gT := gT_s (q := (yX0_countThere, 12)) (i := 24) (by decide +kernel) rfl
theorem ws_X2_winsOne : Cond.selects RX2 yX2_winsOne yX2_winsOne ∈ gT := gT_s (q := (yX2_winsOne, 3)) (i := 25) (by decide +kernel) rfl
theorem ws_X7_areSightings : Cond.selects RX7 yX7_areSightings yX7_areSightings ∈ gT := gT_s (q := (yX7_areSightings, 8)) (i := 26) (by decide +kernel) rfl
theorem ws_X7_strodeSo : Cond.selects RX7 yX7_strodeSo yX7_strodeSo ∈ gT := gT_s (q := (yX7_strodeSo, 8)) (i := 27) (by decide +kernel) rfl
theorem ws_X7_lastFarTurn : Cond.selects RX7 yX7_lastFarTurn yX7_lastFarTurn ∈ gT := gT_s (q := (yX7_lastFarTurn, 8)) (i := 28) (by decide +kernel) rfl
theorem ws_X7_turnsThatFit : Cond.selects RX7 yX7_turnsThatFit yX7_turnsThatFit ∈ gT := gT_s (q := (yX7_turnsThatFit, 8)) (i := 29) (by decide +kernel) rfl
theorem ws_X7_comeAsTold : Cond.selects RX7 yX7_comeAsTold yX7_comeAsTold ∈ gT := gT_s (q := (yX7_comeAsTold, 8)) (i := 30) (by decide +kernel) rfl
theorem ws_X7_firstTurnThatFits : Cond.selects RX7 yX7_firstTurnThatFits yX7_firstTurnThatFits ∈ gT := gT_s (q := (yX7_firstTurnThatFits, 8)) (i := 31) (by decide +kernel) rfl
theorem ws_X6_lowestBits : Cond.selects RX6 yX6_lowestBits yX6_lowestBits ∈ gT := gT_s (q := (yX6_lowestBits, 3)) (i := 32) (by decide +kernel) rfl
theorem ws_X8_isTurned : Cond.selects RX8 yX8_isTurned yX8_isTurned ∈ gT := gT_s (q := (yX8_isTurned, 30)) (i := 33) (by decide +kernel) rfl
theorem ws_X8_fighterComes : Cond.selects RX8 yX8_fighterComes yX8_fighterComes ∈ gT := gT_s (q := (yX8_fighterComes, 30)) (i := 34) (by decide +kernel) rfl
theorem ws_X8_isFighter : Cond.selects RX8 yX8_isFighter yX8_isFighter ∈ gT := gT_s (q := (yX8_isFighter, 30)) (i := 35) (by decide +kernel) rfl
theorem ws_X8_hurtOf : Cond.selects RX8 yX8_hurtOf yX8_hurtOf ∈ gT := gT_s (q := (yX8_hurtOf, 30)) (i := 36) (by decide +kernel) rfl
theorem ws_X8_force : Cond.selects RX8 yX8_force yX8_force ∈ gT := gT_s (q := (yX8_force, 30)) (i := 37) (by decide +kernel) rfl
theorem ws_X8_place : Cond.selects RX8 yX8_place yX8_place ∈ gT := gT_s (q := (yX8_place, 30)) (i := 38) (by decide +kernel) rfl
theorem ws_X8_runs : Cond.selects RX8 yX8_runs yX8_runs ∈ gT := gT_s (q := (yX8_runs, 30)) (i := 39) (by decide +kernel) rfl
theorem ws_X8_isDown : Cond.selects RX8 yX8_isDown yX8_isDown ∈ gT := gT_s (q := (yX8_isDown, 30)) (i := 40) (by decide +kernel) rfl
theorem ws_X8_pointsOf : Cond.selects RX8 yX8_pointsOf yX8_pointsOf ∈ gT := gT_s (q := (yX8_pointsOf, 30)) (i := 41) (by decide +kernel) rfl
theorem ws_X8_farthest : Cond.selects RX8 yX8_farthest yX8_farthest ∈ gT := gT_s (q := (yX8_farthest, 30)) (i := 42) (by decide +kernel) rfl
theorem ws_X8_costOf : Cond.selects RX8 yX8_costOf yX8_costOf ∈ gT := gT_s (q := (yX8_costOf, 30)) (i := 43) (by decide +kernel) rfl
theorem ws_X8_here : Cond.selects RX8 yX8_here yX8_here ∈ gT := gT_s (q := (yX8_here, 30)) (i := 44) (by decide +kernel) rfl
theorem ws_X8_sign : Cond.selects RX8 yX8_sign yX8_sign ∈ gT := gT_s (q := (yX8_sign, 30)) (i := 45) (by decide +kernel) rfl
theorem ws_X8_has : Cond.selects RX8 yX8_has yX8_has ∈ gT := gT_s (q := (yX8_has, 30)) (i := 46) (by decide +kernel) rfl
theorem ws_X8_readFighter : Cond.selects RX8 yX8_readFighter yX8_readFighter ∈ gT := gT_s (q := (yX8_readFighter, 30)) (i := 47) (by decide +kernel) rfl
theorem ws_X8_digit : Cond.selects RX8 yX8_digit yX8_digit ∈ gT := gT_s (q := (yX8_digit, 30)) (i := 48) (by decide +kernel) rfl
theorem ws_X8_down : Cond.selects RX8 yX8_down yX8_down ∈ gT := gT_s (q := (yX8_down, 30)) (i := 49) (by decide +kernel) rfl
theorem ws_X8_over : Cond.selects RX8 yX8_over yX8_over ∈ gT := gT_s (q := (yX8_over, 30)) (i := 50) (by decide +kernel) rfl
theorem ws_X8_notes : Cond.selects RX8 yX8_notes yX8_notes ∈ gT := gT_s (q := (yX8_notes, 30)) (i := 51) (by decide +kernel) rfl
theorem ws_X8_fights : Cond.selects RX8 yX8_fights yX8_fights ∈ gT := gT_s (q := (yX8_fights, 30)) (i := 52) (by decide +kernel) rfl
theorem ws_X8_meets : Cond.selects RX8 yX8_meets yX8_meets ∈ gT := gT_s (q := (yX8_meets, 30)) (i := 53) (by decide +kernel) rfl
theorem ws_X8_isCaught : Cond.selects RX8 yX8_isCaught yX8_isCaught ∈ gT := gT_s (q := (yX8_isCaught, 30)) (i := 54) (by decide +kernel) rfl
theorem ws_X8_pursues : Cond.selects RX8 yX8_pursues yX8_pursues ∈ gT := gT_s (q := (yX8_pursues, 30)) (i := 55) (by decide +kernel) rfl
theorem ws_X8_turns : Cond.selects RX8 yX8_turns yX8_turns ∈ gT := gT_s (q := (yX8_turns, 30)) (i := 56) (by decide +kernel) rfl
theorem ws_X8_comesTo : Cond.selects RX8 yX8_comesTo yX8_comesTo ∈ gT := gT_s (q := (yX8_comesTo, 30)) (i := 57) (by decide +kernel) rfl
theorem ws_X8_chanceOf : Cond.selects RX8 yX8_chanceOf yX8_chanceOf ∈ gT := gT_s (q := (yX8_chanceOf, 30)) (i := 58) (by decide +kernel) rfl
theorem ws_X8_asides : Cond.selects RX8 yX8_asides yX8_asides ∈ gT := gT_s (q := (yX8_asides, 30)) (i := 59) (by decide +kernel) rfl
theorem ws_X8_likelyBy : Cond.selects RX8 yX8_likelyBy yX8_likelyBy ∈ gT := gT_s (q := (yX8_likelyBy, 30)) (i := 60) (by decide +kernel) rfl
theorem ws_X8_reaches : Cond.selects RX8 yX8_reaches yX8_reaches ∈ gT := gT_s (q := (yX8_reaches, 30)) (i := 61) (by decide +kernel) rfl
theorem ws_X8_likely : Cond.selects RX8 yX8_likely yX8_likely ∈ gT := gT_s (q := (yX8_likely, 30)) (i := 62) (by decide +kernel) rfl
theorem ws_X8_lines : Cond.selects RX8 yX8_lines yX8_lines ∈ gT := gT_s (q := (yX8_lines, 30)) (i := 63) (by decide +kernel) rfl
theorem ws_X8_fought : Cond.selects RX8 yX8_fought yX8_fought ∈ gT := gT_s (q := (yX8_fought, 30)) (i := 64) (by decide +kernel) rfl
theorem ws_X8_aheadOf : Cond.selects RX8 yX8_aheadOf yX8_aheadOf ∈ gT := gT_s (q := (yX8_aheadOf, 30)) (i := 65) (by decide +kernel) rfl
theorem ws_X8_backs : Cond.selects RX8 yX8_backs yX8_backs ∈ gT := gT_s (q := (yX8_backs, 30)) (i := 66) (by decide +kernel) rfl
theorem ws_X8_isOff : Cond.selects RX8 yX8_isOff yX8_isOff ∈ gT := gT_s (q := (yX8_isOff, 30)) (i := 67) (by decide +kernel) rfl
theorem ws_X8_looks : Cond.selects RX8 yX8_looks yX8_looks ∈ gT := gT_s (q := (yX8_looks, 30)) (i := 68) (by decide +kernel) rfl
theorem ws_X8_isCaughtThen : Cond.selects RX8 yX8_isCaughtThen yX8_isCaughtThen ∈ gT := gT_s (q := (yX8_isCaughtThen, 30)) (i := 69) (by decide +kernel) rfl
theorem ws_X8_notesRow : Cond.selects RX8 yX8_notesRow yX8_notesRow ∈ gT := gT_s (q := (yX8_notesRow, 30)) (i := 70) (by decide +kernel) rfl
theorem ws_X8_gives : Cond.selects RX8 yX8_gives yX8_gives ∈ gT := gT_s (q := (yX8_gives, 30)) (i := 71) (by decide +kernel) rfl
theorem ws_X8_why : Cond.selects RX8 yX8_why yX8_why ∈ gT := gT_s (q := (yX8_why, 30)) (i := 72) (by decide +kernel) rfl
theorem ws_X8_puts : Cond.selects RX8 yX8_puts yX8_puts ∈ gT := gT_s (q := (yX8_puts, 30)) (i := 73) (by decide +kernel) rfl
