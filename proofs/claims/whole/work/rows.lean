section
-- ===== PART A: goes FIRST, ahead of the names: the tables' words, and 'selects' of the private methods out of them =====
/-- a private method of a class that the tables say can be made, by its rows of tables_1 -/
def lw_okq (q : MethodName × Nat) : Prop := (q.1.cls ≠ "java/lang/invoke/MethodHandle" ∧ q.1.cls ≠ "java/lang/invoke/VarHandle") ∧ Cond.instantiable q.1.cls q.2 ∈ tables_1 ∧ Cond.privateMethod q.1 ∈ tables_1 ∧ Cond.instanceMethod q.1 ∈ tables_1
theorem lw_p0 : lw_okq (⟨"RunningThree$Scene", "momentsOut", "(II)I"⟩, 13) := ⟨⟨by decide +kernel, by decide +kernel⟩, List.mem_of_getElem? (i := 26) (by decide +kernel), List.mem_of_getElem? (i := 308) (by decide +kernel), List.mem_of_getElem? (i := 309) (by decide +kernel)⟩
theorem lw_p1 : lw_okq (⟨"RunningThree$Scene", "cellBehindTurn", "(I)I"⟩, 13) := ⟨⟨by decide +kernel, by decide +kernel⟩, List.mem_of_getElem? (i := 26) (by decide +kernel), List.mem_of_getElem? (i := 330) (by decide +kernel), List.mem_of_getElem? (i := 331) (by decide +kernel)⟩
theorem lw_p2 : lw_okq (⟨"RunningThree$FieldText", "readGround", "()Z"⟩, 4) := ⟨⟨by decide +kernel, by decide +kernel⟩, List.mem_of_getElem? (i := 127) (by decide +kernel), List.mem_of_getElem? (i := 384) (by decide +kernel), List.mem_of_getElem? (i := 385) (by decide +kernel)⟩
theorem lw_p3 : lw_okq (⟨"RunningThree$FieldText", "peek", "()I"⟩, 4) := ⟨⟨by decide +kernel, by decide +kernel⟩, List.mem_of_getElem? (i := 127) (by decide +kernel), List.mem_of_getElem? (i := 389) (by decide +kernel), List.mem_of_getElem? (i := 390) (by decide +kernel)⟩
theorem lw_p4 : lw_okq (⟨"RunningThree$FieldText", "take", "(I)Z"⟩, 4) := ⟨⟨by decide +kernel, by decide +kernel⟩, List.mem_of_getElem? (i := 127) (by decide +kernel), List.mem_of_getElem? (i := 482) (by decide +kernel), List.mem_of_getElem? (i := 483) (by decide +kernel)⟩
theorem lw_p5 : lw_okq (⟨"RunningThree$FieldText", "readFighters", "()Z"⟩, 4) := ⟨⟨by decide +kernel, by decide +kernel⟩, List.mem_of_getElem? (i := 127) (by decide +kernel), List.mem_of_getElem? (i := 486) (by decide +kernel), List.mem_of_getElem? (i := 487) (by decide +kernel)⟩
theorem lw_p6 : lw_okq (⟨"RunningThree$FieldText", "readFighter", "()Z"⟩, 4) := ⟨⟨by decide +kernel, by decide +kernel⟩, List.mem_of_getElem? (i := 127) (by decide +kernel), List.mem_of_getElem? (i := 490) (by decide +kernel), List.mem_of_getElem? (i := 491) (by decide +kernel)⟩
theorem lw_p7 : lw_okq (⟨"RunningThree$FieldText", "takeDigit", "(II)I"⟩, 4) := ⟨⟨by decide +kernel, by decide +kernel⟩, List.mem_of_getElem? (i := 127) (by decide +kernel), List.mem_of_getElem? (i := 495) (by decide +kernel), List.mem_of_getElem? (i := 496) (by decide +kernel)⟩
theorem lw_p8 : lw_okq (⟨"RunningThree$Scene", "firstThere", "()I"⟩, 13) := ⟨⟨by decide +kernel, by decide +kernel⟩, List.mem_of_getElem? (i := 26) (by decide +kernel), List.mem_of_getElem? (i := 547) (by decide +kernel), List.mem_of_getElem? (i := 548) (by decide +kernel)⟩
theorem lw_p9 : lw_okq (⟨"RunningThree$Scene", "isThere", "(I)Z"⟩, 13) := ⟨⟨by decide +kernel, by decide +kernel⟩, List.mem_of_getElem? (i := 26) (by decide +kernel), List.mem_of_getElem? (i := 551) (by decide +kernel), List.mem_of_getElem? (i := 552) (by decide +kernel)⟩
theorem lw_p10 : lw_okq (⟨"RunningThree$Scene", "countThere", "()I"⟩, 13) := ⟨⟨by decide +kernel, by decide +kernel⟩, List.mem_of_getElem? (i := 26) (by decide +kernel), List.mem_of_getElem? (i := 556) (by decide +kernel), List.mem_of_getElem? (i := 557) (by decide +kernel)⟩
theorem lw_p11 : lw_okq (⟨"RunningThree$Scene", "drawOfSixteen", "()I"⟩, 13) := ⟨⟨by decide +kernel, by decide +kernel⟩, List.mem_of_getElem? (i := 26) (by decide +kernel), List.mem_of_getElem? (i := 563) (by decide +kernel), List.mem_of_getElem? (i := 564) (by decide +kernel)⟩
theorem lw_p12 : lw_okq (⟨"RunningThree", "runOn", "()I"⟩, 8) := ⟨⟨by decide +kernel, by decide +kernel⟩, List.mem_of_getElem? (i := 18) (by decide +kernel), List.mem_of_getElem? (i := 570) (by decide +kernel), List.mem_of_getElem? (i := 571) (by decide +kernel)⟩
theorem lw_p13 : lw_okq (⟨"RunningThree", "mayTurn", "()Z"⟩, 8) := ⟨⟨by decide +kernel, by decide +kernel⟩, List.mem_of_getElem? (i := 18) (by decide +kernel), List.mem_of_getElem? (i := 596) (by decide +kernel), List.mem_of_getElem? (i := 597) (by decide +kernel)⟩
theorem lw_p14 : lw_okq (⟨"RunningThree$Chances", "putInOrder", "(LRunningThree$Scene;)V"⟩, 12) := ⟨⟨by decide +kernel, by decide +kernel⟩, List.mem_of_getElem? (i := 158) (by decide +kernel), List.mem_of_getElem? (i := 650) (by decide +kernel), List.mem_of_getElem? (i := 651) (by decide +kernel)⟩
theorem lw_p15 : lw_okq (⟨"RunningThree$Chances", "tellWaits", "(I)V"⟩, 12) := ⟨⟨by decide +kernel, by decide +kernel⟩, List.mem_of_getElem? (i := 158) (by decide +kernel), List.mem_of_getElem? (i := 656) (by decide +kernel), List.mem_of_getElem? (i := 657) (by decide +kernel)⟩
def lw_privs_1 : List (MethodName × Nat) := [(⟨"RunningThree$Scene", "momentsOut", "(II)I"⟩, 13), (⟨"RunningThree$Scene", "cellBehindTurn", "(I)I"⟩, 13), (⟨"RunningThree$FieldText", "readGround", "()Z"⟩, 4), (⟨"RunningThree$FieldText", "peek", "()I"⟩, 4), (⟨"RunningThree$FieldText", "take", "(I)Z"⟩, 4), (⟨"RunningThree$FieldText", "readFighters", "()Z"⟩, 4), (⟨"RunningThree$FieldText", "readFighter", "()Z"⟩, 4), (⟨"RunningThree$FieldText", "takeDigit", "(II)I"⟩, 4), (⟨"RunningThree$Scene", "firstThere", "()I"⟩, 13), (⟨"RunningThree$Scene", "isThere", "(I)Z"⟩, 13), (⟨"RunningThree$Scene", "countThere", "()I"⟩, 13), (⟨"RunningThree$Scene", "drawOfSixteen", "()I"⟩, 13), (⟨"RunningThree", "runOn", "()I"⟩, 8), (⟨"RunningThree", "mayTurn", "()Z"⟩, 8), (⟨"RunningThree$Chances", "putInOrder", "(LRunningThree$Scene;)V"⟩, 12), (⟨"RunningThree$Chances", "tellWaits", "(I)V"⟩, 12)]
theorem lw_r1 : ∀ q ∈ lw_privs_1, lw_okq q := List.forall_mem_cons.mpr ⟨lw_p0, List.forall_mem_cons.mpr ⟨lw_p1, List.forall_mem_cons.mpr ⟨lw_p2, List.forall_mem_cons.mpr ⟨lw_p3, List.forall_mem_cons.mpr ⟨lw_p4, List.forall_mem_cons.mpr ⟨lw_p5, List.forall_mem_cons.mpr ⟨lw_p6, List.forall_mem_cons.mpr ⟨lw_p7, List.forall_mem_cons.mpr ⟨lw_p8, List.forall_mem_cons.mpr ⟨lw_p9, List.forall_mem_cons.mpr ⟨lw_p10, List.forall_mem_cons.mpr ⟨lw_p11, List.forall_mem_cons.mpr ⟨lw_p12, List.forall_mem_cons.mpr ⟨lw_p13, List.forall_mem_cons.mpr ⟨lw_p14, List.forall_mem_cons.mpr ⟨lw_p15, fun _ h => absurd h List.not_mem_nil⟩⟩⟩⟩⟩⟩⟩⟩⟩⟩⟩⟩⟩⟩⟩⟩
theorem lw_p16 : lw_okq (⟨"RunningThree$Chances", "keyOf", "()I"⟩, 12) := ⟨⟨by decide +kernel, by decide +kernel⟩, List.mem_of_getElem? (i := 158) (by decide +kernel), List.mem_of_getElem? (i := 662) (by decide +kernel), List.mem_of_getElem? (i := 663) (by decide +kernel)⟩
theorem lw_p17 : lw_okq (⟨"RunningThree$Chances", "foldBack", "(LRunningThree$Scene;)I"⟩, 12) := ⟨⟨by decide +kernel, by decide +kernel⟩, List.mem_of_getElem? (i := 158) (by decide +kernel), List.mem_of_getElem? (i := 666) (by decide +kernel), List.mem_of_getElem? (i := 667) (by decide +kernel)⟩
theorem lw_p18 : lw_okq (⟨"RunningThree$Chances", "tellForces", "(LRunningThree$Scene;)V"⟩, 12) := ⟨⟨by decide +kernel, by decide +kernel⟩, List.mem_of_getElem? (i := 158) (by decide +kernel), List.mem_of_getElem? (i := 670) (by decide +kernel), List.mem_of_getElem? (i := 671) (by decide +kernel)⟩
theorem lw_p19 : lw_okq (⟨"RunningThree$Chances", "tellIdle", "()V"⟩, 12) := ⟨⟨by decide +kernel, by decide +kernel⟩, List.mem_of_getElem? (i := 158) (by decide +kernel), List.mem_of_getElem? (i := 675) (by decide +kernel), List.mem_of_getElem? (i := 676) (by decide +kernel)⟩
theorem lw_p20 : lw_okq (⟨"RunningThree$Chances", "settleEnds", "(I)V"⟩, 12) := ⟨⟨by decide +kernel, by decide +kernel⟩, List.mem_of_getElem? (i := 158) (by decide +kernel), List.mem_of_getElem? (i := 679) (by decide +kernel), List.mem_of_getElem? (i := 680) (by decide +kernel)⟩
theorem lw_p21 : lw_okq (⟨"RunningThree$Chances", "leastHurt", "(IIII)I"⟩, 12) := ⟨⟨by decide +kernel, by decide +kernel⟩, List.mem_of_getElem? (i := 158) (by decide +kernel), List.mem_of_getElem? (i := 683) (by decide +kernel), List.mem_of_getElem? (i := 684) (by decide +kernel)⟩
theorem lw_p22 : lw_okq (⟨"RunningThree$Chances", "fold", "(III)V"⟩, 12) := ⟨⟨by decide +kernel, by decide +kernel⟩, List.mem_of_getElem? (i := 158) (by decide +kernel), List.mem_of_getElem? (i := 687) (by decide +kernel), List.mem_of_getElem? (i := 688) (by decide +kernel)⟩
theorem lw_p23 : lw_okq (⟨"RunningThree$Chances", "foldMoment", "(II)V"⟩, 12) := ⟨⟨by decide +kernel, by decide +kernel⟩, List.mem_of_getElem? (i := 158) (by decide +kernel), List.mem_of_getElem? (i := 692) (by decide +kernel), List.mem_of_getElem? (i := 693) (by decide +kernel)⟩
theorem lw_p24 : lw_okq (⟨"RunningThree$Chances", "countThere", "(I)I"⟩, 12) := ⟨⟨by decide +kernel, by decide +kernel⟩, List.mem_of_getElem? (i := 158) (by decide +kernel), List.mem_of_getElem? (i := 696) (by decide +kernel), List.mem_of_getElem? (i := 697) (by decide +kernel)⟩
theorem lw_p25 : lw_okq (⟨"RunningThree$Foretelling", "winsOne", "()Z"⟩, 3) := ⟨⟨by decide +kernel, by decide +kernel⟩, List.mem_of_getElem? (i := 150) (by decide +kernel), List.mem_of_getElem? (i := 768) (by decide +kernel), List.mem_of_getElem? (i := 769) (by decide +kernel)⟩
theorem lw_p26 : lw_okq (⟨"RunningThree", "areSightings", "(LRunningThree$Sheet;II)Z"⟩, 8) := ⟨⟨by decide +kernel, by decide +kernel⟩, List.mem_of_getElem? (i := 18) (by decide +kernel), List.mem_of_getElem? (i := 814) (by decide +kernel), List.mem_of_getElem? (i := 815) (by decide +kernel)⟩
theorem lw_p27 : lw_okq (⟨"RunningThree", "strodeSo", "(IILRunningThree$Sheet;II)Z"⟩, 8) := ⟨⟨by decide +kernel, by decide +kernel⟩, List.mem_of_getElem? (i := 18) (by decide +kernel), List.mem_of_getElem? (i := 823) (by decide +kernel), List.mem_of_getElem? (i := 824) (by decide +kernel)⟩
theorem lw_p28 : lw_okq (⟨"RunningThree", "lastFarTurn", "()I"⟩, 8) := ⟨⟨by decide +kernel, by decide +kernel⟩, List.mem_of_getElem? (i := 18) (by decide +kernel), List.mem_of_getElem? (i := 833) (by decide +kernel), List.mem_of_getElem? (i := 834) (by decide +kernel)⟩
theorem lw_p29 : lw_okq (⟨"RunningThree", "turnsThatFit", "(LRunningThree$Sheet;II)I"⟩, 8) := ⟨⟨by decide +kernel, by decide +kernel⟩, List.mem_of_getElem? (i := 18) (by decide +kernel), List.mem_of_getElem? (i := 838) (by decide +kernel), List.mem_of_getElem? (i := 839) (by decide +kernel)⟩
theorem lw_p30 : lw_okq (⟨"RunningThree", "comeAsTold", "(ILRunningThree$Sheet;I)Z"⟩, 8) := ⟨⟨by decide +kernel, by decide +kernel⟩, List.mem_of_getElem? (i := 18) (by decide +kernel), List.mem_of_getElem? (i := 842) (by decide +kernel), List.mem_of_getElem? (i := 843) (by decide +kernel)⟩
theorem lw_p31 : lw_okq (⟨"RunningThree", "firstTurnThatFits", "(LRunningThree$Sheet;II)I"⟩, 8) := ⟨⟨by decide +kernel, by decide +kernel⟩, List.mem_of_getElem? (i := 18) (by decide +kernel), List.mem_of_getElem? (i := 848) (by decide +kernel), List.mem_of_getElem? (i := 849) (by decide +kernel)⟩
def lw_privs_2 : List (MethodName × Nat) := [(⟨"RunningThree$Chances", "keyOf", "()I"⟩, 12), (⟨"RunningThree$Chances", "foldBack", "(LRunningThree$Scene;)I"⟩, 12), (⟨"RunningThree$Chances", "tellForces", "(LRunningThree$Scene;)V"⟩, 12), (⟨"RunningThree$Chances", "tellIdle", "()V"⟩, 12), (⟨"RunningThree$Chances", "settleEnds", "(I)V"⟩, 12), (⟨"RunningThree$Chances", "leastHurt", "(IIII)I"⟩, 12), (⟨"RunningThree$Chances", "fold", "(III)V"⟩, 12), (⟨"RunningThree$Chances", "foldMoment", "(II)V"⟩, 12), (⟨"RunningThree$Chances", "countThere", "(I)I"⟩, 12), (⟨"RunningThree$Foretelling", "winsOne", "()Z"⟩, 3), (⟨"RunningThree", "areSightings", "(LRunningThree$Sheet;II)Z"⟩, 8), (⟨"RunningThree", "strodeSo", "(IILRunningThree$Sheet;II)Z"⟩, 8), (⟨"RunningThree", "lastFarTurn", "()I"⟩, 8), (⟨"RunningThree", "turnsThatFit", "(LRunningThree$Sheet;II)I"⟩, 8), (⟨"RunningThree", "comeAsTold", "(ILRunningThree$Sheet;I)Z"⟩, 8), (⟨"RunningThree", "firstTurnThatFits", "(LRunningThree$Sheet;II)I"⟩, 8)]
theorem lw_r2 : ∀ q ∈ lw_privs_2, lw_okq q := List.forall_mem_cons.mpr ⟨lw_p16, List.forall_mem_cons.mpr ⟨lw_p17, List.forall_mem_cons.mpr ⟨lw_p18, List.forall_mem_cons.mpr ⟨lw_p19, List.forall_mem_cons.mpr ⟨lw_p20, List.forall_mem_cons.mpr ⟨lw_p21, List.forall_mem_cons.mpr ⟨lw_p22, List.forall_mem_cons.mpr ⟨lw_p23, List.forall_mem_cons.mpr ⟨lw_p24, List.forall_mem_cons.mpr ⟨lw_p25, List.forall_mem_cons.mpr ⟨lw_p26, List.forall_mem_cons.mpr ⟨lw_p27, List.forall_mem_cons.mpr ⟨lw_p28, List.forall_mem_cons.mpr ⟨lw_p29, List.forall_mem_cons.mpr ⟨lw_p30, List.forall_mem_cons.mpr ⟨lw_p31, fun _ h => absurd h List.not_mem_nil⟩⟩⟩⟩⟩⟩⟩⟩⟩⟩⟩⟩⟩⟩⟩⟩
theorem lw_p32 : lw_okq (⟨"RunningThree$Sheet", "lowestBits", "(J)J"⟩, 3) := ⟨⟨by decide +kernel, by decide +kernel⟩, List.mem_of_getElem? (i := 212) (by decide +kernel), List.mem_of_getElem? (i := 865) (by decide +kernel), List.mem_of_getElem? (i := 866) (by decide +kernel)⟩
theorem lw_p33 : lw_okq (⟨"RunningThreeModel", "isTurned", "()Z"⟩, 30) := ⟨⟨by decide +kernel, by decide +kernel⟩, List.mem_of_getElem? (i := 896) (by decide +kernel), List.mem_of_getElem? (i := 1003) (by decide +kernel), List.mem_of_getElem? (i := 1004) (by decide +kernel)⟩
theorem lw_p34 : lw_okq (⟨"RunningThreeModel", "fighterComes", "(IIII)V"⟩, 30) := ⟨⟨by decide +kernel, by decide +kernel⟩, List.mem_of_getElem? (i := 896) (by decide +kernel), List.mem_of_getElem? (i := 1007) (by decide +kernel), List.mem_of_getElem? (i := 1008) (by decide +kernel)⟩
theorem lw_p35 : lw_okq (⟨"RunningThreeModel", "isFighter", "(I)Z"⟩, 30) := ⟨⟨by decide +kernel, by decide +kernel⟩, List.mem_of_getElem? (i := 896) (by decide +kernel), List.mem_of_getElem? (i := 1016) (by decide +kernel), List.mem_of_getElem? (i := 1017) (by decide +kernel)⟩
theorem lw_p36 : lw_okq (⟨"RunningThreeModel", "hurtOf", "(I)I"⟩, 30) := ⟨⟨by decide +kernel, by decide +kernel⟩, List.mem_of_getElem? (i := 896) (by decide +kernel), List.mem_of_getElem? (i := 1020) (by decide +kernel), List.mem_of_getElem? (i := 1021) (by decide +kernel)⟩
theorem lw_p37 : lw_okq (⟨"RunningThreeModel", "force", "(II)I"⟩, 30) := ⟨⟨by decide +kernel, by decide +kernel⟩, List.mem_of_getElem? (i := 896) (by decide +kernel), List.mem_of_getElem? (i := 1024) (by decide +kernel), List.mem_of_getElem? (i := 1025) (by decide +kernel)⟩
theorem lw_p38 : lw_okq (⟨"RunningThreeModel", "place", "(I)I"⟩, 30) := ⟨⟨by decide +kernel, by decide +kernel⟩, List.mem_of_getElem? (i := 896) (by decide +kernel), List.mem_of_getElem? (i := 1028) (by decide +kernel), List.mem_of_getElem? (i := 1029) (by decide +kernel)⟩
theorem lw_p39 : lw_okq (⟨"RunningThreeModel", "runs", "(I)I"⟩, 30) := ⟨⟨by decide +kernel, by decide +kernel⟩, List.mem_of_getElem? (i := 896) (by decide +kernel), List.mem_of_getElem? (i := 1032) (by decide +kernel), List.mem_of_getElem? (i := 1033) (by decide +kernel)⟩
theorem lw_p40 : lw_okq (⟨"RunningThreeModel", "isDown", "(I)Z"⟩, 30) := ⟨⟨by decide +kernel, by decide +kernel⟩, List.mem_of_getElem? (i := 896) (by decide +kernel), List.mem_of_getElem? (i := 1036) (by decide +kernel), List.mem_of_getElem? (i := 1037) (by decide +kernel)⟩
theorem lw_p41 : lw_okq (⟨"RunningThreeModel", "pointsOf", "(III)I"⟩, 30) := ⟨⟨by decide +kernel, by decide +kernel⟩, List.mem_of_getElem? (i := 896) (by decide +kernel), List.mem_of_getElem? (i := 1040) (by decide +kernel), List.mem_of_getElem? (i := 1041) (by decide +kernel)⟩
theorem lw_p42 : lw_okq (⟨"RunningThreeModel", "farthest", "(I)I"⟩, 30) := ⟨⟨by decide +kernel, by decide +kernel⟩, List.mem_of_getElem? (i := 896) (by decide +kernel), List.mem_of_getElem? (i := 1044) (by decide +kernel), List.mem_of_getElem? (i := 1045) (by decide +kernel)⟩
theorem lw_p43 : lw_okq (⟨"RunningThreeModel", "costOf", "(I)I"⟩, 30) := ⟨⟨by decide +kernel, by decide +kernel⟩, List.mem_of_getElem? (i := 896) (by decide +kernel), List.mem_of_getElem? (i := 1065) (by decide +kernel), List.mem_of_getElem? (i := 1066) (by decide +kernel)⟩
theorem lw_p44 : lw_okq (⟨"RunningThreeModel", "here", "()I"⟩, 30) := ⟨⟨by decide +kernel, by decide +kernel⟩, List.mem_of_getElem? (i := 896) (by decide +kernel), List.mem_of_getElem? (i := 1084) (by decide +kernel), List.mem_of_getElem? (i := 1085) (by decide +kernel)⟩
theorem lw_p45 : lw_okq (⟨"RunningThreeModel", "sign", "()I"⟩, 30) := ⟨⟨by decide +kernel, by decide +kernel⟩, List.mem_of_getElem? (i := 896) (by decide +kernel), List.mem_of_getElem? (i := 1088) (by decide +kernel), List.mem_of_getElem? (i := 1089) (by decide +kernel)⟩
theorem lw_p46 : lw_okq (⟨"RunningThreeModel", "has", "(I)Z"⟩, 30) := ⟨⟨by decide +kernel, by decide +kernel⟩, List.mem_of_getElem? (i := 896) (by decide +kernel), List.mem_of_getElem? (i := 1092) (by decide +kernel), List.mem_of_getElem? (i := 1093) (by decide +kernel)⟩
theorem lw_p47 : lw_okq (⟨"RunningThreeModel", "readFighter", "()V"⟩, 30) := ⟨⟨by decide +kernel, by decide +kernel⟩, List.mem_of_getElem? (i := 896) (by decide +kernel), List.mem_of_getElem? (i := 1096) (by decide +kernel), List.mem_of_getElem? (i := 1097) (by decide +kernel)⟩
def lw_privs_3 : List (MethodName × Nat) := [(⟨"RunningThree$Sheet", "lowestBits", "(J)J"⟩, 3), (⟨"RunningThreeModel", "isTurned", "()Z"⟩, 30), (⟨"RunningThreeModel", "fighterComes", "(IIII)V"⟩, 30), (⟨"RunningThreeModel", "isFighter", "(I)Z"⟩, 30), (⟨"RunningThreeModel", "hurtOf", "(I)I"⟩, 30), (⟨"RunningThreeModel", "force", "(II)I"⟩, 30), (⟨"RunningThreeModel", "place", "(I)I"⟩, 30), (⟨"RunningThreeModel", "runs", "(I)I"⟩, 30), (⟨"RunningThreeModel", "isDown", "(I)Z"⟩, 30), (⟨"RunningThreeModel", "pointsOf", "(III)I"⟩, 30), (⟨"RunningThreeModel", "farthest", "(I)I"⟩, 30), (⟨"RunningThreeModel", "costOf", "(I)I"⟩, 30), (⟨"RunningThreeModel", "here", "()I"⟩, 30), (⟨"RunningThreeModel", "sign", "()I"⟩, 30), (⟨"RunningThreeModel", "has", "(I)Z"⟩, 30), (⟨"RunningThreeModel", "readFighter", "()V"⟩, 30)]
theorem lw_r3 : ∀ q ∈ lw_privs_3, lw_okq q := List.forall_mem_cons.mpr ⟨lw_p32, List.forall_mem_cons.mpr ⟨lw_p33, List.forall_mem_cons.mpr ⟨lw_p34, List.forall_mem_cons.mpr ⟨lw_p35, List.forall_mem_cons.mpr ⟨lw_p36, List.forall_mem_cons.mpr ⟨lw_p37, List.forall_mem_cons.mpr ⟨lw_p38, List.forall_mem_cons.mpr ⟨lw_p39, List.forall_mem_cons.mpr ⟨lw_p40, List.forall_mem_cons.mpr ⟨lw_p41, List.forall_mem_cons.mpr ⟨lw_p42, List.forall_mem_cons.mpr ⟨lw_p43, List.forall_mem_cons.mpr ⟨lw_p44, List.forall_mem_cons.mpr ⟨lw_p45, List.forall_mem_cons.mpr ⟨lw_p46, List.forall_mem_cons.mpr ⟨lw_p47, fun _ h => absurd h List.not_mem_nil⟩⟩⟩⟩⟩⟩⟩⟩⟩⟩⟩⟩⟩⟩⟩⟩
theorem lw_p48 : lw_okq (⟨"RunningThreeModel", "digit", "(II)I"⟩, 30) := ⟨⟨by decide +kernel, by decide +kernel⟩, List.mem_of_getElem? (i := 896) (by decide +kernel), List.mem_of_getElem? (i := 1100) (by decide +kernel), List.mem_of_getElem? (i := 1101) (by decide +kernel)⟩
theorem lw_p49 : lw_okq (⟨"RunningThreeModel", "down", "()I"⟩, 30) := ⟨⟨by decide +kernel, by decide +kernel⟩, List.mem_of_getElem? (i := 896) (by decide +kernel), List.mem_of_getElem? (i := 1108) (by decide +kernel), List.mem_of_getElem? (i := 1109) (by decide +kernel)⟩
theorem lw_p50 : lw_okq (⟨"RunningThreeModel", "over", "()I"⟩, 30) := ⟨⟨by decide +kernel, by decide +kernel⟩, List.mem_of_getElem? (i := 896) (by decide +kernel), List.mem_of_getElem? (i := 1112) (by decide +kernel), List.mem_of_getElem? (i := 1113) (by decide +kernel)⟩
theorem lw_p51 : lw_okq (⟨"RunningThreeModel", "notes", "()V"⟩, 30) := ⟨⟨by decide +kernel, by decide +kernel⟩, List.mem_of_getElem? (i := 896) (by decide +kernel), List.mem_of_getElem? (i := 1120) (by decide +kernel), List.mem_of_getElem? (i := 1121) (by decide +kernel)⟩
theorem lw_p52 : lw_okq (⟨"RunningThreeModel", "fights", "()I"⟩, 30) := ⟨⟨by decide +kernel, by decide +kernel⟩, List.mem_of_getElem? (i := 896) (by decide +kernel), List.mem_of_getElem? (i := 1124) (by decide +kernel), List.mem_of_getElem? (i := 1125) (by decide +kernel)⟩
theorem lw_p53 : lw_okq (⟨"RunningThreeModel", "meets", "(I)I"⟩, 30) := ⟨⟨by decide +kernel, by decide +kernel⟩, List.mem_of_getElem? (i := 896) (by decide +kernel), List.mem_of_getElem? (i := 1128) (by decide +kernel), List.mem_of_getElem? (i := 1129) (by decide +kernel)⟩
theorem lw_p54 : lw_okq (⟨"RunningThreeModel", "isCaught", "(I)Z"⟩, 30) := ⟨⟨by decide +kernel, by decide +kernel⟩, List.mem_of_getElem? (i := 896) (by decide +kernel), List.mem_of_getElem? (i := 1138) (by decide +kernel), List.mem_of_getElem? (i := 1139) (by decide +kernel)⟩
theorem lw_p55 : lw_okq (⟨"RunningThreeModel", "pursues", "(II)I"⟩, 30) := ⟨⟨by decide +kernel, by decide +kernel⟩, List.mem_of_getElem? (i := 896) (by decide +kernel), List.mem_of_getElem? (i := 1142) (by decide +kernel), List.mem_of_getElem? (i := 1143) (by decide +kernel)⟩
theorem lw_p56 : lw_okq (⟨"RunningThreeModel", "turns", "(I)V"⟩, 30) := ⟨⟨by decide +kernel, by decide +kernel⟩, List.mem_of_getElem? (i := 896) (by decide +kernel), List.mem_of_getElem? (i := 1146) (by decide +kernel), List.mem_of_getElem? (i := 1147) (by decide +kernel)⟩
theorem lw_p57 : lw_okq (⟨"RunningThreeModel", "comesTo", "(II)I"⟩, 30) := ⟨⟨by decide +kernel, by decide +kernel⟩, List.mem_of_getElem? (i := 896) (by decide +kernel), List.mem_of_getElem? (i := 1150) (by decide +kernel), List.mem_of_getElem? (i := 1151) (by decide +kernel)⟩
theorem lw_p58 : lw_okq (⟨"RunningThreeModel", "chanceOf", "(I)I"⟩, 30) := ⟨⟨by decide +kernel, by decide +kernel⟩, List.mem_of_getElem? (i := 896) (by decide +kernel), List.mem_of_getElem? (i := 1170) (by decide +kernel), List.mem_of_getElem? (i := 1171) (by decide +kernel)⟩
theorem lw_p59 : lw_okq (⟨"RunningThreeModel", "asides", "()V"⟩, 30) := ⟨⟨by decide +kernel, by decide +kernel⟩, List.mem_of_getElem? (i := 896) (by decide +kernel), List.mem_of_getElem? (i := 1174) (by decide +kernel), List.mem_of_getElem? (i := 1175) (by decide +kernel)⟩
theorem lw_p60 : lw_okq (⟨"RunningThreeModel", "likelyBy", "(I)I"⟩, 30) := ⟨⟨by decide +kernel, by decide +kernel⟩, List.mem_of_getElem? (i := 896) (by decide +kernel), List.mem_of_getElem? (i := 1178) (by decide +kernel), List.mem_of_getElem? (i := 1179) (by decide +kernel)⟩
theorem lw_p61 : lw_okq (⟨"RunningThreeModel", "reaches", "(I)V"⟩, 30) := ⟨⟨by decide +kernel, by decide +kernel⟩, List.mem_of_getElem? (i := 896) (by decide +kernel), List.mem_of_getElem? (i := 1182) (by decide +kernel), List.mem_of_getElem? (i := 1183) (by decide +kernel)⟩
theorem lw_p62 : lw_okq (⟨"RunningThreeModel", "likely", "()I"⟩, 30) := ⟨⟨by decide +kernel, by decide +kernel⟩, List.mem_of_getElem? (i := 896) (by decide +kernel), List.mem_of_getElem? (i := 1186) (by decide +kernel), List.mem_of_getElem? (i := 1187) (by decide +kernel)⟩
theorem lw_p63 : lw_okq (⟨"RunningThreeModel", "lines", "()I"⟩, 30) := ⟨⟨by decide +kernel, by decide +kernel⟩, List.mem_of_getElem? (i := 896) (by decide +kernel), List.mem_of_getElem? (i := 1190) (by decide +kernel), List.mem_of_getElem? (i := 1191) (by decide +kernel)⟩
def lw_privs_4 : List (MethodName × Nat) := [(⟨"RunningThreeModel", "digit", "(II)I"⟩, 30), (⟨"RunningThreeModel", "down", "()I"⟩, 30), (⟨"RunningThreeModel", "over", "()I"⟩, 30), (⟨"RunningThreeModel", "notes", "()V"⟩, 30), (⟨"RunningThreeModel", "fights", "()I"⟩, 30), (⟨"RunningThreeModel", "meets", "(I)I"⟩, 30), (⟨"RunningThreeModel", "isCaught", "(I)Z"⟩, 30), (⟨"RunningThreeModel", "pursues", "(II)I"⟩, 30), (⟨"RunningThreeModel", "turns", "(I)V"⟩, 30), (⟨"RunningThreeModel", "comesTo", "(II)I"⟩, 30), (⟨"RunningThreeModel", "chanceOf", "(I)I"⟩, 30), (⟨"RunningThreeModel", "asides", "()V"⟩, 30), (⟨"RunningThreeModel", "likelyBy", "(I)I"⟩, 30), (⟨"RunningThreeModel", "reaches", "(I)V"⟩, 30), (⟨"RunningThreeModel", "likely", "()I"⟩, 30), (⟨"RunningThreeModel", "lines", "()I"⟩, 30)]
theorem lw_r4 : ∀ q ∈ lw_privs_4, lw_okq q := List.forall_mem_cons.mpr ⟨lw_p48, List.forall_mem_cons.mpr ⟨lw_p49, List.forall_mem_cons.mpr ⟨lw_p50, List.forall_mem_cons.mpr ⟨lw_p51, List.forall_mem_cons.mpr ⟨lw_p52, List.forall_mem_cons.mpr ⟨lw_p53, List.forall_mem_cons.mpr ⟨lw_p54, List.forall_mem_cons.mpr ⟨lw_p55, List.forall_mem_cons.mpr ⟨lw_p56, List.forall_mem_cons.mpr ⟨lw_p57, List.forall_mem_cons.mpr ⟨lw_p58, List.forall_mem_cons.mpr ⟨lw_p59, List.forall_mem_cons.mpr ⟨lw_p60, List.forall_mem_cons.mpr ⟨lw_p61, List.forall_mem_cons.mpr ⟨lw_p62, List.forall_mem_cons.mpr ⟨lw_p63, fun _ h => absurd h List.not_mem_nil⟩⟩⟩⟩⟩⟩⟩⟩⟩⟩⟩⟩⟩⟩⟩⟩
theorem lw_p64 : lw_okq (⟨"RunningThreeModel", "fought", "(IIIII[I)I"⟩, 30) := ⟨⟨by decide +kernel, by decide +kernel⟩, List.mem_of_getElem? (i := 896) (by decide +kernel), List.mem_of_getElem? (i := 1195) (by decide +kernel), List.mem_of_getElem? (i := 1196) (by decide +kernel)⟩
theorem lw_p65 : lw_okq (⟨"RunningThreeModel", "aheadOf", "(II)V"⟩, 30) := ⟨⟨by decide +kernel, by decide +kernel⟩, List.mem_of_getElem? (i := 896) (by decide +kernel), List.mem_of_getElem? (i := 1199) (by decide +kernel), List.mem_of_getElem? (i := 1200) (by decide +kernel)⟩
theorem lw_p66 : lw_okq (⟨"RunningThreeModel", "backs", "()V"⟩, 30) := ⟨⟨by decide +kernel, by decide +kernel⟩, List.mem_of_getElem? (i := 896) (by decide +kernel), List.mem_of_getElem? (i := 1203) (by decide +kernel), List.mem_of_getElem? (i := 1204) (by decide +kernel)⟩
theorem lw_p67 : lw_okq (⟨"RunningThreeModel", "isOff", "()Z"⟩, 30) := ⟨⟨by decide +kernel, by decide +kernel⟩, List.mem_of_getElem? (i := 896) (by decide +kernel), List.mem_of_getElem? (i := 1211) (by decide +kernel), List.mem_of_getElem? (i := 1212) (by decide +kernel)⟩
theorem lw_p68 : lw_okq (⟨"RunningThreeModel", "looks", "()V"⟩, 30) := ⟨⟨by decide +kernel, by decide +kernel⟩, List.mem_of_getElem? (i := 896) (by decide +kernel), List.mem_of_getElem? (i := 1215) (by decide +kernel), List.mem_of_getElem? (i := 1216) (by decide +kernel)⟩
theorem lw_p69 : lw_okq (⟨"RunningThreeModel", "isCaughtThen", "(I)Z"⟩, 30) := ⟨⟨by decide +kernel, by decide +kernel⟩, List.mem_of_getElem? (i := 896) (by decide +kernel), List.mem_of_getElem? (i := 1219) (by decide +kernel), List.mem_of_getElem? (i := 1220) (by decide +kernel)⟩
theorem lw_p70 : lw_okq (⟨"RunningThreeModel", "notesRow", "([II)I"⟩, 30) := ⟨⟨by decide +kernel, by decide +kernel⟩, List.mem_of_getElem? (i := 896) (by decide +kernel), List.mem_of_getElem? (i := 1250) (by decide +kernel), List.mem_of_getElem? (i := 1251) (by decide +kernel)⟩
theorem lw_p71 : lw_okq (⟨"RunningThreeModel", "gives", "(I[I)I"⟩, 30) := ⟨⟨by decide +kernel, by decide +kernel⟩, List.mem_of_getElem? (i := 896) (by decide +kernel), List.mem_of_getElem? (i := 1258) (by decide +kernel), List.mem_of_getElem? (i := 1259) (by decide +kernel)⟩
theorem lw_p72 : lw_okq (⟨"RunningThreeModel", "why", "(IIII)I"⟩, 30) := ⟨⟨by decide +kernel, by decide +kernel⟩, List.mem_of_getElem? (i := 896) (by decide +kernel), List.mem_of_getElem? (i := 1273) (by decide +kernel), List.mem_of_getElem? (i := 1274) (by decide +kernel)⟩
theorem lw_p73 : lw_okq (⟨"RunningThreeModel", "puts", "(IIJ)V"⟩, 30) := ⟨⟨by decide +kernel, by decide +kernel⟩, List.mem_of_getElem? (i := 896) (by decide +kernel), List.mem_of_getElem? (i := 1286) (by decide +kernel), List.mem_of_getElem? (i := 1287) (by decide +kernel)⟩
def lw_privs_5 : List (MethodName × Nat) := [(⟨"RunningThreeModel", "fought", "(IIIII[I)I"⟩, 30), (⟨"RunningThreeModel", "aheadOf", "(II)V"⟩, 30), (⟨"RunningThreeModel", "backs", "()V"⟩, 30), (⟨"RunningThreeModel", "isOff", "()Z"⟩, 30), (⟨"RunningThreeModel", "looks", "()V"⟩, 30), (⟨"RunningThreeModel", "isCaughtThen", "(I)Z"⟩, 30), (⟨"RunningThreeModel", "notesRow", "([II)I"⟩, 30), (⟨"RunningThreeModel", "gives", "(I[I)I"⟩, 30), (⟨"RunningThreeModel", "why", "(IIII)I"⟩, 30), (⟨"RunningThreeModel", "puts", "(IIJ)V"⟩, 30)]
theorem lw_r5 : ∀ q ∈ lw_privs_5, lw_okq q := List.forall_mem_cons.mpr ⟨lw_p64, List.forall_mem_cons.mpr ⟨lw_p65, List.forall_mem_cons.mpr ⟨lw_p66, List.forall_mem_cons.mpr ⟨lw_p67, List.forall_mem_cons.mpr ⟨lw_p68, List.forall_mem_cons.mpr ⟨lw_p69, List.forall_mem_cons.mpr ⟨lw_p70, List.forall_mem_cons.mpr ⟨lw_p71, List.forall_mem_cons.mpr ⟨lw_p72, List.forall_mem_cons.mpr ⟨lw_p73, fun _ h => absurd h List.not_mem_nil⟩⟩⟩⟩⟩⟩⟩⟩⟩⟩
def lw_privs : List (MethodName × Nat) := lw_privs_1 ++ (lw_privs_2 ++ (lw_privs_3 ++ (lw_privs_4 ++ (lw_privs_5))))
def lw_tbl : List Cond := k2_sels lw_privs ++ tables_1
theorem lw_privs_ok : ∀ q ∈ lw_privs, lw_okq q := by
  show ∀ q ∈ lw_privs_1 ++ (lw_privs_2 ++ (lw_privs_3 ++ (lw_privs_4 ++ (lw_privs_5)))), lw_okq q
  exact List.forall_mem_append.mpr ⟨lw_r1, List.forall_mem_append.mpr ⟨lw_r2, List.forall_mem_append.mpr ⟨lw_r3, List.forall_mem_append.mpr ⟨lw_r4, lw_r5⟩⟩⟩⟩
-- ===== end of PART A; then your names; then what follows =====
end
section
def RX0 : String := "RunningThree$Chances"
def TX0 : u_T := fun k => match k with
  | 0 => ("RunningThree$Chances", "others", "I", false)
  | 1 => ("RunningThree$Chances", "order", "[I", true)
  | 2 => ("RunningThree$Chances", "coming", "[I", true)
  | 3 => ("RunningThree$Chances", "waits", "[I", true)
  | 4 => ("RunningThree$Chances", "begins", "[I", true)
  | 5 => ("RunningThree$Chances", "idle", "[I", true)
  | 6 => ("RunningThree$Chances", "turnAt", "[I", true)
  | 7 => ("RunningThree$Chances", "forceAt", "[I", true)
  | 8 => ("RunningThree$Chances", "runnerForces", "[I", true)
  | 9 => ("RunningThree$Chances", "values", "[I", true)
  | 10 => ("RunningThree$Chances", "keys", "[I", true)
  | _ => ("RunningThree$Chances", "known", "[I", true)
def tyX0 : Nat → FieldType := fun k => match k with
  | 0 => .int
  | 1 => .array .int
  | 2 => .array .int
  | 3 => .array .int
  | 4 => .array .int
  | 5 => .array .int
  | 6 => .array .int
  | 7 => .array .int
  | 8 => .array .int
  | 9 => .array .int
  | 10 => .array .int
  | _ => .array .int
abbrev wsX00 : List Cond := u_ws RX0 TX0 12
theorem nmX0 : ∀ a, a < 12 → ∀ b, b < 12 → a ≠ b → (TX0 a).2.1 ≠ (TX0 b).2.1 := by decide +kernel
theorem tyX0_ok : ∀ k, k < 12 → parseFieldDescriptor (TX0 k).2.2.1 = some (tyX0 k) := by decide +kernel
abbrev cX0_init : ByteArray := prog_2_method_1_code
def yX0_init : MethodName := ⟨RX0, "<init>", "()V"⟩
abbrev cX0_forget : ByteArray := prog_2_method_2_code
def yX0_forget : MethodName := ⟨RX0, "forget", "()V"⟩
abbrev cX0_takeComing : ByteArray := prog_2_method_3_code
def yX0_takeComing : MethodName := ⟨RX0, "takeComing", "(LRunningThree$Scene;)V"⟩
abbrev cX0_tellComing : ByteArray := prog_2_method_4_code
def yX0_tellComing : MethodName := ⟨RX0, "tellComing", "(LRunningThree$Scene;I)V"⟩
abbrev cX0_tellAllAtOnce : ByteArray := prog_2_method_5_code
def yX0_tellAllAtOnce : MethodName := ⟨RX0, "tellAllAtOnce", "()V"⟩
abbrev cX0_chanceFrom : ByteArray := prog_2_method_6_code
def yX0_chanceFrom : MethodName := ⟨RX0, "chanceFrom", "(LRunningThree$Scene;I)I"⟩
abbrev cX0_putInOrder : ByteArray := prog_2_method_7_code
def yX0_putInOrder : MethodName := ⟨RX0, "putInOrder", "(LRunningThree$Scene;)V"⟩
abbrev cX0_tellWaits : ByteArray := prog_2_method_8_code
def yX0_tellWaits : MethodName := ⟨RX0, "tellWaits", "(I)V"⟩
abbrev cX0_keyOf : ByteArray := prog_2_method_9_code
def yX0_keyOf : MethodName := ⟨RX0, "keyOf", "()I"⟩
abbrev cX0_foldBack : ByteArray := prog_2_method_10_code
def yX0_foldBack : MethodName := ⟨RX0, "foldBack", "(LRunningThree$Scene;)I"⟩
abbrev cX0_tellForces : ByteArray := prog_2_method_11_code
def yX0_tellForces : MethodName := ⟨RX0, "tellForces", "(LRunningThree$Scene;)V"⟩
abbrev cX0_tellIdle : ByteArray := prog_2_method_12_code
def yX0_tellIdle : MethodName := ⟨RX0, "tellIdle", "()V"⟩
abbrev cX0_settleEnds : ByteArray := prog_2_method_13_code
def yX0_settleEnds : MethodName := ⟨RX0, "settleEnds", "(I)V"⟩
abbrev cX0_leastHurt : ByteArray := prog_2_method_14_code
def yX0_leastHurt : MethodName := ⟨RX0, "leastHurt", "(IIII)I"⟩
abbrev cX0_foldMoment : ByteArray := prog_2_method_15_code
def yX0_foldMoment : MethodName := ⟨RX0, "foldMoment", "(II)V"⟩
abbrev cX0_countThere : ByteArray := prog_2_method_16_code
def yX0_countThere : MethodName := ⟨RX0, "countThere", "(I)I"⟩
abbrev cX0_fold : ByteArray := prog_2_method_17_code
def yX0_fold : MethodName := ⟨RX0, "fold", "(III)V"⟩
def RX1 : String := "RunningThree$FieldText"
def TX1 : u_T := fun k => match k with
  | 0 => ("RunningThree$FieldText", "letters", "[I", true)
  | 1 => ("RunningThree$FieldText", "length", "I", false)
  | 2 => ("RunningThree$FieldText", "at", "I", false)
  | _ => ("RunningThree$FieldText", "draft", "LRunningThree$Scene;", true)
def tyX1 : Nat → FieldType := fun k => match k with
  | 0 => .array .int
  | 1 => .int
  | 2 => .int
  | _ => .object "RunningThree$Scene"
abbrev wsX10 : List Cond := u_ws RX1 TX1 4
theorem nmX1 : ∀ a, a < 4 → ∀ b, b < 4 → a ≠ b → (TX1 a).2.1 ≠ (TX1 b).2.1 := by decide +kernel
theorem tyX1_ok : ∀ k, k < 4 → parseFieldDescriptor (TX1 k).2.2.1 = some (tyX1 k) := by decide +kernel
abbrev cX1_init : ByteArray := prog_3_method_1_code
def yX1_init : MethodName := ⟨RX1, "<init>", "()V"⟩
abbrev cX1_add : ByteArray := prog_3_method_2_code
def yX1_add : MethodName := ⟨RX1, "add", "(I)Z"⟩
abbrev cX1_setUp : ByteArray := prog_3_method_3_code
def yX1_setUp : MethodName := ⟨RX1, "setUp", "(LRunningThree$Scene;)V"⟩
abbrev cX1_read : ByteArray := prog_3_method_4_code
def yX1_read : MethodName := ⟨RX1, "read", "()Z"⟩
abbrev cX1_readGround : ByteArray := prog_3_method_5_code
def yX1_readGround : MethodName := ⟨RX1, "readGround", "()Z"⟩
abbrev cX1_readFighters : ByteArray := prog_3_method_6_code
def yX1_readFighters : MethodName := ⟨RX1, "readFighters", "()Z"⟩
abbrev cX1_readFighter : ByteArray := prog_3_method_7_code
def yX1_readFighter : MethodName := ⟨RX1, "readFighter", "()Z"⟩
abbrev cX1_peek : ByteArray := prog_3_method_8_code
def yX1_peek : MethodName := ⟨RX1, "peek", "()I"⟩
abbrev cX1_take : ByteArray := prog_3_method_9_code
def yX1_take : MethodName := ⟨RX1, "take", "(I)Z"⟩
abbrev cX1_takeDigit : ByteArray := prog_3_method_10_code
def yX1_takeDigit : MethodName := ⟨RX1, "takeDigit", "(II)I"⟩
def RX2 : String := "RunningThree$Foretelling"
def TX2 : u_T := fun k => match k with
  | 0 => ("RunningThree$Foretelling", "trial", "LRunningThree$Scene;", true)
  | 1 => ("RunningThree$Foretelling", "chances", "LRunningThree$Chances;", true)
  | _ => ("RunningThree$Foretelling", "row", "[I", true)
def tyX2 : Nat → FieldType := fun k => match k with
  | 0 => .object "RunningThree$Scene"
  | 1 => .object "RunningThree$Chances"
  | _ => .array .int
abbrev wsX20 : List Cond := u_ws RX2 TX2 3
theorem nmX2 : ∀ a, a < 3 → ∀ b, b < 3 → a ≠ b → (TX2 a).2.1 ≠ (TX2 b).2.1 := by decide +kernel
theorem tyX2_ok : ∀ k, k < 3 → parseFieldDescriptor (TX2 k).2.2.1 = some (tyX2 k) := by decide +kernel
abbrev cX2_init : ByteArray := prog_4_method_1_code
def yX2_init : MethodName := ⟨RX2, "<init>", "()V"⟩
abbrev cX2_begin : ByteArray := prog_4_method_2_code
def yX2_begin : MethodName := ⟨RX2, "begin", "(LRunningThree$Scene;)V"⟩
abbrev cX2_chanceBy : ByteArray := prog_4_method_3_code
def yX2_chanceBy : MethodName := ⟨RX2, "chanceBy", "(I)I"⟩
abbrev cX2_chanceTogether : ByteArray := prog_4_method_4_code
def yX2_chanceTogether : MethodName := ⟨RX2, "chanceTogether", "()I"⟩
abbrev cX2_foresee : ByteArray := prog_4_method_5_code
def yX2_foresee : MethodName := ⟨RX2, "foresee", "(I)I"⟩
abbrev cX2_foreseen : ByteArray := prog_4_method_6_code
def yX2_foreseen : MethodName := ⟨RX2, "foreseen", "(I)I"⟩
abbrev cX2_firstWith : ByteArray := prog_4_method_7_code
def yX2_firstWith : MethodName := ⟨RX2, "firstWith", "(I)I"⟩
abbrev cX2_lastWith : ByteArray := prog_4_method_8_code
def yX2_lastWith : MethodName := ⟨RX2, "lastWith", "(I)I"⟩
abbrev cX2_suppose : ByteArray := prog_4_method_9_code
def yX2_suppose : MethodName := ⟨RX2, "suppose", "(II)V"⟩
abbrev cX2_supposeHurt : ByteArray := prog_4_method_10_code
def yX2_supposeHurt : MethodName := ⟨RX2, "supposeHurt", "(II)V"⟩
abbrev cX2_winsOf : ByteArray := prog_4_method_11_code
def yX2_winsOf : MethodName := ⟨RX2, "winsOf", "(LRunningThree$Scene;II)I"⟩
abbrev cX2_winsOne : ByteArray := prog_4_method_12_code
def yX2_winsOne : MethodName := ⟨RX2, "winsOne", "()Z"⟩
def RX3 : String := "RunningThree$Kinds"
def TX3 : u_T := fun k => match k with
  | _ => ("", "", "", false)
def tyX3 : Nat → FieldType := fun k => match k with
  | _ => .int
abbrev wsX30 : List Cond := u_ws RX3 TX3 0
theorem nmX3 : ∀ a, a < 0 → ∀ b, b < 0 → a ≠ b → (TX3 a).2.1 ≠ (TX3 b).2.1 := by decide +kernel
theorem tyX3_ok : ∀ k, k < 0 → parseFieldDescriptor (TX3 k).2.2.1 = some (tyX3 k) := by decide +kernel
abbrev cX3_force : ByteArray := prog_5_method_2_code
def yX3_force : MethodName := ⟨RX3, "force", "(III)I"⟩
abbrev cX3_stride : ByteArray := prog_5_method_3_code
def yX3_stride : MethodName := ⟨RX3, "stride", "(III)I"⟩
abbrev cX3_pointsIn : ByteArray := prog_5_method_4_code
def yX3_pointsIn : MethodName := ⟨RX3, "pointsIn", "(III)I"⟩
abbrev cX3_momentsFor : ByteArray := prog_5_method_5_code
def yX3_momentsFor : MethodName := ⟨RX3, "momentsFor", "(III)I"⟩
abbrev cX3_shares : ByteArray := prog_5_method_6_code
def yX3_shares : MethodName := ⟨RX3, "shares", "(II)I"⟩
def RX4 : String := "RunningThree$Past"
def TX4 : u_T := fun k => match k with
  | 0 => ("RunningThree$Past", "known", "I", false)
  | 1 => ("RunningThree$Past", "next", "I", false)
  | 2 => ("RunningThree$Past", "hurts", "[I", true)
  | 3 => ("RunningThree$Past", "moments", "[I", true)
  | 4 => ("RunningThree$Past", "stands", "[I", true)
  | _ => ("RunningThree$Past", "draws", "[I", true)
def tyX4 : Nat → FieldType := fun k => match k with
  | 0 => .int
  | 1 => .int
  | 2 => .array .int
  | 3 => .array .int
  | 4 => .array .int
  | _ => .array .int
abbrev wsX40 : List Cond := u_ws RX4 TX4 6
theorem nmX4 : ∀ a, a < 6 → ∀ b, b < 6 → a ≠ b → (TX4 a).2.1 ≠ (TX4 b).2.1 := by decide +kernel
theorem tyX4_ok : ∀ k, k < 6 → parseFieldDescriptor (TX4 k).2.2.1 = some (tyX4 k) := by decide +kernel
abbrev cX4_init : ByteArray := prog_6_method_1_code
def yX4_init : MethodName := ⟨RX4, "<init>", "()V"⟩
abbrev cX4_forget : ByteArray := prog_6_method_2_code
def yX4_forget : MethodName := ⟨RX4, "forget", "()V"⟩
abbrev cX4_takeFrom : ByteArray := prog_6_method_3_code
def yX4_takeFrom : MethodName := ⟨RX4, "takeFrom", "(LRunningThree$Past;)V"⟩
abbrev cX4_remember : ByteArray := prog_6_method_4_code
def yX4_remember : MethodName := ⟨RX4, "remember", "(LRunningThree$Scene;)V"⟩
abbrev cX4_bringBack : ByteArray := prog_6_method_5_code
def yX4_bringBack : MethodName := ⟨RX4, "bringBack", "(LRunningThree$Scene;)Z"⟩
def RX5 : String := "RunningThree$Scene"
def TX5 : u_T := fun k => match k with
  | 0 => ("RunningThree$Scene", "cells", "I", false)
  | 1 => ("RunningThree$Scene", "sorts", "[I", true)
  | 2 => ("RunningThree$Scene", "costs", "[I", true)
  | 3 => ("RunningThree$Scene", "fighters", "I", false)
  | 4 => ("RunningThree$Scene", "kinds", "[I", true)
  | 5 => ("RunningThree$Scene", "strengths", "[I", true)
  | 6 => ("RunningThree$Scene", "paces", "[I", true)
  | 7 => ("RunningThree$Scene", "hurts", "[I", true)
  | 8 => ("RunningThree$Scene", "start", "I", false)
  | 9 => ("RunningThree$Scene", "moment", "I", false)
  | 10 => ("RunningThree$Scene", "stand", "I", false)
  | 11 => ("RunningThree$Scene", "coming", "[I", true)
  | _ => ("RunningThree$Scene", "draw", "I", false)
def tyX5 : Nat → FieldType := fun k => match k with
  | 0 => .int
  | 1 => .array .int
  | 2 => .array .int
  | 3 => .int
  | 4 => .array .int
  | 5 => .array .int
  | 6 => .array .int
  | 7 => .array .int
  | 8 => .int
  | 9 => .int
  | 10 => .int
  | 11 => .array .int
  | _ => .int
abbrev wsX50 : List Cond := u_ws RX5 TX5 13
theorem nmX5 : ∀ a, a < 13 → ∀ b, b < 13 → a ≠ b → (TX5 a).2.1 ≠ (TX5 b).2.1 := by decide +kernel
theorem tyX5_ok : ∀ k, k < 13 → parseFieldDescriptor (TX5 k).2.2.1 = some (tyX5 k) := by decide +kernel
abbrev cX5_init : ByteArray := prog_7_method_1_code
def yX5_init : MethodName := ⟨RX5, "<init>", "()V"⟩
abbrev cX5_takeFrom : ByteArray := prog_7_method_2_code
def yX5_takeFrom : MethodName := ⟨RX5, "takeFrom", "(LRunningThree$Scene;)V"⟩
abbrev cX5_takeHurts : ByteArray := prog_7_method_3_code
def yX5_takeHurts : MethodName := ⟨RX5, "takeHurts", "(LRunningThree$Scene;)V"⟩
abbrev cX5_clear : ByteArray := prog_7_method_4_code
def yX5_clear : MethodName := ⟨RX5, "clear", "()V"⟩
abbrev cX5_addCell : ByteArray := prog_7_method_5_code
def yX5_addCell : MethodName := ⟨RX5, "addCell", "(I)V"⟩
abbrev cX5_changeSort : ByteArray := prog_7_method_6_code
def yX5_changeSort : MethodName := ⟨RX5, "changeSort", "(II)V"⟩
abbrev cX5_costOf : ByteArray := prog_7_method_7_code
def yX5_costOf : MethodName := ⟨RX5, "costOf", "(I)I"⟩
abbrev cX5_addFighter : ByteArray := prog_7_method_8_code
def yX5_addFighter : MethodName := ⟨RX5, "addFighter", "(IIII)I"⟩
abbrev cX5_hasCell : ByteArray := prog_7_method_9_code
def yX5_hasCell : MethodName := ⟨RX5, "hasCell", "(I)Z"⟩
abbrev cX5_exists : ByteArray := prog_7_method_10_code
def yX5_exists : MethodName := ⟨RX5, "exists", "(I)Z"⟩
abbrev cX5_isUp : ByteArray := prog_7_method_11_code
def yX5_isUp : MethodName := ⟨RX5, "isUp", "(I)Z"⟩
abbrev cX5_hasTurned : ByteArray := prog_7_method_12_code
def yX5_hasTurned : MethodName := ⟨RX5, "hasTurned", "()Z"⟩
abbrev cX5_thoseDown : ByteArray := prog_7_method_13_code
def yX5_thoseDown : MethodName := ⟨RX5, "thoseDown", "()I"⟩
abbrev cX5_othersUp : ByteArray := prog_7_method_14_code
def yX5_othersUp : MethodName := ⟨RX5, "othersUp", "()I"⟩
abbrev cX5_outcome : ByteArray := prog_7_method_15_code
def yX5_outcome : MethodName := ⟨RX5, "outcome", "()I"⟩
abbrev cX5_forceOf : ByteArray := prog_7_method_16_code
def yX5_forceOf : MethodName := ⟨RX5, "forceOf", "(I)I"⟩
abbrev cX5_pointsOf : ByteArray := prog_7_method_17_code
def yX5_pointsOf : MethodName := ⟨RX5, "pointsOf", "(III)I"⟩
abbrev cX5_cellBy : ByteArray := prog_7_method_18_code
def yX5_cellBy : MethodName := ⟨RX5, "cellBy", "(I)I"⟩
abbrev cX5_cellRunning : ByteArray := prog_7_method_19_code
def yX5_cellRunning : MethodName := ⟨RX5, "cellRunning", "(II)I"⟩
abbrev cX5_momentsOut : ByteArray := prog_7_method_20_code
def yX5_momentsOut : MethodName := ⟨RX5, "momentsOut", "(II)I"⟩
abbrev cX5_cellNow : ByteArray := prog_7_method_21_code
def yX5_cellNow : MethodName := ⟨RX5, "cellNow", "(I)I"⟩
abbrev cX5_cellBehindTurn : ByteArray := prog_7_method_22_code
def yX5_cellBehindTurn : MethodName := ⟨RX5, "cellBehindTurn", "(I)I"⟩
abbrev cX5_comingOf : ByteArray := prog_7_method_23_code
def yX5_comingOf : MethodName := ⟨RX5, "comingOf", "(I)I"⟩
abbrev cX5_comesTo : ByteArray := prog_7_method_24_code
def yX5_comesTo : MethodName := ⟨RX5, "comesTo", "(II)I"⟩
abbrev cX5_isCaughtIn : ByteArray := prog_7_method_25_code
def yX5_isCaughtIn : MethodName := ⟨RX5, "isCaughtIn", "(I)Z"⟩
abbrev cX5_turnMoment : ByteArray := prog_7_method_26_code
def yX5_turnMoment : MethodName := ⟨RX5, "turnMoment", "(II)I"⟩
abbrev cX5_turnIn : ByteArray := prog_7_method_27_code
def yX5_turnIn : MethodName := ⟨RX5, "turnIn", "(I)V"⟩
abbrev cX5_firstThere : ByteArray := prog_7_method_28_code
def yX5_firstThere : MethodName := ⟨RX5, "firstThere", "()I"⟩
abbrev cX5_isThere : ByteArray := prog_7_method_29_code
def yX5_isThere : MethodName := ⟨RX5, "isThere", "(I)Z"⟩
abbrev cX5_countThere : ByteArray := prog_7_method_30_code
def yX5_countThere : MethodName := ⟨RX5, "countThere", "()I"⟩
abbrev cX5_odds : ByteArray := prog_7_method_31_code
def yX5_odds : MethodName := ⟨RX5, "odds", "(III)I"⟩
abbrev cX5_fightFirst : ByteArray := prog_7_method_32_code
def yX5_fightFirst : MethodName := ⟨RX5, "fightFirst", "()I"⟩
abbrev cX5_drawOfSixteen : ByteArray := prog_7_method_33_code
def yX5_drawOfSixteen : MethodName := ⟨RX5, "drawOfSixteen", "()I"⟩
abbrev cX5_waitForNext : ByteArray := prog_7_method_34_code
def yX5_waitForNext : MethodName := ⟨RX5, "waitForNext", "()V"⟩
def RX6 : String := "RunningThree$Sheet"
def TX6 : u_T := fun k => match k with
  | 0 => ("RunningThree$Sheet", "lane", "I", false)
  | 1 => ("RunningThree$Sheet", "size", "I", false)
  | _ => ("RunningThree$Sheet", "items", "[J", true)
def tyX6 : Nat → FieldType := fun k => match k with
  | 0 => .int
  | 1 => .int
  | _ => .array .long
abbrev wsX60 : List Cond := u_ws RX6 TX6 3
theorem nmX6 : ∀ a, a < 3 → ∀ b, b < 3 → a ≠ b → (TX6 a).2.1 ≠ (TX6 b).2.1 := by decide +kernel
theorem tyX6_ok : ∀ k, k < 3 → parseFieldDescriptor (TX6 k).2.2.1 = some (tyX6 k) := by decide +kernel
abbrev cX6_init : ByteArray := prog_8_method_1_code
def yX6_init : MethodName := ⟨RX6, "<init>", "()V"⟩
abbrev cX6_hold : ByteArray := prog_8_method_2_code
def yX6_hold : MethodName := ⟨RX6, "hold", "(II)V"⟩
abbrev cX6_dropAll : ByteArray := prog_8_method_3_code
def yX6_dropAll : MethodName := ⟨RX6, "dropAll", "()V"⟩
abbrev cX6_isThere : ByteArray := prog_8_method_4_code
def yX6_isThere : MethodName := ⟨RX6, "isThere", "()Z"⟩
abbrev cX6_holds : ByteArray := prog_8_method_5_code
def yX6_holds : MethodName := ⟨RX6, "holds", "(II)Z"⟩
abbrev cX6_refusal : ByteArray := prog_8_method_6_code
def yX6_refusal : MethodName := ⟨RX6, "refusal", "(III)I"⟩
abbrev cX6_itemAt : ByteArray := prog_8_method_7_code
def yX6_itemAt : MethodName := ⟨RX6, "itemAt", "(I)J"⟩
abbrev cX6_put : ByteArray := prog_8_method_8_code
def yX6_put : MethodName := ⟨RX6, "put", "(IJ)V"⟩
abbrev cX6_lowestBits : ByteArray := prog_8_method_9_code
def yX6_lowestBits : MethodName := ⟨RX6, "lowestBits", "(J)J"⟩
def RX7 : String := "RunningThree"
def TX7 : u_T := fun k => match k with
  | 0 => ("RunningThree", "scene", "LRunningThree$Scene;", true)
  | 1 => ("RunningThree", "past", "LRunningThree$Past;", true)
  | 2 => ("RunningThree", "keptScene", "LRunningThree$Scene;", true)
  | 3 => ("RunningThree", "keptPast", "LRunningThree$Past;", true)
  | 4 => ("RunningThree", "kept", "Z", false)
  | 5 => ("RunningThree", "tape", "LRunningThree$FieldText;", true)
  | 6 => ("RunningThree", "foretelling", "LRunningThree$Foretelling;", true)
  | _ => ("RunningThree", "sheets", "[LRunningThree$Sheet;", true)
def tyX7 : Nat → FieldType := fun k => match k with
  | 0 => .object "RunningThree$Scene"
  | 1 => .object "RunningThree$Past"
  | 2 => .object "RunningThree$Scene"
  | 3 => .object "RunningThree$Past"
  | 4 => .boolean
  | 5 => .object "RunningThree$FieldText"
  | 6 => .object "RunningThree$Foretelling"
  | _ => .array (.object "RunningThree$Sheet")
abbrev wsX70 : List Cond := u_ws RX7 TX7 8
theorem nmX7 : ∀ a, a < 8 → ∀ b, b < 8 → a ≠ b → (TX7 a).2.1 ≠ (TX7 b).2.1 := by decide +kernel
theorem tyX7_ok : ∀ k, k < 8 → parseFieldDescriptor (TX7 k).2.2.1 = some (tyX7 k) := by decide +kernel
abbrev cX7_init : ByteArray := prog_1_method_1_code
def yX7_init : MethodName := ⟨RX7, "<init>", "()V"⟩
abbrev cX7_fighter : ByteArray := prog_1_method_2_code
def yX7_fighter : MethodName := ⟨RX7, "fighter", "(III)I"⟩
abbrev cX7_of : ByteArray := prog_1_method_3_code
def yX7_of : MethodName := ⟨RX7, "of", "(II)I"⟩
abbrev cX7_hurt : ByteArray := prog_1_method_4_code
def yX7_hurt : MethodName := ⟨RX7, "hurt", "(II)I"⟩
abbrev cX7_start : ByteArray := prog_1_method_5_code
def yX7_start : MethodName := ⟨RX7, "start", "(I)I"⟩
abbrev cX7_sort : ByteArray := prog_1_method_6_code
def yX7_sort : MethodName := ⟨RX7, "sort", "(I)I"⟩
abbrev cX7_cost : ByteArray := prog_1_method_7_code
def yX7_cost : MethodName := ⟨RX7, "cost", "(I)I"⟩
abbrev cX7_points : ByteArray := prog_1_method_8_code
def yX7_points : MethodName := ⟨RX7, "points", "(II)I"⟩
abbrev cX7_type : ByteArray := prog_1_method_9_code
def yX7_type : MethodName := ⟨RX7, "type", "(I)I"⟩
abbrev cX7_field : ByteArray := prog_1_method_10_code
def yX7_field : MethodName := ⟨RX7, "field", "()I"⟩
abbrev cX7_count : ByteArray := prog_1_method_11_code
def yX7_count : MethodName := ⟨RX7, "count", "(I)I"⟩
abbrev cX7_moment : ByteArray := prog_1_method_12_code
def yX7_moment : MethodName := ⟨RX7, "moment", "()I"⟩
abbrev cX7_runOn : ByteArray := prog_1_method_13_code
def yX7_runOn : MethodName := ⟨RX7, "runOn", "()I"⟩
abbrev cX7_turn : ByteArray := prog_1_method_14_code
def yX7_turn : MethodName := ⟨RX7, "turn", "()I"⟩
abbrev cX7_undo : ByteArray := prog_1_method_15_code
def yX7_undo : MethodName := ⟨RX7, "undo", "()I"⟩
abbrev cX7_seed : ByteArray := prog_1_method_16_code
def yX7_seed : MethodName := ⟨RX7, "seed", "(I)I"⟩
abbrev cX7_chance : ByteArray := prog_1_method_17_code
def yX7_chance : MethodName := ⟨RX7, "chance", "(I)I"⟩
abbrev cX7_best : ByteArray := prog_1_method_18_code
def yX7_best : MethodName := ⟨RX7, "best", "(I)I"⟩
abbrev cX7_late : ByteArray := prog_1_method_19_code
def yX7_late : MethodName := ⟨RX7, "late", "(I)I"⟩
abbrev cX7_together : ByteArray := prog_1_method_20_code
def yX7_together : MethodName := ⟨RX7, "together", "(II)I"⟩
abbrev cX7_ditched : ByteArray := prog_1_method_21_code
def yX7_ditched : MethodName := ⟨RX7, "ditched", "()I"⟩
abbrev cX7_ahead : ByteArray := prog_1_method_22_code
def yX7_ahead : MethodName := ⟨RX7, "ahead", "(I)I"⟩
abbrev cX7_fields : ByteArray := prog_1_method_23_code
def yX7_fields : MethodName := ⟨RX7, "fields", "(II)I"⟩
abbrev cX7_image : ByteArray := prog_1_method_24_code
def yX7_image : MethodName := ⟨RX7, "image", "()I"⟩
abbrev cX7_restore : ByteArray := prog_1_method_25_code
def yX7_restore : MethodName := ⟨RX7, "restore", "()I"⟩
abbrev cX7_strides : ByteArray := prog_1_method_26_code
def yX7_strides : MethodName := ⟨RX7, "strides", "(IIIII)I"⟩
abbrev cX7_areSightings : ByteArray := prog_1_method_27_code
def yX7_areSightings : MethodName := ⟨RX7, "areSightings", "(LRunningThree$Sheet;II)Z"⟩
abbrev cX7_strodeSo : ByteArray := prog_1_method_28_code
def yX7_strodeSo : MethodName := ⟨RX7, "strodeSo", "(IILRunningThree$Sheet;II)Z"⟩
abbrev cX7_far : ByteArray := prog_1_method_29_code
def yX7_far : MethodName := ⟨RX7, "far", "(IIII)I"⟩
abbrev cX7_turnsThatFit : ByteArray := prog_1_method_30_code
def yX7_turnsThatFit : MethodName := ⟨RX7, "turnsThatFit", "(LRunningThree$Sheet;II)I"⟩
abbrev cX7_firstTurnThatFits : ByteArray := prog_1_method_31_code
def yX7_firstTurnThatFits : MethodName := ⟨RX7, "firstTurnThatFits", "(LRunningThree$Sheet;II)I"⟩
abbrev cX7_lastFarTurn : ByteArray := prog_1_method_32_code
def yX7_lastFarTurn : MethodName := ⟨RX7, "lastFarTurn", "()I"⟩
abbrev cX7_comeAsTold : ByteArray := prog_1_method_33_code
def yX7_comeAsTold : MethodName := ⟨RX7, "comeAsTold", "(ILRunningThree$Sheet;I)Z"⟩
abbrev cX7_film : ByteArray := prog_1_method_34_code
def yX7_film : MethodName := ⟨RX7, "film", "(IIII)I"⟩
abbrev cX7_sheet : ByteArray := prog_1_method_35_code
def yX7_sheet : MethodName := ⟨RX7, "sheet", "(III)I"⟩
abbrev cX7_drop : ByteArray := prog_1_method_36_code
def yX7_drop : MethodName := ⟨RX7, "drop", "(I)I"⟩
abbrev cX7_item : ByteArray := prog_1_method_37_code
def yX7_item : MethodName := ⟨RX7, "item", "(IIIJ)I"⟩
abbrev cX7_copy : ByteArray := prog_1_method_38_code
def yX7_copy : MethodName := ⟨RX7, "copy", "(IIIII)I"⟩
abbrev cX7_within : ByteArray := prog_1_method_39_code
def yX7_within : MethodName := ⟨RX7, "within", "(III)Z"⟩
abbrev cX7_isSheet : ByteArray := prog_1_method_40_code
def yX7_isSheet : MethodName := ⟨RX7, "isSheet", "(I)Z"⟩
abbrev cX7_isLane : ByteArray := prog_1_method_41_code
def yX7_isLane : MethodName := ⟨RX7, "isLane", "(I)Z"⟩
abbrev cX7_mayTurn : ByteArray := prog_1_method_42_code
def yX7_mayTurn : MethodName := ⟨RX7, "mayTurn", "()Z"⟩
def RX8 : String := "RunningThreeModel"
def TX8 : u_T := fun k => match k with
  | 0 => ("RunningThreeModel", "cells", "I", false)
  | 1 => ("RunningThreeModel", "fighters", "I", false)
  | 2 => ("RunningThreeModel", "sorts", "[I", true)
  | 3 => ("RunningThreeModel", "fighter", "[I", true)
  | 4 => ("RunningThreeModel", "start", "I", false)
  | 5 => ("RunningThreeModel", "now", "[I", true)
  | 6 => ("RunningThreeModel", "together", "Z", false)
  | 7 => ("RunningThreeModel", "tape", "[I", true)
  | 8 => ("RunningThreeModel", "taped", "I", false)
  | 9 => ("RunningThreeModel", "at", "I", false)
  | 10 => ("RunningThreeModel", "wrong", "Z", false)
  | 11 => ("RunningThreeModel", "manyCells", "I", false)
  | 12 => ("RunningThreeModel", "manyFighters", "I", false)
  | 13 => ("RunningThreeModel", "readSorts", "[I", true)
  | 14 => ("RunningThreeModel", "readFighters", "[I", true)
  | 15 => ("RunningThreeModel", "undone", "[I", true)
  | 16 => ("RunningThreeModel", "undos", "I", false)
  | 17 => ("RunningThreeModel", "aside", "[I", true)
  | 18 => ("RunningThreeModel", "row", "[I", true)
  | 19 => ("RunningThreeModel", "later", "[I", true)
  | 20 => ("RunningThreeModel", "sooner", "[I", true)
  | 21 => ("RunningThreeModel", "by", "[I", true)
  | 22 => ("RunningThreeModel", "most", "I", false)
  | 23 => ("RunningThreeModel", "first", "I", false)
  | 24 => ("RunningThreeModel", "image", "[I", true)
  | 25 => ("RunningThreeModel", "isImage", "Z", false)
  | 26 => ("RunningThreeModel", "lanes", "[I", true)
  | 27 => ("RunningThreeModel", "sizes", "[I", true)
  | 28 => ("RunningThreeModel", "items", "[J", true)
  | _ => ("RunningThreeModel", "moved", "[J", true)
def tyX8 : Nat → FieldType := fun k => match k with
  | 0 => .int
  | 1 => .int
  | 2 => .array .int
  | 3 => .array .int
  | 4 => .int
  | 5 => .array .int
  | 6 => .boolean
  | 7 => .array .int
  | 8 => .int
  | 9 => .int
  | 10 => .boolean
  | 11 => .int
  | 12 => .int
  | 13 => .array .int
  | 14 => .array .int
  | 15 => .array .int
  | 16 => .int
  | 17 => .array .int
  | 18 => .array .int
  | 19 => .array .int
  | 20 => .array .int
  | 21 => .array .int
  | 22 => .int
  | 23 => .int
  | 24 => .array .int
  | 25 => .boolean
  | 26 => .array .int
  | 27 => .array .int
  | 28 => .array .long
  | _ => .array .long
abbrev wsX80 : List Cond := u_ws RX8 TX8 30
theorem nmX8 : ∀ a, a < 30 → ∀ b, b < 30 → a ≠ b → (TX8 a).2.1 ≠ (TX8 b).2.1 := by decide +kernel
theorem tyX8_ok : ∀ k, k < 30 → parseFieldDescriptor (TX8 k).2.2.1 = some (tyX8 k) := by decide +kernel
abbrev cX8_in : ByteArray := prog_10_method_2_code
def yX8_in : MethodName := ⟨RX8, "in", "(JJJ)Z"⟩
abbrev cX8_init : ByteArray := prog_10_method_3_code
def yX8_init : MethodName := ⟨RX8, "<init>", "()V"⟩
abbrev cX8_isFighter : ByteArray := prog_10_method_4_code
def yX8_isFighter : MethodName := ⟨RX8, "isFighter", "(I)Z"⟩
abbrev cX8_isTurned : ByteArray := prog_10_method_5_code
def yX8_isTurned : MethodName := ⟨RX8, "isTurned", "()Z"⟩
abbrev cX8_fighterComes : ByteArray := prog_10_method_6_code
def yX8_fighterComes : MethodName := ⟨RX8, "fighterComes", "(IIII)V"⟩
abbrev cX8_fighter : ByteArray := prog_10_method_7_code
def yX8_fighter : MethodName := ⟨RX8, "fighter", "(III)I"⟩
abbrev cX8_force : ByteArray := prog_10_method_8_code
def yX8_force : MethodName := ⟨RX8, "force", "(II)I"⟩
abbrev cX8_pointsOf : ByteArray := prog_10_method_9_code
def yX8_pointsOf : MethodName := ⟨RX8, "pointsOf", "(III)I"⟩
abbrev cX8_hurtOf : ByteArray := prog_10_method_10_code
def yX8_hurtOf : MethodName := ⟨RX8, "hurtOf", "(I)I"⟩
abbrev cX8_isDown : ByteArray := prog_10_method_11_code
def yX8_isDown : MethodName := ⟨RX8, "isDown", "(I)Z"⟩
abbrev cX8_costOf : ByteArray := prog_10_method_12_code
def yX8_costOf : MethodName := ⟨RX8, "costOf", "(I)I"⟩
abbrev cX8_farthest : ByteArray := prog_10_method_13_code
def yX8_farthest : MethodName := ⟨RX8, "farthest", "(I)I"⟩
abbrev cX8_pursues : ByteArray := prog_10_method_14_code
def yX8_pursues : MethodName := ⟨RX8, "pursues", "(II)I"⟩
abbrev cX8_runs : ByteArray := prog_10_method_15_code
def yX8_runs : MethodName := ⟨RX8, "runs", "(I)I"⟩
abbrev cX8_comesTo : ByteArray := prog_10_method_16_code
def yX8_comesTo : MethodName := ⟨RX8, "comesTo", "(II)I"⟩
abbrev cX8_isCaught : ByteArray := prog_10_method_17_code
def yX8_isCaught : MethodName := ⟨RX8, "isCaught", "(I)Z"⟩
abbrev cX8_place : ByteArray := prog_10_method_18_code
def yX8_place : MethodName := ⟨RX8, "place", "(I)I"⟩
abbrev cX8_of : ByteArray := prog_10_method_19_code
def yX8_of : MethodName := ⟨RX8, "of", "(II)I"⟩
abbrev cX8_hurt : ByteArray := prog_10_method_20_code
def yX8_hurt : MethodName := ⟨RX8, "hurt", "(II)I"⟩
abbrev cX8_start : ByteArray := prog_10_method_21_code
def yX8_start : MethodName := ⟨RX8, "start", "(I)I"⟩
abbrev cX8_sort : ByteArray := prog_10_method_22_code
def yX8_sort : MethodName := ⟨RX8, "sort", "(I)I"⟩
abbrev cX8_cost : ByteArray := prog_10_method_23_code
def yX8_cost : MethodName := ⟨RX8, "cost", "(I)I"⟩
abbrev cX8_points : ByteArray := prog_10_method_24_code
def yX8_points : MethodName := ⟨RX8, "points", "(II)I"⟩
abbrev cX8_type : ByteArray := prog_10_method_25_code
def yX8_type : MethodName := ⟨RX8, "type", "(I)I"⟩
abbrev cX8_here : ByteArray := prog_10_method_26_code
def yX8_here : MethodName := ⟨RX8, "here", "()I"⟩
abbrev cX8_has : ByteArray := prog_10_method_27_code
def yX8_has : MethodName := ⟨RX8, "has", "(I)Z"⟩
abbrev cX8_sign : ByteArray := prog_10_method_28_code
def yX8_sign : MethodName := ⟨RX8, "sign", "()I"⟩
abbrev cX8_digit : ByteArray := prog_10_method_29_code
def yX8_digit : MethodName := ⟨RX8, "digit", "(II)I"⟩
abbrev cX8_readFighter : ByteArray := prog_10_method_30_code
def yX8_readFighter : MethodName := ⟨RX8, "readFighter", "()V"⟩
abbrev cX8_field : ByteArray := prog_10_method_31_code
def yX8_field : MethodName := ⟨RX8, "field", "()I"⟩
abbrev cX8_down : ByteArray := prog_10_method_32_code
def yX8_down : MethodName := ⟨RX8, "down", "()I"⟩
abbrev cX8_over : ByteArray := prog_10_method_33_code
def yX8_over : MethodName := ⟨RX8, "over", "()I"⟩
abbrev cX8_count : ByteArray := prog_10_method_34_code
def yX8_count : MethodName := ⟨RX8, "count", "(I)I"⟩
abbrev cX8_notes : ByteArray := prog_10_method_35_code
def yX8_notes : MethodName := ⟨RX8, "notes", "()V"⟩
abbrev cX8_turns : ByteArray := prog_10_method_36_code
def yX8_turns : MethodName := ⟨RX8, "turns", "(I)V"⟩
abbrev cX8_meets : ByteArray := prog_10_method_37_code
def yX8_meets : MethodName := ⟨RX8, "meets", "(I)I"⟩
abbrev cX8_between : ByteArray := prog_10_method_38_code
def yX8_between : MethodName := ⟨RX8, "between", "(I)I"⟩
abbrev cX8_fights : ByteArray := prog_10_method_39_code
def yX8_fights : MethodName := ⟨RX8, "fights", "()I"⟩
abbrev cX8_moment : ByteArray := prog_10_method_40_code
def yX8_moment : MethodName := ⟨RX8, "moment", "()I"⟩
abbrev cX8_turn : ByteArray := prog_10_method_41_code
def yX8_turn : MethodName := ⟨RX8, "turn", "()I"⟩
abbrev cX8_undo : ByteArray := prog_10_method_42_code
def yX8_undo : MethodName := ⟨RX8, "undo", "()I"⟩
abbrev cX8_seed : ByteArray := prog_10_method_43_code
def yX8_seed : MethodName := ⟨RX8, "seed", "(I)I"⟩
abbrev cX8_asides : ByteArray := prog_10_method_44_code
def yX8_asides : MethodName := ⟨RX8, "asides", "()V"⟩
abbrev cX8_backs : ByteArray := prog_10_method_45_code
def yX8_backs : MethodName := ⟨RX8, "backs", "()V"⟩
abbrev cX8_lines : ByteArray := prog_10_method_46_code
def yX8_lines : MethodName := ⟨RX8, "lines", "()I"⟩
abbrev cX8_fought : ByteArray := prog_10_method_47_code
def yX8_fought : MethodName := ⟨RX8, "fought", "(IIIII[I)I"⟩
abbrev cX8_likely : ByteArray := prog_10_method_48_code
def yX8_likely : MethodName := ⟨RX8, "likely", "()I"⟩
abbrev cX8_aheadOf : ByteArray := prog_10_method_49_code
def yX8_aheadOf : MethodName := ⟨RX8, "aheadOf", "(II)V"⟩
abbrev cX8_reaches : ByteArray := prog_10_method_50_code
def yX8_reaches : MethodName := ⟨RX8, "reaches", "(I)V"⟩
abbrev cX8_likelyBy : ByteArray := prog_10_method_51_code
def yX8_likelyBy : MethodName := ⟨RX8, "likelyBy", "(I)I"⟩
abbrev cX8_chance : ByteArray := prog_10_method_52_code
def yX8_chance : MethodName := ⟨RX8, "chance", "(I)I"⟩
abbrev cX8_chanceOf : ByteArray := prog_10_method_53_code
def yX8_chanceOf : MethodName := ⟨RX8, "chanceOf", "(I)I"⟩
abbrev cX8_looks : ByteArray := prog_10_method_54_code
def yX8_looks : MethodName := ⟨RX8, "looks", "()V"⟩
abbrev cX8_isCaughtThen : ByteArray := prog_10_method_55_code
def yX8_isCaughtThen : MethodName := ⟨RX8, "isCaughtThen", "(I)Z"⟩
abbrev cX8_isOff : ByteArray := prog_10_method_56_code
def yX8_isOff : MethodName := ⟨RX8, "isOff", "()Z"⟩
abbrev cX8_best : ByteArray := prog_10_method_57_code
def yX8_best : MethodName := ⟨RX8, "best", "(I)I"⟩
abbrev cX8_late : ByteArray := prog_10_method_58_code
def yX8_late : MethodName := ⟨RX8, "late", "(I)I"⟩
abbrev cX8_together : ByteArray := prog_10_method_59_code
def yX8_together : MethodName := ⟨RX8, "together", "(II)I"⟩
abbrev cX8_ditched : ByteArray := prog_10_method_60_code
def yX8_ditched : MethodName := ⟨RX8, "ditched", "()I"⟩
abbrev cX8_ahead : ByteArray := prog_10_method_61_code
def yX8_ahead : MethodName := ⟨RX8, "ahead", "(I)I"⟩
abbrev cX8_fields : ByteArray := prog_10_method_62_code
def yX8_fields : MethodName := ⟨RX8, "fields", "(II)I"⟩
abbrev cX8_notesRow : ByteArray := prog_10_method_63_code
def yX8_notesRow : MethodName := ⟨RX8, "notesRow", "([II)I"⟩
abbrev cX8_gives : ByteArray := prog_10_method_64_code
def yX8_gives : MethodName := ⟨RX8, "gives", "(I[I)I"⟩
abbrev cX8_image : ByteArray := prog_10_method_65_code
def yX8_image : MethodName := ⟨RX8, "image", "()I"⟩
abbrev cX8_restore : ByteArray := prog_10_method_66_code
def yX8_restore : MethodName := ⟨RX8, "restore", "()I"⟩
abbrev cX8_isSheet : ByteArray := prog_10_method_67_code
def yX8_isSheet : MethodName := ⟨RX8, "isSheet", "(I)Z"⟩
abbrev cX8_isLane : ByteArray := prog_10_method_68_code
def yX8_isLane : MethodName := ⟨RX8, "isLane", "(I)Z"⟩
abbrev cX8_why : ByteArray := prog_10_method_69_code
def yX8_why : MethodName := ⟨RX8, "why", "(IIII)I"⟩
abbrev cX8_strides : ByteArray := prog_10_method_70_code
def yX8_strides : MethodName := ⟨RX8, "strides", "(IIIII)I"⟩
abbrev cX8_far : ByteArray := prog_10_method_71_code
def yX8_far : MethodName := ⟨RX8, "far", "(IIII)I"⟩
abbrev cX8_puts : ByteArray := prog_10_method_72_code
def yX8_puts : MethodName := ⟨RX8, "puts", "(IIJ)V"⟩
abbrev cX8_film : ByteArray := prog_10_method_73_code
def yX8_film : MethodName := ⟨RX8, "film", "(IIII)I"⟩
abbrev cX8_sheet : ByteArray := prog_10_method_74_code
def yX8_sheet : MethodName := ⟨RX8, "sheet", "(III)I"⟩
abbrev cX8_drop : ByteArray := prog_10_method_75_code
def yX8_drop : MethodName := ⟨RX8, "drop", "(I)I"⟩
abbrev cX8_item : ByteArray := prog_10_method_76_code
def yX8_item : MethodName := ⟨RX8, "item", "(IIIJ)I"⟩
abbrev cX8_copy : ByteArray := prog_10_method_77_code
def yX8_copy : MethodName := ⟨RX8, "copy", "(IIIII)I"⟩
def RJ11 : String := "java/lang/Character"
def TJ11 : u_T := fun k => match k with
  | _ => ("", "", "", false)
def tyJ11 : Nat → FieldType := fun k => match k with
  | _ => .int
abbrev wsJ110 : List Cond := u_ws RJ11 TJ11 0
theorem nmJ11 : ∀ a, a < 0 → ∀ b, b < 0 → a ≠ b → (TJ11 a).2.1 ≠ (TJ11 b).2.1 := by decide +kernel
theorem tyJ11_ok : ∀ k, k < 0 → parseFieldDescriptor (TJ11 k).2.2.1 = some (tyJ11 k) := by decide +kernel
abbrev cJ11_isValidCodePoint_9a6ad : ByteArray := prog_11_method_11_code
def yJ11_isValidCodePoint_9a6ad : MethodName := ⟨RJ11, "isValidCodePoint", "(I)Z"⟩
abbrev cJ11_highSurrogate_5068e : ByteArray := prog_11_method_28_code
def yJ11_highSurrogate_5068e : MethodName := ⟨RJ11, "highSurrogate", "(I)C"⟩
abbrev cJ11_lowSurrogate_5068e : ByteArray := prog_11_method_29_code
def yJ11_lowSurrogate_5068e : MethodName := ⟨RJ11, "lowSurrogate", "(I)C"⟩
def RJ9 : String := "java/lang/Math"
def TJ9 : u_T := fun k => match k with
  | _ => ("", "", "", false)
def tyJ9 : Nat → FieldType := fun k => match k with
  | _ => .int
abbrev wsJ90 : List Cond := u_ws RJ9 TJ9 0
theorem nmJ9 : ∀ a, a < 0 → ∀ b, b < 0 → a ≠ b → (TJ9 a).2.1 ≠ (TJ9 b).2.1 := by decide +kernel
theorem tyJ9_ok : ∀ k, k < 0 → parseFieldDescriptor (TJ9 k).2.2.1 = some (tyJ9 k) := by decide +kernel
abbrev cJ9_max_7cf53 : ByteArray := prog_12_method_65_code
def yJ9_max_7cf53 : MethodName := ⟨RJ9, "max", "(II)I"⟩
abbrev cJ9_min_7cf53 : ByteArray := prog_12_method_69_code
def yJ9_min_7cf53 : MethodName := ⟨RJ9, "min", "(II)I"⟩
def RJ0 : String := "java/lang/String"
def TJ0 : u_T := fun k => match k with
  | _ => ("", "", "", false)
def tyJ0 : Nat → FieldType := fun k => match k with
  | _ => .int
abbrev wsJ00 : List Cond := u_ws RJ0 TJ0 0
theorem nmJ0 : ∀ a, a < 0 → ∀ b, b < 0 → a ≠ b → (TJ0 a).2.1 ≠ (TJ0 b).2.1 := by decide +kernel
theorem tyJ0_ok : ∀ k, k < 0 → parseFieldDescriptor (TJ0 k).2.2.1 = some (tyJ0 k) := by decide +kernel
abbrev cJ0_length_8abf5 : ByteArray := prog_13_method_54_code
def yJ0_length_8abf5 : MethodName := ⟨RJ0, "length", "()I"⟩
abbrev cJ0_indexOf_0f7a4 : ByteArray := prog_13_method_79_code
def yJ0_indexOf_0f7a4 : MethodName := ⟨RJ0, "indexOf", "(I)I"⟩
abbrev cJ0_indexOf_7cf53 : ByteArray := prog_13_method_80_code
def yJ0_indexOf_7cf53 : MethodName := ⟨RJ0, "indexOf", "(II)I"⟩
abbrev cJ0_coder_7d493 : ByteArray := prog_13_method_152_code
def yJ0_coder_7d493 : MethodName := ⟨RJ0, "coder", "()B"⟩
abbrev cJ0_isLatin1_aae02 : ByteArray := prog_13_method_154_code
def yJ0_isLatin1_aae02 : MethodName := ⟨RJ0, "isLatin1", "()Z"⟩
abbrev cJ0_checkBoundsBeginEnd_23922 : ByteArray := prog_13_method_158_code
def yJ0_checkBoundsBeginEnd_23922 : MethodName := ⟨RJ0, "checkBoundsBeginEnd", "(III)V"⟩
def RJ1 : String := "java/lang/StringLatin1"
def TJ1 : u_T := fun k => match k with
  | _ => ("", "", "", false)
def tyJ1 : Nat → FieldType := fun k => match k with
  | _ => .int
abbrev wsJ10 : List Cond := u_ws RJ1 TJ1 0
theorem nmJ1 : ∀ a, a < 0 → ∀ b, b < 0 → a ≠ b → (TJ1 a).2.1 ≠ (TJ1 b).2.1 := by decide +kernel
theorem tyJ1_ok : ∀ k, k < 0 → parseFieldDescriptor (TJ1 k).2.2.1 = some (tyJ1 k) := by decide +kernel
abbrev cJ1_canEncode_9a6ad : ByteArray := prog_14_method_4_code
def yJ1_canEncode_9a6ad : MethodName := ⟨RJ1, "canEncode", "(I)Z"⟩
abbrev cJ1_indexOf_4cfef : ByteArray := prog_14_method_22_code
def yJ1_indexOf_4cfef : MethodName := ⟨RJ1, "indexOf", "([BIII)I"⟩
abbrev cJ1_indexOfChar_4cfef : ByteArray := prog_14_method_23_code
def yJ1_indexOfChar_4cfef : MethodName := ⟨RJ1, "indexOfChar", "([BIII)I"⟩
def RJ2 : String := "java/lang/StringUTF16"
def TJ2 : u_T := fun k => match k with
  | _ => ("", "", "", false)
def tyJ2 : Nat → FieldType := fun k => match k with
  | _ => .int
abbrev wsJ20 : List Cond := u_ws RJ2 TJ2 0
theorem nmJ2 : ∀ a, a < 0 → ∀ b, b < 0 → a ≠ b → (TJ2 a).2.1 ≠ (TJ2 b).2.1 := by decide +kernel
theorem tyJ2_ok : ∀ k, k < 0 → parseFieldDescriptor (TJ2 k).2.2.1 = some (tyJ2 k) := by decide +kernel
abbrev cJ2_getChar_3b067 : ByteArray := prog_15_method_5_code
def yJ2_getChar_3b067 : MethodName := ⟨RJ2, "getChar", "([BI)C"⟩
abbrev cJ2_length_9d52b : ByteArray := prog_15_method_6_code
def yJ2_length_9d52b : MethodName := ⟨RJ2, "length", "([B)I"⟩
abbrev cJ2_indexOf_4cfef : ByteArray := prog_15_method_40_code
def yJ2_indexOf_4cfef : MethodName := ⟨RJ2, "indexOf", "([BIII)I"⟩
abbrev cJ2_indexOfChar_4cfef : ByteArray := prog_15_method_47_code
def yJ2_indexOfChar_4cfef : MethodName := ⟨RJ2, "indexOfChar", "([BIII)I"⟩
abbrev cJ2_indexOfCharUnsafe_4cfef : ByteArray := prog_15_method_48_code
def yJ2_indexOfCharUnsafe_4cfef : MethodName := ⟨RJ2, "indexOfCharUnsafe", "([BIII)I"⟩
abbrev cJ2_indexOfSupplementary_4cfef : ByteArray := prog_15_method_49_code
def yJ2_indexOfSupplementary_4cfef : MethodName := ⟨RJ2, "indexOfSupplementary", "([BIII)I"⟩
abbrev cJ2_checkBoundsBeginEnd_d044e : ByteArray := prog_15_method_93_code
def yJ2_checkBoundsBeginEnd_d044e : MethodName := ⟨RJ2, "checkBoundsBeginEnd", "(II[B)V"⟩
def RJ10 : String := "java/lang/System"
def TJ10 : u_T := fun k => match k with
  | _ => ("", "", "", false)
def tyJ10 : Nat → FieldType := fun k => match k with
  | _ => .int
abbrev wsJ100 : List Cond := u_ws RJ10 TJ10 0
theorem nmJ10 : ∀ a, a < 0 → ∀ b, b < 0 → a ≠ b → (TJ10 a).2.1 ≠ (TJ10 b).2.1 := by decide +kernel
theorem tyJ10_ok : ∀ k, k < 0 → parseFieldDescriptor (TJ10 k).2.2.1 = some (tyJ10 k) := by decide +kernel
def RJ3 : String := "jdk/internal/util/Preconditions"
def TJ3 : u_T := fun k => match k with
  | _ => ("", "", "", false)
def tyJ3 : Nat → FieldType := fun k => match k with
  | _ => .int
abbrev wsJ30 : List Cond := u_ws RJ3 TJ3 0
theorem nmJ3 : ∀ a, a < 0 → ∀ b, b < 0 → a ≠ b → (TJ3 a).2.1 ≠ (TJ3 b).2.1 := by decide +kernel
theorem tyJ3_ok : ∀ k, k < 0 → parseFieldDescriptor (TJ3 k).2.2.1 = some (tyJ3 k) := by decide +kernel
abbrev cJ3_checkFromToIndex_8c36e : ByteArray := prog_17_method_12_code
def yJ3_checkFromToIndex_8c36e : MethodName := ⟨RJ3, "checkFromToIndex", "(IIILjava/util/function/BiFunction;)I"⟩
def RL : String := "RunningThreeLaw"
abbrev cL_law : ByteArray := code
def yL_law : MethodName := ⟨RL, "law", "([I)Z"⟩
abbrev vwCl : List vw_C := [(RX0, TX0, 12), (RX1, TX1, 4), (RX2, TX2, 3), (RX4, TX4, 6), (RX5, TX5, 13), (RX6, TX6, 3), (RX7, TX7, 8), (RX8, TX8, 30)]
end
section
/-- the words of the tables that stay over calls -/
def gT : List Cond := lw_tbl.filter goodWord
theorem gT_t {w : Cond} {i : Nat} (h : tables_1[i]? = some w) (hg : goodWord w = true) : w ∈ gT :=
  List.mem_filter.mpr ⟨List.mem_append_right _ (List.mem_of_getElem? h), hg⟩
theorem gT_s {q : MethodName × Nat} {i : Nat} (h : lw_privs[i]? = some q) (hg : goodWord (Cond.selects q.1.cls q.1 q.1) = true) : Cond.selects q.1.cls q.1 q.1 ∈ gT :=
  List.mem_filter.mpr ⟨List.mem_append_left _ (List.mem_map.mpr ⟨q, List.mem_of_getElem? h, rfl⟩), hg⟩
theorem gT_lw {w : Cond} (h : w ∈ gT) : w ∈ lw_tbl := (List.mem_filter.mp h).1
theorem gT_good {w : Cond} (h : w ∈ gT) : (w.onTables && w.keeps) = true ∨ ∃ ty, w = .arrayClass ty := good_of_word (List.mem_filter.mp h).2
theorem wn_L : Cond.initialized RL ∈ gT := gT_t (i := 0) (by decide +kernel) rfl
theorem wn_X7 : Cond.initialized RX7 ∈ gT := gT_t (i := 1) (by decide +kernel) rfl
theorem wn_X5 : Cond.initialized RX5 ∈ gT := gT_t (i := 2) (by decide +kernel) rfl
theorem wn_X4 : Cond.initialized RX4 ∈ gT := gT_t (i := 3) (by decide +kernel) rfl
theorem wn_X1 : Cond.initialized RX1 ∈ gT := gT_t (i := 4) (by decide +kernel) rfl
theorem wn_X2 : Cond.initialized RX2 ∈ gT := gT_t (i := 5) (by decide +kernel) rfl
theorem wn_X0 : Cond.initialized RX0 ∈ gT := gT_t (i := 6) (by decide +kernel) rfl
theorem wn_X6 : Cond.initialized RX6 ∈ gT := gT_t (i := 7) (by decide +kernel) rfl
theorem wn_X8 : Cond.initialized RX8 ∈ gT := gT_t (i := 8) (by decide +kernel) rfl
theorem wn_X3 : Cond.initialized RX3 ∈ gT := gT_t (i := 9) (by decide +kernel) rfl
theorem wm_L_9 : Cond.methodLink RL 9 yX7_init ∈ gT := gT_t (i := 19) (by decide +kernel) rfl
theorem wi_X7_init : Cond.instanceMethod yX7_init ∈ gT := gT_t (i := 20) (by decide +kernel) rfl
theorem wc_X7_init : Cond.code yX7_init cX7_init 2 none ∈ gT := gT_t (i := 21) (by decide +kernel) rfl
theorem wi_X5_init : Cond.instanceMethod yX5_init ∈ gT := gT_t (i := 28) (by decide +kernel) rfl
theorem wc_X5_init : Cond.code yX5_init cX5_init 1 none ∈ gT := gT_t (i := 29) (by decide +kernel) rfl
theorem wf_X5_9 : Cond.fieldLink RX5 9 "RunningThree$Scene" "cells" "I" ∈ gT := gT_t (i := 31) (by decide +kernel) rfl
theorem wf_X5_15 : Cond.fieldLink RX5 15 "RunningThree$Scene" "sorts" "[I" ∈ gT := gT_t (i := 34) (by decide +kernel) rfl
theorem wf_X5_19 : Cond.fieldLink RX5 19 "RunningThree$Scene" "costs" "[I" ∈ gT := gT_t (i := 36) (by decide +kernel) rfl
theorem wf_X5_43 : Cond.fieldLink RX5 43 "RunningThree$Scene" "fighters" "I" ∈ gT := gT_t (i := 38) (by decide +kernel) rfl
theorem wf_X5_22 : Cond.fieldLink RX5 22 "RunningThree$Scene" "kinds" "[I" ∈ gT := gT_t (i := 42) (by decide +kernel) rfl
theorem wf_X5_25 : Cond.fieldLink RX5 25 "RunningThree$Scene" "strengths" "[I" ∈ gT := gT_t (i := 45) (by decide +kernel) rfl
theorem wf_X5_28 : Cond.fieldLink RX5 28 "RunningThree$Scene" "paces" "[I" ∈ gT := gT_t (i := 48) (by decide +kernel) rfl
theorem wf_X5_31 : Cond.fieldLink RX5 31 "RunningThree$Scene" "hurts" "[I" ∈ gT := gT_t (i := 50) (by decide +kernel) rfl
theorem wf_X5_46 : Cond.fieldLink RX5 46 "RunningThree$Scene" "start" "I" ∈ gT := gT_t (i := 55) (by decide +kernel) rfl
theorem wf_X5_49 : Cond.fieldLink RX5 49 "RunningThree$Scene" "moment" "I" ∈ gT := gT_t (i := 58) (by decide +kernel) rfl
theorem wf_X5_34 : Cond.fieldLink RX5 34 "RunningThree$Scene" "stand" "I" ∈ gT := gT_t (i := 62) (by decide +kernel) rfl
theorem wf_X5_37 : Cond.fieldLink RX5 37 "RunningThree$Scene" "coming" "[I" ∈ gT := gT_t (i := 65) (by decide +kernel) rfl
theorem wf_X5_40 : Cond.fieldLink RX5 40 "RunningThree$Scene" "draw" "I" ∈ gT := gT_t (i := 67) (by decide +kernel) rfl
theorem wi_X4_init : Cond.instanceMethod yX4_init ∈ gT := gT_t (i := 103) (by decide +kernel) rfl
theorem wc_X4_init : Cond.code yX4_init cX4_init 1 none ∈ gT := gT_t (i := 104) (by decide +kernel) rfl
theorem wf_X4_24 : Cond.fieldLink RX4 24 "RunningThree$Past" "known" "I" ∈ gT := gT_t (i := 106) (by decide +kernel) rfl
theorem wf_X4_28 : Cond.fieldLink RX4 28 "RunningThree$Past" "next" "I" ∈ gT := gT_t (i := 108) (by decide +kernel) rfl
theorem wf_X4_11 : Cond.fieldLink RX4 11 "RunningThree$Past" "hurts" "[I" ∈ gT := gT_t (i := 109) (by decide +kernel) rfl
theorem wf_X4_15 : Cond.fieldLink RX4 15 "RunningThree$Past" "moments" "[I" ∈ gT := gT_t (i := 110) (by decide +kernel) rfl
theorem wf_X4_18 : Cond.fieldLink RX4 18 "RunningThree$Past" "stands" "[I" ∈ gT := gT_t (i := 111) (by decide +kernel) rfl
theorem wf_X4_21 : Cond.fieldLink RX4 21 "RunningThree$Past" "draws" "[I" ∈ gT := gT_t (i := 112) (by decide +kernel) rfl
theorem wi_X1_init : Cond.instanceMethod yX1_init ∈ gT := gT_t (i := 129) (by decide +kernel) rfl
theorem wc_X1_init : Cond.code yX1_init cX1_init 1 none ∈ gT := gT_t (i := 130) (by decide +kernel) rfl
theorem wf_X1_9 : Cond.fieldLink RX1 9 "RunningThree$FieldText" "letters" "[I" ∈ gT := gT_t (i := 134) (by decide +kernel) rfl
theorem wf_X1_22 : Cond.fieldLink RX1 22 "RunningThree$FieldText" "length" "I" ∈ gT := gT_t (i := 135) (by decide +kernel) rfl
theorem wf_X1_36 : Cond.fieldLink RX1 36 "RunningThree$FieldText" "at" "I" ∈ gT := gT_t (i := 137) (by decide +kernel) rfl
theorem wf_X1_18 : Cond.fieldLink RX1 18 "RunningThree$FieldText" "draft" "LRunningThree$Scene;" ∈ gT := gT_t (i := 139) (by decide +kernel) rfl
theorem wi_X2_init : Cond.instanceMethod yX2_init ∈ gT := gT_t (i := 152) (by decide +kernel) rfl
theorem wc_X2_init : Cond.code yX2_init cX2_init 1 none ∈ gT := gT_t (i := 153) (by decide +kernel) rfl
theorem wi_X0_init : Cond.instanceMethod yX0_init ∈ gT := gT_t (i := 160) (by decide +kernel) rfl
theorem wc_X0_init : Cond.code yX0_init cX0_init 1 none ∈ gT := gT_t (i := 161) (by decide +kernel) rfl
theorem wf_X0_69 : Cond.fieldLink RX0 69 "RunningThree$Chances" "others" "I" ∈ gT := gT_t (i := 163) (by decide +kernel) rfl
theorem wf_X0_11 : Cond.fieldLink RX0 11 "RunningThree$Chances" "order" "[I" ∈ gT := gT_t (i := 164) (by decide +kernel) rfl
theorem wf_X0_15 : Cond.fieldLink RX0 15 "RunningThree$Chances" "coming" "[I" ∈ gT := gT_t (i := 165) (by decide +kernel) rfl
theorem wf_X0_18 : Cond.fieldLink RX0 18 "RunningThree$Chances" "waits" "[I" ∈ gT := gT_t (i := 166) (by decide +kernel) rfl
theorem wf_X0_21 : Cond.fieldLink RX0 21 "RunningThree$Chances" "begins" "[I" ∈ gT := gT_t (i := 167) (by decide +kernel) rfl
theorem wf_X0_24 : Cond.fieldLink RX0 24 "RunningThree$Chances" "idle" "[I" ∈ gT := gT_t (i := 168) (by decide +kernel) rfl
theorem wf_X0_27 : Cond.fieldLink RX0 27 "RunningThree$Chances" "turnAt" "[I" ∈ gT := gT_t (i := 169) (by decide +kernel) rfl
theorem wf_X0_30 : Cond.fieldLink RX0 30 "RunningThree$Chances" "forceAt" "[I" ∈ gT := gT_t (i := 170) (by decide +kernel) rfl
theorem wf_X0_33 : Cond.fieldLink RX0 33 "RunningThree$Chances" "runnerForces" "[I" ∈ gT := gT_t (i := 171) (by decide +kernel) rfl
theorem wf_X0_36 : Cond.fieldLink RX0 36 "RunningThree$Chances" "values" "[I" ∈ gT := gT_t (i := 172) (by decide +kernel) rfl
theorem wf_X0_39 : Cond.fieldLink RX0 39 "RunningThree$Chances" "keys" "[I" ∈ gT := gT_t (i := 173) (by decide +kernel) rfl
theorem wf_X0_42 : Cond.fieldLink RX0 42 "RunningThree$Chances" "known" "[I" ∈ gT := gT_t (i := 174) (by decide +kernel) rfl
theorem wf_X2_12 : Cond.fieldLink RX2 12 "RunningThree$Foretelling" "trial" "LRunningThree$Scene;" ∈ gT := gT_t (i := 200) (by decide +kernel) rfl
theorem wf_X2_21 : Cond.fieldLink RX2 21 "RunningThree$Foretelling" "chances" "LRunningThree$Chances;" ∈ gT := gT_t (i := 201) (by decide +kernel) rfl
theorem wf_X2_25 : Cond.fieldLink RX2 25 "RunningThree$Foretelling" "row" "[I" ∈ gT := gT_t (i := 202) (by decide +kernel) rfl
theorem wi_X6_init : Cond.instanceMethod yX6_init ∈ gT := gT_t (i := 214) (by decide +kernel) rfl
theorem wc_X6_init : Cond.code yX6_init cX6_init 1 none ∈ gT := gT_t (i := 215) (by decide +kernel) rfl
theorem wf_X6_11 : Cond.fieldLink RX6 11 "RunningThree$Sheet" "lane" "I" ∈ gT := gT_t (i := 217) (by decide +kernel) rfl
theorem wf_X6_19 : Cond.fieldLink RX6 19 "RunningThree$Sheet" "size" "I" ∈ gT := gT_t (i := 219) (by decide +kernel) rfl
theorem wf_X6_15 : Cond.fieldLink RX6 15 "RunningThree$Sheet" "items" "[J" ∈ gT := gT_t (i := 221) (by decide +kernel) rfl
theorem wf_X7_10 : Cond.fieldLink RX7 10 "RunningThree" "scene" "LRunningThree$Scene;" ∈ gT := gT_t (i := 231) (by decide +kernel) rfl
theorem wf_X7_19 : Cond.fieldLink RX7 19 "RunningThree" "past" "LRunningThree$Past;" ∈ gT := gT_t (i := 232) (by decide +kernel) rfl
theorem wf_X7_23 : Cond.fieldLink RX7 23 "RunningThree" "keptScene" "LRunningThree$Scene;" ∈ gT := gT_t (i := 233) (by decide +kernel) rfl
theorem wf_X7_26 : Cond.fieldLink RX7 26 "RunningThree" "keptPast" "LRunningThree$Past;" ∈ gT := gT_t (i := 234) (by decide +kernel) rfl
theorem wf_X7_212 : Cond.fieldLink RX7 212 "RunningThree" "kept" "Z" ∈ gT := gT_t (i := 235) (by decide +kernel) rfl
theorem wf_X7_32 : Cond.fieldLink RX7 32 "RunningThree" "tape" "LRunningThree$FieldText;" ∈ gT := gT_t (i := 236) (by decide +kernel) rfl
theorem wf_X7_39 : Cond.fieldLink RX7 39 "RunningThree" "foretelling" "LRunningThree$Foretelling;" ∈ gT := gT_t (i := 237) (by decide +kernel) rfl
theorem wf_X7_45 : Cond.fieldLink RX7 45 "RunningThree" "sheets" "[LRunningThree$Sheet;" ∈ gT := gT_t (i := 238) (by decide +kernel) rfl
theorem wm_L_13 : Cond.methodLink RL 13 yX7_fighter ∈ gT := gT_t (i := 256) (by decide +kernel) rfl
theorem wi_X7_fighter : Cond.instanceMethod yX7_fighter ∈ gT := gT_t (i := 257) (by decide +kernel) rfl
theorem ws_X7_fighter : Cond.selects RX7 yX7_fighter yX7_fighter ∈ gT := gT_t (i := 258) (by decide +kernel) rfl
theorem wc_X7_fighter : Cond.code yX7_fighter cX7_fighter 4 (some .int) ∈ gT := gT_t (i := 259) (by decide +kernel) rfl
theorem wm_X7_50 : Cond.methodLink RX7 50 yX7_within ∈ gT := gT_t (i := 260) (by decide +kernel) rfl
theorem wt_X7_within : Cond.static yX7_within ∈ gT := gT_t (i := 261) (by decide +kernel) rfl
theorem wc_X7_within : Cond.code yX7_within cX7_within 3 (some .boolean) ∈ gT := gT_t (i := 262) (by decide +kernel) rfl
theorem wm_X7_54 : Cond.methodLink RX7 54 yX5_hasTurned ∈ gT := gT_t (i := 263) (by decide +kernel) rfl
theorem wi_X5_hasTurned : Cond.instanceMethod yX5_hasTurned ∈ gT := gT_t (i := 264) (by decide +kernel) rfl
theorem ws_X5_hasTurned : Cond.selects RX5 yX5_hasTurned yX5_hasTurned ∈ gT := gT_t (i := 265) (by decide +kernel) rfl
theorem wc_X5_hasTurned : Cond.code yX5_hasTurned cX5_hasTurned 1 (some .boolean) ∈ gT := gT_t (i := 266) (by decide +kernel) rfl
theorem wm_X7_62 : Cond.methodLink RX7 62 yX4_forget ∈ gT := gT_t (i := 267) (by decide +kernel) rfl
theorem wi_X4_forget : Cond.instanceMethod yX4_forget ∈ gT := gT_t (i := 268) (by decide +kernel) rfl
theorem ws_X4_forget : Cond.selects RX4 yX4_forget yX4_forget ∈ gT := gT_t (i := 269) (by decide +kernel) rfl
theorem wc_X4_forget : Cond.code yX4_forget cX4_forget 1 none ∈ gT := gT_t (i := 270) (by decide +kernel) rfl
theorem wm_X7_65 : Cond.methodLink RX7 65 yX5_addFighter ∈ gT := gT_t (i := 271) (by decide +kernel) rfl
theorem wi_X5_addFighter : Cond.instanceMethod yX5_addFighter ∈ gT := gT_t (i := 272) (by decide +kernel) rfl
theorem ws_X5_addFighter : Cond.selects RX5 yX5_addFighter yX5_addFighter ∈ gT := gT_t (i := 273) (by decide +kernel) rfl
theorem wc_X5_addFighter : Cond.code yX5_addFighter cX5_addFighter 6 (some .int) ∈ gT := gT_t (i := 274) (by decide +kernel) rfl
theorem wm_L_18 : Cond.methodLink RL 18 yX7_of ∈ gT := gT_t (i := 275) (by decide +kernel) rfl
theorem wi_X7_of : Cond.instanceMethod yX7_of ∈ gT := gT_t (i := 276) (by decide +kernel) rfl
theorem ws_X7_of : Cond.selects RX7 yX7_of yX7_of ∈ gT := gT_t (i := 277) (by decide +kernel) rfl
theorem wc_X7_of : Cond.code yX7_of cX7_of 3 (some .int) ∈ gT := gT_t (i := 278) (by decide +kernel) rfl
theorem wm_X7_69 : Cond.methodLink RX7 69 yX5_exists ∈ gT := gT_t (i := 279) (by decide +kernel) rfl
theorem wi_X5_exists : Cond.instanceMethod yX5_exists ∈ gT := gT_t (i := 280) (by decide +kernel) rfl
theorem ws_X5_exists : Cond.selects RX5 yX5_exists yX5_exists ∈ gT := gT_t (i := 281) (by decide +kernel) rfl
theorem wc_X5_exists : Cond.code yX5_exists cX5_exists 2 (some .boolean) ∈ gT := gT_t (i := 282) (by decide +kernel) rfl
theorem wm_X7_86 : Cond.methodLink RX7 86 yX5_forceOf ∈ gT := gT_t (i := 284) (by decide +kernel) rfl
theorem wi_X5_forceOf : Cond.instanceMethod yX5_forceOf ∈ gT := gT_t (i := 285) (by decide +kernel) rfl
theorem ws_X5_forceOf : Cond.selects RX5 yX5_forceOf yX5_forceOf ∈ gT := gT_t (i := 286) (by decide +kernel) rfl
theorem wc_X5_forceOf : Cond.code yX5_forceOf cX5_forceOf 2 (some .int) ∈ gT := gT_t (i := 287) (by decide +kernel) rfl
theorem wm_X5_81 : Cond.methodLink RX5 81 yX3_force ∈ gT := gT_t (i := 288) (by decide +kernel) rfl
theorem wt_X3_force : Cond.static yX3_force ∈ gT := gT_t (i := 289) (by decide +kernel) rfl
theorem wc_X3_force : Cond.code yX3_force cX3_force 4 (some .int) ∈ gT := gT_t (i := 290) (by decide +kernel) rfl
theorem wm_X7_90 : Cond.methodLink RX7 90 yX5_cellNow ∈ gT := gT_t (i := 294) (by decide +kernel) rfl
theorem wi_X5_cellNow : Cond.instanceMethod yX5_cellNow ∈ gT := gT_t (i := 295) (by decide +kernel) rfl
theorem ws_X5_cellNow : Cond.selects RX5 yX5_cellNow yX5_cellNow ∈ gT := gT_t (i := 296) (by decide +kernel) rfl
theorem wc_X5_cellNow : Cond.code yX5_cellNow cX5_cellNow 2 (some .int) ∈ gT := gT_t (i := 297) (by decide +kernel) rfl
theorem wm_X5_108 : Cond.methodLink RX5 108 yX5_hasTurned ∈ gT := gT_t (i := 298) (by decide +kernel) rfl
theorem wm_X5_112 : Cond.methodLink RX5 112 yX5_cellRunning ∈ gT := gT_t (i := 299) (by decide +kernel) rfl
theorem wi_X5_cellRunning : Cond.instanceMethod yX5_cellRunning ∈ gT := gT_t (i := 300) (by decide +kernel) rfl
theorem ws_X5_cellRunning : Cond.selects RX5 yX5_cellRunning yX5_cellRunning ∈ gT := gT_t (i := 301) (by decide +kernel) rfl
theorem wc_X5_cellRunning : Cond.code yX5_cellRunning cX5_cellRunning 3 (some .int) ∈ gT := gT_t (i := 302) (by decide +kernel) rfl
theorem wm_X5_74 : Cond.methodLink RX5 74 yX5_isUp ∈ gT := gT_t (i := 303) (by decide +kernel) rfl
theorem wi_X5_isUp : Cond.instanceMethod yX5_isUp ∈ gT := gT_t (i := 304) (by decide +kernel) rfl
theorem ws_X5_isUp : Cond.selects RX5 yX5_isUp yX5_isUp ∈ gT := gT_t (i := 305) (by decide +kernel) rfl
theorem wc_X5_isUp : Cond.code yX5_isUp cX5_isUp 2 (some .boolean) ∈ gT := gT_t (i := 306) (by decide +kernel) rfl
theorem wm_X5_93 : Cond.methodLink RX5 93 yX5_momentsOut ∈ gT := gT_t (i := 307) (by decide +kernel) rfl
theorem wi_X5_momentsOut : Cond.instanceMethod yX5_momentsOut ∈ gT := gT_t (i := 309) (by decide +kernel) rfl
theorem wc_X5_momentsOut : Cond.code yX5_momentsOut cX5_momentsOut 3 (some .int) ∈ gT := gT_t (i := 310) (by decide +kernel) rfl
theorem wm_X5_97 : Cond.methodLink RX5 97 yX5_pointsOf ∈ gT := gT_t (i := 312) (by decide +kernel) rfl
theorem wi_X5_pointsOf : Cond.instanceMethod yX5_pointsOf ∈ gT := gT_t (i := 313) (by decide +kernel) rfl
theorem ws_X5_pointsOf : Cond.selects RX5 yX5_pointsOf yX5_pointsOf ∈ gT := gT_t (i := 314) (by decide +kernel) rfl
theorem wc_X5_pointsOf : Cond.code yX5_pointsOf cX5_pointsOf 5 (some .int) ∈ gT := gT_t (i := 315) (by decide +kernel) rfl
theorem wm_X5_87 : Cond.methodLink RX5 87 yX3_stride ∈ gT := gT_t (i := 316) (by decide +kernel) rfl
theorem wt_X3_stride : Cond.static yX3_stride ∈ gT := gT_t (i := 317) (by decide +kernel) rfl
theorem wc_X3_stride : Cond.code yX3_stride cX3_stride 4 (some .int) ∈ gT := gT_t (i := 318) (by decide +kernel) rfl
theorem wm_X5_90 : Cond.methodLink RX5 90 yX3_pointsIn ∈ gT := gT_t (i := 319) (by decide +kernel) rfl
theorem wt_X3_pointsIn : Cond.static yX3_pointsIn ∈ gT := gT_t (i := 320) (by decide +kernel) rfl
theorem wc_X3_pointsIn : Cond.code yX3_pointsIn cX3_pointsIn 3 (some .int) ∈ gT := gT_t (i := 321) (by decide +kernel) rfl
theorem wm_X5_100 : Cond.methodLink RX5 100 yX5_cellBy ∈ gT := gT_t (i := 325) (by decide +kernel) rfl
theorem wi_X5_cellBy : Cond.instanceMethod yX5_cellBy ∈ gT := gT_t (i := 326) (by decide +kernel) rfl
theorem ws_X5_cellBy : Cond.selects RX5 yX5_cellBy yX5_cellBy ∈ gT := gT_t (i := 327) (by decide +kernel) rfl
theorem wc_X5_cellBy : Cond.code yX5_cellBy cX5_cellBy 3 (some .int) ∈ gT := gT_t (i := 328) (by decide +kernel) rfl
theorem wm_X5_115 : Cond.methodLink RX5 115 yX5_cellBehindTurn ∈ gT := gT_t (i := 329) (by decide +kernel) rfl
theorem wi_X5_cellBehindTurn : Cond.instanceMethod yX5_cellBehindTurn ∈ gT := gT_t (i := 331) (by decide +kernel) rfl
theorem wc_X5_cellBehindTurn : Cond.code yX5_cellBehindTurn cX5_cellBehindTurn 2 (some .int) ∈ gT := gT_t (i := 332) (by decide +kernel) rfl
theorem wk_X5_118 : Cond.constant RX5 118 (1073741824) ∈ gT := gT_t (i := 333) (by decide +kernel) rfl
theorem wm_X7_93 : Cond.methodLink RX7 93 yX5_comingOf ∈ gT := gT_t (i := 334) (by decide +kernel) rfl
theorem wi_X5_comingOf : Cond.instanceMethod yX5_comingOf ∈ gT := gT_t (i := 335) (by decide +kernel) rfl
theorem ws_X5_comingOf : Cond.selects RX5 yX5_comingOf yX5_comingOf ∈ gT := gT_t (i := 336) (by decide +kernel) rfl
theorem wc_X5_comingOf : Cond.code yX5_comingOf cX5_comingOf 2 (some .int) ∈ gT := gT_t (i := 337) (by decide +kernel) rfl
theorem wm_L_23 : Cond.methodLink RL 23 yX7_hurt ∈ gT := gT_t (i := 338) (by decide +kernel) rfl
theorem wi_X7_hurt : Cond.instanceMethod yX7_hurt ∈ gT := gT_t (i := 339) (by decide +kernel) rfl
theorem ws_X7_hurt : Cond.selects RX7 yX7_hurt yX7_hurt ∈ gT := gT_t (i := 340) (by decide +kernel) rfl
theorem wc_X7_hurt : Cond.code yX7_hurt cX7_hurt 4 (some .int) ∈ gT := gT_t (i := 341) (by decide +kernel) rfl
theorem wm_L_27 : Cond.methodLink RL 27 yX7_start ∈ gT := gT_t (i := 342) (by decide +kernel) rfl
theorem wi_X7_start : Cond.instanceMethod yX7_start ∈ gT := gT_t (i := 343) (by decide +kernel) rfl
theorem ws_X7_start : Cond.selects RX7 yX7_start yX7_start ∈ gT := gT_t (i := 344) (by decide +kernel) rfl
theorem wc_X7_start : Cond.code yX7_start cX7_start 3 (some .int) ∈ gT := gT_t (i := 345) (by decide +kernel) rfl
theorem wm_L_32 : Cond.methodLink RL 32 yX7_sort ∈ gT := gT_t (i := 346) (by decide +kernel) rfl
theorem wi_X7_sort : Cond.instanceMethod yX7_sort ∈ gT := gT_t (i := 347) (by decide +kernel) rfl
theorem ws_X7_sort : Cond.selects RX7 yX7_sort yX7_sort ∈ gT := gT_t (i := 348) (by decide +kernel) rfl
theorem wc_X7_sort : Cond.code yX7_sort cX7_sort 2 (some .int) ∈ gT := gT_t (i := 349) (by decide +kernel) rfl
theorem wm_X7_102 : Cond.methodLink RX7 102 yX5_hasCell ∈ gT := gT_t (i := 350) (by decide +kernel) rfl
theorem wi_X5_hasCell : Cond.instanceMethod yX5_hasCell ∈ gT := gT_t (i := 351) (by decide +kernel) rfl
theorem ws_X5_hasCell : Cond.selects RX5 yX5_hasCell yX5_hasCell ∈ gT := gT_t (i := 352) (by decide +kernel) rfl
theorem wc_X5_hasCell : Cond.code yX5_hasCell cX5_hasCell 2 (some .boolean) ∈ gT := gT_t (i := 353) (by decide +kernel) rfl
theorem wm_L_36 : Cond.methodLink RL 36 yX7_cost ∈ gT := gT_t (i := 354) (by decide +kernel) rfl
theorem wi_X7_cost : Cond.instanceMethod yX7_cost ∈ gT := gT_t (i := 355) (by decide +kernel) rfl
theorem ws_X7_cost : Cond.selects RX7 yX7_cost yX7_cost ∈ gT := gT_t (i := 356) (by decide +kernel) rfl
theorem wc_X7_cost : Cond.code yX7_cost cX7_cost 2 (some .int) ∈ gT := gT_t (i := 357) (by decide +kernel) rfl
theorem wm_L_40 : Cond.methodLink RL 40 yX7_points ∈ gT := gT_t (i := 358) (by decide +kernel) rfl
theorem wi_X7_points : Cond.instanceMethod yX7_points ∈ gT := gT_t (i := 359) (by decide +kernel) rfl
theorem ws_X7_points : Cond.selects RX7 yX7_points yX7_points ∈ gT := gT_t (i := 360) (by decide +kernel) rfl
theorem wc_X7_points : Cond.code yX7_points cX7_points 3 (some .int) ∈ gT := gT_t (i := 361) (by decide +kernel) rfl
theorem wm_X7_111 : Cond.methodLink RX7 111 yX5_pointsOf ∈ gT := gT_t (i := 362) (by decide +kernel) rfl
theorem wm_L_44 : Cond.methodLink RL 44 yX7_type ∈ gT := gT_t (i := 363) (by decide +kernel) rfl
theorem wi_X7_type : Cond.instanceMethod yX7_type ∈ gT := gT_t (i := 364) (by decide +kernel) rfl
theorem ws_X7_type : Cond.selects RX7 yX7_type yX7_type ∈ gT := gT_t (i := 365) (by decide +kernel) rfl
theorem wc_X7_type : Cond.code yX7_type cX7_type 2 (some .int) ∈ gT := gT_t (i := 366) (by decide +kernel) rfl
theorem wm_X7_115 : Cond.methodLink RX7 115 yX1_add ∈ gT := gT_t (i := 367) (by decide +kernel) rfl
theorem wi_X1_add : Cond.instanceMethod yX1_add ∈ gT := gT_t (i := 368) (by decide +kernel) rfl
theorem ws_X1_add : Cond.selects RX1 yX1_add yX1_add ∈ gT := gT_t (i := 369) (by decide +kernel) rfl
theorem wc_X1_add : Cond.code yX1_add cX1_add 2 (some .boolean) ∈ gT := gT_t (i := 370) (by decide +kernel) rfl
theorem wm_L_48 : Cond.methodLink RL 48 yX7_field ∈ gT := gT_t (i := 371) (by decide +kernel) rfl
theorem wi_X7_field : Cond.instanceMethod yX7_field ∈ gT := gT_t (i := 372) (by decide +kernel) rfl
theorem ws_X7_field : Cond.selects RX7 yX7_field yX7_field ∈ gT := gT_t (i := 373) (by decide +kernel) rfl
theorem wc_X7_field : Cond.code yX7_field cX7_field 2 (some .int) ∈ gT := gT_t (i := 374) (by decide +kernel) rfl
theorem wm_X7_121 : Cond.methodLink RX7 121 yX1_read ∈ gT := gT_t (i := 375) (by decide +kernel) rfl
theorem wi_X1_read : Cond.instanceMethod yX1_read ∈ gT := gT_t (i := 376) (by decide +kernel) rfl
theorem ws_X1_read : Cond.selects RX1 yX1_read yX1_read ∈ gT := gT_t (i := 377) (by decide +kernel) rfl
theorem wc_X1_read : Cond.code yX1_read cX1_read 1 (some .boolean) ∈ gT := gT_t (i := 378) (by decide +kernel) rfl
theorem wm_X1_39 : Cond.methodLink RX1 39 yX5_clear ∈ gT := gT_t (i := 379) (by decide +kernel) rfl
theorem wi_X5_clear : Cond.instanceMethod yX5_clear ∈ gT := gT_t (i := 380) (by decide +kernel) rfl
theorem ws_X5_clear : Cond.selects RX5 yX5_clear yX5_clear ∈ gT := gT_t (i := 381) (by decide +kernel) rfl
theorem wc_X5_clear : Cond.code yX5_clear cX5_clear 1 none ∈ gT := gT_t (i := 382) (by decide +kernel) rfl
theorem wm_X1_42 : Cond.methodLink RX1 42 yX1_readGround ∈ gT := gT_t (i := 383) (by decide +kernel) rfl
theorem wi_X1_readGround : Cond.instanceMethod yX1_readGround ∈ gT := gT_t (i := 385) (by decide +kernel) rfl
theorem wc_X1_readGround : Cond.code yX1_readGround cX1_readGround 2 (some .boolean) ∈ gT := gT_t (i := 386) (by decide +kernel) rfl
theorem wm_X1_46 : Cond.methodLink RX1 46 yX1_peek ∈ gT := gT_t (i := 388) (by decide +kernel) rfl
theorem wi_X1_peek : Cond.instanceMethod yX1_peek ∈ gT := gT_t (i := 390) (by decide +kernel) rfl
theorem wc_X1_peek : Cond.code yX1_peek cX1_peek 1 (some .int) ∈ gT := gT_t (i := 391) (by decide +kernel) rfl
theorem wm_X1_68 : Cond.methodLink RX1 68 yX5_addCell ∈ gT := gT_t (i := 474) (by decide +kernel) rfl
theorem wi_X5_addCell : Cond.instanceMethod yX5_addCell ∈ gT := gT_t (i := 475) (by decide +kernel) rfl
theorem ws_X5_addCell : Cond.selects RX5 yX5_addCell yX5_addCell ∈ gT := gT_t (i := 476) (by decide +kernel) rfl
theorem wc_X5_addCell : Cond.code yX5_addCell cX5_addCell 2 none ∈ gT := gT_t (i := 477) (by decide +kernel) rfl
theorem wm_X5_62 : Cond.methodLink RX5 62 yX5_costOf ∈ gT := gT_t (i := 478) (by decide +kernel) rfl
theorem wt_X5_costOf : Cond.static yX5_costOf ∈ gT := gT_t (i := 479) (by decide +kernel) rfl
theorem wc_X5_costOf : Cond.code yX5_costOf cX5_costOf 1 (some .int) ∈ gT := gT_t (i := 480) (by decide +kernel) rfl
theorem wm_X1_50 : Cond.methodLink RX1 50 yX1_take ∈ gT := gT_t (i := 481) (by decide +kernel) rfl
theorem wi_X1_take : Cond.instanceMethod yX1_take ∈ gT := gT_t (i := 483) (by decide +kernel) rfl
theorem wc_X1_take : Cond.code yX1_take cX1_take 2 (some .boolean) ∈ gT := gT_t (i := 484) (by decide +kernel) rfl
theorem wm_X1_54 : Cond.methodLink RX1 54 yX1_readFighters ∈ gT := gT_t (i := 485) (by decide +kernel) rfl
theorem wi_X1_readFighters : Cond.instanceMethod yX1_readFighters ∈ gT := gT_t (i := 487) (by decide +kernel) rfl
theorem wc_X1_readFighters : Cond.code yX1_readFighters cX1_readFighters 1 (some .boolean) ∈ gT := gT_t (i := 488) (by decide +kernel) rfl
theorem wm_X1_75 : Cond.methodLink RX1 75 yX1_readFighter ∈ gT := gT_t (i := 489) (by decide +kernel) rfl
theorem wi_X1_readFighter : Cond.instanceMethod yX1_readFighter ∈ gT := gT_t (i := 491) (by decide +kernel) rfl
theorem wc_X1_readFighter : Cond.code yX1_readFighter cX1_readFighter 5 (some .boolean) ∈ gT := gT_t (i := 492) (by decide +kernel) rfl
theorem wm_X1_80 : Cond.methodLink RX1 80 yX1_takeDigit ∈ gT := gT_t (i := 494) (by decide +kernel) rfl
theorem wi_X1_takeDigit : Cond.instanceMethod yX1_takeDigit ∈ gT := gT_t (i := 496) (by decide +kernel) rfl
theorem wc_X1_takeDigit : Cond.code yX1_takeDigit cX1_takeDigit 4 (some .int) ∈ gT := gT_t (i := 497) (by decide +kernel) rfl
theorem wm_X1_84 : Cond.methodLink RX1 84 yX5_addFighter ∈ gT := gT_t (i := 499) (by decide +kernel) rfl
theorem wm_X7_127 : Cond.methodLink RX7 127 yX1_setUp ∈ gT := gT_t (i := 500) (by decide +kernel) rfl
theorem wi_X1_setUp : Cond.instanceMethod yX1_setUp ∈ gT := gT_t (i := 501) (by decide +kernel) rfl
theorem ws_X1_setUp : Cond.selects RX1 yX1_setUp yX1_setUp ∈ gT := gT_t (i := 502) (by decide +kernel) rfl
theorem wc_X1_setUp : Cond.code yX1_setUp cX1_setUp 2 none ∈ gT := gT_t (i := 503) (by decide +kernel) rfl
theorem wm_X1_32 : Cond.methodLink RX1 32 yX5_takeFrom ∈ gT := gT_t (i := 504) (by decide +kernel) rfl
theorem wi_X5_takeFrom : Cond.instanceMethod yX5_takeFrom ∈ gT := gT_t (i := 505) (by decide +kernel) rfl
theorem ws_X5_takeFrom : Cond.selects RX5 yX5_takeFrom yX5_takeFrom ∈ gT := gT_t (i := 506) (by decide +kernel) rfl
theorem wc_X5_takeFrom : Cond.code yX5_takeFrom cX5_takeFrom 2 none ∈ gT := gT_t (i := 507) (by decide +kernel) rfl
theorem wm_X5_58 : Cond.methodLink RX5 58 yX5_takeHurts ∈ gT := gT_t (i := 511) (by decide +kernel) rfl
theorem wi_X5_takeHurts : Cond.instanceMethod yX5_takeHurts ∈ gT := gT_t (i := 512) (by decide +kernel) rfl
theorem ws_X5_takeHurts : Cond.selects RX5 yX5_takeHurts yX5_takeHurts ∈ gT := gT_t (i := 513) (by decide +kernel) rfl
theorem wc_X5_takeHurts : Cond.code yX5_takeHurts cX5_takeHurts 2 none ∈ gT := gT_t (i := 514) (by decide +kernel) rfl
theorem wm_L_53 : Cond.methodLink RL 53 yX7_count ∈ gT := gT_t (i := 516) (by decide +kernel) rfl
theorem wi_X7_count : Cond.instanceMethod yX7_count ∈ gT := gT_t (i := 517) (by decide +kernel) rfl
theorem ws_X7_count : Cond.selects RX7 yX7_count yX7_count ∈ gT := gT_t (i := 518) (by decide +kernel) rfl
theorem wc_X7_count : Cond.code yX7_count cX7_count 2 (some .int) ∈ gT := gT_t (i := 519) (by decide +kernel) rfl
theorem wm_X7_140 : Cond.methodLink RX7 140 yX5_thoseDown ∈ gT := gT_t (i := 520) (by decide +kernel) rfl
theorem wi_X5_thoseDown : Cond.instanceMethod yX5_thoseDown ∈ gT := gT_t (i := 521) (by decide +kernel) rfl
theorem ws_X5_thoseDown : Cond.selects RX5 yX5_thoseDown yX5_thoseDown ∈ gT := gT_t (i := 522) (by decide +kernel) rfl
theorem wc_X5_thoseDown : Cond.code yX5_thoseDown cX5_thoseDown 3 (some .int) ∈ gT := gT_t (i := 523) (by decide +kernel) rfl
theorem wm_X7_144 : Cond.methodLink RX7 144 yX5_outcome ∈ gT := gT_t (i := 524) (by decide +kernel) rfl
theorem wi_X5_outcome : Cond.instanceMethod yX5_outcome ∈ gT := gT_t (i := 525) (by decide +kernel) rfl
theorem ws_X5_outcome : Cond.selects RX5 yX5_outcome yX5_outcome ∈ gT := gT_t (i := 526) (by decide +kernel) rfl
theorem wc_X5_outcome : Cond.code yX5_outcome cX5_outcome 1 (some .int) ∈ gT := gT_t (i := 527) (by decide +kernel) rfl
theorem wm_X5_77 : Cond.methodLink RX5 77 yX5_othersUp ∈ gT := gT_t (i := 528) (by decide +kernel) rfl
theorem wi_X5_othersUp : Cond.instanceMethod yX5_othersUp ∈ gT := gT_t (i := 529) (by decide +kernel) rfl
theorem ws_X5_othersUp : Cond.selects RX5 yX5_othersUp yX5_othersUp ∈ gT := gT_t (i := 530) (by decide +kernel) rfl
theorem wc_X5_othersUp : Cond.code yX5_othersUp cX5_othersUp 3 (some .int) ∈ gT := gT_t (i := 531) (by decide +kernel) rfl
theorem wm_L_57 : Cond.methodLink RL 57 yX7_moment ∈ gT := gT_t (i := 532) (by decide +kernel) rfl
theorem wi_X7_moment : Cond.instanceMethod yX7_moment ∈ gT := gT_t (i := 533) (by decide +kernel) rfl
theorem ws_X7_moment : Cond.selects RX7 yX7_moment yX7_moment ∈ gT := gT_t (i := 534) (by decide +kernel) rfl
theorem wc_X7_moment : Cond.code yX7_moment cX7_moment 1 (some .int) ∈ gT := gT_t (i := 535) (by decide +kernel) rfl
theorem wm_X7_147 : Cond.methodLink RX7 147 yX4_remember ∈ gT := gT_t (i := 536) (by decide +kernel) rfl
theorem wi_X4_remember : Cond.instanceMethod yX4_remember ∈ gT := gT_t (i := 537) (by decide +kernel) rfl
theorem ws_X4_remember : Cond.selects RX4 yX4_remember yX4_remember ∈ gT := gT_t (i := 538) (by decide +kernel) rfl
theorem wc_X4_remember : Cond.code yX4_remember cX4_remember 2 none ∈ gT := gT_t (i := 539) (by decide +kernel) rfl
theorem wm_X7_150 : Cond.methodLink RX7 150 yX5_fightFirst ∈ gT := gT_t (i := 542) (by decide +kernel) rfl
theorem wi_X5_fightFirst : Cond.instanceMethod yX5_fightFirst ∈ gT := gT_t (i := 543) (by decide +kernel) rfl
theorem ws_X5_fightFirst : Cond.selects RX5 yX5_fightFirst yX5_fightFirst ∈ gT := gT_t (i := 544) (by decide +kernel) rfl
theorem wc_X5_fightFirst : Cond.code yX5_fightFirst cX5_fightFirst 4 (some .int) ∈ gT := gT_t (i := 545) (by decide +kernel) rfl
theorem wm_X5_131 : Cond.methodLink RX5 131 yX5_firstThere ∈ gT := gT_t (i := 546) (by decide +kernel) rfl
theorem wi_X5_firstThere : Cond.instanceMethod yX5_firstThere ∈ gT := gT_t (i := 548) (by decide +kernel) rfl
theorem wc_X5_firstThere : Cond.code yX5_firstThere cX5_firstThere 3 (some .int) ∈ gT := gT_t (i := 549) (by decide +kernel) rfl
theorem wm_X5_128 : Cond.methodLink RX5 128 yX5_isThere ∈ gT := gT_t (i := 550) (by decide +kernel) rfl
theorem wi_X5_isThere : Cond.instanceMethod yX5_isThere ∈ gT := gT_t (i := 552) (by decide +kernel) rfl
theorem wc_X5_isThere : Cond.code yX5_isThere cX5_isThere 2 (some .boolean) ∈ gT := gT_t (i := 553) (by decide +kernel) rfl
theorem wm_X5_134 : Cond.methodLink RX5 134 yX5_forceOf ∈ gT := gT_t (i := 554) (by decide +kernel) rfl
theorem wm_X5_137 : Cond.methodLink RX5 137 yX5_countThere ∈ gT := gT_t (i := 555) (by decide +kernel) rfl
theorem wi_X5_countThere : Cond.instanceMethod yX5_countThere ∈ gT := gT_t (i := 557) (by decide +kernel) rfl
theorem wc_X5_countThere : Cond.code yX5_countThere cX5_countThere 3 (some .int) ∈ gT := gT_t (i := 558) (by decide +kernel) rfl
theorem wm_X5_140 : Cond.methodLink RX5 140 yX5_odds ∈ gT := gT_t (i := 559) (by decide +kernel) rfl
theorem wt_X5_odds : Cond.static yX5_odds ∈ gT := gT_t (i := 560) (by decide +kernel) rfl
theorem wc_X5_odds : Cond.code yX5_odds cX5_odds 4 (some .int) ∈ gT := gT_t (i := 561) (by decide +kernel) rfl
theorem wm_X5_143 : Cond.methodLink RX5 143 yX5_drawOfSixteen ∈ gT := gT_t (i := 562) (by decide +kernel) rfl
theorem wi_X5_drawOfSixteen : Cond.instanceMethod yX5_drawOfSixteen ∈ gT := gT_t (i := 564) (by decide +kernel) rfl
theorem wc_X5_drawOfSixteen : Cond.code yX5_drawOfSixteen cX5_drawOfSixteen 1 (some .int) ∈ gT := gT_t (i := 565) (by decide +kernel) rfl
theorem wk_X5_146 : Cond.constant RX5 146 (1103515245) ∈ gT := gT_t (i := 566) (by decide +kernel) rfl
theorem wk_X5_147 : Cond.constant RX5 147 (2147483647) ∈ gT := gT_t (i := 567) (by decide +kernel) rfl
theorem wk_X5_148 : Cond.constant RX5 148 (65536) ∈ gT := gT_t (i := 568) (by decide +kernel) rfl
theorem wm_X7_153 : Cond.methodLink RX7 153 yX7_runOn ∈ gT := gT_t (i := 569) (by decide +kernel) rfl
theorem wi_X7_runOn : Cond.instanceMethod yX7_runOn ∈ gT := gT_t (i := 571) (by decide +kernel) rfl
theorem wc_X7_runOn : Cond.code yX7_runOn cX7_runOn 1 (some .int) ∈ gT := gT_t (i := 572) (by decide +kernel) rfl
theorem wm_X7_156 : Cond.methodLink RX7 156 yX5_isCaughtIn ∈ gT := gT_t (i := 573) (by decide +kernel) rfl
theorem wi_X5_isCaughtIn : Cond.instanceMethod yX5_isCaughtIn ∈ gT := gT_t (i := 574) (by decide +kernel) rfl
theorem ws_X5_isCaughtIn : Cond.selects RX5 yX5_isCaughtIn yX5_isCaughtIn ∈ gT := gT_t (i := 575) (by decide +kernel) rfl
theorem wc_X5_isCaughtIn : Cond.code yX5_isCaughtIn cX5_isCaughtIn 5 (some .boolean) ∈ gT := gT_t (i := 576) (by decide +kernel) rfl
theorem wm_X5_122 : Cond.methodLink RX5 122 yX5_comesTo ∈ gT := gT_t (i := 577) (by decide +kernel) rfl
theorem wi_X5_comesTo : Cond.instanceMethod yX5_comesTo ∈ gT := gT_t (i := 578) (by decide +kernel) rfl
theorem ws_X5_comesTo : Cond.selects RX5 yX5_comesTo yX5_comesTo ∈ gT := gT_t (i := 579) (by decide +kernel) rfl
theorem wc_X5_comesTo : Cond.code yX5_comesTo cX5_comesTo 5 (some .int) ∈ gT := gT_t (i := 580) (by decide +kernel) rfl
theorem wm_X5_119 : Cond.methodLink RX5 119 yX3_momentsFor ∈ gT := gT_t (i := 581) (by decide +kernel) rfl
theorem wt_X3_momentsFor : Cond.static yX3_momentsFor ∈ gT := gT_t (i := 582) (by decide +kernel) rfl
theorem wc_X3_momentsFor : Cond.code yX3_momentsFor cX3_momentsFor 4 (some .int) ∈ gT := gT_t (i := 583) (by decide +kernel) rfl
theorem wm_X3_18 : Cond.methodLink RX3 18 yX3_shares ∈ gT := gT_t (i := 584) (by decide +kernel) rfl
theorem wt_X3_shares : Cond.static yX3_shares ∈ gT := gT_t (i := 585) (by decide +kernel) rfl
theorem wc_X3_shares : Cond.code yX3_shares cX3_shares 2 (some .int) ∈ gT := gT_t (i := 586) (by decide +kernel) rfl
theorem wm_X7_159 : Cond.methodLink RX7 159 yX5_turnIn ∈ gT := gT_t (i := 587) (by decide +kernel) rfl
theorem wi_X5_turnIn : Cond.instanceMethod yX5_turnIn ∈ gT := gT_t (i := 588) (by decide +kernel) rfl
theorem ws_X5_turnIn : Cond.selects RX5 yX5_turnIn yX5_turnIn ∈ gT := gT_t (i := 589) (by decide +kernel) rfl
theorem wc_X5_turnIn : Cond.code yX5_turnIn cX5_turnIn 3 none ∈ gT := gT_t (i := 590) (by decide +kernel) rfl
theorem wm_L_61 : Cond.methodLink RL 61 yX7_turn ∈ gT := gT_t (i := 591) (by decide +kernel) rfl
theorem wi_X7_turn : Cond.instanceMethod yX7_turn ∈ gT := gT_t (i := 592) (by decide +kernel) rfl
theorem ws_X7_turn : Cond.selects RX7 yX7_turn yX7_turn ∈ gT := gT_t (i := 593) (by decide +kernel) rfl
theorem wc_X7_turn : Cond.code yX7_turn cX7_turn 1 (some .int) ∈ gT := gT_t (i := 594) (by decide +kernel) rfl
theorem wm_X7_163 : Cond.methodLink RX7 163 yX7_mayTurn ∈ gT := gT_t (i := 595) (by decide +kernel) rfl
theorem wi_X7_mayTurn : Cond.instanceMethod yX7_mayTurn ∈ gT := gT_t (i := 597) (by decide +kernel) rfl
theorem wc_X7_mayTurn : Cond.code yX7_mayTurn cX7_mayTurn 1 (some .boolean) ∈ gT := gT_t (i := 598) (by decide +kernel) rfl
theorem wm_L_65 : Cond.methodLink RL 65 yX7_undo ∈ gT := gT_t (i := 599) (by decide +kernel) rfl
theorem wi_X7_undo : Cond.instanceMethod yX7_undo ∈ gT := gT_t (i := 600) (by decide +kernel) rfl
theorem ws_X7_undo : Cond.selects RX7 yX7_undo yX7_undo ∈ gT := gT_t (i := 601) (by decide +kernel) rfl
theorem wc_X7_undo : Cond.code yX7_undo cX7_undo 1 (some .int) ∈ gT := gT_t (i := 602) (by decide +kernel) rfl
theorem wm_X7_166 : Cond.methodLink RX7 166 yX4_bringBack ∈ gT := gT_t (i := 603) (by decide +kernel) rfl
theorem wi_X4_bringBack : Cond.instanceMethod yX4_bringBack ∈ gT := gT_t (i := 604) (by decide +kernel) rfl
theorem ws_X4_bringBack : Cond.selects RX4 yX4_bringBack yX4_bringBack ∈ gT := gT_t (i := 605) (by decide +kernel) rfl
theorem wc_X4_bringBack : Cond.code yX4_bringBack cX4_bringBack 2 (some .boolean) ∈ gT := gT_t (i := 606) (by decide +kernel) rfl
theorem wm_L_69 : Cond.methodLink RL 69 yX7_seed ∈ gT := gT_t (i := 607) (by decide +kernel) rfl
theorem wi_X7_seed : Cond.instanceMethod yX7_seed ∈ gT := gT_t (i := 608) (by decide +kernel) rfl
theorem ws_X7_seed : Cond.selects RX7 yX7_seed yX7_seed ∈ gT := gT_t (i := 609) (by decide +kernel) rfl
theorem wc_X7_seed : Cond.code yX7_seed cX7_seed 3 (some .int) ∈ gT := gT_t (i := 610) (by decide +kernel) rfl
theorem wm_L_73 : Cond.methodLink RL 73 yX7_chance ∈ gT := gT_t (i := 611) (by decide +kernel) rfl
theorem wi_X7_chance : Cond.instanceMethod yX7_chance ∈ gT := gT_t (i := 612) (by decide +kernel) rfl
theorem ws_X7_chance : Cond.selects RX7 yX7_chance yX7_chance ∈ gT := gT_t (i := 613) (by decide +kernel) rfl
theorem wc_X7_chance : Cond.code yX7_chance cX7_chance 2 (some .int) ∈ gT := gT_t (i := 614) (by decide +kernel) rfl
theorem wm_X7_173 : Cond.methodLink RX7 173 yX2_begin ∈ gT := gT_t (i := 615) (by decide +kernel) rfl
theorem wi_X2_begin : Cond.instanceMethod yX2_begin ∈ gT := gT_t (i := 616) (by decide +kernel) rfl
theorem ws_X2_begin : Cond.selects RX2 yX2_begin yX2_begin ∈ gT := gT_t (i := 617) (by decide +kernel) rfl
theorem wc_X2_begin : Cond.code yX2_begin cX2_begin 2 none ∈ gT := gT_t (i := 618) (by decide +kernel) rfl
theorem wm_X2_29 : Cond.methodLink RX2 29 yX5_takeFrom ∈ gT := gT_t (i := 619) (by decide +kernel) rfl
theorem wm_X2_33 : Cond.methodLink RX2 33 yX0_forget ∈ gT := gT_t (i := 620) (by decide +kernel) rfl
theorem wi_X0_forget : Cond.instanceMethod yX0_forget ∈ gT := gT_t (i := 621) (by decide +kernel) rfl
theorem ws_X0_forget : Cond.selects RX0 yX0_forget yX0_forget ∈ gT := gT_t (i := 622) (by decide +kernel) rfl
theorem wc_X0_forget : Cond.code yX0_forget cX0_forget 2 none ∈ gT := gT_t (i := 623) (by decide +kernel) rfl
theorem wm_X7_176 : Cond.methodLink RX7 176 yX2_chanceBy ∈ gT := gT_t (i := 624) (by decide +kernel) rfl
theorem wi_X2_chanceBy : Cond.instanceMethod yX2_chanceBy ∈ gT := gT_t (i := 625) (by decide +kernel) rfl
theorem ws_X2_chanceBy : Cond.selects RX2 yX2_chanceBy yX2_chanceBy ∈ gT := gT_t (i := 626) (by decide +kernel) rfl
theorem wc_X2_chanceBy : Cond.code yX2_chanceBy cX2_chanceBy 3 (some .int) ∈ gT := gT_t (i := 627) (by decide +kernel) rfl
theorem wm_X2_40 : Cond.methodLink RX2 40 yX5_hasTurned ∈ gT := gT_t (i := 628) (by decide +kernel) rfl
theorem wm_X2_44 : Cond.methodLink RX2 44 yX0_takeComing ∈ gT := gT_t (i := 629) (by decide +kernel) rfl
theorem wi_X0_takeComing : Cond.instanceMethod yX0_takeComing ∈ gT := gT_t (i := 630) (by decide +kernel) rfl
theorem ws_X0_takeComing : Cond.selects RX0 yX0_takeComing yX0_takeComing ∈ gT := gT_t (i := 631) (by decide +kernel) rfl
theorem wc_X0_takeComing : Cond.code yX0_takeComing cX0_takeComing 2 none ∈ gT := gT_t (i := 632) (by decide +kernel) rfl
theorem wm_X2_47 : Cond.methodLink RX2 47 yX5_turnMoment ∈ gT := gT_t (i := 634) (by decide +kernel) rfl
theorem wi_X5_turnMoment : Cond.instanceMethod yX5_turnMoment ∈ gT := gT_t (i := 635) (by decide +kernel) rfl
theorem ws_X5_turnMoment : Cond.selects RX5 yX5_turnMoment yX5_turnMoment ∈ gT := gT_t (i := 636) (by decide +kernel) rfl
theorem wc_X5_turnMoment : Cond.code yX5_turnMoment cX5_turnMoment 4 (some .int) ∈ gT := gT_t (i := 637) (by decide +kernel) rfl
theorem wm_X5_125 : Cond.methodLink RX5 125 yX5_isCaughtIn ∈ gT := gT_t (i := 638) (by decide +kernel) rfl
theorem wm_X2_51 : Cond.methodLink RX2 51 yX0_tellComing ∈ gT := gT_t (i := 639) (by decide +kernel) rfl
theorem wi_X0_tellComing : Cond.instanceMethod yX0_tellComing ∈ gT := gT_t (i := 640) (by decide +kernel) rfl
theorem ws_X0_tellComing : Cond.selects RX0 yX0_tellComing yX0_tellComing ∈ gT := gT_t (i := 641) (by decide +kernel) rfl
theorem wc_X0_tellComing : Cond.code yX0_tellComing cX0_tellComing 5 none ∈ gT := gT_t (i := 642) (by decide +kernel) rfl
theorem wm_X0_54 : Cond.methodLink RX0 54 yX5_cellRunning ∈ gT := gT_t (i := 643) (by decide +kernel) rfl
theorem wm_X0_62 : Cond.methodLink RX0 62 yX5_comesTo ∈ gT := gT_t (i := 644) (by decide +kernel) rfl
theorem wm_X2_55 : Cond.methodLink RX2 55 yX0_chanceFrom ∈ gT := gT_t (i := 645) (by decide +kernel) rfl
theorem wi_X0_chanceFrom : Cond.instanceMethod yX0_chanceFrom ∈ gT := gT_t (i := 646) (by decide +kernel) rfl
theorem ws_X0_chanceFrom : Cond.selects RX0 yX0_chanceFrom yX0_chanceFrom ∈ gT := gT_t (i := 647) (by decide +kernel) rfl
theorem wc_X0_chanceFrom : Cond.code yX0_chanceFrom cX0_chanceFrom 5 (some .int) ∈ gT := gT_t (i := 648) (by decide +kernel) rfl
theorem wm_X0_65 : Cond.methodLink RX0 65 yX0_putInOrder ∈ gT := gT_t (i := 649) (by decide +kernel) rfl
theorem wi_X0_putInOrder : Cond.instanceMethod yX0_putInOrder ∈ gT := gT_t (i := 651) (by decide +kernel) rfl
theorem wc_X0_putInOrder : Cond.code yX0_putInOrder cX0_putInOrder 4 none ∈ gT := gT_t (i := 652) (by decide +kernel) rfl
theorem wm_X0_73 : Cond.methodLink RX0 73 yX5_isUp ∈ gT := gT_t (i := 653) (by decide +kernel) rfl
theorem wk_X0_72 : Cond.constant RX0 72 (1000000) ∈ gT := gT_t (i := 654) (by decide +kernel) rfl
theorem wm_X0_77 : Cond.methodLink RX0 77 yX0_tellWaits ∈ gT := gT_t (i := 655) (by decide +kernel) rfl
theorem wi_X0_tellWaits : Cond.instanceMethod yX0_tellWaits ∈ gT := gT_t (i := 657) (by decide +kernel) rfl
theorem wc_X0_tellWaits : Cond.code yX0_tellWaits cX0_tellWaits 6 none ∈ gT := gT_t (i := 658) (by decide +kernel) rfl
theorem wm_X0_81 : Cond.methodLink RX0 81 yX0_keyOf ∈ gT := gT_t (i := 661) (by decide +kernel) rfl
theorem wi_X0_keyOf : Cond.instanceMethod yX0_keyOf ∈ gT := gT_t (i := 663) (by decide +kernel) rfl
theorem wc_X0_keyOf : Cond.code yX0_keyOf cX0_keyOf 4 (some .int) ∈ gT := gT_t (i := 664) (by decide +kernel) rfl
theorem wm_X0_85 : Cond.methodLink RX0 85 yX0_foldBack ∈ gT := gT_t (i := 665) (by decide +kernel) rfl
theorem wi_X0_foldBack : Cond.instanceMethod yX0_foldBack ∈ gT := gT_t (i := 667) (by decide +kernel) rfl
theorem wc_X0_foldBack : Cond.code yX0_foldBack cX0_foldBack 8 (some .int) ∈ gT := gT_t (i := 668) (by decide +kernel) rfl
theorem wm_X0_97 : Cond.methodLink RX0 97 yX0_tellForces ∈ gT := gT_t (i := 669) (by decide +kernel) rfl
theorem wi_X0_tellForces : Cond.instanceMethod yX0_tellForces ∈ gT := gT_t (i := 671) (by decide +kernel) rfl
theorem wc_X0_tellForces : Cond.code yX0_tellForces cX0_tellForces 6 none ∈ gT := gT_t (i := 672) (by decide +kernel) rfl
theorem wm_X0_127 : Cond.methodLink RX0 127 yX3_force ∈ gT := gT_t (i := 673) (by decide +kernel) rfl
theorem wm_X0_100 : Cond.methodLink RX0 100 yX0_tellIdle ∈ gT := gT_t (i := 674) (by decide +kernel) rfl
theorem wi_X0_tellIdle : Cond.instanceMethod yX0_tellIdle ∈ gT := gT_t (i := 676) (by decide +kernel) rfl
theorem wc_X0_tellIdle : Cond.code yX0_tellIdle cX0_tellIdle 3 none ∈ gT := gT_t (i := 677) (by decide +kernel) rfl
theorem wm_X0_106 : Cond.methodLink RX0 106 yX0_settleEnds ∈ gT := gT_t (i := 678) (by decide +kernel) rfl
theorem wi_X0_settleEnds : Cond.instanceMethod yX0_settleEnds ∈ gT := gT_t (i := 680) (by decide +kernel) rfl
theorem wc_X0_settleEnds : Cond.code yX0_settleEnds cX0_settleEnds 4 none ∈ gT := gT_t (i := 681) (by decide +kernel) rfl
theorem wm_X0_109 : Cond.methodLink RX0 109 yX0_leastHurt ∈ gT := gT_t (i := 682) (by decide +kernel) rfl
theorem wi_X0_leastHurt : Cond.instanceMethod yX0_leastHurt ∈ gT := gT_t (i := 684) (by decide +kernel) rfl
theorem wc_X0_leastHurt : Cond.code yX0_leastHurt cX0_leastHurt 5 (some .int) ∈ gT := gT_t (i := 685) (by decide +kernel) rfl
theorem wm_X0_113 : Cond.methodLink RX0 113 yX0_fold ∈ gT := gT_t (i := 686) (by decide +kernel) rfl
theorem wi_X0_fold : Cond.instanceMethod yX0_fold ∈ gT := gT_t (i := 688) (by decide +kernel) rfl
theorem wc_X0_fold : Cond.code yX0_fold cX0_fold 6 none ∈ gT := gT_t (i := 689) (by decide +kernel) rfl
theorem wm_X0_137 : Cond.methodLink RX0 137 yX5_odds ∈ gT := gT_t (i := 690) (by decide +kernel) rfl
theorem wm_X0_117 : Cond.methodLink RX0 117 yX0_foldMoment ∈ gT := gT_t (i := 691) (by decide +kernel) rfl
theorem wi_X0_foldMoment : Cond.instanceMethod yX0_foldMoment ∈ gT := gT_t (i := 693) (by decide +kernel) rfl
theorem wc_X0_foldMoment : Cond.code yX0_foldMoment cX0_foldMoment 10 none ∈ gT := gT_t (i := 694) (by decide +kernel) rfl
theorem wm_X0_133 : Cond.methodLink RX0 133 yX0_countThere ∈ gT := gT_t (i := 695) (by decide +kernel) rfl
theorem wi_X0_countThere : Cond.instanceMethod yX0_countThere ∈ gT := gT_t (i := 697) (by decide +kernel) rfl
theorem wc_X0_countThere : Cond.code yX0_countThere cX0_countThere 3 (some .int) ∈ gT := gT_t (i := 698) (by decide +kernel) rfl
theorem wm_L_77 : Cond.methodLink RL 77 yX7_best ∈ gT := gT_t (i := 699) (by decide +kernel) rfl
theorem wi_X7_best : Cond.instanceMethod yX7_best ∈ gT := gT_t (i := 700) (by decide +kernel) rfl
theorem ws_X7_best : Cond.selects RX7 yX7_best yX7_best ∈ gT := gT_t (i := 701) (by decide +kernel) rfl
theorem wc_X7_best : Cond.code yX7_best cX7_best 3 (some .int) ∈ gT := gT_t (i := 702) (by decide +kernel) rfl
theorem wm_X7_179 : Cond.methodLink RX7 179 yX2_foresee ∈ gT := gT_t (i := 703) (by decide +kernel) rfl
theorem wi_X2_foresee : Cond.instanceMethod yX2_foresee ∈ gT := gT_t (i := 704) (by decide +kernel) rfl
theorem ws_X2_foresee : Cond.selects RX2 yX2_foresee yX2_foresee ∈ gT := gT_t (i := 705) (by decide +kernel) rfl
theorem wc_X2_foresee : Cond.code yX2_foresee cX2_foresee 7 (some .int) ∈ gT := gT_t (i := 706) (by decide +kernel) rfl
theorem wm_X2_62 : Cond.methodLink RX2 62 yX5_isCaughtIn ∈ gT := gT_t (i := 707) (by decide +kernel) rfl
theorem wm_X7_182 : Cond.methodLink RX7 182 yX2_firstWith ∈ gT := gT_t (i := 709) (by decide +kernel) rfl
theorem wi_X2_firstWith : Cond.instanceMethod yX2_firstWith ∈ gT := gT_t (i := 710) (by decide +kernel) rfl
theorem ws_X2_firstWith : Cond.selects RX2 yX2_firstWith yX2_firstWith ∈ gT := gT_t (i := 711) (by decide +kernel) rfl
theorem wc_X2_firstWith : Cond.code yX2_firstWith cX2_firstWith 3 (some .int) ∈ gT := gT_t (i := 712) (by decide +kernel) rfl
theorem wm_L_81 : Cond.methodLink RL 81 yX7_late ∈ gT := gT_t (i := 713) (by decide +kernel) rfl
theorem wi_X7_late : Cond.instanceMethod yX7_late ∈ gT := gT_t (i := 714) (by decide +kernel) rfl
theorem ws_X7_late : Cond.selects RX7 yX7_late yX7_late ∈ gT := gT_t (i := 715) (by decide +kernel) rfl
theorem wc_X7_late : Cond.code yX7_late cX7_late 2 (some .int) ∈ gT := gT_t (i := 716) (by decide +kernel) rfl
theorem wk_X7_185 : Cond.constant RX7 185 (1000000) ∈ gT := gT_t (i := 717) (by decide +kernel) rfl
theorem wm_X7_186 : Cond.methodLink RX7 186 yX2_lastWith ∈ gT := gT_t (i := 718) (by decide +kernel) rfl
theorem wi_X2_lastWith : Cond.instanceMethod yX2_lastWith ∈ gT := gT_t (i := 719) (by decide +kernel) rfl
theorem ws_X2_lastWith : Cond.selects RX2 yX2_lastWith yX2_lastWith ∈ gT := gT_t (i := 720) (by decide +kernel) rfl
theorem wc_X2_lastWith : Cond.code yX2_lastWith cX2_lastWith 3 (some .int) ∈ gT := gT_t (i := 721) (by decide +kernel) rfl
theorem wm_L_85 : Cond.methodLink RL 85 yX7_together ∈ gT := gT_t (i := 722) (by decide +kernel) rfl
theorem wi_X7_together : Cond.instanceMethod yX7_together ∈ gT := gT_t (i := 723) (by decide +kernel) rfl
theorem ws_X7_together : Cond.selects RX7 yX7_together yX7_together ∈ gT := gT_t (i := 724) (by decide +kernel) rfl
theorem wc_X7_together : Cond.code yX7_together cX7_together 4 (some .int) ∈ gT := gT_t (i := 725) (by decide +kernel) rfl
theorem wm_X7_189 : Cond.methodLink RX7 189 yX2_chanceTogether ∈ gT := gT_t (i := 726) (by decide +kernel) rfl
theorem wi_X2_chanceTogether : Cond.instanceMethod yX2_chanceTogether ∈ gT := gT_t (i := 727) (by decide +kernel) rfl
theorem ws_X2_chanceTogether : Cond.selects RX2 yX2_chanceTogether yX2_chanceTogether ∈ gT := gT_t (i := 728) (by decide +kernel) rfl
theorem wc_X2_chanceTogether : Cond.code yX2_chanceTogether cX2_chanceTogether 1 (some .int) ∈ gT := gT_t (i := 729) (by decide +kernel) rfl
theorem wm_X2_59 : Cond.methodLink RX2 59 yX0_tellAllAtOnce ∈ gT := gT_t (i := 730) (by decide +kernel) rfl
theorem wi_X0_tellAllAtOnce : Cond.instanceMethod yX0_tellAllAtOnce ∈ gT := gT_t (i := 731) (by decide +kernel) rfl
theorem ws_X0_tellAllAtOnce : Cond.selects RX0 yX0_tellAllAtOnce yX0_tellAllAtOnce ∈ gT := gT_t (i := 732) (by decide +kernel) rfl
theorem wc_X0_tellAllAtOnce : Cond.code yX0_tellAllAtOnce cX0_tellAllAtOnce 2 none ∈ gT := gT_t (i := 733) (by decide +kernel) rfl
theorem wm_L_89 : Cond.methodLink RL 89 yX7_ditched ∈ gT := gT_t (i := 734) (by decide +kernel) rfl
theorem wi_X7_ditched : Cond.instanceMethod yX7_ditched ∈ gT := gT_t (i := 735) (by decide +kernel) rfl
theorem ws_X7_ditched : Cond.selects RX7 yX7_ditched yX7_ditched ∈ gT := gT_t (i := 736) (by decide +kernel) rfl
theorem wc_X7_ditched : Cond.code yX7_ditched cX7_ditched 5 (some .int) ∈ gT := gT_t (i := 737) (by decide +kernel) rfl
theorem wm_X7_192 : Cond.methodLink RX7 192 yX2_suppose ∈ gT := gT_t (i := 738) (by decide +kernel) rfl
theorem wi_X2_suppose : Cond.instanceMethod yX2_suppose ∈ gT := gT_t (i := 739) (by decide +kernel) rfl
theorem ws_X2_suppose : Cond.selects RX2 yX2_suppose yX2_suppose ∈ gT := gT_t (i := 740) (by decide +kernel) rfl
theorem wc_X2_suppose : Cond.code yX2_suppose cX2_suppose 3 none ∈ gT := gT_t (i := 741) (by decide +kernel) rfl
theorem wm_X2_75 : Cond.methodLink RX2 75 yX5_changeSort ∈ gT := gT_t (i := 742) (by decide +kernel) rfl
theorem wi_X5_changeSort : Cond.instanceMethod yX5_changeSort ∈ gT := gT_t (i := 743) (by decide +kernel) rfl
theorem ws_X5_changeSort : Cond.selects RX5 yX5_changeSort yX5_changeSort ∈ gT := gT_t (i := 744) (by decide +kernel) rfl
theorem wc_X5_changeSort : Cond.code yX5_changeSort cX5_changeSort 5 none ∈ gT := gT_t (i := 745) (by decide +kernel) rfl
theorem wm_X5_66 : Cond.methodLink RX5 66 yX5_hasCell ∈ gT := gT_t (i := 746) (by decide +kernel) rfl
theorem wm_L_93 : Cond.methodLink RL 93 yX7_ahead ∈ gT := gT_t (i := 747) (by decide +kernel) rfl
theorem wi_X7_ahead : Cond.instanceMethod yX7_ahead ∈ gT := gT_t (i := 748) (by decide +kernel) rfl
theorem ws_X7_ahead : Cond.selects RX7 yX7_ahead yX7_ahead ∈ gT := gT_t (i := 749) (by decide +kernel) rfl
theorem wc_X7_ahead : Cond.code yX7_ahead cX7_ahead 6 (some .int) ∈ gT := gT_t (i := 750) (by decide +kernel) rfl
theorem wm_X7_196 : Cond.methodLink RX7 196 yX5_isUp ∈ gT := gT_t (i := 751) (by decide +kernel) rfl
theorem wm_X7_199 : Cond.methodLink RX7 199 yX2_supposeHurt ∈ gT := gT_t (i := 752) (by decide +kernel) rfl
theorem wi_X2_supposeHurt : Cond.instanceMethod yX2_supposeHurt ∈ gT := gT_t (i := 753) (by decide +kernel) rfl
theorem ws_X2_supposeHurt : Cond.selects RX2 yX2_supposeHurt yX2_supposeHurt ∈ gT := gT_t (i := 754) (by decide +kernel) rfl
theorem wc_X2_supposeHurt : Cond.code yX2_supposeHurt cX2_supposeHurt 3 none ∈ gT := gT_t (i := 755) (by decide +kernel) rfl
theorem wm_X2_79 : Cond.methodLink RX2 79 yX5_exists ∈ gT := gT_t (i := 756) (by decide +kernel) rfl
theorem wm_L_97 : Cond.methodLink RL 97 yX7_fields ∈ gT := gT_t (i := 757) (by decide +kernel) rfl
theorem wi_X7_fields : Cond.instanceMethod yX7_fields ∈ gT := gT_t (i := 758) (by decide +kernel) rfl
theorem ws_X7_fields : Cond.selects RX7 yX7_fields yX7_fields ∈ gT := gT_t (i := 759) (by decide +kernel) rfl
theorem wc_X7_fields : Cond.code yX7_fields cX7_fields 3 (some .int) ∈ gT := gT_t (i := 760) (by decide +kernel) rfl
theorem wm_X7_202 : Cond.methodLink RX7 202 yX2_winsOf ∈ gT := gT_t (i := 761) (by decide +kernel) rfl
theorem wi_X2_winsOf : Cond.instanceMethod yX2_winsOf ∈ gT := gT_t (i := 762) (by decide +kernel) rfl
theorem ws_X2_winsOf : Cond.selects RX2 yX2_winsOf yX2_winsOf ∈ gT := gT_t (i := 763) (by decide +kernel) rfl
theorem wc_X2_winsOf : Cond.code yX2_winsOf cX2_winsOf 7 (some .int) ∈ gT := gT_t (i := 764) (by decide +kernel) rfl
theorem wm_X2_85 : Cond.methodLink RX2 85 yX5_turnIn ∈ gT := gT_t (i := 765) (by decide +kernel) rfl
theorem wm_X2_89 : Cond.methodLink RX2 89 yX5_takeHurts ∈ gT := gT_t (i := 766) (by decide +kernel) rfl
theorem wm_X2_92 : Cond.methodLink RX2 92 yX2_winsOne ∈ gT := gT_t (i := 767) (by decide +kernel) rfl
theorem wi_X2_winsOne : Cond.instanceMethod yX2_winsOne ∈ gT := gT_t (i := 769) (by decide +kernel) rfl
theorem wc_X2_winsOne : Cond.code yX2_winsOne cX2_winsOne 2 (some .boolean) ∈ gT := gT_t (i := 770) (by decide +kernel) rfl
theorem wm_X2_98 : Cond.methodLink RX2 98 yX5_outcome ∈ gT := gT_t (i := 771) (by decide +kernel) rfl
theorem wm_X2_102 : Cond.methodLink RX2 102 yX5_waitForNext ∈ gT := gT_t (i := 772) (by decide +kernel) rfl
theorem wi_X5_waitForNext : Cond.instanceMethod yX5_waitForNext ∈ gT := gT_t (i := 773) (by decide +kernel) rfl
theorem ws_X5_waitForNext : Cond.selects RX5 yX5_waitForNext yX5_waitForNext ∈ gT := gT_t (i := 774) (by decide +kernel) rfl
theorem wc_X5_waitForNext : Cond.code yX5_waitForNext cX5_waitForNext 3 none ∈ gT := gT_t (i := 775) (by decide +kernel) rfl
theorem wm_X2_105 : Cond.methodLink RX2 105 yX5_fightFirst ∈ gT := gT_t (i := 777) (by decide +kernel) rfl
theorem wm_L_101 : Cond.methodLink RL 101 yX7_image ∈ gT := gT_t (i := 778) (by decide +kernel) rfl
theorem wi_X7_image : Cond.instanceMethod yX7_image ∈ gT := gT_t (i := 779) (by decide +kernel) rfl
theorem ws_X7_image : Cond.selects RX7 yX7_image yX7_image ∈ gT := gT_t (i := 780) (by decide +kernel) rfl
theorem wc_X7_image : Cond.code yX7_image cX7_image 1 (some .int) ∈ gT := gT_t (i := 781) (by decide +kernel) rfl
theorem wm_X7_206 : Cond.methodLink RX7 206 yX5_takeFrom ∈ gT := gT_t (i := 782) (by decide +kernel) rfl
theorem wm_X7_209 : Cond.methodLink RX7 209 yX4_takeFrom ∈ gT := gT_t (i := 783) (by decide +kernel) rfl
theorem wi_X4_takeFrom : Cond.instanceMethod yX4_takeFrom ∈ gT := gT_t (i := 784) (by decide +kernel) rfl
theorem ws_X4_takeFrom : Cond.selects RX4 yX4_takeFrom yX4_takeFrom ∈ gT := gT_t (i := 785) (by decide +kernel) rfl
theorem wc_X4_takeFrom : Cond.code yX4_takeFrom cX4_takeFrom 2 none ∈ gT := gT_t (i := 786) (by decide +kernel) rfl
theorem wm_L_105 : Cond.methodLink RL 105 yX7_restore ∈ gT := gT_t (i := 787) (by decide +kernel) rfl
theorem wi_X7_restore : Cond.instanceMethod yX7_restore ∈ gT := gT_t (i := 788) (by decide +kernel) rfl
theorem ws_X7_restore : Cond.selects RX7 yX7_restore yX7_restore ∈ gT := gT_t (i := 789) (by decide +kernel) rfl
theorem wc_X7_restore : Cond.code yX7_restore cX7_restore 1 (some .int) ∈ gT := gT_t (i := 790) (by decide +kernel) rfl
theorem wm_L_109 : Cond.methodLink RL 109 yX7_strides ∈ gT := gT_t (i := 791) (by decide +kernel) rfl
theorem wi_X7_strides : Cond.instanceMethod yX7_strides ∈ gT := gT_t (i := 792) (by decide +kernel) rfl
theorem ws_X7_strides : Cond.selects RX7 yX7_strides yX7_strides ∈ gT := gT_t (i := 793) (by decide +kernel) rfl
theorem wc_X7_strides : Cond.code yX7_strides cX7_strides 10 (some .int) ∈ gT := gT_t (i := 794) (by decide +kernel) rfl
theorem wm_X7_216 : Cond.methodLink RX7 216 yX7_isSheet ∈ gT := gT_t (i := 795) (by decide +kernel) rfl
theorem wt_X7_isSheet : Cond.static yX7_isSheet ∈ gT := gT_t (i := 796) (by decide +kernel) rfl
theorem wc_X7_isSheet : Cond.code yX7_isSheet cX7_isSheet 1 (some .boolean) ∈ gT := gT_t (i := 797) (by decide +kernel) rfl
theorem wm_X7_219 : Cond.methodLink RX7 219 yX7_isLane ∈ gT := gT_t (i := 798) (by decide +kernel) rfl
theorem wt_X7_isLane : Cond.static yX7_isLane ∈ gT := gT_t (i := 799) (by decide +kernel) rfl
theorem wc_X7_isLane : Cond.code yX7_isLane cX7_isLane 1 (some .boolean) ∈ gT := gT_t (i := 800) (by decide +kernel) rfl
theorem wm_X7_222 : Cond.methodLink RX7 222 yX6_refusal ∈ gT := gT_t (i := 801) (by decide +kernel) rfl
theorem wi_X6_refusal : Cond.instanceMethod yX6_refusal ∈ gT := gT_t (i := 802) (by decide +kernel) rfl
theorem ws_X6_refusal : Cond.selects RX6 yX6_refusal yX6_refusal ∈ gT := gT_t (i := 803) (by decide +kernel) rfl
theorem wc_X6_refusal : Cond.code yX6_refusal cX6_refusal 4 (some .int) ∈ gT := gT_t (i := 804) (by decide +kernel) rfl
theorem wm_X6_22 : Cond.methodLink RX6 22 yX6_isThere ∈ gT := gT_t (i := 805) (by decide +kernel) rfl
theorem wi_X6_isThere : Cond.instanceMethod yX6_isThere ∈ gT := gT_t (i := 806) (by decide +kernel) rfl
theorem ws_X6_isThere : Cond.selects RX6 yX6_isThere yX6_isThere ∈ gT := gT_t (i := 807) (by decide +kernel) rfl
theorem wc_X6_isThere : Cond.code yX6_isThere cX6_isThere 1 (some .boolean) ∈ gT := gT_t (i := 808) (by decide +kernel) rfl
theorem wm_X6_26 : Cond.methodLink RX6 26 yX6_holds ∈ gT := gT_t (i := 809) (by decide +kernel) rfl
theorem wi_X6_holds : Cond.instanceMethod yX6_holds ∈ gT := gT_t (i := 810) (by decide +kernel) rfl
theorem ws_X6_holds : Cond.selects RX6 yX6_holds yX6_holds ∈ gT := gT_t (i := 811) (by decide +kernel) rfl
theorem wc_X6_holds : Cond.code yX6_holds cX6_holds 3 (some .boolean) ∈ gT := gT_t (i := 812) (by decide +kernel) rfl
theorem wm_X7_225 : Cond.methodLink RX7 225 yX7_areSightings ∈ gT := gT_t (i := 813) (by decide +kernel) rfl
theorem wi_X7_areSightings : Cond.instanceMethod yX7_areSightings ∈ gT := gT_t (i := 815) (by decide +kernel) rfl
theorem wc_X7_areSightings : Cond.code yX7_areSightings cX7_areSightings 9 (some .boolean) ∈ gT := gT_t (i := 816) (by decide +kernel) rfl
theorem wm_X7_233 : Cond.methodLink RX7 233 yX6_itemAt ∈ gT := gT_t (i := 817) (by decide +kernel) rfl
theorem wi_X6_itemAt : Cond.instanceMethod yX6_itemAt ∈ gT := gT_t (i := 818) (by decide +kernel) rfl
theorem ws_X6_itemAt : Cond.selects RX6 yX6_itemAt yX6_itemAt ∈ gT := gT_t (i := 819) (by decide +kernel) rfl
theorem wc_X6_itemAt : Cond.code yX6_itemAt cX6_itemAt 2 (some .long) ∈ gT := gT_t (i := 820) (by decide +kernel) rfl
theorem wk_X7_237 : Cond.constantLong RX7 237 (400) ∈ gT := gT_t (i := 821) (by decide +kernel) rfl
theorem wm_X7_229 : Cond.methodLink RX7 229 yX7_strodeSo ∈ gT := gT_t (i := 822) (by decide +kernel) rfl
theorem wi_X7_strodeSo : Cond.instanceMethod yX7_strodeSo ∈ gT := gT_t (i := 824) (by decide +kernel) rfl
theorem wc_X7_strodeSo : Cond.code yX7_strodeSo cX7_strodeSo 8 (some .boolean) ∈ gT := gT_t (i := 825) (by decide +kernel) rfl
theorem wm_X7_239 : Cond.methodLink RX7 239 yX5_cellBy ∈ gT := gT_t (i := 826) (by decide +kernel) rfl
theorem wm_L_114 : Cond.methodLink RL 114 yX7_far ∈ gT := gT_t (i := 827) (by decide +kernel) rfl
theorem wi_X7_far : Cond.instanceMethod yX7_far ∈ gT := gT_t (i := 828) (by decide +kernel) rfl
theorem ws_X7_far : Cond.selects RX7 yX7_far yX7_far ∈ gT := gT_t (i := 829) (by decide +kernel) rfl
theorem wc_X7_far : Cond.code yX7_far cX7_far 8 (some .int) ∈ gT := gT_t (i := 830) (by decide +kernel) rfl
theorem wm_X7_242 : Cond.methodLink RX7 242 yX5_othersUp ∈ gT := gT_t (i := 831) (by decide +kernel) rfl
theorem wm_X7_245 : Cond.methodLink RX7 245 yX7_lastFarTurn ∈ gT := gT_t (i := 832) (by decide +kernel) rfl
theorem wi_X7_lastFarTurn : Cond.instanceMethod yX7_lastFarTurn ∈ gT := gT_t (i := 834) (by decide +kernel) rfl
theorem wc_X7_lastFarTurn : Cond.code yX7_lastFarTurn cX7_lastFarTurn 1 (some .int) ∈ gT := gT_t (i := 835) (by decide +kernel) rfl
theorem wm_X7_259 : Cond.methodLink RX7 259 yX5_turnMoment ∈ gT := gT_t (i := 836) (by decide +kernel) rfl
theorem wm_X7_248 : Cond.methodLink RX7 248 yX7_turnsThatFit ∈ gT := gT_t (i := 837) (by decide +kernel) rfl
theorem wi_X7_turnsThatFit : Cond.instanceMethod yX7_turnsThatFit ∈ gT := gT_t (i := 839) (by decide +kernel) rfl
theorem wc_X7_turnsThatFit : Cond.code yX7_turnsThatFit cX7_turnsThatFit 6 (some .int) ∈ gT := gT_t (i := 840) (by decide +kernel) rfl
theorem wm_X7_255 : Cond.methodLink RX7 255 yX7_comeAsTold ∈ gT := gT_t (i := 841) (by decide +kernel) rfl
theorem wi_X7_comeAsTold : Cond.instanceMethod yX7_comeAsTold ∈ gT := gT_t (i := 843) (by decide +kernel) rfl
theorem wc_X7_comeAsTold : Cond.code yX7_comeAsTold cX7_comeAsTold 7 (some .boolean) ∈ gT := gT_t (i := 844) (by decide +kernel) rfl
theorem wm_X7_263 : Cond.methodLink RX7 263 yX5_cellRunning ∈ gT := gT_t (i := 845) (by decide +kernel) rfl
theorem wm_X7_266 : Cond.methodLink RX7 266 yX5_comesTo ∈ gT := gT_t (i := 846) (by decide +kernel) rfl
theorem wm_X7_252 : Cond.methodLink RX7 252 yX7_firstTurnThatFits ∈ gT := gT_t (i := 847) (by decide +kernel) rfl
theorem wi_X7_firstTurnThatFits : Cond.instanceMethod yX7_firstTurnThatFits ∈ gT := gT_t (i := 849) (by decide +kernel) rfl
theorem wc_X7_firstTurnThatFits : Cond.code yX7_firstTurnThatFits cX7_firstTurnThatFits 5 (some .int) ∈ gT := gT_t (i := 850) (by decide +kernel) rfl
theorem wm_L_119 : Cond.methodLink RL 119 yX7_film ∈ gT := gT_t (i := 851) (by decide +kernel) rfl
theorem wi_X7_film : Cond.instanceMethod yX7_film ∈ gT := gT_t (i := 852) (by decide +kernel) rfl
theorem ws_X7_film : Cond.selects RX7 yX7_film yX7_film ∈ gT := gT_t (i := 853) (by decide +kernel) rfl
theorem wc_X7_film : Cond.code yX7_film cX7_film 8 (some .int) ∈ gT := gT_t (i := 854) (by decide +kernel) rfl
theorem wm_X7_269 : Cond.methodLink RX7 269 yX2_foreseen ∈ gT := gT_t (i := 855) (by decide +kernel) rfl
theorem wi_X2_foreseen : Cond.instanceMethod yX2_foreseen ∈ gT := gT_t (i := 856) (by decide +kernel) rfl
theorem ws_X2_foreseen : Cond.selects RX2 yX2_foreseen yX2_foreseen ∈ gT := gT_t (i := 857) (by decide +kernel) rfl
theorem wc_X2_foreseen : Cond.code yX2_foreseen cX2_foreseen 2 (some .int) ∈ gT := gT_t (i := 858) (by decide +kernel) rfl
theorem wm_X7_272 : Cond.methodLink RX7 272 yX6_put ∈ gT := gT_t (i := 860) (by decide +kernel) rfl
theorem wi_X6_put : Cond.instanceMethod yX6_put ∈ gT := gT_t (i := 861) (by decide +kernel) rfl
theorem ws_X6_put : Cond.selects RX6 yX6_put yX6_put ∈ gT := gT_t (i := 862) (by decide +kernel) rfl
theorem wc_X6_put : Cond.code yX6_put cX6_put 4 none ∈ gT := gT_t (i := 863) (by decide +kernel) rfl
theorem wm_X6_30 : Cond.methodLink RX6 30 yX6_lowestBits ∈ gT := gT_t (i := 864) (by decide +kernel) rfl
theorem wi_X6_lowestBits : Cond.instanceMethod yX6_lowestBits ∈ gT := gT_t (i := 866) (by decide +kernel) rfl
theorem wc_X6_lowestBits : Cond.code yX6_lowestBits cX6_lowestBits 3 (some .long) ∈ gT := gT_t (i := 867) (by decide +kernel) rfl
theorem wm_L_123 : Cond.methodLink RL 123 yX7_sheet ∈ gT := gT_t (i := 868) (by decide +kernel) rfl
theorem wi_X7_sheet : Cond.instanceMethod yX7_sheet ∈ gT := gT_t (i := 869) (by decide +kernel) rfl
theorem ws_X7_sheet : Cond.selects RX7 yX7_sheet yX7_sheet ∈ gT := gT_t (i := 870) (by decide +kernel) rfl
theorem wc_X7_sheet : Cond.code yX7_sheet cX7_sheet 4 (some .int) ∈ gT := gT_t (i := 871) (by decide +kernel) rfl
theorem wm_X7_276 : Cond.methodLink RX7 276 yX6_hold ∈ gT := gT_t (i := 872) (by decide +kernel) rfl
theorem wi_X6_hold : Cond.instanceMethod yX6_hold ∈ gT := gT_t (i := 873) (by decide +kernel) rfl
theorem ws_X6_hold : Cond.selects RX6 yX6_hold yX6_hold ∈ gT := gT_t (i := 874) (by decide +kernel) rfl
theorem wc_X6_hold : Cond.code yX6_hold cX6_hold 4 none ∈ gT := gT_t (i := 875) (by decide +kernel) rfl
theorem wm_L_127 : Cond.methodLink RL 127 yX7_drop ∈ gT := gT_t (i := 876) (by decide +kernel) rfl
theorem wi_X7_drop : Cond.instanceMethod yX7_drop ∈ gT := gT_t (i := 877) (by decide +kernel) rfl
theorem ws_X7_drop : Cond.selects RX7 yX7_drop yX7_drop ∈ gT := gT_t (i := 878) (by decide +kernel) rfl
theorem wc_X7_drop : Cond.code yX7_drop cX7_drop 3 (some .int) ∈ gT := gT_t (i := 879) (by decide +kernel) rfl
theorem wm_X7_279 : Cond.methodLink RX7 279 yX6_isThere ∈ gT := gT_t (i := 880) (by decide +kernel) rfl
theorem wm_X7_282 : Cond.methodLink RX7 282 yX6_dropAll ∈ gT := gT_t (i := 881) (by decide +kernel) rfl
theorem wi_X6_dropAll : Cond.instanceMethod yX6_dropAll ∈ gT := gT_t (i := 882) (by decide +kernel) rfl
theorem ws_X6_dropAll : Cond.selects RX6 yX6_dropAll yX6_dropAll ∈ gT := gT_t (i := 883) (by decide +kernel) rfl
theorem wc_X6_dropAll : Cond.code yX6_dropAll cX6_dropAll 1 none ∈ gT := gT_t (i := 884) (by decide +kernel) rfl
theorem wm_L_133 : Cond.methodLink RL 133 yX7_item ∈ gT := gT_t (i := 885) (by decide +kernel) rfl
theorem wi_X7_item : Cond.instanceMethod yX7_item ∈ gT := gT_t (i := 886) (by decide +kernel) rfl
theorem ws_X7_item : Cond.selects RX7 yX7_item yX7_item ∈ gT := gT_t (i := 887) (by decide +kernel) rfl
theorem wc_X7_item : Cond.code yX7_item cX7_item 8 (some .int) ∈ gT := gT_t (i := 888) (by decide +kernel) rfl
theorem wm_L_138 : Cond.methodLink RL 138 yX7_copy ∈ gT := gT_t (i := 889) (by decide +kernel) rfl
theorem wi_X7_copy : Cond.instanceMethod yX7_copy ∈ gT := gT_t (i := 890) (by decide +kernel) rfl
theorem ws_X7_copy : Cond.selects RX7 yX7_copy yX7_copy ∈ gT := gT_t (i := 891) (by decide +kernel) rfl
theorem wc_X7_copy : Cond.code yX7_copy cX7_copy 8 (some .int) ∈ gT := gT_t (i := 892) (by decide +kernel) rfl
theorem wm_X7_291 : Cond.methodLink RX7 291 yX6_holds ∈ gT := gT_t (i := 893) (by decide +kernel) rfl
theorem wm_L_12 : Cond.methodLink RL 12 yX8_init ∈ gT := gT_t (i := 897) (by decide +kernel) rfl
theorem wi_X8_init : Cond.instanceMethod yX8_init ∈ gT := gT_t (i := 898) (by decide +kernel) rfl
theorem wc_X8_init : Cond.code yX8_init cX8_init 2 none ∈ gT := gT_t (i := 899) (by decide +kernel) rfl
theorem wf_X8_62 : Cond.fieldLink RX8 62 "RunningThreeModel" "cells" "I" ∈ gT := gT_t (i := 901) (by decide +kernel) rfl
theorem wf_X8_66 : Cond.fieldLink RX8 66 "RunningThreeModel" "fighters" "I" ∈ gT := gT_t (i := 902) (by decide +kernel) rfl
theorem wf_X8_7 : Cond.fieldLink RX8 7 "RunningThreeModel" "sorts" "[I" ∈ gT := gT_t (i := 903) (by decide +kernel) rfl
theorem wf_X8_13 : Cond.fieldLink RX8 13 "RunningThreeModel" "fighter" "[I" ∈ gT := gT_t (i := 904) (by decide +kernel) rfl
theorem wf_X8_117 : Cond.fieldLink RX8 117 "RunningThreeModel" "start" "I" ∈ gT := gT_t (i := 905) (by decide +kernel) rfl
theorem wf_X8_16 : Cond.fieldLink RX8 16 "RunningThreeModel" "now" "[I" ∈ gT := gT_t (i := 906) (by decide +kernel) rfl
theorem wf_X8_99 : Cond.fieldLink RX8 99 "RunningThreeModel" "together" "Z" ∈ gT := gT_t (i := 907) (by decide +kernel) rfl
theorem wf_X8_19 : Cond.fieldLink RX8 19 "RunningThreeModel" "tape" "[I" ∈ gT := gT_t (i := 908) (by decide +kernel) rfl
theorem wf_X8_140 : Cond.fieldLink RX8 140 "RunningThreeModel" "taped" "I" ∈ gT := gT_t (i := 909) (by decide +kernel) rfl
theorem wf_X8_143 : Cond.fieldLink RX8 143 "RunningThreeModel" "at" "I" ∈ gT := gT_t (i := 910) (by decide +kernel) rfl
theorem wf_X8_146 : Cond.fieldLink RX8 146 "RunningThreeModel" "wrong" "Z" ∈ gT := gT_t (i := 911) (by decide +kernel) rfl
theorem wf_X8_162 : Cond.fieldLink RX8 162 "RunningThreeModel" "manyCells" "I" ∈ gT := gT_t (i := 912) (by decide +kernel) rfl
theorem wf_X8_153 : Cond.fieldLink RX8 153 "RunningThreeModel" "manyFighters" "I" ∈ gT := gT_t (i := 913) (by decide +kernel) rfl
theorem wf_X8_22 : Cond.fieldLink RX8 22 "RunningThreeModel" "readSorts" "[I" ∈ gT := gT_t (i := 914) (by decide +kernel) rfl
theorem wf_X8_25 : Cond.fieldLink RX8 25 "RunningThreeModel" "readFighters" "[I" ∈ gT := gT_t (i := 915) (by decide +kernel) rfl
theorem wf_X8_28 : Cond.fieldLink RX8 28 "RunningThreeModel" "undone" "[I" ∈ gT := gT_t (i := 916) (by decide +kernel) rfl
theorem wf_X8_88 : Cond.fieldLink RX8 88 "RunningThreeModel" "undos" "I" ∈ gT := gT_t (i := 917) (by decide +kernel) rfl
theorem wf_X8_31 : Cond.fieldLink RX8 31 "RunningThreeModel" "aside" "[I" ∈ gT := gT_t (i := 918) (by decide +kernel) rfl
theorem wf_X8_34 : Cond.fieldLink RX8 34 "RunningThreeModel" "row" "[I" ∈ gT := gT_t (i := 919) (by decide +kernel) rfl
theorem wf_X8_37 : Cond.fieldLink RX8 37 "RunningThreeModel" "later" "[I" ∈ gT := gT_t (i := 920) (by decide +kernel) rfl
theorem wf_X8_40 : Cond.fieldLink RX8 40 "RunningThreeModel" "sooner" "[I" ∈ gT := gT_t (i := 921) (by decide +kernel) rfl
theorem wf_X8_43 : Cond.fieldLink RX8 43 "RunningThreeModel" "by" "[I" ∈ gT := gT_t (i := 922) (by decide +kernel) rfl
theorem wf_X8_232 : Cond.fieldLink RX8 232 "RunningThreeModel" "most" "I" ∈ gT := gT_t (i := 923) (by decide +kernel) rfl
theorem wf_X8_238 : Cond.fieldLink RX8 238 "RunningThreeModel" "first" "I" ∈ gT := gT_t (i := 924) (by decide +kernel) rfl
theorem wf_X8_46 : Cond.fieldLink RX8 46 "RunningThreeModel" "image" "[I" ∈ gT := gT_t (i := 925) (by decide +kernel) rfl
theorem wf_X8_257 : Cond.fieldLink RX8 257 "RunningThreeModel" "isImage" "Z" ∈ gT := gT_t (i := 926) (by decide +kernel) rfl
theorem wf_X8_49 : Cond.fieldLink RX8 49 "RunningThreeModel" "lanes" "[I" ∈ gT := gT_t (i := 927) (by decide +kernel) rfl
theorem wf_X8_52 : Cond.fieldLink RX8 52 "RunningThreeModel" "sizes" "[I" ∈ gT := gT_t (i := 928) (by decide +kernel) rfl
theorem wf_X8_55 : Cond.fieldLink RX8 55 "RunningThreeModel" "items" "[J" ∈ gT := gT_t (i := 929) (by decide +kernel) rfl
theorem wf_X8_59 : Cond.fieldLink RX8 59 "RunningThreeModel" "moved" "[J" ∈ gT := gT_t (i := 930) (by decide +kernel) rfl
theorem wm_L_17 : Cond.methodLink RL 17 yX8_fighter ∈ gT := gT_t (i := 992) (by decide +kernel) rfl
theorem wi_X8_fighter : Cond.instanceMethod yX8_fighter ∈ gT := gT_t (i := 993) (by decide +kernel) rfl
theorem ws_X8_fighter : Cond.selects RX8 yX8_fighter yX8_fighter ∈ gT := gT_t (i := 994) (by decide +kernel) rfl
theorem wc_X8_fighter : Cond.code yX8_fighter cX8_fighter 4 (some .int) ∈ gT := gT_t (i := 995) (by decide +kernel) rfl
theorem wk_X8_74 : Cond.constantLong RX8 74 (3) ∈ gT := gT_t (i := 996) (by decide +kernel) rfl
theorem wm_X8_69 : Cond.methodLink RX8 69 yX8_in ∈ gT := gT_t (i := 997) (by decide +kernel) rfl
theorem wt_X8_in : Cond.static yX8_in ∈ gT := gT_t (i := 998) (by decide +kernel) rfl
theorem wc_X8_in : Cond.code yX8_in cX8_in 6 (some .boolean) ∈ gT := gT_t (i := 999) (by decide +kernel) rfl
theorem wk_X8_76 : Cond.constantLong RX8 76 (9) ∈ gT := gT_t (i := 1000) (by decide +kernel) rfl
theorem wk_X8_78 : Cond.constantLong RX8 78 (6) ∈ gT := gT_t (i := 1001) (by decide +kernel) rfl
theorem wm_X8_80 : Cond.methodLink RX8 80 yX8_isTurned ∈ gT := gT_t (i := 1002) (by decide +kernel) rfl
theorem wi_X8_isTurned : Cond.instanceMethod yX8_isTurned ∈ gT := gT_t (i := 1004) (by decide +kernel) rfl
theorem wc_X8_isTurned : Cond.code yX8_isTurned cX8_isTurned 1 (some .boolean) ∈ gT := gT_t (i := 1005) (by decide +kernel) rfl
theorem wm_X8_84 : Cond.methodLink RX8 84 yX8_fighterComes ∈ gT := gT_t (i := 1006) (by decide +kernel) rfl
theorem wi_X8_fighterComes : Cond.instanceMethod yX8_fighterComes ∈ gT := gT_t (i := 1008) (by decide +kernel) rfl
theorem wc_X8_fighterComes : Cond.code yX8_fighterComes cX8_fighterComes 5 none ∈ gT := gT_t (i := 1009) (by decide +kernel) rfl
theorem wk_X8_73 : Cond.constant RX8 73 (99999) ∈ gT := gT_t (i := 1010) (by decide +kernel) rfl
theorem wm_L_22 : Cond.methodLink RL 22 yX8_of ∈ gT := gT_t (i := 1011) (by decide +kernel) rfl
theorem wi_X8_of : Cond.instanceMethod yX8_of ∈ gT := gT_t (i := 1012) (by decide +kernel) rfl
theorem ws_X8_of : Cond.selects RX8 yX8_of yX8_of ∈ gT := gT_t (i := 1013) (by decide +kernel) rfl
theorem wc_X8_of : Cond.code yX8_of cX8_of 3 (some .int) ∈ gT := gT_t (i := 1014) (by decide +kernel) rfl
theorem wm_X8_123 : Cond.methodLink RX8 123 yX8_isFighter ∈ gT := gT_t (i := 1015) (by decide +kernel) rfl
theorem wi_X8_isFighter : Cond.instanceMethod yX8_isFighter ∈ gT := gT_t (i := 1017) (by decide +kernel) rfl
theorem wc_X8_isFighter : Cond.code yX8_isFighter cX8_isFighter 2 (some .boolean) ∈ gT := gT_t (i := 1018) (by decide +kernel) rfl
theorem wm_X8_91 : Cond.methodLink RX8 91 yX8_hurtOf ∈ gT := gT_t (i := 1019) (by decide +kernel) rfl
theorem wi_X8_hurtOf : Cond.instanceMethod yX8_hurtOf ∈ gT := gT_t (i := 1021) (by decide +kernel) rfl
theorem wc_X8_hurtOf : Cond.code yX8_hurtOf cX8_hurtOf 2 (some .int) ∈ gT := gT_t (i := 1022) (by decide +kernel) rfl
theorem wm_X8_126 : Cond.methodLink RX8 126 yX8_force ∈ gT := gT_t (i := 1023) (by decide +kernel) rfl
theorem wi_X8_force : Cond.instanceMethod yX8_force ∈ gT := gT_t (i := 1025) (by decide +kernel) rfl
theorem wc_X8_force : Cond.code yX8_force cX8_force 4 (some .int) ∈ gT := gT_t (i := 1026) (by decide +kernel) rfl
theorem wm_X8_129 : Cond.methodLink RX8 129 yX8_place ∈ gT := gT_t (i := 1027) (by decide +kernel) rfl
theorem wi_X8_place : Cond.instanceMethod yX8_place ∈ gT := gT_t (i := 1029) (by decide +kernel) rfl
theorem wc_X8_place : Cond.code yX8_place cX8_place 4 (some .int) ∈ gT := gT_t (i := 1030) (by decide +kernel) rfl
theorem wm_X8_120 : Cond.methodLink RX8 120 yX8_runs ∈ gT := gT_t (i := 1031) (by decide +kernel) rfl
theorem wi_X8_runs : Cond.instanceMethod yX8_runs ∈ gT := gT_t (i := 1033) (by decide +kernel) rfl
theorem wc_X8_runs : Cond.code yX8_runs cX8_runs 2 (some .int) ∈ gT := gT_t (i := 1034) (by decide +kernel) rfl
theorem wm_X8_103 : Cond.methodLink RX8 103 yX8_isDown ∈ gT := gT_t (i := 1035) (by decide +kernel) rfl
theorem wi_X8_isDown : Cond.instanceMethod yX8_isDown ∈ gT := gT_t (i := 1037) (by decide +kernel) rfl
theorem wc_X8_isDown : Cond.code yX8_isDown cX8_isDown 2 (some .boolean) ∈ gT := gT_t (i := 1038) (by decide +kernel) rfl
theorem wm_X8_95 : Cond.methodLink RX8 95 yX8_pointsOf ∈ gT := gT_t (i := 1039) (by decide +kernel) rfl
theorem wi_X8_pointsOf : Cond.instanceMethod yX8_pointsOf ∈ gT := gT_t (i := 1041) (by decide +kernel) rfl
theorem wc_X8_pointsOf : Cond.code yX8_pointsOf cX8_pointsOf 6 (some .int) ∈ gT := gT_t (i := 1042) (by decide +kernel) rfl
theorem wm_X8_107 : Cond.methodLink RX8 107 yX8_farthest ∈ gT := gT_t (i := 1043) (by decide +kernel) rfl
theorem wi_X8_farthest : Cond.instanceMethod yX8_farthest ∈ gT := gT_t (i := 1045) (by decide +kernel) rfl
theorem wc_X8_farthest : Cond.code yX8_farthest cX8_farthest 5 (some .int) ∈ gT := gT_t (i := 1046) (by decide +kernel) rfl
theorem wm_L_26 : Cond.methodLink RL 26 yX8_hurt ∈ gT := gT_t (i := 1047) (by decide +kernel) rfl
theorem wi_X8_hurt : Cond.instanceMethod yX8_hurt ∈ gT := gT_t (i := 1048) (by decide +kernel) rfl
theorem ws_X8_hurt : Cond.selects RX8 yX8_hurt yX8_hurt ∈ gT := gT_t (i := 1049) (by decide +kernel) rfl
theorem wc_X8_hurt : Cond.code yX8_hurt cX8_hurt 4 (some .int) ∈ gT := gT_t (i := 1050) (by decide +kernel) rfl
theorem wm_L_31 : Cond.methodLink RL 31 yX8_start ∈ gT := gT_t (i := 1051) (by decide +kernel) rfl
theorem wi_X8_start : Cond.instanceMethod yX8_start ∈ gT := gT_t (i := 1052) (by decide +kernel) rfl
theorem ws_X8_start : Cond.selects RX8 yX8_start yX8_start ∈ gT := gT_t (i := 1053) (by decide +kernel) rfl
theorem wc_X8_start : Cond.code yX8_start cX8_start 3 (some .int) ∈ gT := gT_t (i := 1054) (by decide +kernel) rfl
theorem wk_X8_132 : Cond.constantLong RX8 132 (20) ∈ gT := gT_t (i := 1055) (by decide +kernel) rfl
theorem wm_L_35 : Cond.methodLink RL 35 yX8_sort ∈ gT := gT_t (i := 1056) (by decide +kernel) rfl
theorem wi_X8_sort : Cond.instanceMethod yX8_sort ∈ gT := gT_t (i := 1057) (by decide +kernel) rfl
theorem ws_X8_sort : Cond.selects RX8 yX8_sort yX8_sort ∈ gT := gT_t (i := 1058) (by decide +kernel) rfl
theorem wc_X8_sort : Cond.code yX8_sort cX8_sort 2 (some .int) ∈ gT := gT_t (i := 1059) (by decide +kernel) rfl
theorem wm_L_39 : Cond.methodLink RL 39 yX8_cost ∈ gT := gT_t (i := 1060) (by decide +kernel) rfl
theorem wi_X8_cost : Cond.instanceMethod yX8_cost ∈ gT := gT_t (i := 1061) (by decide +kernel) rfl
theorem ws_X8_cost : Cond.selects RX8 yX8_cost yX8_cost ∈ gT := gT_t (i := 1062) (by decide +kernel) rfl
theorem wc_X8_cost : Cond.code yX8_cost cX8_cost 2 (some .int) ∈ gT := gT_t (i := 1063) (by decide +kernel) rfl
theorem wm_X8_110 : Cond.methodLink RX8 110 yX8_costOf ∈ gT := gT_t (i := 1064) (by decide +kernel) rfl
theorem wi_X8_costOf : Cond.instanceMethod yX8_costOf ∈ gT := gT_t (i := 1066) (by decide +kernel) rfl
theorem wc_X8_costOf : Cond.code yX8_costOf cX8_costOf 4 (some .int) ∈ gT := gT_t (i := 1067) (by decide +kernel) rfl
theorem wm_L_43 : Cond.methodLink RL 43 yX8_points ∈ gT := gT_t (i := 1068) (by decide +kernel) rfl
theorem wi_X8_points : Cond.instanceMethod yX8_points ∈ gT := gT_t (i := 1069) (by decide +kernel) rfl
theorem ws_X8_points : Cond.selects RX8 yX8_points yX8_points ∈ gT := gT_t (i := 1070) (by decide +kernel) rfl
theorem wc_X8_points : Cond.code yX8_points cX8_points 3 (some .int) ∈ gT := gT_t (i := 1071) (by decide +kernel) rfl
theorem wk_X8_134 : Cond.constantLong RX8 134 (400) ∈ gT := gT_t (i := 1072) (by decide +kernel) rfl
theorem wm_L_47 : Cond.methodLink RL 47 yX8_type ∈ gT := gT_t (i := 1073) (by decide +kernel) rfl
theorem wi_X8_type : Cond.instanceMethod yX8_type ∈ gT := gT_t (i := 1074) (by decide +kernel) rfl
theorem ws_X8_type : Cond.selects RX8 yX8_type yX8_type ∈ gT := gT_t (i := 1075) (by decide +kernel) rfl
theorem wc_X8_type : Cond.code yX8_type cX8_type 2 (some .int) ∈ gT := gT_t (i := 1076) (by decide +kernel) rfl
theorem wk_X8_136 : Cond.constantLong RX8 136 (32) ∈ gT := gT_t (i := 1077) (by decide +kernel) rfl
theorem wk_X8_138 : Cond.constantLong RX8 138 (126) ∈ gT := gT_t (i := 1078) (by decide +kernel) rfl
theorem wm_L_52 : Cond.methodLink RL 52 yX8_field ∈ gT := gT_t (i := 1079) (by decide +kernel) rfl
theorem wi_X8_field : Cond.instanceMethod yX8_field ∈ gT := gT_t (i := 1080) (by decide +kernel) rfl
theorem ws_X8_field : Cond.selects RX8 yX8_field yX8_field ∈ gT := gT_t (i := 1081) (by decide +kernel) rfl
theorem wc_X8_field : Cond.code yX8_field cX8_field 3 (some .int) ∈ gT := gT_t (i := 1082) (by decide +kernel) rfl
theorem wm_X8_149 : Cond.methodLink RX8 149 yX8_here ∈ gT := gT_t (i := 1083) (by decide +kernel) rfl
theorem wi_X8_here : Cond.instanceMethod yX8_here ∈ gT := gT_t (i := 1085) (by decide +kernel) rfl
theorem wc_X8_here : Cond.code yX8_here cX8_here 1 (some .int) ∈ gT := gT_t (i := 1086) (by decide +kernel) rfl
theorem wm_X8_165 : Cond.methodLink RX8 165 yX8_sign ∈ gT := gT_t (i := 1087) (by decide +kernel) rfl
theorem wi_X8_sign : Cond.instanceMethod yX8_sign ∈ gT := gT_t (i := 1089) (by decide +kernel) rfl
theorem wc_X8_sign : Cond.code yX8_sign cX8_sign 2 (some .int) ∈ gT := gT_t (i := 1090) (by decide +kernel) rfl
theorem wm_X8_159 : Cond.methodLink RX8 159 yX8_has ∈ gT := gT_t (i := 1091) (by decide +kernel) rfl
theorem wi_X8_has : Cond.instanceMethod yX8_has ∈ gT := gT_t (i := 1093) (by decide +kernel) rfl
theorem wc_X8_has : Cond.code yX8_has cX8_has 3 (some .boolean) ∈ gT := gT_t (i := 1094) (by decide +kernel) rfl
theorem wm_X8_168 : Cond.methodLink RX8 168 yX8_readFighter ∈ gT := gT_t (i := 1095) (by decide +kernel) rfl
theorem wi_X8_readFighter : Cond.instanceMethod yX8_readFighter ∈ gT := gT_t (i := 1097) (by decide +kernel) rfl
theorem wc_X8_readFighter : Cond.code yX8_readFighter cX8_readFighter 3 none ∈ gT := gT_t (i := 1098) (by decide +kernel) rfl
theorem wm_X8_156 : Cond.methodLink RX8 156 yX8_digit ∈ gT := gT_t (i := 1099) (by decide +kernel) rfl
theorem wi_X8_digit : Cond.instanceMethod yX8_digit ∈ gT := gT_t (i := 1101) (by decide +kernel) rfl
theorem wc_X8_digit : Cond.code yX8_digit cX8_digit 4 (some .int) ∈ gT := gT_t (i := 1102) (by decide +kernel) rfl
theorem wm_L_56 : Cond.methodLink RL 56 yX8_count ∈ gT := gT_t (i := 1103) (by decide +kernel) rfl
theorem wi_X8_count : Cond.instanceMethod yX8_count ∈ gT := gT_t (i := 1104) (by decide +kernel) rfl
theorem ws_X8_count : Cond.selects RX8 yX8_count yX8_count ∈ gT := gT_t (i := 1105) (by decide +kernel) rfl
theorem wc_X8_count : Cond.code yX8_count cX8_count 2 (some .int) ∈ gT := gT_t (i := 1106) (by decide +kernel) rfl
theorem wm_X8_171 : Cond.methodLink RX8 171 yX8_down ∈ gT := gT_t (i := 1107) (by decide +kernel) rfl
theorem wi_X8_down : Cond.instanceMethod yX8_down ∈ gT := gT_t (i := 1109) (by decide +kernel) rfl
theorem wc_X8_down : Cond.code yX8_down cX8_down 3 (some .int) ∈ gT := gT_t (i := 1110) (by decide +kernel) rfl
theorem wm_X8_174 : Cond.methodLink RX8 174 yX8_over ∈ gT := gT_t (i := 1111) (by decide +kernel) rfl
theorem wi_X8_over : Cond.instanceMethod yX8_over ∈ gT := gT_t (i := 1113) (by decide +kernel) rfl
theorem wc_X8_over : Cond.code yX8_over cX8_over 2 (some .int) ∈ gT := gT_t (i := 1114) (by decide +kernel) rfl
theorem wm_L_60 : Cond.methodLink RL 60 yX8_moment ∈ gT := gT_t (i := 1115) (by decide +kernel) rfl
theorem wi_X8_moment : Cond.instanceMethod yX8_moment ∈ gT := gT_t (i := 1116) (by decide +kernel) rfl
theorem ws_X8_moment : Cond.selects RX8 yX8_moment yX8_moment ∈ gT := gT_t (i := 1117) (by decide +kernel) rfl
theorem wc_X8_moment : Cond.code yX8_moment cX8_moment 1 (some .int) ∈ gT := gT_t (i := 1118) (by decide +kernel) rfl
theorem wm_X8_189 : Cond.methodLink RX8 189 yX8_notes ∈ gT := gT_t (i := 1119) (by decide +kernel) rfl
theorem wi_X8_notes : Cond.instanceMethod yX8_notes ∈ gT := gT_t (i := 1121) (by decide +kernel) rfl
theorem wc_X8_notes : Cond.code yX8_notes cX8_notes 2 none ∈ gT := gT_t (i := 1122) (by decide +kernel) rfl
theorem wm_X8_192 : Cond.methodLink RX8 192 yX8_fights ∈ gT := gT_t (i := 1123) (by decide +kernel) rfl
theorem wi_X8_fights : Cond.instanceMethod yX8_fights ∈ gT := gT_t (i := 1125) (by decide +kernel) rfl
theorem wc_X8_fights : Cond.code yX8_fights cX8_fights 5 (some .int) ∈ gT := gT_t (i := 1126) (by decide +kernel) rfl
theorem wm_X8_180 : Cond.methodLink RX8 180 yX8_meets ∈ gT := gT_t (i := 1127) (by decide +kernel) rfl
theorem wi_X8_meets : Cond.instanceMethod yX8_meets ∈ gT := gT_t (i := 1129) (by decide +kernel) rfl
theorem wc_X8_meets : Cond.code yX8_meets cX8_meets 5 (some .int) ∈ gT := gT_t (i := 1130) (by decide +kernel) rfl
theorem wm_X8_183 : Cond.methodLink RX8 183 yX8_between ∈ gT := gT_t (i := 1131) (by decide +kernel) rfl
theorem wt_X8_between : Cond.static yX8_between ∈ gT := gT_t (i := 1132) (by decide +kernel) rfl
theorem wc_X8_between : Cond.code yX8_between cX8_between 1 (some .int) ∈ gT := gT_t (i := 1133) (by decide +kernel) rfl
theorem wk_X8_186 : Cond.constant RX8 186 (1103515245) ∈ gT := gT_t (i := 1134) (by decide +kernel) rfl
theorem wk_X8_187 : Cond.constant RX8 187 (2147483647) ∈ gT := gT_t (i := 1135) (by decide +kernel) rfl
theorem wk_X8_188 : Cond.constant RX8 188 (65536) ∈ gT := gT_t (i := 1136) (by decide +kernel) rfl
theorem wm_X8_195 : Cond.methodLink RX8 195 yX8_isCaught ∈ gT := gT_t (i := 1137) (by decide +kernel) rfl
theorem wi_X8_isCaught : Cond.instanceMethod yX8_isCaught ∈ gT := gT_t (i := 1139) (by decide +kernel) rfl
theorem wc_X8_isCaught : Cond.code yX8_isCaught cX8_isCaught 6 (some .boolean) ∈ gT := gT_t (i := 1140) (by decide +kernel) rfl
theorem wm_X8_113 : Cond.methodLink RX8 113 yX8_pursues ∈ gT := gT_t (i := 1141) (by decide +kernel) rfl
theorem wi_X8_pursues : Cond.instanceMethod yX8_pursues ∈ gT := gT_t (i := 1143) (by decide +kernel) rfl
theorem wc_X8_pursues : Cond.code yX8_pursues cX8_pursues 6 (some .int) ∈ gT := gT_t (i := 1144) (by decide +kernel) rfl
theorem wm_X8_198 : Cond.methodLink RX8 198 yX8_turns ∈ gT := gT_t (i := 1145) (by decide +kernel) rfl
theorem wi_X8_turns : Cond.instanceMethod yX8_turns ∈ gT := gT_t (i := 1147) (by decide +kernel) rfl
theorem wc_X8_turns : Cond.code yX8_turns cX8_turns 3 none ∈ gT := gT_t (i := 1148) (by decide +kernel) rfl
theorem wm_X8_177 : Cond.methodLink RX8 177 yX8_comesTo ∈ gT := gT_t (i := 1149) (by decide +kernel) rfl
theorem wi_X8_comesTo : Cond.instanceMethod yX8_comesTo ∈ gT := gT_t (i := 1151) (by decide +kernel) rfl
theorem wc_X8_comesTo : Cond.code yX8_comesTo cX8_comesTo 5 (some .int) ∈ gT := gT_t (i := 1152) (by decide +kernel) rfl
theorem wm_L_64 : Cond.methodLink RL 64 yX8_turn ∈ gT := gT_t (i := 1153) (by decide +kernel) rfl
theorem wi_X8_turn : Cond.instanceMethod yX8_turn ∈ gT := gT_t (i := 1154) (by decide +kernel) rfl
theorem ws_X8_turn : Cond.selects RX8 yX8_turn yX8_turn ∈ gT := gT_t (i := 1155) (by decide +kernel) rfl
theorem wc_X8_turn : Cond.code yX8_turn cX8_turn 1 (some .int) ∈ gT := gT_t (i := 1156) (by decide +kernel) rfl
theorem wm_L_68 : Cond.methodLink RL 68 yX8_undo ∈ gT := gT_t (i := 1157) (by decide +kernel) rfl
theorem wi_X8_undo : Cond.instanceMethod yX8_undo ∈ gT := gT_t (i := 1158) (by decide +kernel) rfl
theorem ws_X8_undo : Cond.selects RX8 yX8_undo yX8_undo ∈ gT := gT_t (i := 1159) (by decide +kernel) rfl
theorem wc_X8_undo : Cond.code yX8_undo cX8_undo 2 (some .int) ∈ gT := gT_t (i := 1160) (by decide +kernel) rfl
theorem wm_L_72 : Cond.methodLink RL 72 yX8_seed ∈ gT := gT_t (i := 1161) (by decide +kernel) rfl
theorem wi_X8_seed : Cond.instanceMethod yX8_seed ∈ gT := gT_t (i := 1162) (by decide +kernel) rfl
theorem ws_X8_seed : Cond.selects RX8 yX8_seed yX8_seed ∈ gT := gT_t (i := 1163) (by decide +kernel) rfl
theorem wc_X8_seed : Cond.code yX8_seed cX8_seed 3 (some .int) ∈ gT := gT_t (i := 1164) (by decide +kernel) rfl
theorem wm_L_76 : Cond.methodLink RL 76 yX8_chance ∈ gT := gT_t (i := 1165) (by decide +kernel) rfl
theorem wi_X8_chance : Cond.instanceMethod yX8_chance ∈ gT := gT_t (i := 1166) (by decide +kernel) rfl
theorem ws_X8_chance : Cond.selects RX8 yX8_chance yX8_chance ∈ gT := gT_t (i := 1167) (by decide +kernel) rfl
theorem wc_X8_chance : Cond.code yX8_chance cX8_chance 2 (some .int) ∈ gT := gT_t (i := 1168) (by decide +kernel) rfl
theorem wm_X8_220 : Cond.methodLink RX8 220 yX8_chanceOf ∈ gT := gT_t (i := 1169) (by decide +kernel) rfl
theorem wi_X8_chanceOf : Cond.instanceMethod yX8_chanceOf ∈ gT := gT_t (i := 1171) (by decide +kernel) rfl
theorem wc_X8_chanceOf : Cond.code yX8_chanceOf cX8_chanceOf 3 (some .int) ∈ gT := gT_t (i := 1172) (by decide +kernel) rfl
theorem wm_X8_223 : Cond.methodLink RX8 223 yX8_asides ∈ gT := gT_t (i := 1173) (by decide +kernel) rfl
theorem wi_X8_asides : Cond.instanceMethod yX8_asides ∈ gT := gT_t (i := 1175) (by decide +kernel) rfl
theorem wc_X8_asides : Cond.code yX8_asides cX8_asides 2 none ∈ gT := gT_t (i := 1176) (by decide +kernel) rfl
theorem wm_X8_226 : Cond.methodLink RX8 226 yX8_likelyBy ∈ gT := gT_t (i := 1177) (by decide +kernel) rfl
theorem wi_X8_likelyBy : Cond.instanceMethod yX8_likelyBy ∈ gT := gT_t (i := 1179) (by decide +kernel) rfl
theorem wc_X8_likelyBy : Cond.code yX8_likelyBy cX8_likelyBy 2 (some .int) ∈ gT := gT_t (i := 1180) (by decide +kernel) rfl
theorem wm_X8_214 : Cond.methodLink RX8 214 yX8_reaches ∈ gT := gT_t (i := 1181) (by decide +kernel) rfl
theorem wi_X8_reaches : Cond.instanceMethod yX8_reaches ∈ gT := gT_t (i := 1183) (by decide +kernel) rfl
theorem wc_X8_reaches : Cond.code yX8_reaches cX8_reaches 2 none ∈ gT := gT_t (i := 1184) (by decide +kernel) rfl
theorem wm_X8_217 : Cond.methodLink RX8 217 yX8_likely ∈ gT := gT_t (i := 1185) (by decide +kernel) rfl
theorem wi_X8_likely : Cond.instanceMethod yX8_likely ∈ gT := gT_t (i := 1187) (by decide +kernel) rfl
theorem wc_X8_likely : Cond.code yX8_likely cX8_likely 5 (some .int) ∈ gT := gT_t (i := 1188) (by decide +kernel) rfl
theorem wm_X8_203 : Cond.methodLink RX8 203 yX8_lines ∈ gT := gT_t (i := 1189) (by decide +kernel) rfl
theorem wi_X8_lines : Cond.instanceMethod yX8_lines ∈ gT := gT_t (i := 1191) (by decide +kernel) rfl
theorem wc_X8_lines : Cond.code yX8_lines cX8_lines 8 (some .int) ∈ gT := gT_t (i := 1192) (by decide +kernel) rfl
theorem wk_X8_202 : Cond.constant RX8 202 (1000000) ∈ gT := gT_t (i := 1193) (by decide +kernel) rfl
theorem wm_X8_206 : Cond.methodLink RX8 206 yX8_fought ∈ gT := gT_t (i := 1194) (by decide +kernel) rfl
theorem wi_X8_fought : Cond.instanceMethod yX8_fought ∈ gT := gT_t (i := 1196) (by decide +kernel) rfl
theorem wc_X8_fought : Cond.code yX8_fought cX8_fought 11 (some .int) ∈ gT := gT_t (i := 1197) (by decide +kernel) rfl
theorem wm_X8_210 : Cond.methodLink RX8 210 yX8_aheadOf ∈ gT := gT_t (i := 1198) (by decide +kernel) rfl
theorem wi_X8_aheadOf : Cond.instanceMethod yX8_aheadOf ∈ gT := gT_t (i := 1200) (by decide +kernel) rfl
theorem wc_X8_aheadOf : Cond.code yX8_aheadOf cX8_aheadOf 8 none ∈ gT := gT_t (i := 1201) (by decide +kernel) rfl
theorem wm_X8_229 : Cond.methodLink RX8 229 yX8_backs ∈ gT := gT_t (i := 1202) (by decide +kernel) rfl
theorem wi_X8_backs : Cond.instanceMethod yX8_backs ∈ gT := gT_t (i := 1204) (by decide +kernel) rfl
theorem wc_X8_backs : Cond.code yX8_backs cX8_backs 2 none ∈ gT := gT_t (i := 1205) (by decide +kernel) rfl
theorem wm_L_80 : Cond.methodLink RL 80 yX8_best ∈ gT := gT_t (i := 1206) (by decide +kernel) rfl
theorem wi_X8_best : Cond.instanceMethod yX8_best ∈ gT := gT_t (i := 1207) (by decide +kernel) rfl
theorem ws_X8_best : Cond.selects RX8 yX8_best yX8_best ∈ gT := gT_t (i := 1208) (by decide +kernel) rfl
theorem wc_X8_best : Cond.code yX8_best cX8_best 2 (some .int) ∈ gT := gT_t (i := 1209) (by decide +kernel) rfl
theorem wm_X8_241 : Cond.methodLink RX8 241 yX8_isOff ∈ gT := gT_t (i := 1210) (by decide +kernel) rfl
theorem wi_X8_isOff : Cond.instanceMethod yX8_isOff ∈ gT := gT_t (i := 1212) (by decide +kernel) rfl
theorem wc_X8_isOff : Cond.code yX8_isOff cX8_isOff 1 (some .boolean) ∈ gT := gT_t (i := 1213) (by decide +kernel) rfl
theorem wm_X8_244 : Cond.methodLink RX8 244 yX8_looks ∈ gT := gT_t (i := 1214) (by decide +kernel) rfl
theorem wi_X8_looks : Cond.instanceMethod yX8_looks ∈ gT := gT_t (i := 1216) (by decide +kernel) rfl
theorem wc_X8_looks : Cond.code yX8_looks cX8_looks 5 none ∈ gT := gT_t (i := 1217) (by decide +kernel) rfl
theorem wm_X8_235 : Cond.methodLink RX8 235 yX8_isCaughtThen ∈ gT := gT_t (i := 1218) (by decide +kernel) rfl
theorem wi_X8_isCaughtThen : Cond.instanceMethod yX8_isCaughtThen ∈ gT := gT_t (i := 1220) (by decide +kernel) rfl
theorem wc_X8_isCaughtThen : Cond.code yX8_isCaughtThen cX8_isCaughtThen 2 (some .boolean) ∈ gT := gT_t (i := 1221) (by decide +kernel) rfl
theorem wm_L_84 : Cond.methodLink RL 84 yX8_late ∈ gT := gT_t (i := 1222) (by decide +kernel) rfl
theorem wi_X8_late : Cond.instanceMethod yX8_late ∈ gT := gT_t (i := 1223) (by decide +kernel) rfl
theorem ws_X8_late : Cond.selects RX8 yX8_late yX8_late ∈ gT := gT_t (i := 1224) (by decide +kernel) rfl
theorem wc_X8_late : Cond.code yX8_late cX8_late 4 (some .int) ∈ gT := gT_t (i := 1225) (by decide +kernel) rfl
theorem wk_X8_247 : Cond.constantLong RX8 247 (1000000) ∈ gT := gT_t (i := 1226) (by decide +kernel) rfl
theorem wm_L_88 : Cond.methodLink RL 88 yX8_together ∈ gT := gT_t (i := 1227) (by decide +kernel) rfl
theorem wi_X8_together : Cond.instanceMethod yX8_together ∈ gT := gT_t (i := 1228) (by decide +kernel) rfl
theorem ws_X8_together : Cond.selects RX8 yX8_together yX8_together ∈ gT := gT_t (i := 1229) (by decide +kernel) rfl
theorem wc_X8_together : Cond.code yX8_together cX8_together 5 (some .int) ∈ gT := gT_t (i := 1230) (by decide +kernel) rfl
theorem wk_X8_249 : Cond.constantLong RX8 249 (2) ∈ gT := gT_t (i := 1231) (by decide +kernel) rfl
theorem wm_L_92 : Cond.methodLink RL 92 yX8_ditched ∈ gT := gT_t (i := 1232) (by decide +kernel) rfl
theorem wi_X8_ditched : Cond.instanceMethod yX8_ditched ∈ gT := gT_t (i := 1233) (by decide +kernel) rfl
theorem ws_X8_ditched : Cond.selects RX8 yX8_ditched yX8_ditched ∈ gT := gT_t (i := 1234) (by decide +kernel) rfl
theorem wc_X8_ditched : Cond.code yX8_ditched cX8_ditched 4 (some .int) ∈ gT := gT_t (i := 1235) (by decide +kernel) rfl
theorem wm_L_96 : Cond.methodLink RL 96 yX8_ahead ∈ gT := gT_t (i := 1236) (by decide +kernel) rfl
theorem wi_X8_ahead : Cond.instanceMethod yX8_ahead ∈ gT := gT_t (i := 1237) (by decide +kernel) rfl
theorem ws_X8_ahead : Cond.selects RX8 yX8_ahead yX8_ahead ∈ gT := gT_t (i := 1238) (by decide +kernel) rfl
theorem wc_X8_ahead : Cond.code yX8_ahead cX8_ahead 5 (some .int) ∈ gT := gT_t (i := 1239) (by decide +kernel) rfl
theorem wm_L_100 : Cond.methodLink RL 100 yX8_fields ∈ gT := gT_t (i := 1240) (by decide +kernel) rfl
theorem wi_X8_fields : Cond.instanceMethod yX8_fields ∈ gT := gT_t (i := 1241) (by decide +kernel) rfl
theorem ws_X8_fields : Cond.selects RX8 yX8_fields yX8_fields ∈ gT := gT_t (i := 1242) (by decide +kernel) rfl
theorem wc_X8_fields : Cond.code yX8_fields cX8_fields 6 (some .int) ∈ gT := gT_t (i := 1243) (by decide +kernel) rfl
theorem wk_X8_251 : Cond.constantLong RX8 251 (90) ∈ gT := gT_t (i := 1244) (by decide +kernel) rfl
theorem wm_L_104 : Cond.methodLink RL 104 yX8_image ∈ gT := gT_t (i := 1245) (by decide +kernel) rfl
theorem wi_X8_image : Cond.instanceMethod yX8_image ∈ gT := gT_t (i := 1246) (by decide +kernel) rfl
theorem ws_X8_image : Cond.selects RX8 yX8_image yX8_image ∈ gT := gT_t (i := 1247) (by decide +kernel) rfl
theorem wc_X8_image : Cond.code yX8_image cX8_image 2 (some .int) ∈ gT := gT_t (i := 1248) (by decide +kernel) rfl
theorem wm_X8_253 : Cond.methodLink RX8 253 yX8_notesRow ∈ gT := gT_t (i := 1249) (by decide +kernel) rfl
theorem wi_X8_notesRow : Cond.instanceMethod yX8_notesRow ∈ gT := gT_t (i := 1251) (by decide +kernel) rfl
theorem wc_X8_notesRow : Cond.code yX8_notesRow cX8_notesRow 4 (some .int) ∈ gT := gT_t (i := 1252) (by decide +kernel) rfl
theorem wm_L_108 : Cond.methodLink RL 108 yX8_restore ∈ gT := gT_t (i := 1253) (by decide +kernel) rfl
theorem wi_X8_restore : Cond.instanceMethod yX8_restore ∈ gT := gT_t (i := 1254) (by decide +kernel) rfl
theorem ws_X8_restore : Cond.selects RX8 yX8_restore yX8_restore ∈ gT := gT_t (i := 1255) (by decide +kernel) rfl
theorem wc_X8_restore : Cond.code yX8_restore cX8_restore 2 (some .int) ∈ gT := gT_t (i := 1256) (by decide +kernel) rfl
theorem wm_X8_260 : Cond.methodLink RX8 260 yX8_gives ∈ gT := gT_t (i := 1257) (by decide +kernel) rfl
theorem wi_X8_gives : Cond.instanceMethod yX8_gives ∈ gT := gT_t (i := 1259) (by decide +kernel) rfl
theorem wc_X8_gives : Cond.code yX8_gives cX8_gives 4 (some .int) ∈ gT := gT_t (i := 1260) (by decide +kernel) rfl
theorem wm_L_113 : Cond.methodLink RL 113 yX8_strides ∈ gT := gT_t (i := 1261) (by decide +kernel) rfl
theorem wi_X8_strides : Cond.instanceMethod yX8_strides ∈ gT := gT_t (i := 1262) (by decide +kernel) rfl
theorem ws_X8_strides : Cond.selects RX8 yX8_strides yX8_strides ∈ gT := gT_t (i := 1263) (by decide +kernel) rfl
theorem wc_X8_strides : Cond.code yX8_strides cX8_strides 12 (some .int) ∈ gT := gT_t (i := 1264) (by decide +kernel) rfl
theorem wm_X8_264 : Cond.methodLink RX8 264 yX8_isSheet ∈ gT := gT_t (i := 1265) (by decide +kernel) rfl
theorem wt_X8_isSheet : Cond.static yX8_isSheet ∈ gT := gT_t (i := 1266) (by decide +kernel) rfl
theorem wc_X8_isSheet : Cond.code yX8_isSheet cX8_isSheet 1 (some .boolean) ∈ gT := gT_t (i := 1267) (by decide +kernel) rfl
theorem wm_X8_267 : Cond.methodLink RX8 267 yX8_isLane ∈ gT := gT_t (i := 1268) (by decide +kernel) rfl
theorem wt_X8_isLane : Cond.static yX8_isLane ∈ gT := gT_t (i := 1269) (by decide +kernel) rfl
theorem wc_X8_isLane : Cond.code yX8_isLane cX8_isLane 1 (some .boolean) ∈ gT := gT_t (i := 1270) (by decide +kernel) rfl
theorem wk_X8_270 : Cond.constantLong RX8 270 (8) ∈ gT := gT_t (i := 1271) (by decide +kernel) rfl
theorem wm_X8_272 : Cond.methodLink RX8 272 yX8_why ∈ gT := gT_t (i := 1272) (by decide +kernel) rfl
theorem wi_X8_why : Cond.instanceMethod yX8_why ∈ gT := gT_t (i := 1274) (by decide +kernel) rfl
theorem wc_X8_why : Cond.code yX8_why cX8_why 5 (some .int) ∈ gT := gT_t (i := 1275) (by decide +kernel) rfl
theorem wm_L_118 : Cond.methodLink RL 118 yX8_far ∈ gT := gT_t (i := 1276) (by decide +kernel) rfl
theorem wi_X8_far : Cond.instanceMethod yX8_far ∈ gT := gT_t (i := 1277) (by decide +kernel) rfl
theorem ws_X8_far : Cond.selects RX8 yX8_far yX8_far ∈ gT := gT_t (i := 1278) (by decide +kernel) rfl
theorem wc_X8_far : Cond.code yX8_far cX8_far 15 (some .int) ∈ gT := gT_t (i := 1279) (by decide +kernel) rfl
theorem wm_L_122 : Cond.methodLink RL 122 yX8_film ∈ gT := gT_t (i := 1280) (by decide +kernel) rfl
theorem wi_X8_film : Cond.instanceMethod yX8_film ∈ gT := gT_t (i := 1281) (by decide +kernel) rfl
theorem ws_X8_film : Cond.selects RX8 yX8_film yX8_film ∈ gT := gT_t (i := 1282) (by decide +kernel) rfl
theorem wc_X8_film : Cond.code yX8_film cX8_film 7 (some .int) ∈ gT := gT_t (i := 1283) (by decide +kernel) rfl
theorem wk_X8_276 : Cond.constantLong RX8 276 (24) ∈ gT := gT_t (i := 1284) (by decide +kernel) rfl
theorem wm_X8_278 : Cond.methodLink RX8 278 yX8_puts ∈ gT := gT_t (i := 1285) (by decide +kernel) rfl
theorem wi_X8_puts : Cond.instanceMethod yX8_puts ∈ gT := gT_t (i := 1287) (by decide +kernel) rfl
theorem wc_X8_puts : Cond.code yX8_puts cX8_puts 6 none ∈ gT := gT_t (i := 1288) (by decide +kernel) rfl
theorem wm_L_126 : Cond.methodLink RL 126 yX8_sheet ∈ gT := gT_t (i := 1289) (by decide +kernel) rfl
theorem wi_X8_sheet : Cond.instanceMethod yX8_sheet ∈ gT := gT_t (i := 1290) (by decide +kernel) rfl
theorem ws_X8_sheet : Cond.selects RX8 yX8_sheet yX8_sheet ∈ gT := gT_t (i := 1291) (by decide +kernel) rfl
theorem wc_X8_sheet : Cond.code yX8_sheet cX8_sheet 5 (some .int) ∈ gT := gT_t (i := 1292) (by decide +kernel) rfl
theorem wm_L_130 : Cond.methodLink RL 130 yX8_drop ∈ gT := gT_t (i := 1293) (by decide +kernel) rfl
theorem wi_X8_drop : Cond.instanceMethod yX8_drop ∈ gT := gT_t (i := 1294) (by decide +kernel) rfl
theorem ws_X8_drop : Cond.selects RX8 yX8_drop yX8_drop ∈ gT := gT_t (i := 1295) (by decide +kernel) rfl
theorem wc_X8_drop : Cond.code yX8_drop cX8_drop 2 (some .int) ∈ gT := gT_t (i := 1296) (by decide +kernel) rfl
theorem wm_L_137 : Cond.methodLink RL 137 yX8_item ∈ gT := gT_t (i := 1297) (by decide +kernel) rfl
theorem wi_X8_item : Cond.instanceMethod yX8_item ∈ gT := gT_t (i := 1298) (by decide +kernel) rfl
theorem ws_X8_item : Cond.selects RX8 yX8_item yX8_item ∈ gT := gT_t (i := 1299) (by decide +kernel) rfl
theorem wc_X8_item : Cond.code yX8_item cX8_item 7 (some .int) ∈ gT := gT_t (i := 1300) (by decide +kernel) rfl
theorem wm_L_141 : Cond.methodLink RL 141 yX8_copy ∈ gT := gT_t (i := 1301) (by decide +kernel) rfl
theorem wi_X8_copy : Cond.instanceMethod yX8_copy ∈ gT := gT_t (i := 1302) (by decide +kernel) rfl
theorem ws_X8_copy : Cond.selects RX8 yX8_copy yX8_copy ∈ gT := gT_t (i := 1303) (by decide +kernel) rfl
theorem wc_X8_copy : Cond.code yX8_copy cX8_copy 7 (some .int) ∈ gT := gT_t (i := 1304) (by decide +kernel) rfl
theorem wk_L_131 : Cond.constantLong RL 131 (4294967295) ∈ gT := gT_t (i := 1305) (by decide +kernel) rfl
theorem ws_X5_momentsOut : Cond.selects RX5 yX5_momentsOut yX5_momentsOut ∈ gT := gT_s (q := (yX5_momentsOut, 13)) (i := 0) (by decide +kernel) rfl
theorem ws_X5_cellBehindTurn : Cond.selects RX5 yX5_cellBehindTurn yX5_cellBehindTurn ∈ gT := gT_s (q := (yX5_cellBehindTurn, 13)) (i := 1) (by decide +kernel) rfl
theorem ws_X1_readGround : Cond.selects RX1 yX1_readGround yX1_readGround ∈ gT := gT_s (q := (yX1_readGround, 4)) (i := 2) (by decide +kernel) rfl
theorem ws_X1_peek : Cond.selects RX1 yX1_peek yX1_peek ∈ gT := gT_s (q := (yX1_peek, 4)) (i := 3) (by decide +kernel) rfl
theorem ws_X1_take : Cond.selects RX1 yX1_take yX1_take ∈ gT := gT_s (q := (yX1_take, 4)) (i := 4) (by decide +kernel) rfl
theorem ws_X1_readFighters : Cond.selects RX1 yX1_readFighters yX1_readFighters ∈ gT := gT_s (q := (yX1_readFighters, 4)) (i := 5) (by decide +kernel) rfl
theorem ws_X1_readFighter : Cond.selects RX1 yX1_readFighter yX1_readFighter ∈ gT := gT_s (q := (yX1_readFighter, 4)) (i := 6) (by decide +kernel) rfl
theorem ws_X1_takeDigit : Cond.selects RX1 yX1_takeDigit yX1_takeDigit ∈ gT := gT_s (q := (yX1_takeDigit, 4)) (i := 7) (by decide +kernel) rfl
theorem ws_X5_firstThere : Cond.selects RX5 yX5_firstThere yX5_firstThere ∈ gT := gT_s (q := (yX5_firstThere, 13)) (i := 8) (by decide +kernel) rfl
theorem ws_X5_isThere : Cond.selects RX5 yX5_isThere yX5_isThere ∈ gT := gT_s (q := (yX5_isThere, 13)) (i := 9) (by decide +kernel) rfl
theorem ws_X5_countThere : Cond.selects RX5 yX5_countThere yX5_countThere ∈ gT := gT_s (q := (yX5_countThere, 13)) (i := 10) (by decide +kernel) rfl
theorem ws_X5_drawOfSixteen : Cond.selects RX5 yX5_drawOfSixteen yX5_drawOfSixteen ∈ gT := gT_s (q := (yX5_drawOfSixteen, 13)) (i := 11) (by decide +kernel) rfl
theorem ws_X7_runOn : Cond.selects RX7 yX7_runOn yX7_runOn ∈ gT := gT_s (q := (yX7_runOn, 8)) (i := 12) (by decide +kernel) rfl
theorem ws_X7_mayTurn : Cond.selects RX7 yX7_mayTurn yX7_mayTurn ∈ gT := gT_s (q := (yX7_mayTurn, 8)) (i := 13) (by decide +kernel) rfl
theorem ws_X0_putInOrder : Cond.selects RX0 yX0_putInOrder yX0_putInOrder ∈ gT := gT_s (q := (yX0_putInOrder, 12)) (i := 14) (by decide +kernel) rfl
theorem ws_X0_tellWaits : Cond.selects RX0 yX0_tellWaits yX0_tellWaits ∈ gT := gT_s (q := (yX0_tellWaits, 12)) (i := 15) (by decide +kernel) rfl
theorem ws_X0_keyOf : Cond.selects RX0 yX0_keyOf yX0_keyOf ∈ gT := gT_s (q := (yX0_keyOf, 12)) (i := 16) (by decide +kernel) rfl
theorem ws_X0_foldBack : Cond.selects RX0 yX0_foldBack yX0_foldBack ∈ gT := gT_s (q := (yX0_foldBack, 12)) (i := 17) (by decide +kernel) rfl
theorem ws_X0_tellForces : Cond.selects RX0 yX0_tellForces yX0_tellForces ∈ gT := gT_s (q := (yX0_tellForces, 12)) (i := 18) (by decide +kernel) rfl
theorem ws_X0_tellIdle : Cond.selects RX0 yX0_tellIdle yX0_tellIdle ∈ gT := gT_s (q := (yX0_tellIdle, 12)) (i := 19) (by decide +kernel) rfl
theorem ws_X0_settleEnds : Cond.selects RX0 yX0_settleEnds yX0_settleEnds ∈ gT := gT_s (q := (yX0_settleEnds, 12)) (i := 20) (by decide +kernel) rfl
theorem ws_X0_leastHurt : Cond.selects RX0 yX0_leastHurt yX0_leastHurt ∈ gT := gT_s (q := (yX0_leastHurt, 12)) (i := 21) (by decide +kernel) rfl
theorem ws_X0_fold : Cond.selects RX0 yX0_fold yX0_fold ∈ gT := gT_s (q := (yX0_fold, 12)) (i := 22) (by decide +kernel) rfl
theorem ws_X0_foldMoment : Cond.selects RX0 yX0_foldMoment yX0_foldMoment ∈ gT := gT_s (q := (yX0_foldMoment, 12)) (i := 23) (by decide +kernel) rfl
theorem ws_X0_countThere : Cond.selects RX0 yX0_countThere yX0_countThere ∈ gT := gT_s (q := (yX0_countThere, 12)) (i := 24) (by decide +kernel) rfl
theorem ws_X2_winsOne : Cond.selects RX2 yX2_winsOne yX2_winsOne ∈ gT := gT_s (q := (yX2_winsOne, 3)) (i := 25) (by decide +kernel) rfl
theorem ws_X7_areSightings : Cond.selects RX7 yX7_areSightings yX7_areSightings ∈ gT := gT_s (q := (yX7_areSightings, 8)) (i := 26) (by decide +kernel) rfl
theorem ws_X7_strodeSo : Cond.selects RX7 yX7_strodeSo yX7_strodeSo ∈ gT := gT_s (q := (yX7_strodeSo, 8)) (i := 27) (by decide +kernel) rfl
theorem ws_X7_lastFarTurn : Cond.selects RX7 yX7_lastFarTurn yX7_lastFarTurn ∈ gT := gT_s (q := (yX7_lastFarTurn, 8)) (i := 28) (by decide +kernel) rfl
theorem ws_X7_turnsThatFit : Cond.selects RX7 yX7_turnsThatFit yX7_turnsThatFit ∈ gT := gT_s (q := (yX7_turnsThatFit, 8)) (i := 29) (by decide +kernel) rfl
theorem ws_X7_comeAsTold : Cond.selects RX7 yX7_comeAsTold yX7_comeAsTold ∈ gT := gT_s (q := (yX7_comeAsTold, 8)) (i := 30) (by decide +kernel) rfl
theorem ws_X7_firstTurnThatFits : Cond.selects RX7 yX7_firstTurnThatFits yX7_firstTurnThatFits ∈ gT := gT_s (q := (yX7_firstTurnThatFits, 8)) (i := 31) (by decide +kernel) rfl
theorem ws_X6_lowestBits : Cond.selects RX6 yX6_lowestBits yX6_lowestBits ∈ gT := gT_s (q := (yX6_lowestBits, 3)) (i := 32) (by decide +kernel) rfl
theorem ws_X8_isTurned : Cond.selects RX8 yX8_isTurned yX8_isTurned ∈ gT := gT_s (q := (yX8_isTurned, 30)) (i := 33) (by decide +kernel) rfl
theorem ws_X8_fighterComes : Cond.selects RX8 yX8_fighterComes yX8_fighterComes ∈ gT := gT_s (q := (yX8_fighterComes, 30)) (i := 34) (by decide +kernel) rfl
theorem ws_X8_isFighter : Cond.selects RX8 yX8_isFighter yX8_isFighter ∈ gT := gT_s (q := (yX8_isFighter, 30)) (i := 35) (by decide +kernel) rfl
theorem ws_X8_hurtOf : Cond.selects RX8 yX8_hurtOf yX8_hurtOf ∈ gT := gT_s (q := (yX8_hurtOf, 30)) (i := 36) (by decide +kernel) rfl
theorem ws_X8_force : Cond.selects RX8 yX8_force yX8_force ∈ gT := gT_s (q := (yX8_force, 30)) (i := 37) (by decide +kernel) rfl
theorem ws_X8_place : Cond.selects RX8 yX8_place yX8_place ∈ gT := gT_s (q := (yX8_place, 30)) (i := 38) (by decide +kernel) rfl
theorem ws_X8_runs : Cond.selects RX8 yX8_runs yX8_runs ∈ gT := gT_s (q := (yX8_runs, 30)) (i := 39) (by decide +kernel) rfl
theorem ws_X8_isDown : Cond.selects RX8 yX8_isDown yX8_isDown ∈ gT := gT_s (q := (yX8_isDown, 30)) (i := 40) (by decide +kernel) rfl
theorem ws_X8_pointsOf : Cond.selects RX8 yX8_pointsOf yX8_pointsOf ∈ gT := gT_s (q := (yX8_pointsOf, 30)) (i := 41) (by decide +kernel) rfl
theorem ws_X8_farthest : Cond.selects RX8 yX8_farthest yX8_farthest ∈ gT := gT_s (q := (yX8_farthest, 30)) (i := 42) (by decide +kernel) rfl
theorem ws_X8_costOf : Cond.selects RX8 yX8_costOf yX8_costOf ∈ gT := gT_s (q := (yX8_costOf, 30)) (i := 43) (by decide +kernel) rfl
theorem ws_X8_here : Cond.selects RX8 yX8_here yX8_here ∈ gT := gT_s (q := (yX8_here, 30)) (i := 44) (by decide +kernel) rfl
theorem ws_X8_sign : Cond.selects RX8 yX8_sign yX8_sign ∈ gT := gT_s (q := (yX8_sign, 30)) (i := 45) (by decide +kernel) rfl
theorem ws_X8_has : Cond.selects RX8 yX8_has yX8_has ∈ gT := gT_s (q := (yX8_has, 30)) (i := 46) (by decide +kernel) rfl
theorem ws_X8_readFighter : Cond.selects RX8 yX8_readFighter yX8_readFighter ∈ gT := gT_s (q := (yX8_readFighter, 30)) (i := 47) (by decide +kernel) rfl
theorem ws_X8_digit : Cond.selects RX8 yX8_digit yX8_digit ∈ gT := gT_s (q := (yX8_digit, 30)) (i := 48) (by decide +kernel) rfl
theorem ws_X8_down : Cond.selects RX8 yX8_down yX8_down ∈ gT := gT_s (q := (yX8_down, 30)) (i := 49) (by decide +kernel) rfl
theorem ws_X8_over : Cond.selects RX8 yX8_over yX8_over ∈ gT := gT_s (q := (yX8_over, 30)) (i := 50) (by decide +kernel) rfl
theorem ws_X8_notes : Cond.selects RX8 yX8_notes yX8_notes ∈ gT := gT_s (q := (yX8_notes, 30)) (i := 51) (by decide +kernel) rfl
theorem ws_X8_fights : Cond.selects RX8 yX8_fights yX8_fights ∈ gT := gT_s (q := (yX8_fights, 30)) (i := 52) (by decide +kernel) rfl
theorem ws_X8_meets : Cond.selects RX8 yX8_meets yX8_meets ∈ gT := gT_s (q := (yX8_meets, 30)) (i := 53) (by decide +kernel) rfl
theorem ws_X8_isCaught : Cond.selects RX8 yX8_isCaught yX8_isCaught ∈ gT := gT_s (q := (yX8_isCaught, 30)) (i := 54) (by decide +kernel) rfl
theorem ws_X8_pursues : Cond.selects RX8 yX8_pursues yX8_pursues ∈ gT := gT_s (q := (yX8_pursues, 30)) (i := 55) (by decide +kernel) rfl
theorem ws_X8_turns : Cond.selects RX8 yX8_turns yX8_turns ∈ gT := gT_s (q := (yX8_turns, 30)) (i := 56) (by decide +kernel) rfl
theorem ws_X8_comesTo : Cond.selects RX8 yX8_comesTo yX8_comesTo ∈ gT := gT_s (q := (yX8_comesTo, 30)) (i := 57) (by decide +kernel) rfl
theorem ws_X8_chanceOf : Cond.selects RX8 yX8_chanceOf yX8_chanceOf ∈ gT := gT_s (q := (yX8_chanceOf, 30)) (i := 58) (by decide +kernel) rfl
theorem ws_X8_asides : Cond.selects RX8 yX8_asides yX8_asides ∈ gT := gT_s (q := (yX8_asides, 30)) (i := 59) (by decide +kernel) rfl
theorem ws_X8_likelyBy : Cond.selects RX8 yX8_likelyBy yX8_likelyBy ∈ gT := gT_s (q := (yX8_likelyBy, 30)) (i := 60) (by decide +kernel) rfl
theorem ws_X8_reaches : Cond.selects RX8 yX8_reaches yX8_reaches ∈ gT := gT_s (q := (yX8_reaches, 30)) (i := 61) (by decide +kernel) rfl
theorem ws_X8_likely : Cond.selects RX8 yX8_likely yX8_likely ∈ gT := gT_s (q := (yX8_likely, 30)) (i := 62) (by decide +kernel) rfl
theorem ws_X8_lines : Cond.selects RX8 yX8_lines yX8_lines ∈ gT := gT_s (q := (yX8_lines, 30)) (i := 63) (by decide +kernel) rfl
theorem ws_X8_fought : Cond.selects RX8 yX8_fought yX8_fought ∈ gT := gT_s (q := (yX8_fought, 30)) (i := 64) (by decide +kernel) rfl
theorem ws_X8_aheadOf : Cond.selects RX8 yX8_aheadOf yX8_aheadOf ∈ gT := gT_s (q := (yX8_aheadOf, 30)) (i := 65) (by decide +kernel) rfl
theorem ws_X8_backs : Cond.selects RX8 yX8_backs yX8_backs ∈ gT := gT_s (q := (yX8_backs, 30)) (i := 66) (by decide +kernel) rfl
theorem ws_X8_isOff : Cond.selects RX8 yX8_isOff yX8_isOff ∈ gT := gT_s (q := (yX8_isOff, 30)) (i := 67) (by decide +kernel) rfl
theorem ws_X8_looks : Cond.selects RX8 yX8_looks yX8_looks ∈ gT := gT_s (q := (yX8_looks, 30)) (i := 68) (by decide +kernel) rfl
theorem ws_X8_isCaughtThen : Cond.selects RX8 yX8_isCaughtThen yX8_isCaughtThen ∈ gT := gT_s (q := (yX8_isCaughtThen, 30)) (i := 69) (by decide +kernel) rfl
theorem ws_X8_notesRow : Cond.selects RX8 yX8_notesRow yX8_notesRow ∈ gT := gT_s (q := (yX8_notesRow, 30)) (i := 70) (by decide +kernel) rfl
theorem ws_X8_gives : Cond.selects RX8 yX8_gives yX8_gives ∈ gT := gT_s (q := (yX8_gives, 30)) (i := 71) (by decide +kernel) rfl
theorem ws_X8_why : Cond.selects RX8 yX8_why yX8_why ∈ gT := gT_s (q := (yX8_why, 30)) (i := 72) (by decide +kernel) rfl
theorem ws_X8_puts : Cond.selects RX8 yX8_puts yX8_puts ∈ gT := gT_s (q := (yX8_puts, 30)) (i := 73) (by decide +kernel) rfl
end
section
/-! the reference: one object and its rows, whose shape never changes -/
/-- where it lies: the classes' numbers, the classes of int[] and long[], the object's address, the rows' by the fields' slots -/
abbrev RG : Type := va_G × ClassId × ClassId × Nat × (Nat → Nat)
/-- what it holds: ints by the fields' slots, rows of ints, rows of longs -/
abbrev RS : Type := (Nat → Int32) × (Nat → Nat → Int32) × (Nat → Nat → Int64)
abbrev wR (g : RG) (z : RS) : va_W := [(g.2.2.2.1, .inr (7, [.int (z.1 0), .int (z.1 1), .ref (g.2.2.2.2 2), .ref (g.2.2.2.2 3), .int (z.1 4), .ref (g.2.2.2.2 5), .int (z.1 6), .ref (g.2.2.2.2 7), .int (z.1 8), .int (z.1 9), .int (z.1 10), .int (z.1 11), .int (z.1 12), .ref (g.2.2.2.2 13), .ref (g.2.2.2.2 14), .ref (g.2.2.2.2 15), .int (z.1 16), .ref (g.2.2.2.2 17), .ref (g.2.2.2.2 18), .ref (g.2.2.2.2 19), .ref (g.2.2.2.2 20), .ref (g.2.2.2.2 21), .int (z.1 22), .int (z.1 23), .ref (g.2.2.2.2 24), .int (z.1 25), .ref (g.2.2.2.2 26), .ref (g.2.2.2.2 27), .ref (g.2.2.2.2 28), .ref (g.2.2.2.2 29)])), (g.2.2.2.2 2, .inl (g.2.1, 40, .inl (z.2.1 2))), (g.2.2.2.2 3, .inl (g.2.1, 15, .inl (z.2.1 3))), (g.2.2.2.2 5, .inl (g.2.1, 13, .inl (z.2.1 5))), (g.2.2.2.2 7, .inl (g.2.1, 100, .inl (z.2.1 7))), (g.2.2.2.2 13, .inl (g.2.1, 40, .inl (z.2.1 13))), (g.2.2.2.2 14, .inl (g.2.1, 20, .inl (z.2.1 14))), (g.2.2.2.2 15, .inl (g.2.1, 104, .inl (z.2.1 15))), (g.2.2.2.2 17, .inl (g.2.1, 13, .inl (z.2.1 17))), (g.2.2.2.2 18, .inl (g.2.1, 4, .inl (z.2.1 18))), (g.2.2.2.2 19, .inl (g.2.1, 180, .inl (z.2.1 19))), (g.2.2.2.2 20, .inl (g.2.1, 180, .inl (z.2.1 20))), (g.2.2.2.2 21, .inl (g.2.1, 61, .inl (z.2.1 21))), (g.2.2.2.2 24, .inl (g.2.1, 177, .inl (z.2.1 24))), (g.2.2.2.2 26, .inl (g.2.1, 4, .inl (z.2.1 26))), (g.2.2.2.2 27, .inl (g.2.1, 4, .inl (z.2.1 27))), (g.2.2.2.2 28, .inl (g.2.2.1, 96, .inr (.inl (z.2.2 28)))), (g.2.2.2.2 29, .inl (g.2.2.1, 24, .inr (.inl (z.2.2 29))))]
abbrev rt (g : RG) : List (ClassId × FieldType) := [(g.2.1, .int), (g.2.2.1, .long)]
abbrev rK (g : RG) (U : State) : Prop := va_K g.1 vwCl (rt g) U
abbrev rP (g : RG) (z : RS) (H : Heap) : Prop := va_P g.1 vwCl (wR g z) H
abbrev sI (z : RS) (k : Nat) (v : Int32) : RS := (va_up z.1 k v, z.2)
abbrev sA (z : RS) (k i : Nat) (x : Int32) : RS := (z.1, va_up z.2.1 k (upd (z.2.1 k) i x), z.2.2)
abbrev sL (z : RS) (k i : Nat) (x : Int64) : RS := (z.1, z.2.1, va_up z.2.2 k (vp_updL (z.2.2 k) i x))
theorem gX8 : ∀ w ∈ u_ws RX8 TX8 30, w ∈ gT := by
  intro w hw
  have h1 : (u_ws RX8 TX8 30).all (fun w => decide (w ∈ tables_1) && goodWord w) = true := by decide +kernel
  have h2 := List.all_eq_true.mp h1 w hw
  simp only [Bool.and_eq_true, decide_eq_true_eq] at h2
  exact List.mem_filter.mpr ⟨List.mem_append_right _ h2.1, h2.2⟩
/-- what a walk knows from its entry on -/
def rX (g : RG) (A : Nat → Prop) (p : Program) (c : Code) (cc : ByteArray) (s : State) (args : Array Value) (m : MethodId) : Prop :=
  p.tables.exec = Jvm.exec ∧ c.code = cc ∧ (∀ w ∈ gT, w.before args s = true) ∧ s.vm.findClass RX8 = some m.cls ∧ rK g s ∧ ∀ q, s.heap.size ≤ q → A q
def rW (g : RG) (A : Nat → Prop) (s : State) (z : RS) (H : Heap) (locs : List Loc) : Prop := rP g z H ∧ va_D A (wR g z) ∧ va_S A s.heap H locs
theorem gV {own C : String} {idx mx : Nat} {y : MethodName} {cc : ByteArray} {ret : Option FieldType} (h1 : Cond.methodLink own idx y ∈ gT) (h2 : Cond.instanceMethod y ∈ gT) (h3 : Cond.selects C y y ∈ gT) (h4 : Cond.initialized C ∈ gT) (h5 : Cond.code y cc mx ret ∈ gT) : GoodIn gT (wsV own idx C y (Cond.code y cc mx ret :: gT)) := by
  intro w hw
  have hm : w ∈ gT := by
    unfold wsV at hw
    rcases List.mem_append.mp hw with h | h
    · simp only [List.mem_cons, List.not_mem_nil, or_false] at h
      rcases h with rfl | rfl | rfl | rfl
      · exact h1
      · exact h2
      · exact h3
      · exact h4
    · rcases List.mem_cons.mp h with rfl | h
      · exact h5
      · exact h
  exact ⟨hm, gT_good hm⟩
theorem gS {own : String} {idx mx : Nat} {y : MethodName} {cc : ByteArray} {ret : Option FieldType} (h1 : Cond.methodLink own idx y ∈ gT) (h2 : Cond.static y ∈ gT) (h4 : Cond.initialized own ∈ gT) (h5 : Cond.code y cc mx ret ∈ gT) : GoodIn gT (wsS own idx y (Cond.code y cc mx ret :: gT)) := by
  intro w hw
  have hm : w ∈ gT := by
    unfold wsS at hw
    rcases List.mem_append.mp hw with h | h
    · simp only [List.mem_cons, List.not_mem_nil, or_false] at h
      rcases h with rfl | rfl | rfl
      · exact h1
      · exact h2
      · exact h4
    · rcases List.mem_cons.mp h with rfl | h
      · exact h5
      · exact h
  exact ⟨hm, gT_good hm⟩
/-- a method of the reference: its name, code, places, answer's kind and number of parameters are as the tables have them -/
def rOk (y : MethodName) (cc : ByteArray) (mx : Nat) (ret : Option FieldType) (n : Nat) : Prop :=
  Cond.code y cc mx ret ∈ gT ∧ Cond.instanceMethod y ∈ gT ∧ Cond.selects RX8 y y ∈ gT ∧ y.cls = RX8 ∧ y.cls ≠ "java/lang/invoke/MethodHandle" ∧ y.cls ≠ "java/lang/invoke/VarHandle" ∧ (parseMethodDescriptor y.desc).map (fun d => d.parameters.length) = some n
def rOkS (y : MethodName) (cc : ByteArray) (mx : Nat) (ret : Option FieldType) (n : Nat) : Prop :=
  Cond.code y cc mx ret ∈ gT ∧ Cond.static y ∈ gT ∧ y.cls = RX8 ∧ y.cls ≠ "java/lang/invoke/MethodHandle" ∧ y.cls ≠ "java/lang/invoke/VarHandle" ∧ (parseMethodDescriptor y.desc).map (fun d => d.parameters.length) = some n
abbrev ro_m (fr lo : Nat) : Room := { frames := fr, cells := 0, slots := 0, locals := lo }
/-- contracts: a static that reads no cell; one that writes nothing; one that writes, with an int, with nothing for an answer -/
def rMs (l : Launch) (y : MethodName) (cc : ByteArray) (mx : Nat) (ret : Option FieldType) (fr lo : Nat) (av : List Value) (post : Int32 → Prop) : Prop :=
  Met l y (Cond.code y cc mx ret :: gT) (ro_m fr lo) (va_Pc av (fun _ => True)) (vp_Si post) 0 0 (fun _ => False)
def rMp (g : RG) (l : Launch) (y : MethodName) (cc : ByteArray) (mx : Nat) (ret : Option FieldType) (fr lo : Nat) (av : List Value) (z : RS) (post : Int32 → Prop) : Prop :=
  Met l y (Cond.code y cc mx ret :: gT) (ro_m fr lo) (va_Pc (.ref g.2.2.2.1 :: av) (fun U => rP g z U.heap ∧ rK g U)) (vp_Si post) 0 0 (fun _ => False)
def rPre (g : RG) (av : List Value) (z : RS) (sz : Nat) : Array Value → State → Prop := va_Pc (.ref g.2.2.2.1 :: av) (fun U => U.heap.size = sz ∧ rP g z U.heap ∧ rK g U ∧ va_D (fun _ => True) (wR g z))
def rB (g : RG) (A : Nat → Prop) (z' : RS) (t : State) : Prop := rP g z' t.heap ∧ rK g t ∧ va_D A (wR g z')
def rMi (g : RG) (l : Launch) (y : MethodName) (cc : ByteArray) (mx : Nat) (ret : Option FieldType) (fr lo : Nat) (av : List Value) (z : RS) (post : Int32 → RS → Prop) : Prop :=
  ∀ sz, Met l y (Cond.code y cc mx ret :: gT) (ro_m fr lo) (rPre g av z sz) (va_Qi post (rB g (va_A (wR g z) sz)) (va_A (wR g z) sz)) 0 0 (va_A (wR g z) sz)
def rMv (g : RG) (l : Launch) (y : MethodName) (cc : ByteArray) (mx : Nat) (ret : Option FieldType) (fr lo : Nat) (av : List Value) (z : RS) (post : RS → Prop) : Prop :=
  ∀ sz, Met l y (Cond.code y cc mx ret :: gT) (ro_m fr lo) (rPre g av z sz) (va_Qv post (rB g (va_A (wR g z) sz)) (va_A (wR g z) sz)) 0 0 (va_A (wR g z) sz)
section RefA
variable {p : Program} {l : Launch} {e : Env} {R : Room} {s : State} {m : MethodId} {args : Array Value} {below : List Frame} {meth : Method} {c : Code} {H : Heap} {locs : List Loc} {cells slots : Nat} {Q : State → Prop}
variable {cc : ByteArray} {pc : Nat} {ls : Array Slot} {rest : List Value} {g : RG} {A : Nat → Prop} {z : RS}
theorem rg_0 (X : rX g A p c cc s args m) (w : rP g z H) (hdg : decode cc pc = .ok (.getfield 62, 3)) (kk : W p l e R s m args below meth c H locs cells slots Q (F0 m (pc + 3) ls (.int (z.1 0) :: rest))) : W p l e R s m args below meth c H locs cells slots Q (F0 m pc ls (.ref g.2.2.2.1 :: rest)) :=
  va_get (D := g.1) (ci := 7) (v := .int (z.1 0)) (C := RX8) (T := TX8) (N := 30) X.1 X.2.1 X.2.2.1 gX8 X.2.2.2.1 X.2.2.2.2.1 w 0 rfl rfl 0 (by decide) (X.2.2.1 _ wf_X8_62) (fun _ h9 => h9) rfl hdg kk
theorem rp_0 {v : Int32} (X : rX g A p c cc s args m) (w : rW g A s z H locs) (hdg : decode cc pc = .ok (.putfield 62, 3)) (kk : ∀ (z1 : RS) (H : Heap) (locs : List Loc), z1 = sI z 0 v → rW g A s z1 H locs → W p l e R s m args below meth c H locs cells slots Q (F0 m (pc + 3) ls rest)) : W p l e R s m args below meth c H locs cells slots Q (F0 m pc ls (.int v :: .ref g.2.2.2.1 :: rest)) :=
  va_put (D := g.1) (ci := 7) (v := .int v) (ty := .int) (C := RX8) (T := TX8) (N := 30) X.1 X.2.1 X.2.2.1 gX8 tyX8 tyX8_ok nmX8 X.2.2.2.1 X.2.2.2.2.1 w.1 w.2.1 w.2.2 0 rfl rfl 0 (by decide) (X.2.2.1 _ wf_X8_62) (fun _ h9 => h9) rfl (by decide +kernel) rfl rfl (Nat.le_of_ble_eq_true rfl) hdg (fun H1 locs1 hP hD hS => kk _ H1 locs1 rfl ⟨hP, hD, hS⟩)
theorem rg_1 (X : rX g A p c cc s args m) (w : rP g z H) (hdg : decode cc pc = .ok (.getfield 66, 3)) (kk : W p l e R s m args below meth c H locs cells slots Q (F0 m (pc + 3) ls (.int (z.1 1) :: rest))) : W p l e R s m args below meth c H locs cells slots Q (F0 m pc ls (.ref g.2.2.2.1 :: rest)) :=
  va_get (D := g.1) (ci := 7) (v := .int (z.1 1)) (C := RX8) (T := TX8) (N := 30) X.1 X.2.1 X.2.2.1 gX8 X.2.2.2.1 X.2.2.2.2.1 w 0 rfl rfl 1 (by decide) (X.2.2.1 _ wf_X8_66) (fun _ h9 => h9) rfl hdg kk
theorem rp_1 {v : Int32} (X : rX g A p c cc s args m) (w : rW g A s z H locs) (hdg : decode cc pc = .ok (.putfield 66, 3)) (kk : ∀ (z1 : RS) (H : Heap) (locs : List Loc), z1 = sI z 1 v → rW g A s z1 H locs → W p l e R s m args below meth c H locs cells slots Q (F0 m (pc + 3) ls rest)) : W p l e R s m args below meth c H locs cells slots Q (F0 m pc ls (.int v :: .ref g.2.2.2.1 :: rest)) :=
  va_put (D := g.1) (ci := 7) (v := .int v) (ty := .int) (C := RX8) (T := TX8) (N := 30) X.1 X.2.1 X.2.2.1 gX8 tyX8 tyX8_ok nmX8 X.2.2.2.1 X.2.2.2.2.1 w.1 w.2.1 w.2.2 0 rfl rfl 1 (by decide) (X.2.2.1 _ wf_X8_66) (fun _ h9 => h9) rfl (by decide +kernel) rfl rfl (Nat.le_of_ble_eq_true rfl) hdg (fun H1 locs1 hP hD hS => kk _ H1 locs1 rfl ⟨hP, hD, hS⟩)
theorem rg_2 (X : rX g A p c cc s args m) (w : rP g z H) (hdg : decode cc pc = .ok (.getfield 7, 3)) (kk : W p l e R s m args below meth c H locs cells slots Q (F0 m (pc + 3) ls (.ref (g.2.2.2.2 2) :: rest))) : W p l e R s m args below meth c H locs cells slots Q (F0 m pc ls (.ref g.2.2.2.1 :: rest)) :=
  va_get (D := g.1) (ci := 7) (v := .ref (g.2.2.2.2 2)) (C := RX8) (T := TX8) (N := 30) X.1 X.2.1 X.2.2.1 gX8 X.2.2.2.1 X.2.2.2.2.1 w 0 rfl rfl 2 (by decide) (X.2.2.1 _ wf_X8_7) (fun _ h9 => h9) rfl hdg kk
theorem ra_2 {i : Int32} (X : rX g A p c cc s args m) (w : rP g z H) (hin : vp_in i 40) (hdg : decode cc pc = .ok (.iaload, 1)) (kk : W p l e R s m args below meth c H locs cells slots Q (F0 m (pc + 1) ls (.int (z.2.1 2 i.toNatClampNeg) :: rest))) : W p l e R s m args below meth c H locs cells slots Q (F0 m pc ls (.int i :: .ref (g.2.2.2.2 2) :: rest)) :=
  va_iald X.1 X.2.1 X.2.2.2.2.1 w 1 0 rfl rfl hin hdg kk
theorem rs_2 {i v : Int32} (X : rX g A p c cc s args m) (w : rW g A s z H locs) (hin : vp_in i 40) (hdg : decode cc pc = .ok (.iastore, 1)) (kk : ∀ (z1 : RS) (H : Heap) (locs : List Loc), z1 = sA z 2 i.toNatClampNeg v → rW g A s z1 H locs → W p l e R s m args below meth c H locs cells slots Q (F0 m (pc + 1) ls rest)) : W p l e R s m args below meth c H locs cells slots Q (F0 m pc ls (.int v :: .int i :: .ref (g.2.2.2.2 2) :: rest)) :=
  va_iast X.1 X.2.1 X.2.2.2.2.1 w.1 w.2.1 w.2.2 1 0 rfl rfl hin hdg (fun H1 locs1 hP hD hS => kk _ H1 locs1 rfl ⟨hP, hD, hS⟩)
theorem rg_3 (X : rX g A p c cc s args m) (w : rP g z H) (hdg : decode cc pc = .ok (.getfield 13, 3)) (kk : W p l e R s m args below meth c H locs cells slots Q (F0 m (pc + 3) ls (.ref (g.2.2.2.2 3) :: rest))) : W p l e R s m args below meth c H locs cells slots Q (F0 m pc ls (.ref g.2.2.2.1 :: rest)) :=
  va_get (D := g.1) (ci := 7) (v := .ref (g.2.2.2.2 3)) (C := RX8) (T := TX8) (N := 30) X.1 X.2.1 X.2.2.1 gX8 X.2.2.2.1 X.2.2.2.2.1 w 0 rfl rfl 3 (by decide) (X.2.2.1 _ wf_X8_13) (fun _ h9 => h9) rfl hdg kk
theorem ra_3 {i : Int32} (X : rX g A p c cc s args m) (w : rP g z H) (hin : vp_in i 15) (hdg : decode cc pc = .ok (.iaload, 1)) (kk : W p l e R s m args below meth c H locs cells slots Q (F0 m (pc + 1) ls (.int (z.2.1 3 i.toNatClampNeg) :: rest))) : W p l e R s m args below meth c H locs cells slots Q (F0 m pc ls (.int i :: .ref (g.2.2.2.2 3) :: rest)) :=
  va_iald X.1 X.2.1 X.2.2.2.2.1 w 2 0 rfl rfl hin hdg kk
theorem rs_3 {i v : Int32} (X : rX g A p c cc s args m) (w : rW g A s z H locs) (hin : vp_in i 15) (hdg : decode cc pc = .ok (.iastore, 1)) (kk : ∀ (z1 : RS) (H : Heap) (locs : List Loc), z1 = sA z 3 i.toNatClampNeg v → rW g A s z1 H locs → W p l e R s m args below meth c H locs cells slots Q (F0 m (pc + 1) ls rest)) : W p l e R s m args below meth c H locs cells slots Q (F0 m pc ls (.int v :: .int i :: .ref (g.2.2.2.2 3) :: rest)) :=
  va_iast X.1 X.2.1 X.2.2.2.2.1 w.1 w.2.1 w.2.2 2 0 rfl rfl hin hdg (fun H1 locs1 hP hD hS => kk _ H1 locs1 rfl ⟨hP, hD, hS⟩)
theorem rg_4 (X : rX g A p c cc s args m) (w : rP g z H) (hdg : decode cc pc = .ok (.getfield 117, 3)) (kk : W p l e R s m args below meth c H locs cells slots Q (F0 m (pc + 3) ls (.int (z.1 4) :: rest))) : W p l e R s m args below meth c H locs cells slots Q (F0 m pc ls (.ref g.2.2.2.1 :: rest)) :=
  va_get (D := g.1) (ci := 7) (v := .int (z.1 4)) (C := RX8) (T := TX8) (N := 30) X.1 X.2.1 X.2.2.1 gX8 X.2.2.2.1 X.2.2.2.2.1 w 0 rfl rfl 4 (by decide) (X.2.2.1 _ wf_X8_117) (fun _ h9 => h9) rfl hdg kk
theorem rp_4 {v : Int32} (X : rX g A p c cc s args m) (w : rW g A s z H locs) (hdg : decode cc pc = .ok (.putfield 117, 3)) (kk : ∀ (z1 : RS) (H : Heap) (locs : List Loc), z1 = sI z 4 v → rW g A s z1 H locs → W p l e R s m args below meth c H locs cells slots Q (F0 m (pc + 3) ls rest)) : W p l e R s m args below meth c H locs cells slots Q (F0 m pc ls (.int v :: .ref g.2.2.2.1 :: rest)) :=
  va_put (D := g.1) (ci := 7) (v := .int v) (ty := .int) (C := RX8) (T := TX8) (N := 30) X.1 X.2.1 X.2.2.1 gX8 tyX8 tyX8_ok nmX8 X.2.2.2.1 X.2.2.2.2.1 w.1 w.2.1 w.2.2 0 rfl rfl 4 (by decide) (X.2.2.1 _ wf_X8_117) (fun _ h9 => h9) rfl (by decide +kernel) rfl rfl (Nat.le_of_ble_eq_true rfl) hdg (fun H1 locs1 hP hD hS => kk _ H1 locs1 rfl ⟨hP, hD, hS⟩)
theorem rg_5 (X : rX g A p c cc s args m) (w : rP g z H) (hdg : decode cc pc = .ok (.getfield 16, 3)) (kk : W p l e R s m args below meth c H locs cells slots Q (F0 m (pc + 3) ls (.ref (g.2.2.2.2 5) :: rest))) : W p l e R s m args below meth c H locs cells slots Q (F0 m pc ls (.ref g.2.2.2.1 :: rest)) :=
  va_get (D := g.1) (ci := 7) (v := .ref (g.2.2.2.2 5)) (C := RX8) (T := TX8) (N := 30) X.1 X.2.1 X.2.2.1 gX8 X.2.2.2.1 X.2.2.2.2.1 w 0 rfl rfl 5 (by decide) (X.2.2.1 _ wf_X8_16) (fun _ h9 => h9) rfl hdg kk
theorem ra_5 {i : Int32} (X : rX g A p c cc s args m) (w : rP g z H) (hin : vp_in i 13) (hdg : decode cc pc = .ok (.iaload, 1)) (kk : W p l e R s m args below meth c H locs cells slots Q (F0 m (pc + 1) ls (.int (z.2.1 5 i.toNatClampNeg) :: rest))) : W p l e R s m args below meth c H locs cells slots Q (F0 m pc ls (.int i :: .ref (g.2.2.2.2 5) :: rest)) :=
  va_iald X.1 X.2.1 X.2.2.2.2.1 w 3 0 rfl rfl hin hdg kk
theorem rs_5 {i v : Int32} (X : rX g A p c cc s args m) (w : rW g A s z H locs) (hin : vp_in i 13) (hdg : decode cc pc = .ok (.iastore, 1)) (kk : ∀ (z1 : RS) (H : Heap) (locs : List Loc), z1 = sA z 5 i.toNatClampNeg v → rW g A s z1 H locs → W p l e R s m args below meth c H locs cells slots Q (F0 m (pc + 1) ls rest)) : W p l e R s m args below meth c H locs cells slots Q (F0 m pc ls (.int v :: .int i :: .ref (g.2.2.2.2 5) :: rest)) :=
  va_iast X.1 X.2.1 X.2.2.2.2.1 w.1 w.2.1 w.2.2 3 0 rfl rfl hin hdg (fun H1 locs1 hP hD hS => kk _ H1 locs1 rfl ⟨hP, hD, hS⟩)
theorem rg_6 (X : rX g A p c cc s args m) (w : rP g z H) (hdg : decode cc pc = .ok (.getfield 99, 3)) (kk : W p l e R s m args below meth c H locs cells slots Q (F0 m (pc + 3) ls (.int (z.1 6) :: rest))) : W p l e R s m args below meth c H locs cells slots Q (F0 m pc ls (.ref g.2.2.2.1 :: rest)) :=
  va_get (D := g.1) (ci := 7) (v := .int (z.1 6)) (C := RX8) (T := TX8) (N := 30) X.1 X.2.1 X.2.2.1 gX8 X.2.2.2.1 X.2.2.2.2.1 w 0 rfl rfl 6 (by decide) (X.2.2.1 _ wf_X8_99) (fun _ h9 => h9) rfl hdg kk
theorem rp_6 {v : Int32} (X : rX g A p c cc s args m) (w : rW g A s z H locs) (h01 : v = 0 ∨ v = 1) (hdg : decode cc pc = .ok (.putfield 99, 3)) (kk : ∀ (z1 : RS) (H : Heap) (locs : List Loc), z1 = sI z 6 v → rW g A s z1 H locs → W p l e R s m args below meth c H locs cells slots Q (F0 m (pc + 3) ls rest)) : W p l e R s m args below meth c H locs cells slots Q (F0 m pc ls (.int v :: .ref g.2.2.2.1 :: rest)) :=
  va_put (D := g.1) (ci := 7) (v := .int v) (ty := .boolean) (C := RX8) (T := TX8) (N := 30) X.1 X.2.1 X.2.2.1 gX8 tyX8 tyX8_ok nmX8 X.2.2.2.1 X.2.2.2.2.1 w.1 w.2.1 w.2.2 0 rfl rfl 6 (by decide) (X.2.2.1 _ wf_X8_99) (fun _ h9 => h9) rfl (by decide +kernel) (by rcases h01 with rfl | rfl <;> rfl) (by rcases h01 with rfl | rfl <;> rfl) (Nat.le_of_ble_eq_true rfl) hdg (fun H1 locs1 hP hD hS => kk _ H1 locs1 rfl ⟨hP, hD, hS⟩)
theorem rg_7 (X : rX g A p c cc s args m) (w : rP g z H) (hdg : decode cc pc = .ok (.getfield 19, 3)) (kk : W p l e R s m args below meth c H locs cells slots Q (F0 m (pc + 3) ls (.ref (g.2.2.2.2 7) :: rest))) : W p l e R s m args below meth c H locs cells slots Q (F0 m pc ls (.ref g.2.2.2.1 :: rest)) :=
  va_get (D := g.1) (ci := 7) (v := .ref (g.2.2.2.2 7)) (C := RX8) (T := TX8) (N := 30) X.1 X.2.1 X.2.2.1 gX8 X.2.2.2.1 X.2.2.2.2.1 w 0 rfl rfl 7 (by decide) (X.2.2.1 _ wf_X8_19) (fun _ h9 => h9) rfl hdg kk
theorem ra_7 {i : Int32} (X : rX g A p c cc s args m) (w : rP g z H) (hin : vp_in i 100) (hdg : decode cc pc = .ok (.iaload, 1)) (kk : W p l e R s m args below meth c H locs cells slots Q (F0 m (pc + 1) ls (.int (z.2.1 7 i.toNatClampNeg) :: rest))) : W p l e R s m args below meth c H locs cells slots Q (F0 m pc ls (.int i :: .ref (g.2.2.2.2 7) :: rest)) :=
  va_iald X.1 X.2.1 X.2.2.2.2.1 w 4 0 rfl rfl hin hdg kk
theorem rs_7 {i v : Int32} (X : rX g A p c cc s args m) (w : rW g A s z H locs) (hin : vp_in i 100) (hdg : decode cc pc = .ok (.iastore, 1)) (kk : ∀ (z1 : RS) (H : Heap) (locs : List Loc), z1 = sA z 7 i.toNatClampNeg v → rW g A s z1 H locs → W p l e R s m args below meth c H locs cells slots Q (F0 m (pc + 1) ls rest)) : W p l e R s m args below meth c H locs cells slots Q (F0 m pc ls (.int v :: .int i :: .ref (g.2.2.2.2 7) :: rest)) :=
  va_iast X.1 X.2.1 X.2.2.2.2.1 w.1 w.2.1 w.2.2 4 0 rfl rfl hin hdg (fun H1 locs1 hP hD hS => kk _ H1 locs1 rfl ⟨hP, hD, hS⟩)
theorem rg_8 (X : rX g A p c cc s args m) (w : rP g z H) (hdg : decode cc pc = .ok (.getfield 140, 3)) (kk : W p l e R s m args below meth c H locs cells slots Q (F0 m (pc + 3) ls (.int (z.1 8) :: rest))) : W p l e R s m args below meth c H locs cells slots Q (F0 m pc ls (.ref g.2.2.2.1 :: rest)) :=
  va_get (D := g.1) (ci := 7) (v := .int (z.1 8)) (C := RX8) (T := TX8) (N := 30) X.1 X.2.1 X.2.2.1 gX8 X.2.2.2.1 X.2.2.2.2.1 w 0 rfl rfl 8 (by decide) (X.2.2.1 _ wf_X8_140) (fun _ h9 => h9) rfl hdg kk
theorem rp_8 {v : Int32} (X : rX g A p c cc s args m) (w : rW g A s z H locs) (hdg : decode cc pc = .ok (.putfield 140, 3)) (kk : ∀ (z1 : RS) (H : Heap) (locs : List Loc), z1 = sI z 8 v → rW g A s z1 H locs → W p l e R s m args below meth c H locs cells slots Q (F0 m (pc + 3) ls rest)) : W p l e R s m args below meth c H locs cells slots Q (F0 m pc ls (.int v :: .ref g.2.2.2.1 :: rest)) :=
  va_put (D := g.1) (ci := 7) (v := .int v) (ty := .int) (C := RX8) (T := TX8) (N := 30) X.1 X.2.1 X.2.2.1 gX8 tyX8 tyX8_ok nmX8 X.2.2.2.1 X.2.2.2.2.1 w.1 w.2.1 w.2.2 0 rfl rfl 8 (by decide) (X.2.2.1 _ wf_X8_140) (fun _ h9 => h9) rfl (by decide +kernel) rfl rfl (Nat.le_of_ble_eq_true rfl) hdg (fun H1 locs1 hP hD hS => kk _ H1 locs1 rfl ⟨hP, hD, hS⟩)
theorem rg_9 (X : rX g A p c cc s args m) (w : rP g z H) (hdg : decode cc pc = .ok (.getfield 143, 3)) (kk : W p l e R s m args below meth c H locs cells slots Q (F0 m (pc + 3) ls (.int (z.1 9) :: rest))) : W p l e R s m args below meth c H locs cells slots Q (F0 m pc ls (.ref g.2.2.2.1 :: rest)) :=
  va_get (D := g.1) (ci := 7) (v := .int (z.1 9)) (C := RX8) (T := TX8) (N := 30) X.1 X.2.1 X.2.2.1 gX8 X.2.2.2.1 X.2.2.2.2.1 w 0 rfl rfl 9 (by decide) (X.2.2.1 _ wf_X8_143) (fun _ h9 => h9) rfl hdg kk
theorem rp_9 {v : Int32} (X : rX g A p c cc s args m) (w : rW g A s z H locs) (hdg : decode cc pc = .ok (.putfield 143, 3)) (kk : ∀ (z1 : RS) (H : Heap) (locs : List Loc), z1 = sI z 9 v → rW g A s z1 H locs → W p l e R s m args below meth c H locs cells slots Q (F0 m (pc + 3) ls rest)) : W p l e R s m args below meth c H locs cells slots Q (F0 m pc ls (.int v :: .ref g.2.2.2.1 :: rest)) :=
  va_put (D := g.1) (ci := 7) (v := .int v) (ty := .int) (C := RX8) (T := TX8) (N := 30) X.1 X.2.1 X.2.2.1 gX8 tyX8 tyX8_ok nmX8 X.2.2.2.1 X.2.2.2.2.1 w.1 w.2.1 w.2.2 0 rfl rfl 9 (by decide) (X.2.2.1 _ wf_X8_143) (fun _ h9 => h9) rfl (by decide +kernel) rfl rfl (Nat.le_of_ble_eq_true rfl) hdg (fun H1 locs1 hP hD hS => kk _ H1 locs1 rfl ⟨hP, hD, hS⟩)
theorem rg_10 (X : rX g A p c cc s args m) (w : rP g z H) (hdg : decode cc pc = .ok (.getfield 146, 3)) (kk : W p l e R s m args below meth c H locs cells slots Q (F0 m (pc + 3) ls (.int (z.1 10) :: rest))) : W p l e R s m args below meth c H locs cells slots Q (F0 m pc ls (.ref g.2.2.2.1 :: rest)) :=
  va_get (D := g.1) (ci := 7) (v := .int (z.1 10)) (C := RX8) (T := TX8) (N := 30) X.1 X.2.1 X.2.2.1 gX8 X.2.2.2.1 X.2.2.2.2.1 w 0 rfl rfl 10 (by decide) (X.2.2.1 _ wf_X8_146) (fun _ h9 => h9) rfl hdg kk
theorem rp_10 {v : Int32} (X : rX g A p c cc s args m) (w : rW g A s z H locs) (h01 : v = 0 ∨ v = 1) (hdg : decode cc pc = .ok (.putfield 146, 3)) (kk : ∀ (z1 : RS) (H : Heap) (locs : List Loc), z1 = sI z 10 v → rW g A s z1 H locs → W p l e R s m args below meth c H locs cells slots Q (F0 m (pc + 3) ls rest)) : W p l e R s m args below meth c H locs cells slots Q (F0 m pc ls (.int v :: .ref g.2.2.2.1 :: rest)) :=
  va_put (D := g.1) (ci := 7) (v := .int v) (ty := .boolean) (C := RX8) (T := TX8) (N := 30) X.1 X.2.1 X.2.2.1 gX8 tyX8 tyX8_ok nmX8 X.2.2.2.1 X.2.2.2.2.1 w.1 w.2.1 w.2.2 0 rfl rfl 10 (by decide) (X.2.2.1 _ wf_X8_146) (fun _ h9 => h9) rfl (by decide +kernel) (by rcases h01 with rfl | rfl <;> rfl) (by rcases h01 with rfl | rfl <;> rfl) (Nat.le_of_ble_eq_true rfl) hdg (fun H1 locs1 hP hD hS => kk _ H1 locs1 rfl ⟨hP, hD, hS⟩)
theorem rg_11 (X : rX g A p c cc s args m) (w : rP g z H) (hdg : decode cc pc = .ok (.getfield 162, 3)) (kk : W p l e R s m args below meth c H locs cells slots Q (F0 m (pc + 3) ls (.int (z.1 11) :: rest))) : W p l e R s m args below meth c H locs cells slots Q (F0 m pc ls (.ref g.2.2.2.1 :: rest)) :=
  va_get (D := g.1) (ci := 7) (v := .int (z.1 11)) (C := RX8) (T := TX8) (N := 30) X.1 X.2.1 X.2.2.1 gX8 X.2.2.2.1 X.2.2.2.2.1 w 0 rfl rfl 11 (by decide) (X.2.2.1 _ wf_X8_162) (fun _ h9 => h9) rfl hdg kk
theorem rp_11 {v : Int32} (X : rX g A p c cc s args m) (w : rW g A s z H locs) (hdg : decode cc pc = .ok (.putfield 162, 3)) (kk : ∀ (z1 : RS) (H : Heap) (locs : List Loc), z1 = sI z 11 v → rW g A s z1 H locs → W p l e R s m args below meth c H locs cells slots Q (F0 m (pc + 3) ls rest)) : W p l e R s m args below meth c H locs cells slots Q (F0 m pc ls (.int v :: .ref g.2.2.2.1 :: rest)) :=
  va_put (D := g.1) (ci := 7) (v := .int v) (ty := .int) (C := RX8) (T := TX8) (N := 30) X.1 X.2.1 X.2.2.1 gX8 tyX8 tyX8_ok nmX8 X.2.2.2.1 X.2.2.2.2.1 w.1 w.2.1 w.2.2 0 rfl rfl 11 (by decide) (X.2.2.1 _ wf_X8_162) (fun _ h9 => h9) rfl (by decide +kernel) rfl rfl (Nat.le_of_ble_eq_true rfl) hdg (fun H1 locs1 hP hD hS => kk _ H1 locs1 rfl ⟨hP, hD, hS⟩)
theorem rg_12 (X : rX g A p c cc s args m) (w : rP g z H) (hdg : decode cc pc = .ok (.getfield 153, 3)) (kk : W p l e R s m args below meth c H locs cells slots Q (F0 m (pc + 3) ls (.int (z.1 12) :: rest))) : W p l e R s m args below meth c H locs cells slots Q (F0 m pc ls (.ref g.2.2.2.1 :: rest)) :=
  va_get (D := g.1) (ci := 7) (v := .int (z.1 12)) (C := RX8) (T := TX8) (N := 30) X.1 X.2.1 X.2.2.1 gX8 X.2.2.2.1 X.2.2.2.2.1 w 0 rfl rfl 12 (by decide) (X.2.2.1 _ wf_X8_153) (fun _ h9 => h9) rfl hdg kk
theorem rp_12 {v : Int32} (X : rX g A p c cc s args m) (w : rW g A s z H locs) (hdg : decode cc pc = .ok (.putfield 153, 3)) (kk : ∀ (z1 : RS) (H : Heap) (locs : List Loc), z1 = sI z 12 v → rW g A s z1 H locs → W p l e R s m args below meth c H locs cells slots Q (F0 m (pc + 3) ls rest)) : W p l e R s m args below meth c H locs cells slots Q (F0 m pc ls (.int v :: .ref g.2.2.2.1 :: rest)) :=
  va_put (D := g.1) (ci := 7) (v := .int v) (ty := .int) (C := RX8) (T := TX8) (N := 30) X.1 X.2.1 X.2.2.1 gX8 tyX8 tyX8_ok nmX8 X.2.2.2.1 X.2.2.2.2.1 w.1 w.2.1 w.2.2 0 rfl rfl 12 (by decide) (X.2.2.1 _ wf_X8_153) (fun _ h9 => h9) rfl (by decide +kernel) rfl rfl (Nat.le_of_ble_eq_true rfl) hdg (fun H1 locs1 hP hD hS => kk _ H1 locs1 rfl ⟨hP, hD, hS⟩)
theorem rg_13 (X : rX g A p c cc s args m) (w : rP g z H) (hdg : decode cc pc = .ok (.getfield 22, 3)) (kk : W p l e R s m args below meth c H locs cells slots Q (F0 m (pc + 3) ls (.ref (g.2.2.2.2 13) :: rest))) : W p l e R s m args below meth c H locs cells slots Q (F0 m pc ls (.ref g.2.2.2.1 :: rest)) :=
  va_get (D := g.1) (ci := 7) (v := .ref (g.2.2.2.2 13)) (C := RX8) (T := TX8) (N := 30) X.1 X.2.1 X.2.2.1 gX8 X.2.2.2.1 X.2.2.2.2.1 w 0 rfl rfl 13 (by decide) (X.2.2.1 _ wf_X8_22) (fun _ h9 => h9) rfl hdg kk
theorem ra_13 {i : Int32} (X : rX g A p c cc s args m) (w : rP g z H) (hin : vp_in i 40) (hdg : decode cc pc = .ok (.iaload, 1)) (kk : W p l e R s m args below meth c H locs cells slots Q (F0 m (pc + 1) ls (.int (z.2.1 13 i.toNatClampNeg) :: rest))) : W p l e R s m args below meth c H locs cells slots Q (F0 m pc ls (.int i :: .ref (g.2.2.2.2 13) :: rest)) :=
  va_iald X.1 X.2.1 X.2.2.2.2.1 w 5 0 rfl rfl hin hdg kk
theorem rs_13 {i v : Int32} (X : rX g A p c cc s args m) (w : rW g A s z H locs) (hin : vp_in i 40) (hdg : decode cc pc = .ok (.iastore, 1)) (kk : ∀ (z1 : RS) (H : Heap) (locs : List Loc), z1 = sA z 13 i.toNatClampNeg v → rW g A s z1 H locs → W p l e R s m args below meth c H locs cells slots Q (F0 m (pc + 1) ls rest)) : W p l e R s m args below meth c H locs cells slots Q (F0 m pc ls (.int v :: .int i :: .ref (g.2.2.2.2 13) :: rest)) :=
  va_iast X.1 X.2.1 X.2.2.2.2.1 w.1 w.2.1 w.2.2 5 0 rfl rfl hin hdg (fun H1 locs1 hP hD hS => kk _ H1 locs1 rfl ⟨hP, hD, hS⟩)
theorem rg_14 (X : rX g A p c cc s args m) (w : rP g z H) (hdg : decode cc pc = .ok (.getfield 25, 3)) (kk : W p l e R s m args below meth c H locs cells slots Q (F0 m (pc + 3) ls (.ref (g.2.2.2.2 14) :: rest))) : W p l e R s m args below meth c H locs cells slots Q (F0 m pc ls (.ref g.2.2.2.1 :: rest)) :=
  va_get (D := g.1) (ci := 7) (v := .ref (g.2.2.2.2 14)) (C := RX8) (T := TX8) (N := 30) X.1 X.2.1 X.2.2.1 gX8 X.2.2.2.1 X.2.2.2.2.1 w 0 rfl rfl 14 (by decide) (X.2.2.1 _ wf_X8_25) (fun _ h9 => h9) rfl hdg kk
theorem ra_14 {i : Int32} (X : rX g A p c cc s args m) (w : rP g z H) (hin : vp_in i 20) (hdg : decode cc pc = .ok (.iaload, 1)) (kk : W p l e R s m args below meth c H locs cells slots Q (F0 m (pc + 1) ls (.int (z.2.1 14 i.toNatClampNeg) :: rest))) : W p l e R s m args below meth c H locs cells slots Q (F0 m pc ls (.int i :: .ref (g.2.2.2.2 14) :: rest)) :=
  va_iald X.1 X.2.1 X.2.2.2.2.1 w 6 0 rfl rfl hin hdg kk
theorem rs_14 {i v : Int32} (X : rX g A p c cc s args m) (w : rW g A s z H locs) (hin : vp_in i 20) (hdg : decode cc pc = .ok (.iastore, 1)) (kk : ∀ (z1 : RS) (H : Heap) (locs : List Loc), z1 = sA z 14 i.toNatClampNeg v → rW g A s z1 H locs → W p l e R s m args below meth c H locs cells slots Q (F0 m (pc + 1) ls rest)) : W p l e R s m args below meth c H locs cells slots Q (F0 m pc ls (.int v :: .int i :: .ref (g.2.2.2.2 14) :: rest)) :=
  va_iast X.1 X.2.1 X.2.2.2.2.1 w.1 w.2.1 w.2.2 6 0 rfl rfl hin hdg (fun H1 locs1 hP hD hS => kk _ H1 locs1 rfl ⟨hP, hD, hS⟩)
theorem rg_15 (X : rX g A p c cc s args m) (w : rP g z H) (hdg : decode cc pc = .ok (.getfield 28, 3)) (kk : W p l e R s m args below meth c H locs cells slots Q (F0 m (pc + 3) ls (.ref (g.2.2.2.2 15) :: rest))) : W p l e R s m args below meth c H locs cells slots Q (F0 m pc ls (.ref g.2.2.2.1 :: rest)) :=
  va_get (D := g.1) (ci := 7) (v := .ref (g.2.2.2.2 15)) (C := RX8) (T := TX8) (N := 30) X.1 X.2.1 X.2.2.1 gX8 X.2.2.2.1 X.2.2.2.2.1 w 0 rfl rfl 15 (by decide) (X.2.2.1 _ wf_X8_28) (fun _ h9 => h9) rfl hdg kk
theorem ra_15 {i : Int32} (X : rX g A p c cc s args m) (w : rP g z H) (hin : vp_in i 104) (hdg : decode cc pc = .ok (.iaload, 1)) (kk : W p l e R s m args below meth c H locs cells slots Q (F0 m (pc + 1) ls (.int (z.2.1 15 i.toNatClampNeg) :: rest))) : W p l e R s m args below meth c H locs cells slots Q (F0 m pc ls (.int i :: .ref (g.2.2.2.2 15) :: rest)) :=
  va_iald X.1 X.2.1 X.2.2.2.2.1 w 7 0 rfl rfl hin hdg kk
theorem rs_15 {i v : Int32} (X : rX g A p c cc s args m) (w : rW g A s z H locs) (hin : vp_in i 104) (hdg : decode cc pc = .ok (.iastore, 1)) (kk : ∀ (z1 : RS) (H : Heap) (locs : List Loc), z1 = sA z 15 i.toNatClampNeg v → rW g A s z1 H locs → W p l e R s m args below meth c H locs cells slots Q (F0 m (pc + 1) ls rest)) : W p l e R s m args below meth c H locs cells slots Q (F0 m pc ls (.int v :: .int i :: .ref (g.2.2.2.2 15) :: rest)) :=
  va_iast X.1 X.2.1 X.2.2.2.2.1 w.1 w.2.1 w.2.2 7 0 rfl rfl hin hdg (fun H1 locs1 hP hD hS => kk _ H1 locs1 rfl ⟨hP, hD, hS⟩)
theorem rg_16 (X : rX g A p c cc s args m) (w : rP g z H) (hdg : decode cc pc = .ok (.getfield 88, 3)) (kk : W p l e R s m args below meth c H locs cells slots Q (F0 m (pc + 3) ls (.int (z.1 16) :: rest))) : W p l e R s m args below meth c H locs cells slots Q (F0 m pc ls (.ref g.2.2.2.1 :: rest)) :=
  va_get (D := g.1) (ci := 7) (v := .int (z.1 16)) (C := RX8) (T := TX8) (N := 30) X.1 X.2.1 X.2.2.1 gX8 X.2.2.2.1 X.2.2.2.2.1 w 0 rfl rfl 16 (by decide) (X.2.2.1 _ wf_X8_88) (fun _ h9 => h9) rfl hdg kk
theorem rp_16 {v : Int32} (X : rX g A p c cc s args m) (w : rW g A s z H locs) (hdg : decode cc pc = .ok (.putfield 88, 3)) (kk : ∀ (z1 : RS) (H : Heap) (locs : List Loc), z1 = sI z 16 v → rW g A s z1 H locs → W p l e R s m args below meth c H locs cells slots Q (F0 m (pc + 3) ls rest)) : W p l e R s m args below meth c H locs cells slots Q (F0 m pc ls (.int v :: .ref g.2.2.2.1 :: rest)) :=
  va_put (D := g.1) (ci := 7) (v := .int v) (ty := .int) (C := RX8) (T := TX8) (N := 30) X.1 X.2.1 X.2.2.1 gX8 tyX8 tyX8_ok nmX8 X.2.2.2.1 X.2.2.2.2.1 w.1 w.2.1 w.2.2 0 rfl rfl 16 (by decide) (X.2.2.1 _ wf_X8_88) (fun _ h9 => h9) rfl (by decide +kernel) rfl rfl (Nat.le_of_ble_eq_true rfl) hdg (fun H1 locs1 hP hD hS => kk _ H1 locs1 rfl ⟨hP, hD, hS⟩)
theorem rg_17 (X : rX g A p c cc s args m) (w : rP g z H) (hdg : decode cc pc = .ok (.getfield 31, 3)) (kk : W p l e R s m args below meth c H locs cells slots Q (F0 m (pc + 3) ls (.ref (g.2.2.2.2 17) :: rest))) : W p l e R s m args below meth c H locs cells slots Q (F0 m pc ls (.ref g.2.2.2.1 :: rest)) :=
  va_get (D := g.1) (ci := 7) (v := .ref (g.2.2.2.2 17)) (C := RX8) (T := TX8) (N := 30) X.1 X.2.1 X.2.2.1 gX8 X.2.2.2.1 X.2.2.2.2.1 w 0 rfl rfl 17 (by decide) (X.2.2.1 _ wf_X8_31) (fun _ h9 => h9) rfl hdg kk
theorem ra_17 {i : Int32} (X : rX g A p c cc s args m) (w : rP g z H) (hin : vp_in i 13) (hdg : decode cc pc = .ok (.iaload, 1)) (kk : W p l e R s m args below meth c H locs cells slots Q (F0 m (pc + 1) ls (.int (z.2.1 17 i.toNatClampNeg) :: rest))) : W p l e R s m args below meth c H locs cells slots Q (F0 m pc ls (.int i :: .ref (g.2.2.2.2 17) :: rest)) :=
  va_iald X.1 X.2.1 X.2.2.2.2.1 w 8 0 rfl rfl hin hdg kk
theorem rs_17 {i v : Int32} (X : rX g A p c cc s args m) (w : rW g A s z H locs) (hin : vp_in i 13) (hdg : decode cc pc = .ok (.iastore, 1)) (kk : ∀ (z1 : RS) (H : Heap) (locs : List Loc), z1 = sA z 17 i.toNatClampNeg v → rW g A s z1 H locs → W p l e R s m args below meth c H locs cells slots Q (F0 m (pc + 1) ls rest)) : W p l e R s m args below meth c H locs cells slots Q (F0 m pc ls (.int v :: .int i :: .ref (g.2.2.2.2 17) :: rest)) :=
  va_iast X.1 X.2.1 X.2.2.2.2.1 w.1 w.2.1 w.2.2 8 0 rfl rfl hin hdg (fun H1 locs1 hP hD hS => kk _ H1 locs1 rfl ⟨hP, hD, hS⟩)
theorem rg_18 (X : rX g A p c cc s args m) (w : rP g z H) (hdg : decode cc pc = .ok (.getfield 34, 3)) (kk : W p l e R s m args below meth c H locs cells slots Q (F0 m (pc + 3) ls (.ref (g.2.2.2.2 18) :: rest))) : W p l e R s m args below meth c H locs cells slots Q (F0 m pc ls (.ref g.2.2.2.1 :: rest)) :=
  va_get (D := g.1) (ci := 7) (v := .ref (g.2.2.2.2 18)) (C := RX8) (T := TX8) (N := 30) X.1 X.2.1 X.2.2.1 gX8 X.2.2.2.1 X.2.2.2.2.1 w 0 rfl rfl 18 (by decide) (X.2.2.1 _ wf_X8_34) (fun _ h9 => h9) rfl hdg kk
theorem ra_18 {i : Int32} (X : rX g A p c cc s args m) (w : rP g z H) (hin : vp_in i 4) (hdg : decode cc pc = .ok (.iaload, 1)) (kk : W p l e R s m args below meth c H locs cells slots Q (F0 m (pc + 1) ls (.int (z.2.1 18 i.toNatClampNeg) :: rest))) : W p l e R s m args below meth c H locs cells slots Q (F0 m pc ls (.int i :: .ref (g.2.2.2.2 18) :: rest)) :=
  va_iald X.1 X.2.1 X.2.2.2.2.1 w 9 0 rfl rfl hin hdg kk
theorem rs_18 {i v : Int32} (X : rX g A p c cc s args m) (w : rW g A s z H locs) (hin : vp_in i 4) (hdg : decode cc pc = .ok (.iastore, 1)) (kk : ∀ (z1 : RS) (H : Heap) (locs : List Loc), z1 = sA z 18 i.toNatClampNeg v → rW g A s z1 H locs → W p l e R s m args below meth c H locs cells slots Q (F0 m (pc + 1) ls rest)) : W p l e R s m args below meth c H locs cells slots Q (F0 m pc ls (.int v :: .int i :: .ref (g.2.2.2.2 18) :: rest)) :=
  va_iast X.1 X.2.1 X.2.2.2.2.1 w.1 w.2.1 w.2.2 9 0 rfl rfl hin hdg (fun H1 locs1 hP hD hS => kk _ H1 locs1 rfl ⟨hP, hD, hS⟩)
theorem rg_19 (X : rX g A p c cc s args m) (w : rP g z H) (hdg : decode cc pc = .ok (.getfield 37, 3)) (kk : W p l e R s m args below meth c H locs cells slots Q (F0 m (pc + 3) ls (.ref (g.2.2.2.2 19) :: rest))) : W p l e R s m args below meth c H locs cells slots Q (F0 m pc ls (.ref g.2.2.2.1 :: rest)) :=
  va_get (D := g.1) (ci := 7) (v := .ref (g.2.2.2.2 19)) (C := RX8) (T := TX8) (N := 30) X.1 X.2.1 X.2.2.1 gX8 X.2.2.2.1 X.2.2.2.2.1 w 0 rfl rfl 19 (by decide) (X.2.2.1 _ wf_X8_37) (fun _ h9 => h9) rfl hdg kk
theorem ra_19 {i : Int32} (X : rX g A p c cc s args m) (w : rP g z H) (hin : vp_in i 180) (hdg : decode cc pc = .ok (.iaload, 1)) (kk : W p l e R s m args below meth c H locs cells slots Q (F0 m (pc + 1) ls (.int (z.2.1 19 i.toNatClampNeg) :: rest))) : W p l e R s m args below meth c H locs cells slots Q (F0 m pc ls (.int i :: .ref (g.2.2.2.2 19) :: rest)) :=
  va_iald X.1 X.2.1 X.2.2.2.2.1 w 10 0 rfl rfl hin hdg kk
theorem rs_19 {i v : Int32} (X : rX g A p c cc s args m) (w : rW g A s z H locs) (hin : vp_in i 180) (hdg : decode cc pc = .ok (.iastore, 1)) (kk : ∀ (z1 : RS) (H : Heap) (locs : List Loc), z1 = sA z 19 i.toNatClampNeg v → rW g A s z1 H locs → W p l e R s m args below meth c H locs cells slots Q (F0 m (pc + 1) ls rest)) : W p l e R s m args below meth c H locs cells slots Q (F0 m pc ls (.int v :: .int i :: .ref (g.2.2.2.2 19) :: rest)) :=
  va_iast X.1 X.2.1 X.2.2.2.2.1 w.1 w.2.1 w.2.2 10 0 rfl rfl hin hdg (fun H1 locs1 hP hD hS => kk _ H1 locs1 rfl ⟨hP, hD, hS⟩)
theorem rg_20 (X : rX g A p c cc s args m) (w : rP g z H) (hdg : decode cc pc = .ok (.getfield 40, 3)) (kk : W p l e R s m args below meth c H locs cells slots Q (F0 m (pc + 3) ls (.ref (g.2.2.2.2 20) :: rest))) : W p l e R s m args below meth c H locs cells slots Q (F0 m pc ls (.ref g.2.2.2.1 :: rest)) :=
  va_get (D := g.1) (ci := 7) (v := .ref (g.2.2.2.2 20)) (C := RX8) (T := TX8) (N := 30) X.1 X.2.1 X.2.2.1 gX8 X.2.2.2.1 X.2.2.2.2.1 w 0 rfl rfl 20 (by decide) (X.2.2.1 _ wf_X8_40) (fun _ h9 => h9) rfl hdg kk
theorem ra_20 {i : Int32} (X : rX g A p c cc s args m) (w : rP g z H) (hin : vp_in i 180) (hdg : decode cc pc = .ok (.iaload, 1)) (kk : W p l e R s m args below meth c H locs cells slots Q (F0 m (pc + 1) ls (.int (z.2.1 20 i.toNatClampNeg) :: rest))) : W p l e R s m args below meth c H locs cells slots Q (F0 m pc ls (.int i :: .ref (g.2.2.2.2 20) :: rest)) :=
  va_iald X.1 X.2.1 X.2.2.2.2.1 w 11 0 rfl rfl hin hdg kk
theorem rs_20 {i v : Int32} (X : rX g A p c cc s args m) (w : rW g A s z H locs) (hin : vp_in i 180) (hdg : decode cc pc = .ok (.iastore, 1)) (kk : ∀ (z1 : RS) (H : Heap) (locs : List Loc), z1 = sA z 20 i.toNatClampNeg v → rW g A s z1 H locs → W p l e R s m args below meth c H locs cells slots Q (F0 m (pc + 1) ls rest)) : W p l e R s m args below meth c H locs cells slots Q (F0 m pc ls (.int v :: .int i :: .ref (g.2.2.2.2 20) :: rest)) :=
  va_iast X.1 X.2.1 X.2.2.2.2.1 w.1 w.2.1 w.2.2 11 0 rfl rfl hin hdg (fun H1 locs1 hP hD hS => kk _ H1 locs1 rfl ⟨hP, hD, hS⟩)
theorem rg_21 (X : rX g A p c cc s args m) (w : rP g z H) (hdg : decode cc pc = .ok (.getfield 43, 3)) (kk : W p l e R s m args below meth c H locs cells slots Q (F0 m (pc + 3) ls (.ref (g.2.2.2.2 21) :: rest))) : W p l e R s m args below meth c H locs cells slots Q (F0 m pc ls (.ref g.2.2.2.1 :: rest)) :=
  va_get (D := g.1) (ci := 7) (v := .ref (g.2.2.2.2 21)) (C := RX8) (T := TX8) (N := 30) X.1 X.2.1 X.2.2.1 gX8 X.2.2.2.1 X.2.2.2.2.1 w 0 rfl rfl 21 (by decide) (X.2.2.1 _ wf_X8_43) (fun _ h9 => h9) rfl hdg kk
theorem ra_21 {i : Int32} (X : rX g A p c cc s args m) (w : rP g z H) (hin : vp_in i 61) (hdg : decode cc pc = .ok (.iaload, 1)) (kk : W p l e R s m args below meth c H locs cells slots Q (F0 m (pc + 1) ls (.int (z.2.1 21 i.toNatClampNeg) :: rest))) : W p l e R s m args below meth c H locs cells slots Q (F0 m pc ls (.int i :: .ref (g.2.2.2.2 21) :: rest)) :=
  va_iald X.1 X.2.1 X.2.2.2.2.1 w 12 0 rfl rfl hin hdg kk
theorem rs_21 {i v : Int32} (X : rX g A p c cc s args m) (w : rW g A s z H locs) (hin : vp_in i 61) (hdg : decode cc pc = .ok (.iastore, 1)) (kk : ∀ (z1 : RS) (H : Heap) (locs : List Loc), z1 = sA z 21 i.toNatClampNeg v → rW g A s z1 H locs → W p l e R s m args below meth c H locs cells slots Q (F0 m (pc + 1) ls rest)) : W p l e R s m args below meth c H locs cells slots Q (F0 m pc ls (.int v :: .int i :: .ref (g.2.2.2.2 21) :: rest)) :=
  va_iast X.1 X.2.1 X.2.2.2.2.1 w.1 w.2.1 w.2.2 12 0 rfl rfl hin hdg (fun H1 locs1 hP hD hS => kk _ H1 locs1 rfl ⟨hP, hD, hS⟩)
theorem rg_22 (X : rX g A p c cc s args m) (w : rP g z H) (hdg : decode cc pc = .ok (.getfield 232, 3)) (kk : W p l e R s m args below meth c H locs cells slots Q (F0 m (pc + 3) ls (.int (z.1 22) :: rest))) : W p l e R s m args below meth c H locs cells slots Q (F0 m pc ls (.ref g.2.2.2.1 :: rest)) :=
  va_get (D := g.1) (ci := 7) (v := .int (z.1 22)) (C := RX8) (T := TX8) (N := 30) X.1 X.2.1 X.2.2.1 gX8 X.2.2.2.1 X.2.2.2.2.1 w 0 rfl rfl 22 (by decide) (X.2.2.1 _ wf_X8_232) (fun _ h9 => h9) rfl hdg kk
theorem rp_22 {v : Int32} (X : rX g A p c cc s args m) (w : rW g A s z H locs) (hdg : decode cc pc = .ok (.putfield 232, 3)) (kk : ∀ (z1 : RS) (H : Heap) (locs : List Loc), z1 = sI z 22 v → rW g A s z1 H locs → W p l e R s m args below meth c H locs cells slots Q (F0 m (pc + 3) ls rest)) : W p l e R s m args below meth c H locs cells slots Q (F0 m pc ls (.int v :: .ref g.2.2.2.1 :: rest)) :=
  va_put (D := g.1) (ci := 7) (v := .int v) (ty := .int) (C := RX8) (T := TX8) (N := 30) X.1 X.2.1 X.2.2.1 gX8 tyX8 tyX8_ok nmX8 X.2.2.2.1 X.2.2.2.2.1 w.1 w.2.1 w.2.2 0 rfl rfl 22 (by decide) (X.2.2.1 _ wf_X8_232) (fun _ h9 => h9) rfl (by decide +kernel) rfl rfl (Nat.le_of_ble_eq_true rfl) hdg (fun H1 locs1 hP hD hS => kk _ H1 locs1 rfl ⟨hP, hD, hS⟩)
theorem rg_23 (X : rX g A p c cc s args m) (w : rP g z H) (hdg : decode cc pc = .ok (.getfield 238, 3)) (kk : W p l e R s m args below meth c H locs cells slots Q (F0 m (pc + 3) ls (.int (z.1 23) :: rest))) : W p l e R s m args below meth c H locs cells slots Q (F0 m pc ls (.ref g.2.2.2.1 :: rest)) :=
  va_get (D := g.1) (ci := 7) (v := .int (z.1 23)) (C := RX8) (T := TX8) (N := 30) X.1 X.2.1 X.2.2.1 gX8 X.2.2.2.1 X.2.2.2.2.1 w 0 rfl rfl 23 (by decide) (X.2.2.1 _ wf_X8_238) (fun _ h9 => h9) rfl hdg kk
theorem rp_23 {v : Int32} (X : rX g A p c cc s args m) (w : rW g A s z H locs) (hdg : decode cc pc = .ok (.putfield 238, 3)) (kk : ∀ (z1 : RS) (H : Heap) (locs : List Loc), z1 = sI z 23 v → rW g A s z1 H locs → W p l e R s m args below meth c H locs cells slots Q (F0 m (pc + 3) ls rest)) : W p l e R s m args below meth c H locs cells slots Q (F0 m pc ls (.int v :: .ref g.2.2.2.1 :: rest)) :=
  va_put (D := g.1) (ci := 7) (v := .int v) (ty := .int) (C := RX8) (T := TX8) (N := 30) X.1 X.2.1 X.2.2.1 gX8 tyX8 tyX8_ok nmX8 X.2.2.2.1 X.2.2.2.2.1 w.1 w.2.1 w.2.2 0 rfl rfl 23 (by decide) (X.2.2.1 _ wf_X8_238) (fun _ h9 => h9) rfl (by decide +kernel) rfl rfl (Nat.le_of_ble_eq_true rfl) hdg (fun H1 locs1 hP hD hS => kk _ H1 locs1 rfl ⟨hP, hD, hS⟩)
theorem rg_24 (X : rX g A p c cc s args m) (w : rP g z H) (hdg : decode cc pc = .ok (.getfield 46, 3)) (kk : W p l e R s m args below meth c H locs cells slots Q (F0 m (pc + 3) ls (.ref (g.2.2.2.2 24) :: rest))) : W p l e R s m args below meth c H locs cells slots Q (F0 m pc ls (.ref g.2.2.2.1 :: rest)) :=
  va_get (D := g.1) (ci := 7) (v := .ref (g.2.2.2.2 24)) (C := RX8) (T := TX8) (N := 30) X.1 X.2.1 X.2.2.1 gX8 X.2.2.2.1 X.2.2.2.2.1 w 0 rfl rfl 24 (by decide) (X.2.2.1 _ wf_X8_46) (fun _ h9 => h9) rfl hdg kk
theorem ra_24 {i : Int32} (X : rX g A p c cc s args m) (w : rP g z H) (hin : vp_in i 177) (hdg : decode cc pc = .ok (.iaload, 1)) (kk : W p l e R s m args below meth c H locs cells slots Q (F0 m (pc + 1) ls (.int (z.2.1 24 i.toNatClampNeg) :: rest))) : W p l e R s m args below meth c H locs cells slots Q (F0 m pc ls (.int i :: .ref (g.2.2.2.2 24) :: rest)) :=
  va_iald X.1 X.2.1 X.2.2.2.2.1 w 13 0 rfl rfl hin hdg kk
theorem rs_24 {i v : Int32} (X : rX g A p c cc s args m) (w : rW g A s z H locs) (hin : vp_in i 177) (hdg : decode cc pc = .ok (.iastore, 1)) (kk : ∀ (z1 : RS) (H : Heap) (locs : List Loc), z1 = sA z 24 i.toNatClampNeg v → rW g A s z1 H locs → W p l e R s m args below meth c H locs cells slots Q (F0 m (pc + 1) ls rest)) : W p l e R s m args below meth c H locs cells slots Q (F0 m pc ls (.int v :: .int i :: .ref (g.2.2.2.2 24) :: rest)) :=
  va_iast X.1 X.2.1 X.2.2.2.2.1 w.1 w.2.1 w.2.2 13 0 rfl rfl hin hdg (fun H1 locs1 hP hD hS => kk _ H1 locs1 rfl ⟨hP, hD, hS⟩)
theorem rg_25 (X : rX g A p c cc s args m) (w : rP g z H) (hdg : decode cc pc = .ok (.getfield 257, 3)) (kk : W p l e R s m args below meth c H locs cells slots Q (F0 m (pc + 3) ls (.int (z.1 25) :: rest))) : W p l e R s m args below meth c H locs cells slots Q (F0 m pc ls (.ref g.2.2.2.1 :: rest)) :=
  va_get (D := g.1) (ci := 7) (v := .int (z.1 25)) (C := RX8) (T := TX8) (N := 30) X.1 X.2.1 X.2.2.1 gX8 X.2.2.2.1 X.2.2.2.2.1 w 0 rfl rfl 25 (by decide) (X.2.2.1 _ wf_X8_257) (fun _ h9 => h9) rfl hdg kk
theorem rp_25 {v : Int32} (X : rX g A p c cc s args m) (w : rW g A s z H locs) (h01 : v = 0 ∨ v = 1) (hdg : decode cc pc = .ok (.putfield 257, 3)) (kk : ∀ (z1 : RS) (H : Heap) (locs : List Loc), z1 = sI z 25 v → rW g A s z1 H locs → W p l e R s m args below meth c H locs cells slots Q (F0 m (pc + 3) ls rest)) : W p l e R s m args below meth c H locs cells slots Q (F0 m pc ls (.int v :: .ref g.2.2.2.1 :: rest)) :=
  va_put (D := g.1) (ci := 7) (v := .int v) (ty := .boolean) (C := RX8) (T := TX8) (N := 30) X.1 X.2.1 X.2.2.1 gX8 tyX8 tyX8_ok nmX8 X.2.2.2.1 X.2.2.2.2.1 w.1 w.2.1 w.2.2 0 rfl rfl 25 (by decide) (X.2.2.1 _ wf_X8_257) (fun _ h9 => h9) rfl (by decide +kernel) (by rcases h01 with rfl | rfl <;> rfl) (by rcases h01 with rfl | rfl <;> rfl) (Nat.le_of_ble_eq_true rfl) hdg (fun H1 locs1 hP hD hS => kk _ H1 locs1 rfl ⟨hP, hD, hS⟩)
theorem rg_26 (X : rX g A p c cc s args m) (w : rP g z H) (hdg : decode cc pc = .ok (.getfield 49, 3)) (kk : W p l e R s m args below meth c H locs cells slots Q (F0 m (pc + 3) ls (.ref (g.2.2.2.2 26) :: rest))) : W p l e R s m args below meth c H locs cells slots Q (F0 m pc ls (.ref g.2.2.2.1 :: rest)) :=
  va_get (D := g.1) (ci := 7) (v := .ref (g.2.2.2.2 26)) (C := RX8) (T := TX8) (N := 30) X.1 X.2.1 X.2.2.1 gX8 X.2.2.2.1 X.2.2.2.2.1 w 0 rfl rfl 26 (by decide) (X.2.2.1 _ wf_X8_49) (fun _ h9 => h9) rfl hdg kk
theorem ra_26 {i : Int32} (X : rX g A p c cc s args m) (w : rP g z H) (hin : vp_in i 4) (hdg : decode cc pc = .ok (.iaload, 1)) (kk : W p l e R s m args below meth c H locs cells slots Q (F0 m (pc + 1) ls (.int (z.2.1 26 i.toNatClampNeg) :: rest))) : W p l e R s m args below meth c H locs cells slots Q (F0 m pc ls (.int i :: .ref (g.2.2.2.2 26) :: rest)) :=
  va_iald X.1 X.2.1 X.2.2.2.2.1 w 14 0 rfl rfl hin hdg kk
theorem rs_26 {i v : Int32} (X : rX g A p c cc s args m) (w : rW g A s z H locs) (hin : vp_in i 4) (hdg : decode cc pc = .ok (.iastore, 1)) (kk : ∀ (z1 : RS) (H : Heap) (locs : List Loc), z1 = sA z 26 i.toNatClampNeg v → rW g A s z1 H locs → W p l e R s m args below meth c H locs cells slots Q (F0 m (pc + 1) ls rest)) : W p l e R s m args below meth c H locs cells slots Q (F0 m pc ls (.int v :: .int i :: .ref (g.2.2.2.2 26) :: rest)) :=
  va_iast X.1 X.2.1 X.2.2.2.2.1 w.1 w.2.1 w.2.2 14 0 rfl rfl hin hdg (fun H1 locs1 hP hD hS => kk _ H1 locs1 rfl ⟨hP, hD, hS⟩)
theorem rg_27 (X : rX g A p c cc s args m) (w : rP g z H) (hdg : decode cc pc = .ok (.getfield 52, 3)) (kk : W p l e R s m args below meth c H locs cells slots Q (F0 m (pc + 3) ls (.ref (g.2.2.2.2 27) :: rest))) : W p l e R s m args below meth c H locs cells slots Q (F0 m pc ls (.ref g.2.2.2.1 :: rest)) :=
  va_get (D := g.1) (ci := 7) (v := .ref (g.2.2.2.2 27)) (C := RX8) (T := TX8) (N := 30) X.1 X.2.1 X.2.2.1 gX8 X.2.2.2.1 X.2.2.2.2.1 w 0 rfl rfl 27 (by decide) (X.2.2.1 _ wf_X8_52) (fun _ h9 => h9) rfl hdg kk
theorem ra_27 {i : Int32} (X : rX g A p c cc s args m) (w : rP g z H) (hin : vp_in i 4) (hdg : decode cc pc = .ok (.iaload, 1)) (kk : W p l e R s m args below meth c H locs cells slots Q (F0 m (pc + 1) ls (.int (z.2.1 27 i.toNatClampNeg) :: rest))) : W p l e R s m args below meth c H locs cells slots Q (F0 m pc ls (.int i :: .ref (g.2.2.2.2 27) :: rest)) :=
  va_iald X.1 X.2.1 X.2.2.2.2.1 w 15 0 rfl rfl hin hdg kk
theorem rs_27 {i v : Int32} (X : rX g A p c cc s args m) (w : rW g A s z H locs) (hin : vp_in i 4) (hdg : decode cc pc = .ok (.iastore, 1)) (kk : ∀ (z1 : RS) (H : Heap) (locs : List Loc), z1 = sA z 27 i.toNatClampNeg v → rW g A s z1 H locs → W p l e R s m args below meth c H locs cells slots Q (F0 m (pc + 1) ls rest)) : W p l e R s m args below meth c H locs cells slots Q (F0 m pc ls (.int v :: .int i :: .ref (g.2.2.2.2 27) :: rest)) :=
  va_iast X.1 X.2.1 X.2.2.2.2.1 w.1 w.2.1 w.2.2 15 0 rfl rfl hin hdg (fun H1 locs1 hP hD hS => kk _ H1 locs1 rfl ⟨hP, hD, hS⟩)
theorem rg_28 (X : rX g A p c cc s args m) (w : rP g z H) (hdg : decode cc pc = .ok (.getfield 55, 3)) (kk : W p l e R s m args below meth c H locs cells slots Q (F0 m (pc + 3) ls (.ref (g.2.2.2.2 28) :: rest))) : W p l e R s m args below meth c H locs cells slots Q (F0 m pc ls (.ref g.2.2.2.1 :: rest)) :=
  va_get (D := g.1) (ci := 7) (v := .ref (g.2.2.2.2 28)) (C := RX8) (T := TX8) (N := 30) X.1 X.2.1 X.2.2.1 gX8 X.2.2.2.1 X.2.2.2.2.1 w 0 rfl rfl 28 (by decide) (X.2.2.1 _ wf_X8_55) (fun _ h9 => h9) rfl hdg kk
theorem ra_28 {i : Int32} (X : rX g A p c cc s args m) (w : rP g z H) (hin : vp_in i 96) (hdg : decode cc pc = .ok (.laload, 1)) (kk : W p l e R s m args below meth c H locs cells slots Q (F0 m (pc + 1) ls (.long (z.2.2 28 i.toNatClampNeg) :: rest))) : W p l e R s m args below meth c H locs cells slots Q (F0 m pc ls (.int i :: .ref (g.2.2.2.2 28) :: rest)) :=
  va_lald X.1 X.2.1 X.2.2.2.2.1 w 16 1 rfl rfl hin hdg kk
theorem rs_28 {i : Int32} {v : Int64} (X : rX g A p c cc s args m) (w : rW g A s z H locs) (hin : vp_in i 96) (hdg : decode cc pc = .ok (.lastore, 1)) (kk : ∀ (z1 : RS) (H : Heap) (locs : List Loc), z1 = sL z 28 i.toNatClampNeg v → rW g A s z1 H locs → W p l e R s m args below meth c H locs cells slots Q (F0 m (pc + 1) ls rest)) : W p l e R s m args below meth c H locs cells slots Q (F0 m pc ls (.long v :: .int i :: .ref (g.2.2.2.2 28) :: rest)) :=
  va_last X.1 X.2.1 X.2.2.2.2.1 w.1 w.2.1 w.2.2 16 1 rfl rfl hin hdg (fun H1 locs1 hP hD hS => kk _ H1 locs1 rfl ⟨hP, hD, hS⟩)
theorem rg_29 (X : rX g A p c cc s args m) (w : rP g z H) (hdg : decode cc pc = .ok (.getfield 59, 3)) (kk : W p l e R s m args below meth c H locs cells slots Q (F0 m (pc + 3) ls (.ref (g.2.2.2.2 29) :: rest))) : W p l e R s m args below meth c H locs cells slots Q (F0 m pc ls (.ref g.2.2.2.1 :: rest)) :=
  va_get (D := g.1) (ci := 7) (v := .ref (g.2.2.2.2 29)) (C := RX8) (T := TX8) (N := 30) X.1 X.2.1 X.2.2.1 gX8 X.2.2.2.1 X.2.2.2.2.1 w 0 rfl rfl 29 (by decide) (X.2.2.1 _ wf_X8_59) (fun _ h9 => h9) rfl hdg kk
theorem ra_29 {i : Int32} (X : rX g A p c cc s args m) (w : rP g z H) (hin : vp_in i 24) (hdg : decode cc pc = .ok (.laload, 1)) (kk : W p l e R s m args below meth c H locs cells slots Q (F0 m (pc + 1) ls (.long (z.2.2 29 i.toNatClampNeg) :: rest))) : W p l e R s m args below meth c H locs cells slots Q (F0 m pc ls (.int i :: .ref (g.2.2.2.2 29) :: rest)) :=
  va_lald X.1 X.2.1 X.2.2.2.2.1 w 17 1 rfl rfl hin hdg kk
theorem rs_29 {i : Int32} {v : Int64} (X : rX g A p c cc s args m) (w : rW g A s z H locs) (hin : vp_in i 24) (hdg : decode cc pc = .ok (.lastore, 1)) (kk : ∀ (z1 : RS) (H : Heap) (locs : List Loc), z1 = sL z 29 i.toNatClampNeg v → rW g A s z1 H locs → W p l e R s m args below meth c H locs cells slots Q (F0 m (pc + 1) ls rest)) : W p l e R s m args below meth c H locs cells slots Q (F0 m pc ls (.long v :: .int i :: .ref (g.2.2.2.2 29) :: rest)) :=
  va_last X.1 X.2.1 X.2.2.2.2.1 w.1 w.2.1 w.2.2 17 1 rfl rfl hin hdg (fun H1 locs1 hP hD hS => kk _ H1 locs1 rfl ⟨hP, hD, hS⟩)
theorem rn_2 {j : Nat} (X : rX g A p c cc s args m) (w : rP g z H) (hj : j < 40) (hdg : decode cc pc = .ok (.iaload, 1)) (kk : W p l e R s m args below meth c H locs cells slots Q (F0 m (pc + 1) ls (.int (z.2.1 2 j) :: rest))) : W p l e R s m args below meth c H locs cells slots Q (F0 m pc ls (.int (nI j) :: .ref (g.2.2.2.2 2) :: rest)) :=
  ra_2 X w (vp_in_nI hj (by decide)) hdg (by rw [nI_clamp (by omega)]; exact kk)
theorem ru_2 {j : Nat} {v : Int32} (X : rX g A p c cc s args m) (w : rW g A s z H locs) (hj : j < 40) (hdg : decode cc pc = .ok (.iastore, 1)) (kk : ∀ (z1 : RS) (H : Heap) (locs : List Loc), z1 = sA z 2 j v → rW g A s z1 H locs → W p l e R s m args below meth c H locs cells slots Q (F0 m (pc + 1) ls rest)) : W p l e R s m args below meth c H locs cells slots Q (F0 m pc ls (.int v :: .int (nI j) :: .ref (g.2.2.2.2 2) :: rest)) :=
  rs_2 X w (vp_in_nI hj (by decide)) hdg (by rw [nI_clamp (by omega)]; exact kk)
theorem rn_3 {j : Nat} (X : rX g A p c cc s args m) (w : rP g z H) (hj : j < 15) (hdg : decode cc pc = .ok (.iaload, 1)) (kk : W p l e R s m args below meth c H locs cells slots Q (F0 m (pc + 1) ls (.int (z.2.1 3 j) :: rest))) : W p l e R s m args below meth c H locs cells slots Q (F0 m pc ls (.int (nI j) :: .ref (g.2.2.2.2 3) :: rest)) :=
  ra_3 X w (vp_in_nI hj (by decide)) hdg (by rw [nI_clamp (by omega)]; exact kk)
theorem ru_3 {j : Nat} {v : Int32} (X : rX g A p c cc s args m) (w : rW g A s z H locs) (hj : j < 15) (hdg : decode cc pc = .ok (.iastore, 1)) (kk : ∀ (z1 : RS) (H : Heap) (locs : List Loc), z1 = sA z 3 j v → rW g A s z1 H locs → W p l e R s m args below meth c H locs cells slots Q (F0 m (pc + 1) ls rest)) : W p l e R s m args below meth c H locs cells slots Q (F0 m pc ls (.int v :: .int (nI j) :: .ref (g.2.2.2.2 3) :: rest)) :=
  rs_3 X w (vp_in_nI hj (by decide)) hdg (by rw [nI_clamp (by omega)]; exact kk)
theorem rn_5 {j : Nat} (X : rX g A p c cc s args m) (w : rP g z H) (hj : j < 13) (hdg : decode cc pc = .ok (.iaload, 1)) (kk : W p l e R s m args below meth c H locs cells slots Q (F0 m (pc + 1) ls (.int (z.2.1 5 j) :: rest))) : W p l e R s m args below meth c H locs cells slots Q (F0 m pc ls (.int (nI j) :: .ref (g.2.2.2.2 5) :: rest)) :=
  ra_5 X w (vp_in_nI hj (by decide)) hdg (by rw [nI_clamp (by omega)]; exact kk)
theorem ru_5 {j : Nat} {v : Int32} (X : rX g A p c cc s args m) (w : rW g A s z H locs) (hj : j < 13) (hdg : decode cc pc = .ok (.iastore, 1)) (kk : ∀ (z1 : RS) (H : Heap) (locs : List Loc), z1 = sA z 5 j v → rW g A s z1 H locs → W p l e R s m args below meth c H locs cells slots Q (F0 m (pc + 1) ls rest)) : W p l e R s m args below meth c H locs cells slots Q (F0 m pc ls (.int v :: .int (nI j) :: .ref (g.2.2.2.2 5) :: rest)) :=
  rs_5 X w (vp_in_nI hj (by decide)) hdg (by rw [nI_clamp (by omega)]; exact kk)
theorem rn_7 {j : Nat} (X : rX g A p c cc s args m) (w : rP g z H) (hj : j < 100) (hdg : decode cc pc = .ok (.iaload, 1)) (kk : W p l e R s m args below meth c H locs cells slots Q (F0 m (pc + 1) ls (.int (z.2.1 7 j) :: rest))) : W p l e R s m args below meth c H locs cells slots Q (F0 m pc ls (.int (nI j) :: .ref (g.2.2.2.2 7) :: rest)) :=
  ra_7 X w (vp_in_nI hj (by decide)) hdg (by rw [nI_clamp (by omega)]; exact kk)
theorem ru_7 {j : Nat} {v : Int32} (X : rX g A p c cc s args m) (w : rW g A s z H locs) (hj : j < 100) (hdg : decode cc pc = .ok (.iastore, 1)) (kk : ∀ (z1 : RS) (H : Heap) (locs : List Loc), z1 = sA z 7 j v → rW g A s z1 H locs → W p l e R s m args below meth c H locs cells slots Q (F0 m (pc + 1) ls rest)) : W p l e R s m args below meth c H locs cells slots Q (F0 m pc ls (.int v :: .int (nI j) :: .ref (g.2.2.2.2 7) :: rest)) :=
  rs_7 X w (vp_in_nI hj (by decide)) hdg (by rw [nI_clamp (by omega)]; exact kk)
theorem rn_13 {j : Nat} (X : rX g A p c cc s args m) (w : rP g z H) (hj : j < 40) (hdg : decode cc pc = .ok (.iaload, 1)) (kk : W p l e R s m args below meth c H locs cells slots Q (F0 m (pc + 1) ls (.int (z.2.1 13 j) :: rest))) : W p l e R s m args below meth c H locs cells slots Q (F0 m pc ls (.int (nI j) :: .ref (g.2.2.2.2 13) :: rest)) :=
  ra_13 X w (vp_in_nI hj (by decide)) hdg (by rw [nI_clamp (by omega)]; exact kk)
theorem ru_13 {j : Nat} {v : Int32} (X : rX g A p c cc s args m) (w : rW g A s z H locs) (hj : j < 40) (hdg : decode cc pc = .ok (.iastore, 1)) (kk : ∀ (z1 : RS) (H : Heap) (locs : List Loc), z1 = sA z 13 j v → rW g A s z1 H locs → W p l e R s m args below meth c H locs cells slots Q (F0 m (pc + 1) ls rest)) : W p l e R s m args below meth c H locs cells slots Q (F0 m pc ls (.int v :: .int (nI j) :: .ref (g.2.2.2.2 13) :: rest)) :=
  rs_13 X w (vp_in_nI hj (by decide)) hdg (by rw [nI_clamp (by omega)]; exact kk)
theorem rn_14 {j : Nat} (X : rX g A p c cc s args m) (w : rP g z H) (hj : j < 20) (hdg : decode cc pc = .ok (.iaload, 1)) (kk : W p l e R s m args below meth c H locs cells slots Q (F0 m (pc + 1) ls (.int (z.2.1 14 j) :: rest))) : W p l e R s m args below meth c H locs cells slots Q (F0 m pc ls (.int (nI j) :: .ref (g.2.2.2.2 14) :: rest)) :=
  ra_14 X w (vp_in_nI hj (by decide)) hdg (by rw [nI_clamp (by omega)]; exact kk)
theorem ru_14 {j : Nat} {v : Int32} (X : rX g A p c cc s args m) (w : rW g A s z H locs) (hj : j < 20) (hdg : decode cc pc = .ok (.iastore, 1)) (kk : ∀ (z1 : RS) (H : Heap) (locs : List Loc), z1 = sA z 14 j v → rW g A s z1 H locs → W p l e R s m args below meth c H locs cells slots Q (F0 m (pc + 1) ls rest)) : W p l e R s m args below meth c H locs cells slots Q (F0 m pc ls (.int v :: .int (nI j) :: .ref (g.2.2.2.2 14) :: rest)) :=
  rs_14 X w (vp_in_nI hj (by decide)) hdg (by rw [nI_clamp (by omega)]; exact kk)
theorem rn_15 {j : Nat} (X : rX g A p c cc s args m) (w : rP g z H) (hj : j < 104) (hdg : decode cc pc = .ok (.iaload, 1)) (kk : W p l e R s m args below meth c H locs cells slots Q (F0 m (pc + 1) ls (.int (z.2.1 15 j) :: rest))) : W p l e R s m args below meth c H locs cells slots Q (F0 m pc ls (.int (nI j) :: .ref (g.2.2.2.2 15) :: rest)) :=
  ra_15 X w (vp_in_nI hj (by decide)) hdg (by rw [nI_clamp (by omega)]; exact kk)
theorem ru_15 {j : Nat} {v : Int32} (X : rX g A p c cc s args m) (w : rW g A s z H locs) (hj : j < 104) (hdg : decode cc pc = .ok (.iastore, 1)) (kk : ∀ (z1 : RS) (H : Heap) (locs : List Loc), z1 = sA z 15 j v → rW g A s z1 H locs → W p l e R s m args below meth c H locs cells slots Q (F0 m (pc + 1) ls rest)) : W p l e R s m args below meth c H locs cells slots Q (F0 m pc ls (.int v :: .int (nI j) :: .ref (g.2.2.2.2 15) :: rest)) :=
  rs_15 X w (vp_in_nI hj (by decide)) hdg (by rw [nI_clamp (by omega)]; exact kk)
theorem rn_17 {j : Nat} (X : rX g A p c cc s args m) (w : rP g z H) (hj : j < 13) (hdg : decode cc pc = .ok (.iaload, 1)) (kk : W p l e R s m args below meth c H locs cells slots Q (F0 m (pc + 1) ls (.int (z.2.1 17 j) :: rest))) : W p l e R s m args below meth c H locs cells slots Q (F0 m pc ls (.int (nI j) :: .ref (g.2.2.2.2 17) :: rest)) :=
  ra_17 X w (vp_in_nI hj (by decide)) hdg (by rw [nI_clamp (by omega)]; exact kk)
theorem ru_17 {j : Nat} {v : Int32} (X : rX g A p c cc s args m) (w : rW g A s z H locs) (hj : j < 13) (hdg : decode cc pc = .ok (.iastore, 1)) (kk : ∀ (z1 : RS) (H : Heap) (locs : List Loc), z1 = sA z 17 j v → rW g A s z1 H locs → W p l e R s m args below meth c H locs cells slots Q (F0 m (pc + 1) ls rest)) : W p l e R s m args below meth c H locs cells slots Q (F0 m pc ls (.int v :: .int (nI j) :: .ref (g.2.2.2.2 17) :: rest)) :=
  rs_17 X w (vp_in_nI hj (by decide)) hdg (by rw [nI_clamp (by omega)]; exact kk)
theorem rn_18 {j : Nat} (X : rX g A p c cc s args m) (w : rP g z H) (hj : j < 4) (hdg : decode cc pc = .ok (.iaload, 1)) (kk : W p l e R s m args below meth c H locs cells slots Q (F0 m (pc + 1) ls (.int (z.2.1 18 j) :: rest))) : W p l e R s m args below meth c H locs cells slots Q (F0 m pc ls (.int (nI j) :: .ref (g.2.2.2.2 18) :: rest)) :=
  ra_18 X w (vp_in_nI hj (by decide)) hdg (by rw [nI_clamp (by omega)]; exact kk)
theorem ru_18 {j : Nat} {v : Int32} (X : rX g A p c cc s args m) (w : rW g A s z H locs) (hj : j < 4) (hdg : decode cc pc = .ok (.iastore, 1)) (kk : ∀ (z1 : RS) (H : Heap) (locs : List Loc), z1 = sA z 18 j v → rW g A s z1 H locs → W p l e R s m args below meth c H locs cells slots Q (F0 m (pc + 1) ls rest)) : W p l e R s m args below meth c H locs cells slots Q (F0 m pc ls (.int v :: .int (nI j) :: .ref (g.2.2.2.2 18) :: rest)) :=
  rs_18 X w (vp_in_nI hj (by decide)) hdg (by rw [nI_clamp (by omega)]; exact kk)
theorem rn_19 {j : Nat} (X : rX g A p c cc s args m) (w : rP g z H) (hj : j < 180) (hdg : decode cc pc = .ok (.iaload, 1)) (kk : W p l e R s m args below meth c H locs cells slots Q (F0 m (pc + 1) ls (.int (z.2.1 19 j) :: rest))) : W p l e R s m args below meth c H locs cells slots Q (F0 m pc ls (.int (nI j) :: .ref (g.2.2.2.2 19) :: rest)) :=
  ra_19 X w (vp_in_nI hj (by decide)) hdg (by rw [nI_clamp (by omega)]; exact kk)
theorem ru_19 {j : Nat} {v : Int32} (X : rX g A p c cc s args m) (w : rW g A s z H locs) (hj : j < 180) (hdg : decode cc pc = .ok (.iastore, 1)) (kk : ∀ (z1 : RS) (H : Heap) (locs : List Loc), z1 = sA z 19 j v → rW g A s z1 H locs → W p l e R s m args below meth c H locs cells slots Q (F0 m (pc + 1) ls rest)) : W p l e R s m args below meth c H locs cells slots Q (F0 m pc ls (.int v :: .int (nI j) :: .ref (g.2.2.2.2 19) :: rest)) :=
  rs_19 X w (vp_in_nI hj (by decide)) hdg (by rw [nI_clamp (by omega)]; exact kk)
theorem rn_20 {j : Nat} (X : rX g A p c cc s args m) (w : rP g z H) (hj : j < 180) (hdg : decode cc pc = .ok (.iaload, 1)) (kk : W p l e R s m args below meth c H locs cells slots Q (F0 m (pc + 1) ls (.int (z.2.1 20 j) :: rest))) : W p l e R s m args below meth c H locs cells slots Q (F0 m pc ls (.int (nI j) :: .ref (g.2.2.2.2 20) :: rest)) :=
  ra_20 X w (vp_in_nI hj (by decide)) hdg (by rw [nI_clamp (by omega)]; exact kk)
theorem ru_20 {j : Nat} {v : Int32} (X : rX g A p c cc s args m) (w : rW g A s z H locs) (hj : j < 180) (hdg : decode cc pc = .ok (.iastore, 1)) (kk : ∀ (z1 : RS) (H : Heap) (locs : List Loc), z1 = sA z 20 j v → rW g A s z1 H locs → W p l e R s m args below meth c H locs cells slots Q (F0 m (pc + 1) ls rest)) : W p l e R s m args below meth c H locs cells slots Q (F0 m pc ls (.int v :: .int (nI j) :: .ref (g.2.2.2.2 20) :: rest)) :=
  rs_20 X w (vp_in_nI hj (by decide)) hdg (by rw [nI_clamp (by omega)]; exact kk)
theorem rn_21 {j : Nat} (X : rX g A p c cc s args m) (w : rP g z H) (hj : j < 61) (hdg : decode cc pc = .ok (.iaload, 1)) (kk : W p l e R s m args below meth c H locs cells slots Q (F0 m (pc + 1) ls (.int (z.2.1 21 j) :: rest))) : W p l e R s m args below meth c H locs cells slots Q (F0 m pc ls (.int (nI j) :: .ref (g.2.2.2.2 21) :: rest)) :=
  ra_21 X w (vp_in_nI hj (by decide)) hdg (by rw [nI_clamp (by omega)]; exact kk)
theorem ru_21 {j : Nat} {v : Int32} (X : rX g A p c cc s args m) (w : rW g A s z H locs) (hj : j < 61) (hdg : decode cc pc = .ok (.iastore, 1)) (kk : ∀ (z1 : RS) (H : Heap) (locs : List Loc), z1 = sA z 21 j v → rW g A s z1 H locs → W p l e R s m args below meth c H locs cells slots Q (F0 m (pc + 1) ls rest)) : W p l e R s m args below meth c H locs cells slots Q (F0 m pc ls (.int v :: .int (nI j) :: .ref (g.2.2.2.2 21) :: rest)) :=
  rs_21 X w (vp_in_nI hj (by decide)) hdg (by rw [nI_clamp (by omega)]; exact kk)
theorem rn_24 {j : Nat} (X : rX g A p c cc s args m) (w : rP g z H) (hj : j < 177) (hdg : decode cc pc = .ok (.iaload, 1)) (kk : W p l e R s m args below meth c H locs cells slots Q (F0 m (pc + 1) ls (.int (z.2.1 24 j) :: rest))) : W p l e R s m args below meth c H locs cells slots Q (F0 m pc ls (.int (nI j) :: .ref (g.2.2.2.2 24) :: rest)) :=
  ra_24 X w (vp_in_nI hj (by decide)) hdg (by rw [nI_clamp (by omega)]; exact kk)
theorem ru_24 {j : Nat} {v : Int32} (X : rX g A p c cc s args m) (w : rW g A s z H locs) (hj : j < 177) (hdg : decode cc pc = .ok (.iastore, 1)) (kk : ∀ (z1 : RS) (H : Heap) (locs : List Loc), z1 = sA z 24 j v → rW g A s z1 H locs → W p l e R s m args below meth c H locs cells slots Q (F0 m (pc + 1) ls rest)) : W p l e R s m args below meth c H locs cells slots Q (F0 m pc ls (.int v :: .int (nI j) :: .ref (g.2.2.2.2 24) :: rest)) :=
  rs_24 X w (vp_in_nI hj (by decide)) hdg (by rw [nI_clamp (by omega)]; exact kk)
theorem rn_26 {j : Nat} (X : rX g A p c cc s args m) (w : rP g z H) (hj : j < 4) (hdg : decode cc pc = .ok (.iaload, 1)) (kk : W p l e R s m args below meth c H locs cells slots Q (F0 m (pc + 1) ls (.int (z.2.1 26 j) :: rest))) : W p l e R s m args below meth c H locs cells slots Q (F0 m pc ls (.int (nI j) :: .ref (g.2.2.2.2 26) :: rest)) :=
  ra_26 X w (vp_in_nI hj (by decide)) hdg (by rw [nI_clamp (by omega)]; exact kk)
theorem ru_26 {j : Nat} {v : Int32} (X : rX g A p c cc s args m) (w : rW g A s z H locs) (hj : j < 4) (hdg : decode cc pc = .ok (.iastore, 1)) (kk : ∀ (z1 : RS) (H : Heap) (locs : List Loc), z1 = sA z 26 j v → rW g A s z1 H locs → W p l e R s m args below meth c H locs cells slots Q (F0 m (pc + 1) ls rest)) : W p l e R s m args below meth c H locs cells slots Q (F0 m pc ls (.int v :: .int (nI j) :: .ref (g.2.2.2.2 26) :: rest)) :=
  rs_26 X w (vp_in_nI hj (by decide)) hdg (by rw [nI_clamp (by omega)]; exact kk)
theorem rn_27 {j : Nat} (X : rX g A p c cc s args m) (w : rP g z H) (hj : j < 4) (hdg : decode cc pc = .ok (.iaload, 1)) (kk : W p l e R s m args below meth c H locs cells slots Q (F0 m (pc + 1) ls (.int (z.2.1 27 j) :: rest))) : W p l e R s m args below meth c H locs cells slots Q (F0 m pc ls (.int (nI j) :: .ref (g.2.2.2.2 27) :: rest)) :=
  ra_27 X w (vp_in_nI hj (by decide)) hdg (by rw [nI_clamp (by omega)]; exact kk)
theorem ru_27 {j : Nat} {v : Int32} (X : rX g A p c cc s args m) (w : rW g A s z H locs) (hj : j < 4) (hdg : decode cc pc = .ok (.iastore, 1)) (kk : ∀ (z1 : RS) (H : Heap) (locs : List Loc), z1 = sA z 27 j v → rW g A s z1 H locs → W p l e R s m args below meth c H locs cells slots Q (F0 m (pc + 1) ls rest)) : W p l e R s m args below meth c H locs cells slots Q (F0 m pc ls (.int v :: .int (nI j) :: .ref (g.2.2.2.2 27) :: rest)) :=
  rs_27 X w (vp_in_nI hj (by decide)) hdg (by rw [nI_clamp (by omega)]; exact kk)
theorem rn_28 {j : Nat} (X : rX g A p c cc s args m) (w : rP g z H) (hj : j < 96) (hdg : decode cc pc = .ok (.laload, 1)) (kk : W p l e R s m args below meth c H locs cells slots Q (F0 m (pc + 1) ls (.long (z.2.2 28 j) :: rest))) : W p l e R s m args below meth c H locs cells slots Q (F0 m pc ls (.int (nI j) :: .ref (g.2.2.2.2 28) :: rest)) :=
  ra_28 X w (vp_in_nI hj (by decide)) hdg (by rw [nI_clamp (by omega)]; exact kk)
theorem ru_28 {j : Nat} {v : Int64} (X : rX g A p c cc s args m) (w : rW g A s z H locs) (hj : j < 96) (hdg : decode cc pc = .ok (.lastore, 1)) (kk : ∀ (z1 : RS) (H : Heap) (locs : List Loc), z1 = sL z 28 j v → rW g A s z1 H locs → W p l e R s m args below meth c H locs cells slots Q (F0 m (pc + 1) ls rest)) : W p l e R s m args below meth c H locs cells slots Q (F0 m pc ls (.long v :: .int (nI j) :: .ref (g.2.2.2.2 28) :: rest)) :=
  rs_28 X w (vp_in_nI hj (by decide)) hdg (by rw [nI_clamp (by omega)]; exact kk)
theorem rn_29 {j : Nat} (X : rX g A p c cc s args m) (w : rP g z H) (hj : j < 24) (hdg : decode cc pc = .ok (.laload, 1)) (kk : W p l e R s m args below meth c H locs cells slots Q (F0 m (pc + 1) ls (.long (z.2.2 29 j) :: rest))) : W p l e R s m args below meth c H locs cells slots Q (F0 m pc ls (.int (nI j) :: .ref (g.2.2.2.2 29) :: rest)) :=
  ra_29 X w (vp_in_nI hj (by decide)) hdg (by rw [nI_clamp (by omega)]; exact kk)
theorem ru_29 {j : Nat} {v : Int64} (X : rX g A p c cc s args m) (w : rW g A s z H locs) (hj : j < 24) (hdg : decode cc pc = .ok (.lastore, 1)) (kk : ∀ (z1 : RS) (H : Heap) (locs : List Loc), z1 = sL z 29 j v → rW g A s z1 H locs → W p l e R s m args below meth c H locs cells slots Q (F0 m (pc + 1) ls rest)) : W p l e R s m args below meth c H locs cells slots Q (F0 m pc ls (.long v :: .int (nI j) :: .ref (g.2.2.2.2 29) :: rest)) :=
  rs_29 X w (vp_in_nI hj (by decide)) hdg (by rw [nI_clamp (by omega)]; exact kk)
end RefA
end
section
/-! entries, ends and calls of the reference's methods -/
section RefB
variable {l : Launch} {y : MethodName} {cc : ByteArray} {mx : Nat} {ret : Option FieldType} {fr lo : Nat} {av : List Value} {g : RG} {z : RS}
theorem rMs_in {post : Int32 → Prop} (hy : plainName y.cls = true) (hc : y.cls = RX8) (hav : (lg_sl av).length ≤ mx)
    (body : ∀ (p : Program) (e : Env) (s : State) (m : MethodId) (args : Array Value) (below : List Frame) (meth : Method) (c : Code) (ls : Array Slot), p.tables.exec = Jvm.exec ∧ c.code = cc ∧ (∀ w ∈ gT, w.before args s = true) ∧ s.vm.findClass RX8 = some m.cls → c.maxLocals = mx → meth.sig.returnType = ret → meth.locks = false → lv_has ls mx (lv_args 0 av) →
      W p l e (ro_m fr lo) s m args below meth c s.heap [] 0 0 (MQ below (vp_Si post) args s 0 0 (fun _ => False)) (F0 m 0 ls [])) : rMs l y cc mx ret fr lo av post := by
  unfold rMs
  refine Met.ofW (cc := cc) (maxL := mx) (ret := ret) hy rfl ?_
  intro p e s m args below meth c s₁ B hml hv
  obtain ⟨rfl, -⟩ := hv
  have hts := atoms_spec (ws := Cond.code y cc mx ret :: gT) B.pre
  have hown : s.vm.findClass y.cls = some m.cls := findClass_of_methodNamed B.named
  rw [lg_entry_eq]
  exact body p e s m _ below meth c _ ⟨B.exec, B.bytes, fun w h => hts w (List.mem_cons_of_mem _ h), hc ▸ hown⟩ hml B.returns B.notSynchronized (lv_entry av hav)
theorem rMp_in {post : Int32 → Prop} (hy : plainName y.cls = true) (hc : y.cls = RX8) (hav : (lg_sl (.ref g.2.2.2.1 :: av)).length ≤ mx)
    (body : ∀ (p : Program) (e : Env) (s : State) (m : MethodId) (args : Array Value) (below : List Frame) (meth : Method) (c : Code) (ls : Array Slot), rX g (fun _ => True) p c cc s args m → c.maxLocals = mx → meth.sig.returnType = ret → meth.locks = false → lv_has ls mx (lv_args 0 (.ref g.2.2.2.1 :: av)) → rP g z s.heap →
      W p l e (ro_m fr lo) s m args below meth c s.heap [] 0 0 (MQ below (vp_Si post) args s 0 0 (fun _ => False)) (F0 m 0 ls [])) : rMp g l y cc mx ret fr lo av z post := by
  unfold rMp
  refine Met.ofW (cc := cc) (maxL := mx) (ret := ret) hy rfl ?_
  intro p e s m args below meth c s₁ B hml hv
  obtain ⟨rfl, hP, hK⟩ := hv
  have hts := atoms_spec (ws := Cond.code y cc mx ret :: gT) B.pre
  have hown : s.vm.findClass y.cls = some m.cls := findClass_of_methodNamed B.named
  rw [lg_entry_eq]
  exact body p e s m _ below meth c _ ⟨B.exec, B.bytes, fun w h => hts w (List.mem_cons_of_mem _ h), hc ▸ hown, hK, fun _ _ => trivial⟩ hml B.returns B.notSynchronized (lv_entry _ hav) hP
theorem rMi_in {post : Int32 → RS → Prop} (hy : plainName y.cls = true) (hc : y.cls = RX8) (hav : (lg_sl (.ref g.2.2.2.1 :: av)).length ≤ mx)
    (body : ∀ (p : Program) (e : Env) (s : State) (m : MethodId) (args : Array Value) (below : List Frame) (meth : Method) (c : Code) (A : Nat → Prop) (ls : Array Slot), rX g A p c cc s args m → c.maxLocals = mx → meth.sig.returnType = ret → meth.locks = false → lv_has ls mx (lv_args 0 (.ref g.2.2.2.1 :: av)) → rW g A s z s.heap [] →
      W p l e (ro_m fr lo) s m args below meth c s.heap [] 0 0 (MQ below (va_Qi post (rB g A) A) args s 0 0 A) (F0 m 0 ls [])) : rMi g l y cc mx ret fr lo av z post := by
  intro sz
  refine Met.ofW (cc := cc) (maxL := mx) (ret := ret) hy rfl ?_
  intro p e s m args below meth c s₁ B hml hv
  obtain ⟨rfl, hsz, hP, hK, hD0⟩ := hv
  subst hsz
  have hts := atoms_spec (ws := Cond.code y cc mx ret :: gT) B.pre
  have hown : s.vm.findClass y.cls = some m.cls := findClass_of_methodNamed B.named
  rw [lg_entry_eq]
  exact body p e s m _ below meth c _ _ ⟨B.exec, B.bytes, fun w h => hts w (List.mem_cons_of_mem _ h), hc ▸ hown, hK, fun _ h => Or.inr h⟩ hml B.returns B.notSynchronized (lv_entry _ hav) ⟨hP, hD0.self, va_S.rf⟩
theorem rMv_in {post : RS → Prop} (hy : plainName y.cls = true) (hc : y.cls = RX8) (hav : (lg_sl (.ref g.2.2.2.1 :: av)).length ≤ mx)
    (body : ∀ (p : Program) (e : Env) (s : State) (m : MethodId) (args : Array Value) (below : List Frame) (meth : Method) (c : Code) (A : Nat → Prop) (ls : Array Slot), rX g A p c cc s args m → c.maxLocals = mx → meth.sig.returnType = ret → meth.locks = false → lv_has ls mx (lv_args 0 (.ref g.2.2.2.1 :: av)) → rW g A s z s.heap [] →
      W p l e (ro_m fr lo) s m args below meth c s.heap [] 0 0 (MQ below (va_Qv post (rB g A) A) args s 0 0 A) (F0 m 0 ls [])) : rMv g l y cc mx ret fr lo av z post := by
  intro sz
  refine Met.ofW (cc := cc) (maxL := mx) (ret := ret) hy rfl ?_
  intro p e s m args below meth c s₁ B hml hv
  obtain ⟨rfl, hsz, hP, hK, hD0⟩ := hv
  subst hsz
  have hts := atoms_spec (ws := Cond.code y cc mx ret :: gT) B.pre
  have hown : s.vm.findClass y.cls = some m.cls := findClass_of_methodNamed B.named
  rw [lg_entry_eq]
  exact body p e s m _ below meth c _ _ ⟨B.exec, B.bytes, fun w h => hts w (List.mem_cons_of_mem _ h), hc ▸ hown, hK, fun _ h => Or.inr h⟩ hml B.returns B.notSynchronized (lv_entry _ hav) ⟨hP, hD0.self, va_S.rf⟩
end RefB
section RefC
variable {p : Program} {l : Launch} {e : Env} {R : Room} {s : State} {m : MethodId} {args : Array Value} {below : List Frame} {meth : Method} {c : Code} {H : Heap} {locs : List Loc} {cells slots : Nat} {Q : State → Prop}
variable {cc : ByteArray} {pc : Nat} {ls : Array Slot} {rest : List Value} {g : RG} {A : Nat → Prop} {z : RS} {v : Int32}
/-- ends -/
theorem re_p {post : Int32 → Prop} (hx : p.tables.exec = Jvm.exec) (hb : c.code = cc) (hr : meth.sig.returnType = some .int) (hk : meth.locks = false) (hp : post v) (hdg : decode cc pc = .ok (.ireturn, 1)) : W p l e R s m args below meth c s.heap [] 0 0 (MQ below (vp_Si post) args s 0 0 (fun _ => False)) (F0 m pc ls [.int v]) :=
  W.iret hx hb hr (fun t ht _ => ⟨v, rfl, hp, ht⟩) (fun q h => by cases h) hdg hk
theorem re_pz {post : Int32 → Prop} (hx : p.tables.exec = Jvm.exec) (hb : c.code = cc) (hr : meth.sig.returnType = some .boolean) (hk : meth.locks = false) (h01 : v = 0 ∨ v = 1) (hp : post v) (hdg : decode cc pc = .ok (.ireturn, 1)) : W p l e R s m args below meth c s.heap [] 0 0 (MQ below (vp_Si post) args s 0 0 (fun _ => False)) (F0 m pc ls [.int v]) :=
  W.zret hx hb hr (by rcases h01 with rfl | rfl <;> rfl) (fun t ht _ => ⟨v, rfl, hp, ht⟩) (fun q h => by cases h) hdg hk
theorem re_i {post : Int32 → RS → Prop} (X : rX g A p c cc s args m) (hr : meth.sig.returnType = some .int) (hk : meth.locks = false) (w : rW g A s z H locs) (hp : post v z) (hdg : decode cc pc = .ok (.ireturn, 1)) : W p l e R s m args below meth c H locs 0 0 (MQ below (va_Qi post (rB g A) A) args s 0 0 A) (F0 m pc ls [.int v]) :=
  W.iret X.1 X.2.1 hr (fun t ht hW => ⟨⟨v, z, rfl, hp, by rw [ht]; exact w.1, va_K.moved hW.alike X.2.2.2.2.1, w.2.1⟩, w.2.2.F ht⟩) w.2.2.2.2 hdg hk
theorem re_iz {post : Int32 → RS → Prop} (X : rX g A p c cc s args m) (hr : meth.sig.returnType = some .boolean) (hk : meth.locks = false) (w : rW g A s z H locs) (h01 : v = 0 ∨ v = 1) (hp : post v z) (hdg : decode cc pc = .ok (.ireturn, 1)) : W p l e R s m args below meth c H locs 0 0 (MQ below (va_Qi post (rB g A) A) args s 0 0 A) (F0 m pc ls [.int v]) :=
  W.zret X.1 X.2.1 hr (by rcases h01 with rfl | rfl <;> rfl) (fun t ht hW => ⟨⟨v, z, rfl, hp, by rw [ht]; exact w.1, va_K.moved hW.alike X.2.2.2.2.1, w.2.1⟩, w.2.2.F ht⟩) w.2.2.2.2 hdg hk
theorem re_v {post : RS → Prop} (X : rX g A p c cc s args m) (hr : meth.sig.returnType = none) (hk : meth.locks = false) (w : rW g A s z H locs) (hp : post z) (hdg : decode cc pc = .ok (.return_, 1)) : W p l e R s m args below meth c H locs 0 0 (MQ below (va_Qv post (rB g A) A) args s 0 0 A) (F0 m pc ls []) :=
  W.vret X.1 X.2.1 hr (fun t ht hW => ⟨⟨z, rfl, hp, by rw [ht]; exact w.1, va_K.moved hW.alike X.2.2.2.2.1, w.2.1⟩, w.2.2.F ht⟩) w.2.2.2.2 hdg hk
variable {y : MethodName} {cc1 : ByteArray} {mx nL fr lo idx : Nat} {ret : Option FieldType} {av : List Value} {st0 : List Value}
/-- calls -/
theorem rc_s {post : Int32 → Prop} (X : p.tables.exec = Jvm.exec ∧ c.code = cc ∧ (∀ w ∈ gT, w.before args s = true) ∧ s.vm.findClass RX8 = some m.cls) (hml : c.maxLocals = nL) (hls : ls.size = nL) (hM : rMs l y cc1 mx ret fr lo av post) (ok : rOkS y cc1 mx ret av.length) (hlk : Cond.methodLink RX8 idx y ∈ gT) (hR : fr + 1 ≤ R.frames ∧ 8 + (mx + 11) + lo ≤ R.locals) (hf : cells ≤ R.cells ∧ slots ≤ R.slots) (hst : st0 = av.reverse ++ rest) (hrm : (rest.map fun v => v.category).sum ≤ 8) (hdg : decode cc pc = .ok (.invokestatic idx, 3))
    (kk : ∀ r : Int32, post r → W p l e R s m args below meth c H locs cells slots Q (F0 m (pc + 3) ls (.int r :: rest))) : W p l e R s m args below meth c H locs cells slots Q (F0 m pc ls st0) := by
  subst hst
  refine vp_callSi (W.runS (As := av) (rest := rest) ⟨X.1, X.2.1, hml, X.2.2.2, X.2.2.1⟩ hM (cwS av.length X.2.2.1 (gS hlk ok.2.1 wn_X8 ok.1) rfl rfl rfl ⟨ok.2.2.1, ok.2.2.2⟩ hR) ⟨fun a U g mk q => q, fun U hU hW => ⟨rfl, trivial⟩⟩ rfl rfl hls rfl (lv_room hrm) hdg hf) kk
theorem rc_p {post : Int32 → Prop} (X : rX g A p c cc s args m) (hml : c.maxLocals = nL) (hls : ls.size = nL) (hM : rMp g l y cc1 mx ret fr lo av z post) (ok : rOk y cc1 mx ret av.length) (hlk : Cond.methodLink RX8 idx y ∈ gT) (hR : fr + 1 ≤ R.frames ∧ 8 + (mx + 11) + lo ≤ R.locals) (hf : cells ≤ R.cells ∧ slots ≤ R.slots) (w : rP g z H) (hst : st0 = av.reverse ++ .ref g.2.2.2.1 :: rest) (hrm : (rest.map fun v => v.category).sum ≤ 8) (hdg : decode cc pc = .ok (.invokevirtual idx, 3))
    (kk : ∀ r : Int32, post r → W p l e R s m args below meth c H locs cells slots Q (F0 m (pc + 3) ls (.int r :: rest))) : W p l e R s m args below meth c H locs cells slots Q (F0 m pc ls st0) := by
  subst hst
  refine vp_callSi (W.runV (C := RX8) (b := g.2.2.2.1) (As := av) (rest := rest) ⟨X.1, X.2.1, hml, X.2.2.2.1, X.2.2.1⟩ hM (cwV av.length X.2.2.1 (gV hlk ok.2.1 ok.2.2.1 wn_X8 ok.1) rfl rfl rfl ok.2.2.2 hR) ⟨fun a U g mk q => ⟨q.1, q.2.1, va_K.moved (u := U) (U := U.calling g mk a) (Vm.Alike.refl U.vm) q.2.2⟩, va_recv X.2.2.2.2.1 w (ci := 7) (q0 := 0) rfl rfl, fun U hU hW => ⟨rfl, by rw [hU]; exact w, va_K.moved hW.alike X.2.2.2.2.1⟩⟩ rfl rfl hls rfl (lv_room hrm) hdg hf) kk
theorem rc_i {post : Int32 → RS → Prop} (X : rX g A p c cc s args m) (hml : c.maxLocals = nL) (hls : ls.size = nL) (hM : rMi g l y cc1 mx ret fr lo av z post) (ok : rOk y cc1 mx ret av.length) (hlk : Cond.methodLink RX8 idx y ∈ gT) (hR : fr + 1 ≤ R.frames ∧ 8 + (mx + 11) + lo ≤ R.locals) (hf : cells ≤ R.cells ∧ slots ≤ R.slots) (w : rW g A s z H locs) (hst : st0 = av.reverse ++ .ref g.2.2.2.1 :: rest) (hrm : (rest.map fun v => v.category).sum ≤ 8) (hdg : decode cc pc = .ok (.invokevirtual idx, 3))
    (kk : ∀ (r : Int32) (z : RS) (H : Heap) (locs : List Loc), post r z → rW g A s z H locs → W p l e R s m args below meth c H locs cells slots Q (F0 m (pc + 3) ls (.int r :: rest))) : W p l e R s m args below meth c H locs cells slots Q (F0 m pc ls st0) := by
  subst hst
  have hFc : ∀ q, va_A (wR g z) H.size q → A q := fun q h => h.elim (fun ⟨k, e, h⟩ => w.2.1.2 k _ h) (fun h => X.2.2.2.2.2 q (Nat.le_trans w.2.2.1 h))
  refine va_calli (va_runV (C := RX8) (b := g.2.2.2.1) (As := av) (rest := rest) ⟨X.1, X.2.1, hml, X.2.2.2.1, X.2.2.1⟩ (hM H.size) (cwV av.length X.2.2.1 (gV hlk ok.2.1 ok.2.2.1 wn_X8 ok.1) rfl rfl rfl ok.2.2.2 hR) ⟨fun a U g mk q => ⟨q.1, q.2.1, q.2.2.1, va_K.moved (u := U) (U := U.calling g mk a) (Vm.Alike.refl U.vm) q.2.2.2.1, q.2.2.2.2⟩, va_recv X.2.2.2.2.1 w.1 (ci := 7) (q0 := 0) rfl rfl, fun U hU hW => ⟨rfl, by rw [hU], by rw [hU]; exact w.1, va_K.moved hW.alike X.2.2.2.2.1, w.2.1.weaken (fun _ _ _ _ => trivial)⟩⟩ rfl rfl hls rfl (lv_room hrm) hdg hf) w.2.2 (fun q _ h => hFc q h) hFc (fun r u t H1 locs1 ht hvm hw hB hz1 hk1 hS => ?_)
  exact kk r u H1 locs1 hw ⟨by rw [← ht]; exact hB.1, hB.2.2.weaken (fun k q _ h => hFc q.1 h), hS⟩
theorem rc_v {post : RS → Prop} (X : rX g A p c cc s args m) (hml : c.maxLocals = nL) (hls : ls.size = nL) (hM : rMv g l y cc1 mx ret fr lo av z post) (ok : rOk y cc1 mx ret av.length) (hlk : Cond.methodLink RX8 idx y ∈ gT) (hR : fr + 1 ≤ R.frames ∧ 8 + (mx + 11) + lo ≤ R.locals) (hf : cells ≤ R.cells ∧ slots ≤ R.slots) (w : rW g A s z H locs) (hst : st0 = av.reverse ++ .ref g.2.2.2.1 :: rest) (hrm : (rest.map fun v => v.category).sum ≤ 8) (hdg : decode cc pc = .ok (.invokevirtual idx, 3))
    (kk : ∀ (z : RS) (H : Heap) (locs : List Loc), post z → rW g A s z H locs → W p l e R s m args below meth c H locs cells slots Q (F0 m (pc + 3) ls rest)) : W p l e R s m args below meth c H locs cells slots Q (F0 m pc ls st0) := by
  subst hst
  have hFc : ∀ q, va_A (wR g z) H.size q → A q := fun q h => h.elim (fun ⟨k, e, h⟩ => w.2.1.2 k _ h) (fun h => X.2.2.2.2.2 q (Nat.le_trans w.2.2.1 h))
  refine va_callv (va_runV (C := RX8) (b := g.2.2.2.1) (As := av) (rest := rest) ⟨X.1, X.2.1, hml, X.2.2.2.1, X.2.2.1⟩ (hM H.size) (cwV av.length X.2.2.1 (gV hlk ok.2.1 ok.2.2.1 wn_X8 ok.1) rfl rfl rfl ok.2.2.2 hR) ⟨fun a U g mk q => ⟨q.1, q.2.1, q.2.2.1, va_K.moved (u := U) (U := U.calling g mk a) (Vm.Alike.refl U.vm) q.2.2.2.1, q.2.2.2.2⟩, va_recv X.2.2.2.2.1 w.1 (ci := 7) (q0 := 0) rfl rfl, fun U hU hW => ⟨rfl, by rw [hU], by rw [hU]; exact w.1, va_K.moved hW.alike X.2.2.2.2.1, w.2.1.weaken (fun _ _ _ _ => trivial)⟩⟩ rfl rfl hls rfl (lv_room hrm) hdg hf) w.2.2 (fun q _ h => hFc q h) hFc (fun u t H1 locs1 ht hvm hw hB hz1 hk1 hS => ?_)
  exact kk u H1 locs1 hw ⟨by rw [← ht]; exact hB.1, hB.2.2.weaken (fun k q _ h => hFc q.1 h), hS⟩
end RefC
end
section
/-! steps with numbers that are known: naturals (nI n) and integers (iZ i) -/
def iZ (i : Int) : Int32 := Int32.ofInt i
theorem iZ_n (n : Nat) : iZ (n : Int) = nI n := by
  unfold iZ nI
  rfl
theorem iZ_add (a b : Int) : iZ a + iZ b = iZ (a + b) := by
  unfold iZ
  exact (Int32.ofInt_add a b).symm
theorem iZ_mul (a b : Int) : iZ a * iZ b = iZ (a * b) := by
  unfold iZ
  exact (Int32.ofInt_mul a b).symm
theorem iZ_sub (a b : Int) : iZ a - iZ b = iZ (a - b) := by
  unfold iZ
  exact (Int32.ofInt_sub a b).symm
theorem iZ_toInt {a : Int} (h1 : -2147483648 ≤ a) (h2 : a < 2147483648) : (iZ a).toInt = a := by
  unfold iZ
  rw [Int32.toInt_ofInt]
  have h : (Int32.size : Int) = 4294967296 := rfl
  simp only [Int.bmod, Int32.size]
  omega
theorem iZ_lt {a b : Int} (h1 : -2147483648 ≤ a) (h2 : a < 2147483648) (h3 : -2147483648 ≤ b) (h4 : b < 2147483648) : iZ a < iZ b ↔ a < b := by
  rw [Int32.lt_iff_toInt_lt, iZ_toInt h1 h2, iZ_toInt h3 h4]
theorem iZ_le {a b : Int} (h1 : -2147483648 ≤ a) (h2 : a < 2147483648) (h3 : -2147483648 ≤ b) (h4 : b < 2147483648) : iZ a ≤ iZ b ↔ a ≤ b := by
  rw [Int32.le_iff_toInt_le, iZ_toInt h1 h2, iZ_toInt h3 h4]
theorem iZ_eq {a b : Int} (h1 : -2147483648 ≤ a) (h2 : a < 2147483648) (h3 : -2147483648 ≤ b) (h4 : b < 2147483648) : iZ a = iZ b ↔ a = b := by
  rw [← Int32.toInt_inj, iZ_toInt h1 h2, iZ_toInt h3 h4]
section Steps
variable {p : Program} {l : Launch} {e : Env} {R : Room} {s : State} {m : MethodId} {args : Array Value} {below : List Frame} {meth : Method} {c : Code} {H : Heap} {locs : List Loc} {cells slots : Nat} {Q : State → Prop}
variable {cc : ByteArray} {pc : Nat} {ls : Array Slot} {rest : List Value}
theorem tp_i {x y : Int32} (h : x = y) (k : W p l e R s m args below meth c H locs cells slots Q (F0 m pc ls (.int y :: rest))) : W p l e R s m args below meth c H locs cells slots Q (F0 m pc ls (.int x :: rest)) := by rw [h]; exact k
theorem tp_i2 {x y v : Int32} (h : x = y) (k : W p l e R s m args below meth c H locs cells slots Q (F0 m pc ls (.int v :: .int y :: rest))) : W p l e R s m args below meth c H locs cells slots Q (F0 m pc ls (.int v :: .int x :: rest)) := by rw [h]; exact k
theorem jn {st : List Value} {tgt : Nat} {rest : List Value} (P : Int32 → Prop) (kc : ∀ v, P v → W p l e R s m args below meth c H locs cells slots Q (F0 m tgt ls (.int v :: rest))) (kb : (∀ v, P v → W p l e R s m args below meth c H locs cells slots Q (F0 m tgt ls (.int v :: rest))) → W p l e R s m args below meth c H locs cells slots Q (F0 m pc ls st)) : W p l e R s m args below meth c H locs cells slots Q (F0 m pc ls st) := kb kc
theorem n_iadd {a b : Nat} (hx : p.tables.exec = Jvm.exec) (hb : c.code = cc) (hdg : decode cc pc = .ok (.iadd, 1)) (k : W p l e R s m args below meth c H locs cells slots Q (F0 m (pc + 1) ls (.int (nI (a + b)) :: rest))) : W p l e R s m args below meth c H locs cells slots Q (F0 m pc ls (.int (nI b) :: .int (nI a) :: rest)) := lv_iadd hx hb hdg (by rw [nI_add]; exact k)
theorem n_imul {a b : Nat} (hx : p.tables.exec = Jvm.exec) (hb : c.code = cc) (hdg : decode cc pc = .ok (.imul, 1)) (k : W p l e R s m args below meth c H locs cells slots Q (F0 m (pc + 1) ls (.int (nI (a * b)) :: rest))) : W p l e R s m args below meth c H locs cells slots Q (F0 m pc ls (.int (nI b) :: .int (nI a) :: rest)) := lv_imul hx hb hdg (by rw [pk_mul]; exact k)
theorem n_isub {a b : Nat} (hx : p.tables.exec = Jvm.exec) (hb : c.code = cc) (hdg : decode cc pc = .ok (.isub, 1)) (h : b ≤ a) (k : W p l e R s m args below meth c H locs cells slots Q (F0 m (pc + 1) ls (.int (nI (a - b)) :: rest))) : W p l e R s m args below meth c H locs cells slots Q (F0 m pc ls (.int (nI b) :: .int (nI a) :: rest)) := lv_isub hx hb hdg (by rw [pk_sub h]; exact k)
theorem n_idiv {a b : Nat} (hx : p.tables.exec = Jvm.exec) (hb : c.code = cc) (hdg : decode cc pc = .ok (.idiv, 1)) (h : a < 2147483648) (h0 : 0 < b) (hd : b < 2147483648) (k : W p l e R s m args below meth c H locs cells slots Q (F0 m (pc + 1) ls (.int (nI (a / b)) :: rest))) : W p l e R s m args below meth c H locs cells slots Q (F0 m pc ls (.int (nI b) :: .int (nI a) :: rest)) := lv_idiv hx hb hdg (nI_ne0 h0 hd) (by rw [pk_div h h0 hd]; exact k)
theorem n_irem {a b : Nat} (hx : p.tables.exec = Jvm.exec) (hb : c.code = cc) (hdg : decode cc pc = .ok (.irem, 1)) (h : a < 2147483648) (h0 : 0 < b) (hd : b < 2147483648) (k : W p l e R s m args below meth c H locs cells slots Q (F0 m (pc + 1) ls (.int (nI (a % b)) :: rest))) : W p l e R s m args below meth c H locs cells slots Q (F0 m pc ls (.int (nI b) :: .int (nI a) :: rest)) := lv_irem hx hb hdg (nI_ne0 h0 hd) (by rw [pk_rem h h0 hd]; exact k)
theorem z_iadd {a b : Int} (hx : p.tables.exec = Jvm.exec) (hb : c.code = cc) (hdg : decode cc pc = .ok (.iadd, 1)) (k : W p l e R s m args below meth c H locs cells slots Q (F0 m (pc + 1) ls (.int (iZ (a + b)) :: rest))) : W p l e R s m args below meth c H locs cells slots Q (F0 m pc ls (.int (iZ b) :: .int (iZ a) :: rest)) := lv_iadd hx hb hdg (by rw [iZ_add]; exact k)
theorem z_imul {a b : Int} (hx : p.tables.exec = Jvm.exec) (hb : c.code = cc) (hdg : decode cc pc = .ok (.imul, 1)) (k : W p l e R s m args below meth c H locs cells slots Q (F0 m (pc + 1) ls (.int (iZ (a * b)) :: rest))) : W p l e R s m args below meth c H locs cells slots Q (F0 m pc ls (.int (iZ b) :: .int (iZ a) :: rest)) := lv_imul hx hb hdg (by rw [iZ_mul]; exact k)
theorem z_isub {a b : Int} (hx : p.tables.exec = Jvm.exec) (hb : c.code = cc) (hdg : decode cc pc = .ok (.isub, 1)) (k : W p l e R s m args below meth c H locs cells slots Q (F0 m (pc + 1) ls (.int (iZ (a - b)) :: rest))) : W p l e R s m args below meth c H locs cells slots Q (F0 m pc ls (.int (iZ b) :: .int (iZ a) :: rest)) := lv_isub hx hb hdg (by rw [iZ_sub]; exact k)
theorem n_icmp_eq {a b : Nat} {off : Int} {tgt : Nat} (hx : p.tables.exec = Jvm.exec) (hb : c.code = cc) (hdg : decode cc pc = .ok (.if_icmp .eq off, 3)) (ht : (pc : Int) + off = (tgt : Int)) (h1 : a < 2147483648) (h2 : b < 2147483648) (kt : a = b → W p l e R s m args below meth c H locs cells slots Q (F0 m tgt ls rest)) (kf : ¬ a = b → W p l e R s m args below meth c H locs cells slots Q (F0 m (pc + 3) ls rest)) : W p l e R s m args below meth c H locs cells slots Q (F0 m pc ls (.int (nI b) :: .int (nI a) :: rest)) :=
  lv_icmp_eq hx hb hdg ht (fun q => kt ((nI_eq h1 h2).mp q)) (fun q => kf (fun z => q ((nI_eq h1 h2).mpr z)))
theorem z_icmp_eq {a b : Int} {off : Int} {tgt : Nat} (hx : p.tables.exec = Jvm.exec) (hb : c.code = cc) (hdg : decode cc pc = .ok (.if_icmp .eq off, 3)) (ht : (pc : Int) + off = (tgt : Int)) (h1 : -2147483648 ≤ a) (h2 : a < 2147483648) (h3 : -2147483648 ≤ b) (h4 : b < 2147483648) (kt : a = b → W p l e R s m args below meth c H locs cells slots Q (F0 m tgt ls rest)) (kf : ¬ a = b → W p l e R s m args below meth c H locs cells slots Q (F0 m (pc + 3) ls rest)) : W p l e R s m args below meth c H locs cells slots Q (F0 m pc ls (.int (iZ b) :: .int (iZ a) :: rest)) :=
  lv_icmp_eq hx hb hdg ht (fun q => kt ((iZ_eq h1 h2 h3 h4).mp q)) (fun q => kf (fun z => q ((iZ_eq h1 h2 h3 h4).mpr z)))
theorem z_if_eq {a : Int} {off : Int} {tgt : Nat} (hx : p.tables.exec = Jvm.exec) (hb : c.code = cc) (hdg : decode cc pc = .ok (.ifCond .eq off, 3)) (ht : (pc : Int) + off = (tgt : Int)) (h1 : -2147483648 ≤ a) (h2 : a < 2147483648) (kt : a = 0 → W p l e R s m args below meth c H locs cells slots Q (F0 m tgt ls rest)) (kf : ¬ a = 0 → W p l e R s m args below meth c H locs cells slots Q (F0 m (pc + 3) ls rest)) : W p l e R s m args below meth c H locs cells slots Q (F0 m pc ls (.int (iZ a) :: rest)) :=
  lv_if_eq hx hb hdg ht (fun q => kt ((iZ_eq (b := 0) h1 h2 (by decide) (by decide)).mp q)) (fun q => kf (fun z => q ((iZ_eq (b := 0) h1 h2 (by decide) (by decide)).mpr z)))
theorem n_if_eq {a : Nat} {off : Int} {tgt : Nat} (hx : p.tables.exec = Jvm.exec) (hb : c.code = cc) (hdg : decode cc pc = .ok (.ifCond .eq off, 3)) (ht : (pc : Int) + off = (tgt : Int)) (h1 : a < 2147483648) (kt : a = 0 → W p l e R s m args below meth c H locs cells slots Q (F0 m tgt ls rest)) (kf : ¬ a = 0 → W p l e R s m args below meth c H locs cells slots Q (F0 m (pc + 3) ls rest)) : W p l e R s m args below meth c H locs cells slots Q (F0 m pc ls (.int (nI a) :: rest)) := by
  rw [← iZ_n]
  exact z_if_eq hx hb hdg ht (by omega) (by omega) (fun q => kt (by omega)) (fun q => kf (by omega))
theorem n_icmp_ne {a b : Nat} {off : Int} {tgt : Nat} (hx : p.tables.exec = Jvm.exec) (hb : c.code = cc) (hdg : decode cc pc = .ok (.if_icmp .ne off, 3)) (ht : (pc : Int) + off = (tgt : Int)) (h1 : a < 2147483648) (h2 : b < 2147483648) (kt : a ≠ b → W p l e R s m args below meth c H locs cells slots Q (F0 m tgt ls rest)) (kf : a = b → W p l e R s m args below meth c H locs cells slots Q (F0 m (pc + 3) ls rest)) : W p l e R s m args below meth c H locs cells slots Q (F0 m pc ls (.int (nI b) :: .int (nI a) :: rest)) :=
  lv_icmp_ne hx hb hdg ht (fun q => kt (fun z => q ((nI_eq h1 h2).mpr z))) (fun q => kf ((nI_eq h1 h2).mp q))
theorem z_icmp_ne {a b : Int} {off : Int} {tgt : Nat} (hx : p.tables.exec = Jvm.exec) (hb : c.code = cc) (hdg : decode cc pc = .ok (.if_icmp .ne off, 3)) (ht : (pc : Int) + off = (tgt : Int)) (h1 : -2147483648 ≤ a) (h2 : a < 2147483648) (h3 : -2147483648 ≤ b) (h4 : b < 2147483648) (kt : a ≠ b → W p l e R s m args below meth c H locs cells slots Q (F0 m tgt ls rest)) (kf : a = b → W p l e R s m args below meth c H locs cells slots Q (F0 m (pc + 3) ls rest)) : W p l e R s m args below meth c H locs cells slots Q (F0 m pc ls (.int (iZ b) :: .int (iZ a) :: rest)) :=
  lv_icmp_ne hx hb hdg ht (fun q => kt (fun z => q ((iZ_eq h1 h2 h3 h4).mpr z))) (fun q => kf ((iZ_eq h1 h2 h3 h4).mp q))
theorem z_if_ne {a : Int} {off : Int} {tgt : Nat} (hx : p.tables.exec = Jvm.exec) (hb : c.code = cc) (hdg : decode cc pc = .ok (.ifCond .ne off, 3)) (ht : (pc : Int) + off = (tgt : Int)) (h1 : -2147483648 ≤ a) (h2 : a < 2147483648) (kt : a ≠ 0 → W p l e R s m args below meth c H locs cells slots Q (F0 m tgt ls rest)) (kf : a = 0 → W p l e R s m args below meth c H locs cells slots Q (F0 m (pc + 3) ls rest)) : W p l e R s m args below meth c H locs cells slots Q (F0 m pc ls (.int (iZ a) :: rest)) :=
  lv_if_ne hx hb hdg ht (fun q => kt (fun z => q ((iZ_eq (b := 0) h1 h2 (by decide) (by decide)).mpr z))) (fun q => kf ((iZ_eq (b := 0) h1 h2 (by decide) (by decide)).mp q))
theorem n_if_ne {a : Nat} {off : Int} {tgt : Nat} (hx : p.tables.exec = Jvm.exec) (hb : c.code = cc) (hdg : decode cc pc = .ok (.ifCond .ne off, 3)) (ht : (pc : Int) + off = (tgt : Int)) (h1 : a < 2147483648) (kt : a ≠ 0 → W p l e R s m args below meth c H locs cells slots Q (F0 m tgt ls rest)) (kf : a = 0 → W p l e R s m args below meth c H locs cells slots Q (F0 m (pc + 3) ls rest)) : W p l e R s m args below meth c H locs cells slots Q (F0 m pc ls (.int (nI a) :: rest)) := by
  rw [← iZ_n]
  exact z_if_ne hx hb hdg ht (by omega) (by omega) (fun q => kt (by omega)) (fun q => kf (by omega))
theorem n_icmp_lt {a b : Nat} {off : Int} {tgt : Nat} (hx : p.tables.exec = Jvm.exec) (hb : c.code = cc) (hdg : decode cc pc = .ok (.if_icmp .lt off, 3)) (ht : (pc : Int) + off = (tgt : Int)) (h1 : a < 2147483648) (h2 : b < 2147483648) (kt : a < b → W p l e R s m args below meth c H locs cells slots Q (F0 m tgt ls rest)) (kf : ¬ a < b → W p l e R s m args below meth c H locs cells slots Q (F0 m (pc + 3) ls rest)) : W p l e R s m args below meth c H locs cells slots Q (F0 m pc ls (.int (nI b) :: .int (nI a) :: rest)) :=
  lv_icmp_lt hx hb hdg ht (fun q => kt ((nI_ltI h1 h2).mp q)) (fun q => kf (fun z => q ((nI_ltI h1 h2).mpr z)))
theorem z_icmp_lt {a b : Int} {off : Int} {tgt : Nat} (hx : p.tables.exec = Jvm.exec) (hb : c.code = cc) (hdg : decode cc pc = .ok (.if_icmp .lt off, 3)) (ht : (pc : Int) + off = (tgt : Int)) (h1 : -2147483648 ≤ a) (h2 : a < 2147483648) (h3 : -2147483648 ≤ b) (h4 : b < 2147483648) (kt : a < b → W p l e R s m args below meth c H locs cells slots Q (F0 m tgt ls rest)) (kf : ¬ a < b → W p l e R s m args below meth c H locs cells slots Q (F0 m (pc + 3) ls rest)) : W p l e R s m args below meth c H locs cells slots Q (F0 m pc ls (.int (iZ b) :: .int (iZ a) :: rest)) :=
  lv_icmp_lt hx hb hdg ht (fun q => kt ((iZ_lt h1 h2 h3 h4).mp q)) (fun q => kf (fun z => q ((iZ_lt h1 h2 h3 h4).mpr z)))
theorem z_if_lt {a : Int} {off : Int} {tgt : Nat} (hx : p.tables.exec = Jvm.exec) (hb : c.code = cc) (hdg : decode cc pc = .ok (.ifCond .lt off, 3)) (ht : (pc : Int) + off = (tgt : Int)) (h1 : -2147483648 ≤ a) (h2 : a < 2147483648) (kt : a < 0 → W p l e R s m args below meth c H locs cells slots Q (F0 m tgt ls rest)) (kf : ¬ a < 0 → W p l e R s m args below meth c H locs cells slots Q (F0 m (pc + 3) ls rest)) : W p l e R s m args below meth c H locs cells slots Q (F0 m pc ls (.int (iZ a) :: rest)) :=
  lv_if_lt hx hb hdg ht (fun q => kt ((iZ_lt (b := 0) h1 h2 (by decide) (by decide)).mp q)) (fun q => kf (fun z => q ((iZ_lt (b := 0) h1 h2 (by decide) (by decide)).mpr z)))
theorem n_if_lt {a : Nat} {off : Int} {tgt : Nat} (hx : p.tables.exec = Jvm.exec) (hb : c.code = cc) (hdg : decode cc pc = .ok (.ifCond .lt off, 3)) (ht : (pc : Int) + off = (tgt : Int)) (h1 : a < 2147483648) (kt : a < 0 → W p l e R s m args below meth c H locs cells slots Q (F0 m tgt ls rest)) (kf : ¬ a < 0 → W p l e R s m args below meth c H locs cells slots Q (F0 m (pc + 3) ls rest)) : W p l e R s m args below meth c H locs cells slots Q (F0 m pc ls (.int (nI a) :: rest)) := by
  rw [← iZ_n]
  exact z_if_lt hx hb hdg ht (by omega) (by omega) (fun q => kt (by omega)) (fun q => kf (by omega))
theorem n_icmp_ge {a b : Nat} {off : Int} {tgt : Nat} (hx : p.tables.exec = Jvm.exec) (hb : c.code = cc) (hdg : decode cc pc = .ok (.if_icmp .ge off, 3)) (ht : (pc : Int) + off = (tgt : Int)) (h1 : a < 2147483648) (h2 : b < 2147483648) (kt : b ≤ a → W p l e R s m args below meth c H locs cells slots Q (F0 m tgt ls rest)) (kf : ¬ b ≤ a → W p l e R s m args below meth c H locs cells slots Q (F0 m (pc + 3) ls rest)) : W p l e R s m args below meth c H locs cells slots Q (F0 m pc ls (.int (nI b) :: .int (nI a) :: rest)) :=
  lv_icmp_ge hx hb hdg ht (fun q => kt ((nI_leI h2 h1).mp q)) (fun q => kf (fun z => q ((nI_leI h2 h1).mpr z)))
theorem z_icmp_ge {a b : Int} {off : Int} {tgt : Nat} (hx : p.tables.exec = Jvm.exec) (hb : c.code = cc) (hdg : decode cc pc = .ok (.if_icmp .ge off, 3)) (ht : (pc : Int) + off = (tgt : Int)) (h1 : -2147483648 ≤ a) (h2 : a < 2147483648) (h3 : -2147483648 ≤ b) (h4 : b < 2147483648) (kt : b ≤ a → W p l e R s m args below meth c H locs cells slots Q (F0 m tgt ls rest)) (kf : ¬ b ≤ a → W p l e R s m args below meth c H locs cells slots Q (F0 m (pc + 3) ls rest)) : W p l e R s m args below meth c H locs cells slots Q (F0 m pc ls (.int (iZ b) :: .int (iZ a) :: rest)) :=
  lv_icmp_ge hx hb hdg ht (fun q => kt ((iZ_le h3 h4 h1 h2).mp q)) (fun q => kf (fun z => q ((iZ_le h3 h4 h1 h2).mpr z)))
theorem z_if_ge {a : Int} {off : Int} {tgt : Nat} (hx : p.tables.exec = Jvm.exec) (hb : c.code = cc) (hdg : decode cc pc = .ok (.ifCond .ge off, 3)) (ht : (pc : Int) + off = (tgt : Int)) (h1 : -2147483648 ≤ a) (h2 : a < 2147483648) (kt : 0 ≤ a → W p l e R s m args below meth c H locs cells slots Q (F0 m tgt ls rest)) (kf : ¬ 0 ≤ a → W p l e R s m args below meth c H locs cells slots Q (F0 m (pc + 3) ls rest)) : W p l e R s m args below meth c H locs cells slots Q (F0 m pc ls (.int (iZ a) :: rest)) :=
  lv_if_ge hx hb hdg ht (fun q => kt ((iZ_le (a := 0) (by decide) (by decide) h1 h2).mp q)) (fun q => kf (fun z => q ((iZ_le (a := 0) (by decide) (by decide) h1 h2).mpr z)))
theorem n_if_ge {a : Nat} {off : Int} {tgt : Nat} (hx : p.tables.exec = Jvm.exec) (hb : c.code = cc) (hdg : decode cc pc = .ok (.ifCond .ge off, 3)) (ht : (pc : Int) + off = (tgt : Int)) (h1 : a < 2147483648) (kt : 0 ≤ a → W p l e R s m args below meth c H locs cells slots Q (F0 m tgt ls rest)) (kf : ¬ 0 ≤ a → W p l e R s m args below meth c H locs cells slots Q (F0 m (pc + 3) ls rest)) : W p l e R s m args below meth c H locs cells slots Q (F0 m pc ls (.int (nI a) :: rest)) := by
  rw [← iZ_n]
  exact z_if_ge hx hb hdg ht (by omega) (by omega) (fun q => kt (by omega)) (fun q => kf (by omega))
theorem n_icmp_gt {a b : Nat} {off : Int} {tgt : Nat} (hx : p.tables.exec = Jvm.exec) (hb : c.code = cc) (hdg : decode cc pc = .ok (.if_icmp .gt off, 3)) (ht : (pc : Int) + off = (tgt : Int)) (h1 : a < 2147483648) (h2 : b < 2147483648) (kt : b < a → W p l e R s m args below meth c H locs cells slots Q (F0 m tgt ls rest)) (kf : ¬ b < a → W p l e R s m args below meth c H locs cells slots Q (F0 m (pc + 3) ls rest)) : W p l e R s m args below meth c H locs cells slots Q (F0 m pc ls (.int (nI b) :: .int (nI a) :: rest)) :=
  lv_icmp_gt hx hb hdg ht (fun q => kt ((nI_ltI h2 h1).mp q)) (fun q => kf (fun z => q ((nI_ltI h2 h1).mpr z)))
theorem z_icmp_gt {a b : Int} {off : Int} {tgt : Nat} (hx : p.tables.exec = Jvm.exec) (hb : c.code = cc) (hdg : decode cc pc = .ok (.if_icmp .gt off, 3)) (ht : (pc : Int) + off = (tgt : Int)) (h1 : -2147483648 ≤ a) (h2 : a < 2147483648) (h3 : -2147483648 ≤ b) (h4 : b < 2147483648) (kt : b < a → W p l e R s m args below meth c H locs cells slots Q (F0 m tgt ls rest)) (kf : ¬ b < a → W p l e R s m args below meth c H locs cells slots Q (F0 m (pc + 3) ls rest)) : W p l e R s m args below meth c H locs cells slots Q (F0 m pc ls (.int (iZ b) :: .int (iZ a) :: rest)) :=
  lv_icmp_gt hx hb hdg ht (fun q => kt ((iZ_lt h3 h4 h1 h2).mp q)) (fun q => kf (fun z => q ((iZ_lt h3 h4 h1 h2).mpr z)))
theorem z_if_gt {a : Int} {off : Int} {tgt : Nat} (hx : p.tables.exec = Jvm.exec) (hb : c.code = cc) (hdg : decode cc pc = .ok (.ifCond .gt off, 3)) (ht : (pc : Int) + off = (tgt : Int)) (h1 : -2147483648 ≤ a) (h2 : a < 2147483648) (kt : 0 < a → W p l e R s m args below meth c H locs cells slots Q (F0 m tgt ls rest)) (kf : ¬ 0 < a → W p l e R s m args below meth c H locs cells slots Q (F0 m (pc + 3) ls rest)) : W p l e R s m args below meth c H locs cells slots Q (F0 m pc ls (.int (iZ a) :: rest)) :=
  lv_if_gt hx hb hdg ht (fun q => kt ((iZ_lt (a := 0) (by decide) (by decide) h1 h2).mp q)) (fun q => kf (fun z => q ((iZ_lt (a := 0) (by decide) (by decide) h1 h2).mpr z)))
theorem n_if_gt {a : Nat} {off : Int} {tgt : Nat} (hx : p.tables.exec = Jvm.exec) (hb : c.code = cc) (hdg : decode cc pc = .ok (.ifCond .gt off, 3)) (ht : (pc : Int) + off = (tgt : Int)) (h1 : a < 2147483648) (kt : 0 < a → W p l e R s m args below meth c H locs cells slots Q (F0 m tgt ls rest)) (kf : ¬ 0 < a → W p l e R s m args below meth c H locs cells slots Q (F0 m (pc + 3) ls rest)) : W p l e R s m args below meth c H locs cells slots Q (F0 m pc ls (.int (nI a) :: rest)) := by
  rw [← iZ_n]
  exact z_if_gt hx hb hdg ht (by omega) (by omega) (fun q => kt (by omega)) (fun q => kf (by omega))
theorem n_icmp_le {a b : Nat} {off : Int} {tgt : Nat} (hx : p.tables.exec = Jvm.exec) (hb : c.code = cc) (hdg : decode cc pc = .ok (.if_icmp .le off, 3)) (ht : (pc : Int) + off = (tgt : Int)) (h1 : a < 2147483648) (h2 : b < 2147483648) (kt : a ≤ b → W p l e R s m args below meth c H locs cells slots Q (F0 m tgt ls rest)) (kf : ¬ a ≤ b → W p l e R s m args below meth c H locs cells slots Q (F0 m (pc + 3) ls rest)) : W p l e R s m args below meth c H locs cells slots Q (F0 m pc ls (.int (nI b) :: .int (nI a) :: rest)) :=
  lv_icmp_le hx hb hdg ht (fun q => kt ((nI_leI h1 h2).mp q)) (fun q => kf (fun z => q ((nI_leI h1 h2).mpr z)))
theorem z_icmp_le {a b : Int} {off : Int} {tgt : Nat} (hx : p.tables.exec = Jvm.exec) (hb : c.code = cc) (hdg : decode cc pc = .ok (.if_icmp .le off, 3)) (ht : (pc : Int) + off = (tgt : Int)) (h1 : -2147483648 ≤ a) (h2 : a < 2147483648) (h3 : -2147483648 ≤ b) (h4 : b < 2147483648) (kt : a ≤ b → W p l e R s m args below meth c H locs cells slots Q (F0 m tgt ls rest)) (kf : ¬ a ≤ b → W p l e R s m args below meth c H locs cells slots Q (F0 m (pc + 3) ls rest)) : W p l e R s m args below meth c H locs cells slots Q (F0 m pc ls (.int (iZ b) :: .int (iZ a) :: rest)) :=
  lv_icmp_le hx hb hdg ht (fun q => kt ((iZ_le h1 h2 h3 h4).mp q)) (fun q => kf (fun z => q ((iZ_le h1 h2 h3 h4).mpr z)))
theorem z_if_le {a : Int} {off : Int} {tgt : Nat} (hx : p.tables.exec = Jvm.exec) (hb : c.code = cc) (hdg : decode cc pc = .ok (.ifCond .le off, 3)) (ht : (pc : Int) + off = (tgt : Int)) (h1 : -2147483648 ≤ a) (h2 : a < 2147483648) (kt : a ≤ 0 → W p l e R s m args below meth c H locs cells slots Q (F0 m tgt ls rest)) (kf : ¬ a ≤ 0 → W p l e R s m args below meth c H locs cells slots Q (F0 m (pc + 3) ls rest)) : W p l e R s m args below meth c H locs cells slots Q (F0 m pc ls (.int (iZ a) :: rest)) :=
  lv_if_le hx hb hdg ht (fun q => kt ((iZ_le (b := 0) h1 h2 (by decide) (by decide)).mp q)) (fun q => kf (fun z => q ((iZ_le (b := 0) h1 h2 (by decide) (by decide)).mpr z)))
theorem n_if_le {a : Nat} {off : Int} {tgt : Nat} (hx : p.tables.exec = Jvm.exec) (hb : c.code = cc) (hdg : decode cc pc = .ok (.ifCond .le off, 3)) (ht : (pc : Int) + off = (tgt : Int)) (h1 : a < 2147483648) (kt : a ≤ 0 → W p l e R s m args below meth c H locs cells slots Q (F0 m tgt ls rest)) (kf : ¬ a ≤ 0 → W p l e R s m args below meth c H locs cells slots Q (F0 m (pc + 3) ls rest)) : W p l e R s m args below meth c H locs cells slots Q (F0 m pc ls (.int (nI a) :: rest)) := by
  rw [← iZ_n]
  exact z_if_le hx hb hdg ht (by omega) (by omega) (fun q => kt (by omega)) (fun q => kf (by omega))
end Steps
end
section
theorem dX8_in_0 : decode cX8_in 0 = .ok (.lload_n 0, 1) := by decide +kernel
theorem dX8_in_1 : decode cX8_in 1 = .ok (.lload_n 2, 1) := by decide +kernel
theorem dX8_in_2 : decode cX8_in 2 = .ok (.lcmp, 1) := by decide +kernel
theorem dX8_in_3 : decode cX8_in 3 = .ok (.ifCond .lt 14, 3) := by decide +kernel
theorem dX8_in_6 : decode cX8_in 6 = .ok (.lload_n 0, 1) := by decide +kernel
theorem dX8_in_7 : decode cX8_in 7 = .ok (.lload 4, 2) := by decide +kernel
theorem dX8_in_9 : decode cX8_in 9 = .ok (.lcmp, 1) := by decide +kernel
theorem dX8_in_10 : decode cX8_in 10 = .ok (.ifCond .gt 7, 3) := by decide +kernel
theorem dX8_in_13 : decode cX8_in 13 = .ok (.iconst 1, 1) := by decide +kernel
theorem dX8_in_14 : decode cX8_in 14 = .ok (.goto 4, 3) := by decide +kernel
theorem dX8_in_17 : decode cX8_in 17 = .ok (.iconst 0, 1) := by decide +kernel
theorem dX8_in_18 : decode cX8_in 18 = .ok (.ireturn, 1) := by decide +kernel
theorem dX8_init_0 : decode cX8_init 0 = .ok (.aload_n 0, 1) := by decide +kernel
theorem dX8_init_1 : decode cX8_init 1 = .ok (.invokespecial 1, 3) := by decide +kernel
theorem dX8_init_4 : decode cX8_init 4 = .ok (.aload_n 0, 1) := by decide +kernel
theorem dX8_init_5 : decode cX8_init 5 = .ok (.bipush 40, 2) := by decide +kernel
theorem dX8_init_7 : decode cX8_init 7 = .ok (.newarray .int, 2) := by decide +kernel
theorem dX8_init_9 : decode cX8_init 9 = .ok (.putfield 7, 3) := by decide +kernel
theorem dX8_init_12 : decode cX8_init 12 = .ok (.aload_n 0, 1) := by decide +kernel
theorem dX8_init_13 : decode cX8_init 13 = .ok (.bipush 15, 2) := by decide +kernel
theorem dX8_init_15 : decode cX8_init 15 = .ok (.newarray .int, 2) := by decide +kernel
theorem dX8_init_17 : decode cX8_init 17 = .ok (.putfield 13, 3) := by decide +kernel
theorem dX8_init_20 : decode cX8_init 20 = .ok (.aload_n 0, 1) := by decide +kernel
theorem dX8_init_21 : decode cX8_init 21 = .ok (.bipush 13, 2) := by decide +kernel
theorem dX8_init_23 : decode cX8_init 23 = .ok (.newarray .int, 2) := by decide +kernel
theorem dX8_init_25 : decode cX8_init 25 = .ok (.putfield 16, 3) := by decide +kernel
theorem dX8_init_28 : decode cX8_init 28 = .ok (.aload_n 0, 1) := by decide +kernel
theorem dX8_init_29 : decode cX8_init 29 = .ok (.bipush 100, 2) := by decide +kernel
theorem dX8_init_31 : decode cX8_init 31 = .ok (.newarray .int, 2) := by decide +kernel
theorem dX8_init_33 : decode cX8_init 33 = .ok (.putfield 19, 3) := by decide +kernel
theorem dX8_init_36 : decode cX8_init 36 = .ok (.aload_n 0, 1) := by decide +kernel
theorem dX8_init_37 : decode cX8_init 37 = .ok (.bipush 40, 2) := by decide +kernel
theorem dX8_init_39 : decode cX8_init 39 = .ok (.newarray .int, 2) := by decide +kernel
theorem dX8_init_41 : decode cX8_init 41 = .ok (.putfield 22, 3) := by decide +kernel
theorem dX8_init_44 : decode cX8_init 44 = .ok (.aload_n 0, 1) := by decide +kernel
theorem dX8_init_45 : decode cX8_init 45 = .ok (.bipush 20, 2) := by decide +kernel
theorem dX8_init_47 : decode cX8_init 47 = .ok (.newarray .int, 2) := by decide +kernel
theorem dX8_init_49 : decode cX8_init 49 = .ok (.putfield 25, 3) := by decide +kernel
theorem dX8_init_52 : decode cX8_init 52 = .ok (.aload_n 0, 1) := by decide +kernel
theorem dX8_init_53 : decode cX8_init 53 = .ok (.bipush 104, 2) := by decide +kernel
theorem dX8_init_55 : decode cX8_init 55 = .ok (.newarray .int, 2) := by decide +kernel
theorem dX8_init_57 : decode cX8_init 57 = .ok (.putfield 28, 3) := by decide +kernel
theorem dX8_init_60 : decode cX8_init 60 = .ok (.aload_n 0, 1) := by decide +kernel
theorem dX8_init_61 : decode cX8_init 61 = .ok (.bipush 13, 2) := by decide +kernel
theorem dX8_init_63 : decode cX8_init 63 = .ok (.newarray .int, 2) := by decide +kernel
theorem dX8_init_65 : decode cX8_init 65 = .ok (.putfield 31, 3) := by decide +kernel
theorem dX8_init_68 : decode cX8_init 68 = .ok (.aload_n 0, 1) := by decide +kernel
theorem dX8_init_69 : decode cX8_init 69 = .ok (.iconst 4, 1) := by decide +kernel
theorem dX8_init_70 : decode cX8_init 70 = .ok (.newarray .int, 2) := by decide +kernel
theorem dX8_init_72 : decode cX8_init 72 = .ok (.putfield 34, 3) := by decide +kernel
theorem dX8_init_75 : decode cX8_init 75 = .ok (.aload_n 0, 1) := by decide +kernel
theorem dX8_init_76 : decode cX8_init 76 = .ok (.sipush 180, 3) := by decide +kernel
theorem dX8_init_79 : decode cX8_init 79 = .ok (.newarray .int, 2) := by decide +kernel
theorem dX8_init_81 : decode cX8_init 81 = .ok (.putfield 37, 3) := by decide +kernel
theorem dX8_init_84 : decode cX8_init 84 = .ok (.aload_n 0, 1) := by decide +kernel
theorem dX8_init_85 : decode cX8_init 85 = .ok (.sipush 180, 3) := by decide +kernel
theorem dX8_init_88 : decode cX8_init 88 = .ok (.newarray .int, 2) := by decide +kernel
theorem dX8_init_90 : decode cX8_init 90 = .ok (.putfield 40, 3) := by decide +kernel
theorem dX8_init_93 : decode cX8_init 93 = .ok (.aload_n 0, 1) := by decide +kernel
theorem dX8_init_94 : decode cX8_init 94 = .ok (.bipush 61, 2) := by decide +kernel
theorem dX8_init_96 : decode cX8_init 96 = .ok (.newarray .int, 2) := by decide +kernel
theorem dX8_init_98 : decode cX8_init 98 = .ok (.putfield 43, 3) := by decide +kernel
theorem dX8_init_101 : decode cX8_init 101 = .ok (.aload_n 0, 1) := by decide +kernel
theorem dX8_init_102 : decode cX8_init 102 = .ok (.sipush 177, 3) := by decide +kernel
theorem dX8_init_105 : decode cX8_init 105 = .ok (.newarray .int, 2) := by decide +kernel
theorem dX8_init_107 : decode cX8_init 107 = .ok (.putfield 46, 3) := by decide +kernel
theorem dX8_init_110 : decode cX8_init 110 = .ok (.aload_n 0, 1) := by decide +kernel
theorem dX8_init_111 : decode cX8_init 111 = .ok (.iconst 4, 1) := by decide +kernel
theorem dX8_init_112 : decode cX8_init 112 = .ok (.newarray .int, 2) := by decide +kernel
theorem dX8_init_114 : decode cX8_init 114 = .ok (.putfield 49, 3) := by decide +kernel
theorem dX8_init_117 : decode cX8_init 117 = .ok (.aload_n 0, 1) := by decide +kernel
theorem dX8_init_118 : decode cX8_init 118 = .ok (.iconst 4, 1) := by decide +kernel
theorem dX8_init_119 : decode cX8_init 119 = .ok (.newarray .int, 2) := by decide +kernel
theorem dX8_init_121 : decode cX8_init 121 = .ok (.putfield 52, 3) := by decide +kernel
theorem dX8_init_124 : decode cX8_init 124 = .ok (.aload_n 0, 1) := by decide +kernel
theorem dX8_init_125 : decode cX8_init 125 = .ok (.bipush 96, 2) := by decide +kernel
theorem dX8_init_127 : decode cX8_init 127 = .ok (.newarray .long, 2) := by decide +kernel
theorem dX8_init_129 : decode cX8_init 129 = .ok (.putfield 55, 3) := by decide +kernel
theorem dX8_init_132 : decode cX8_init 132 = .ok (.aload_n 0, 1) := by decide +kernel
theorem dX8_init_133 : decode cX8_init 133 = .ok (.bipush 24, 2) := by decide +kernel
theorem dX8_init_135 : decode cX8_init 135 = .ok (.newarray .long, 2) := by decide +kernel
theorem dX8_init_137 : decode cX8_init 137 = .ok (.putfield 59, 3) := by decide +kernel
theorem dX8_init_140 : decode cX8_init 140 = .ok (.iconst 0, 1) := by decide +kernel
theorem dX8_init_141 : decode cX8_init 141 = .ok (.istore_n 1, 1) := by decide +kernel
theorem dX8_init_142 : decode cX8_init 142 = .ok (.iload_n 1, 1) := by decide +kernel
theorem dX8_init_143 : decode cX8_init 143 = .ok (.iconst 4, 1) := by decide +kernel
theorem dX8_init_144 : decode cX8_init 144 = .ok (.if_icmp .ge 16, 3) := by decide +kernel
theorem dX8_init_147 : decode cX8_init 147 = .ok (.aload_n 0, 1) := by decide +kernel
theorem dX8_init_148 : decode cX8_init 148 = .ok (.getfield 49, 3) := by decide +kernel
theorem dX8_init_151 : decode cX8_init 151 = .ok (.iload_n 1, 1) := by decide +kernel
theorem dX8_init_152 : decode cX8_init 152 = .ok (.iconst (-1), 1) := by decide +kernel
theorem dX8_init_153 : decode cX8_init 153 = .ok (.iastore, 1) := by decide +kernel
theorem dX8_init_154 : decode cX8_init 154 = .ok (.iinc 1 1, 3) := by decide +kernel
theorem dX8_init_157 : decode cX8_init 157 = .ok (.goto (-15), 3) := by decide +kernel
theorem dX8_init_160 : decode cX8_init 160 = .ok (.aload_n 0, 1) := by decide +kernel
theorem dX8_init_161 : decode cX8_init 161 = .ok (.iconst 1, 1) := by decide +kernel
theorem dX8_init_162 : decode cX8_init 162 = .ok (.putfield 62, 3) := by decide +kernel
theorem dX8_init_165 : decode cX8_init 165 = .ok (.aload_n 0, 1) := by decide +kernel
theorem dX8_init_166 : decode cX8_init 166 = .ok (.getfield 16, 3) := by decide +kernel
theorem dX8_init_169 : decode cX8_init 169 = .ok (.iconst 1, 1) := by decide +kernel
theorem dX8_init_170 : decode cX8_init 170 = .ok (.bipush (-4), 2) := by decide +kernel
theorem dX8_init_172 : decode cX8_init 172 = .ok (.iastore, 1) := by decide +kernel
theorem dX8_init_173 : decode cX8_init 173 = .ok (.aload_n 0, 1) := by decide +kernel
theorem dX8_init_174 : decode cX8_init 174 = .ok (.getfield 16, 3) := by decide +kernel
theorem dX8_init_177 : decode cX8_init 177 = .ok (.iconst 2, 1) := by decide +kernel
theorem dX8_init_178 : decode cX8_init 178 = .ok (.iconst 1, 1) := by decide +kernel
theorem dX8_init_179 : decode cX8_init 179 = .ok (.iastore, 1) := by decide +kernel
theorem dX8_init_180 : decode cX8_init 180 = .ok (.return_, 1) := by decide +kernel
theorem dX8_isFighter_0 : decode cX8_isFighter 0 = .ok (.iload_n 1, 1) := by decide +kernel
theorem dX8_isFighter_1 : decode cX8_isFighter 1 = .ok (.i2l, 1) := by decide +kernel
theorem dX8_isFighter_2 : decode cX8_isFighter 2 = .ok (.lconst 0, 1) := by decide +kernel
theorem dX8_isFighter_3 : decode cX8_isFighter 3 = .ok (.aload_n 0, 1) := by decide +kernel
theorem dX8_isFighter_4 : decode cX8_isFighter 4 = .ok (.getfield 66, 3) := by decide +kernel
theorem dX8_isFighter_7 : decode cX8_isFighter 7 = .ok (.iconst 1, 1) := by decide +kernel
theorem dX8_isFighter_8 : decode cX8_isFighter 8 = .ok (.isub, 1) := by decide +kernel
theorem dX8_isFighter_9 : decode cX8_isFighter 9 = .ok (.i2l, 1) := by decide +kernel
theorem dX8_isFighter_10 : decode cX8_isFighter 10 = .ok (.invokestatic 69, 3) := by decide +kernel
theorem dX8_isFighter_13 : decode cX8_isFighter 13 = .ok (.ireturn, 1) := by decide +kernel
theorem dX8_isTurned_0 : decode cX8_isTurned 0 = .ok (.aload_n 0, 1) := by decide +kernel
theorem dX8_isTurned_1 : decode cX8_isTurned 1 = .ok (.getfield 16, 3) := by decide +kernel
theorem dX8_isTurned_4 : decode cX8_isTurned 4 = .ok (.iconst 1, 1) := by decide +kernel
theorem dX8_isTurned_5 : decode cX8_isTurned 5 = .ok (.iaload, 1) := by decide +kernel
theorem dX8_isTurned_6 : decode cX8_isTurned 6 = .ok (.bipush (-4), 2) := by decide +kernel
theorem dX8_isTurned_8 : decode cX8_isTurned 8 = .ok (.if_icmp .eq 7, 3) := by decide +kernel
theorem dX8_isTurned_11 : decode cX8_isTurned 11 = .ok (.iconst 1, 1) := by decide +kernel
theorem dX8_isTurned_12 : decode cX8_isTurned 12 = .ok (.goto 4, 3) := by decide +kernel
theorem dX8_isTurned_15 : decode cX8_isTurned 15 = .ok (.iconst 0, 1) := by decide +kernel
theorem dX8_isTurned_16 : decode cX8_isTurned 16 = .ok (.ireturn, 1) := by decide +kernel
theorem dX8_fighterComes_0 : decode cX8_fighterComes 0 = .ok (.aload_n 0, 1) := by decide +kernel
theorem dX8_fighterComes_1 : decode cX8_fighterComes 1 = .ok (.getfield 13, 3) := by decide +kernel
theorem dX8_fighterComes_4 : decode cX8_fighterComes 4 = .ok (.iconst 3, 1) := by decide +kernel
theorem dX8_fighterComes_5 : decode cX8_fighterComes 5 = .ok (.aload_n 0, 1) := by decide +kernel
theorem dX8_fighterComes_6 : decode cX8_fighterComes 6 = .ok (.getfield 66, 3) := by decide +kernel
theorem dX8_fighterComes_9 : decode cX8_fighterComes 9 = .ok (.imul, 1) := by decide +kernel
theorem dX8_fighterComes_10 : decode cX8_fighterComes 10 = .ok (.iload_n 1, 1) := by decide +kernel
theorem dX8_fighterComes_11 : decode cX8_fighterComes 11 = .ok (.iastore, 1) := by decide +kernel
theorem dX8_fighterComes_12 : decode cX8_fighterComes 12 = .ok (.aload_n 0, 1) := by decide +kernel
theorem dX8_fighterComes_13 : decode cX8_fighterComes 13 = .ok (.getfield 13, 3) := by decide +kernel
theorem dX8_fighterComes_16 : decode cX8_fighterComes 16 = .ok (.iconst 3, 1) := by decide +kernel
theorem dX8_fighterComes_17 : decode cX8_fighterComes 17 = .ok (.aload_n 0, 1) := by decide +kernel
theorem dX8_fighterComes_18 : decode cX8_fighterComes 18 = .ok (.getfield 66, 3) := by decide +kernel
theorem dX8_fighterComes_21 : decode cX8_fighterComes 21 = .ok (.imul, 1) := by decide +kernel
theorem dX8_fighterComes_22 : decode cX8_fighterComes 22 = .ok (.iconst 1, 1) := by decide +kernel
theorem dX8_fighterComes_23 : decode cX8_fighterComes 23 = .ok (.iadd, 1) := by decide +kernel
theorem dX8_fighterComes_24 : decode cX8_fighterComes 24 = .ok (.iload_n 2, 1) := by decide +kernel
theorem dX8_fighterComes_25 : decode cX8_fighterComes 25 = .ok (.iastore, 1) := by decide +kernel
theorem dX8_fighterComes_26 : decode cX8_fighterComes 26 = .ok (.aload_n 0, 1) := by decide +kernel
theorem dX8_fighterComes_27 : decode cX8_fighterComes 27 = .ok (.getfield 13, 3) := by decide +kernel
theorem dX8_fighterComes_30 : decode cX8_fighterComes 30 = .ok (.iconst 3, 1) := by decide +kernel
theorem dX8_fighterComes_31 : decode cX8_fighterComes 31 = .ok (.aload_n 0, 1) := by decide +kernel
theorem dX8_fighterComes_32 : decode cX8_fighterComes 32 = .ok (.getfield 66, 3) := by decide +kernel
theorem dX8_fighterComes_35 : decode cX8_fighterComes 35 = .ok (.imul, 1) := by decide +kernel
theorem dX8_fighterComes_36 : decode cX8_fighterComes 36 = .ok (.iconst 2, 1) := by decide +kernel
theorem dX8_fighterComes_37 : decode cX8_fighterComes 37 = .ok (.iadd, 1) := by decide +kernel
theorem dX8_fighterComes_38 : decode cX8_fighterComes 38 = .ok (.iload_n 3, 1) := by decide +kernel
theorem dX8_fighterComes_39 : decode cX8_fighterComes 39 = .ok (.iastore, 1) := by decide +kernel
theorem dX8_fighterComes_40 : decode cX8_fighterComes 40 = .ok (.aload_n 0, 1) := by decide +kernel
theorem dX8_fighterComes_41 : decode cX8_fighterComes 41 = .ok (.getfield 16, 3) := by decide +kernel
theorem dX8_fighterComes_44 : decode cX8_fighterComes 44 = .ok (.iconst 3, 1) := by decide +kernel
theorem dX8_fighterComes_45 : decode cX8_fighterComes 45 = .ok (.aload_n 0, 1) := by decide +kernel
theorem dX8_fighterComes_46 : decode cX8_fighterComes 46 = .ok (.getfield 66, 3) := by decide +kernel
theorem dX8_fighterComes_49 : decode cX8_fighterComes 49 = .ok (.iadd, 1) := by decide +kernel
theorem dX8_fighterComes_50 : decode cX8_fighterComes 50 = .ok (.iload 4, 2) := by decide +kernel
theorem dX8_fighterComes_52 : decode cX8_fighterComes 52 = .ok (.iastore, 1) := by decide +kernel
theorem dX8_fighterComes_53 : decode cX8_fighterComes 53 = .ok (.aload_n 0, 1) := by decide +kernel
theorem dX8_fighterComes_54 : decode cX8_fighterComes 54 = .ok (.getfield 16, 3) := by decide +kernel
theorem dX8_fighterComes_57 : decode cX8_fighterComes 57 = .ok (.bipush 8, 2) := by decide +kernel
theorem dX8_fighterComes_59 : decode cX8_fighterComes 59 = .ok (.aload_n 0, 1) := by decide +kernel
theorem dX8_fighterComes_60 : decode cX8_fighterComes 60 = .ok (.getfield 66, 3) := by decide +kernel
theorem dX8_fighterComes_63 : decode cX8_fighterComes 63 = .ok (.iadd, 1) := by decide +kernel
theorem dX8_fighterComes_64 : decode cX8_fighterComes 64 = .ok (.ldc 73, 2) := by decide +kernel
theorem dX8_fighterComes_66 : decode cX8_fighterComes 66 = .ok (.iastore, 1) := by decide +kernel
theorem dX8_fighterComes_67 : decode cX8_fighterComes 67 = .ok (.aload_n 0, 1) := by decide +kernel
theorem dX8_fighterComes_68 : decode cX8_fighterComes 68 = .ok (.dup, 1) := by decide +kernel
theorem dX8_fighterComes_69 : decode cX8_fighterComes 69 = .ok (.getfield 66, 3) := by decide +kernel
theorem dX8_fighterComes_72 : decode cX8_fighterComes 72 = .ok (.iconst 1, 1) := by decide +kernel
theorem dX8_fighterComes_73 : decode cX8_fighterComes 73 = .ok (.iadd, 1) := by decide +kernel
theorem dX8_fighterComes_74 : decode cX8_fighterComes 74 = .ok (.putfield 66, 3) := by decide +kernel
theorem dX8_fighterComes_77 : decode cX8_fighterComes 77 = .ok (.return_, 1) := by decide +kernel
theorem dX8_fighter_0 : decode cX8_fighter 0 = .ok (.iload_n 1, 1) := by decide +kernel
theorem dX8_fighter_1 : decode cX8_fighter 1 = .ok (.i2l, 1) := by decide +kernel
theorem dX8_fighter_2 : decode cX8_fighter 2 = .ok (.lconst 0, 1) := by decide +kernel
theorem dX8_fighter_3 : decode cX8_fighter 3 = .ok (.ldc2_w 74, 3) := by decide +kernel
theorem dX8_fighter_6 : decode cX8_fighter 6 = .ok (.invokestatic 69, 3) := by decide +kernel
theorem dX8_fighter_9 : decode cX8_fighter 9 = .ok (.ifCond .eq 27, 3) := by decide +kernel
theorem dX8_fighter_12 : decode cX8_fighter 12 = .ok (.iload_n 2, 1) := by decide +kernel
theorem dX8_fighter_13 : decode cX8_fighter 13 = .ok (.i2l, 1) := by decide +kernel
theorem dX8_fighter_14 : decode cX8_fighter 14 = .ok (.lconst 1, 1) := by decide +kernel
theorem dX8_fighter_15 : decode cX8_fighter 15 = .ok (.ldc2_w 76, 3) := by decide +kernel
theorem dX8_fighter_18 : decode cX8_fighter 18 = .ok (.invokestatic 69, 3) := by decide +kernel
theorem dX8_fighter_21 : decode cX8_fighter 21 = .ok (.ifCond .eq 15, 3) := by decide +kernel
theorem dX8_fighter_24 : decode cX8_fighter 24 = .ok (.iload_n 3, 1) := by decide +kernel
theorem dX8_fighter_25 : decode cX8_fighter 25 = .ok (.i2l, 1) := by decide +kernel
theorem dX8_fighter_26 : decode cX8_fighter 26 = .ok (.lconst 1, 1) := by decide +kernel
theorem dX8_fighter_27 : decode cX8_fighter 27 = .ok (.ldc2_w 78, 3) := by decide +kernel
theorem dX8_fighter_30 : decode cX8_fighter 30 = .ok (.invokestatic 69, 3) := by decide +kernel
theorem dX8_fighter_33 : decode cX8_fighter 33 = .ok (.ifCond .ne 5, 3) := by decide +kernel
theorem dX8_fighter_36 : decode cX8_fighter 36 = .ok (.iconst (-1), 1) := by decide +kernel
theorem dX8_fighter_37 : decode cX8_fighter 37 = .ok (.ireturn, 1) := by decide +kernel
theorem dX8_fighter_38 : decode cX8_fighter 38 = .ok (.aload_n 0, 1) := by decide +kernel
theorem dX8_fighter_39 : decode cX8_fighter 39 = .ok (.invokevirtual 80, 3) := by decide +kernel
theorem dX8_fighter_42 : decode cX8_fighter 42 = .ok (.ifCond .eq 6, 3) := by decide +kernel
theorem dX8_fighter_45 : decode cX8_fighter 45 = .ok (.bipush (-2), 2) := by decide +kernel
theorem dX8_fighter_47 : decode cX8_fighter 47 = .ok (.ireturn, 1) := by decide +kernel
theorem dX8_fighter_48 : decode cX8_fighter 48 = .ok (.aload_n 0, 1) := by decide +kernel
theorem dX8_fighter_49 : decode cX8_fighter 49 = .ok (.getfield 66, 3) := by decide +kernel
theorem dX8_fighter_52 : decode cX8_fighter 52 = .ok (.iconst 5, 1) := by decide +kernel
theorem dX8_fighter_53 : decode cX8_fighter 53 = .ok (.if_icmp .ne 6, 3) := by decide +kernel
theorem dX8_fighter_56 : decode cX8_fighter 56 = .ok (.bipush (-3), 2) := by decide +kernel
theorem dX8_fighter_58 : decode cX8_fighter 58 = .ok (.ireturn, 1) := by decide +kernel
theorem dX8_fighter_59 : decode cX8_fighter 59 = .ok (.aload_n 0, 1) := by decide +kernel
theorem dX8_fighter_60 : decode cX8_fighter 60 = .ok (.iload_n 1, 1) := by decide +kernel
theorem dX8_fighter_61 : decode cX8_fighter 61 = .ok (.iload_n 2, 1) := by decide +kernel
theorem dX8_fighter_62 : decode cX8_fighter 62 = .ok (.iload_n 3, 1) := by decide +kernel
theorem dX8_fighter_63 : decode cX8_fighter 63 = .ok (.iconst 0, 1) := by decide +kernel
theorem dX8_fighter_64 : decode cX8_fighter 64 = .ok (.invokevirtual 84, 3) := by decide +kernel
theorem dX8_fighter_67 : decode cX8_fighter 67 = .ok (.aload_n 0, 1) := by decide +kernel
theorem dX8_fighter_68 : decode cX8_fighter 68 = .ok (.iconst 0, 1) := by decide +kernel
theorem dX8_fighter_69 : decode cX8_fighter 69 = .ok (.putfield 88, 3) := by decide +kernel
theorem dX8_fighter_72 : decode cX8_fighter 72 = .ok (.aload_n 0, 1) := by decide +kernel
theorem dX8_fighter_73 : decode cX8_fighter 73 = .ok (.getfield 66, 3) := by decide +kernel
theorem dX8_fighter_76 : decode cX8_fighter 76 = .ok (.iconst 1, 1) := by decide +kernel
theorem dX8_fighter_77 : decode cX8_fighter 77 = .ok (.isub, 1) := by decide +kernel
theorem dX8_fighter_78 : decode cX8_fighter 78 = .ok (.ireturn, 1) := by decide +kernel
theorem dX8_force_0 : decode cX8_force 0 = .ok (.aload_n 0, 1) := by decide +kernel
theorem dX8_force_1 : decode cX8_force 1 = .ok (.getfield 13, 3) := by decide +kernel
theorem dX8_force_4 : decode cX8_force 4 = .ok (.iconst 3, 1) := by decide +kernel
theorem dX8_force_5 : decode cX8_force 5 = .ok (.iload_n 1, 1) := by decide +kernel
theorem dX8_force_6 : decode cX8_force 6 = .ok (.imul, 1) := by decide +kernel
theorem dX8_force_7 : decode cX8_force 7 = .ok (.iconst 1, 1) := by decide +kernel
theorem dX8_force_8 : decode cX8_force 8 = .ok (.iadd, 1) := by decide +kernel
theorem dX8_force_9 : decode cX8_force 9 = .ok (.iaload, 1) := by decide +kernel
theorem dX8_force_10 : decode cX8_force 10 = .ok (.iload_n 2, 1) := by decide +kernel
theorem dX8_force_11 : decode cX8_force 11 = .ok (.iconst 2, 1) := by decide +kernel
theorem dX8_force_12 : decode cX8_force 12 = .ok (.idiv, 1) := by decide +kernel
theorem dX8_force_13 : decode cX8_force 13 = .ok (.isub, 1) := by decide +kernel
theorem dX8_force_14 : decode cX8_force 14 = .ok (.istore_n 3, 1) := by decide +kernel
theorem dX8_force_15 : decode cX8_force 15 = .ok (.iload_n 3, 1) := by decide +kernel
theorem dX8_force_16 : decode cX8_force 16 = .ok (.iconst 1, 1) := by decide +kernel
theorem dX8_force_17 : decode cX8_force 17 = .ok (.if_icmp .le 7, 3) := by decide +kernel
theorem dX8_force_20 : decode cX8_force 20 = .ok (.iload_n 3, 1) := by decide +kernel
theorem dX8_force_21 : decode cX8_force 21 = .ok (.goto 4, 3) := by decide +kernel
theorem dX8_force_24 : decode cX8_force 24 = .ok (.iconst 1, 1) := by decide +kernel
theorem dX8_force_25 : decode cX8_force 25 = .ok (.aload_n 0, 1) := by decide +kernel
theorem dX8_force_26 : decode cX8_force 26 = .ok (.getfield 13, 3) := by decide +kernel
theorem dX8_force_29 : decode cX8_force 29 = .ok (.iconst 3, 1) := by decide +kernel
theorem dX8_force_30 : decode cX8_force 30 = .ok (.iload_n 1, 1) := by decide +kernel
theorem dX8_force_31 : decode cX8_force 31 = .ok (.imul, 1) := by decide +kernel
theorem dX8_force_32 : decode cX8_force 32 = .ok (.iaload, 1) := by decide +kernel
theorem dX8_force_33 : decode cX8_force 33 = .ok (.iconst 1, 1) := by decide +kernel
theorem dX8_force_34 : decode cX8_force 34 = .ok (.if_icmp .ne 7, 3) := by decide +kernel
theorem dX8_force_37 : decode cX8_force 37 = .ok (.iconst 2, 1) := by decide +kernel
theorem dX8_force_38 : decode cX8_force 38 = .ok (.goto 4, 3) := by decide +kernel
theorem dX8_force_41 : decode cX8_force 41 = .ok (.iconst 0, 1) := by decide +kernel
theorem dX8_force_42 : decode cX8_force 42 = .ok (.iadd, 1) := by decide +kernel
theorem dX8_force_43 : decode cX8_force 43 = .ok (.ireturn, 1) := by decide +kernel
theorem dX8_pointsOf_0 : decode cX8_pointsOf 0 = .ok (.aload_n 0, 1) := by decide +kernel
theorem dX8_pointsOf_1 : decode cX8_pointsOf 1 = .ok (.getfield 13, 3) := by decide +kernel
theorem dX8_pointsOf_4 : decode cX8_pointsOf 4 = .ok (.iconst 3, 1) := by decide +kernel
theorem dX8_pointsOf_5 : decode cX8_pointsOf 5 = .ok (.iload_n 1, 1) := by decide +kernel
theorem dX8_pointsOf_6 : decode cX8_pointsOf 6 = .ok (.imul, 1) := by decide +kernel
theorem dX8_pointsOf_7 : decode cX8_pointsOf 7 = .ok (.iaload, 1) := by decide +kernel
theorem dX8_pointsOf_8 : decode cX8_pointsOf 8 = .ok (.istore 4, 2) := by decide +kernel
theorem dX8_pointsOf_10 : decode cX8_pointsOf 10 = .ok (.aload_n 0, 1) := by decide +kernel
theorem dX8_pointsOf_11 : decode cX8_pointsOf 11 = .ok (.getfield 13, 3) := by decide +kernel
theorem dX8_pointsOf_14 : decode cX8_pointsOf 14 = .ok (.iconst 3, 1) := by decide +kernel
theorem dX8_pointsOf_15 : decode cX8_pointsOf 15 = .ok (.iload_n 1, 1) := by decide +kernel
theorem dX8_pointsOf_16 : decode cX8_pointsOf 16 = .ok (.imul, 1) := by decide +kernel
theorem dX8_pointsOf_17 : decode cX8_pointsOf 17 = .ok (.iconst 2, 1) := by decide +kernel
theorem dX8_pointsOf_18 : decode cX8_pointsOf 18 = .ok (.iadd, 1) := by decide +kernel
theorem dX8_pointsOf_19 : decode cX8_pointsOf 19 = .ok (.iaload, 1) := by decide +kernel
theorem dX8_pointsOf_20 : decode cX8_pointsOf 20 = .ok (.iload 4, 2) := by decide +kernel
theorem dX8_pointsOf_22 : decode cX8_pointsOf 22 = .ok (.iconst 1, 1) := by decide +kernel
theorem dX8_pointsOf_23 : decode cX8_pointsOf 23 = .ok (.if_icmp .ne 7, 3) := by decide +kernel
theorem dX8_pointsOf_26 : decode cX8_pointsOf 26 = .ok (.iconst 1, 1) := by decide +kernel
theorem dX8_pointsOf_27 : decode cX8_pointsOf 27 = .ok (.goto 4, 3) := by decide +kernel
theorem dX8_pointsOf_30 : decode cX8_pointsOf 30 = .ok (.iconst 0, 1) := by decide +kernel
theorem dX8_pointsOf_31 : decode cX8_pointsOf 31 = .ok (.isub, 1) := by decide +kernel
theorem dX8_pointsOf_32 : decode cX8_pointsOf 32 = .ok (.iload_n 2, 1) := by decide +kernel
theorem dX8_pointsOf_33 : decode cX8_pointsOf 33 = .ok (.iconst 2, 1) := by decide +kernel
theorem dX8_pointsOf_34 : decode cX8_pointsOf 34 = .ok (.idiv, 1) := by decide +kernel
theorem dX8_pointsOf_35 : decode cX8_pointsOf 35 = .ok (.isub, 1) := by decide +kernel
theorem dX8_pointsOf_36 : decode cX8_pointsOf 36 = .ok (.istore 5, 2) := by decide +kernel
theorem dX8_pointsOf_38 : decode cX8_pointsOf 38 = .ok (.iload 5, 2) := by decide +kernel
theorem dX8_pointsOf_40 : decode cX8_pointsOf 40 = .ok (.iconst 1, 1) := by decide +kernel
theorem dX8_pointsOf_41 : decode cX8_pointsOf 41 = .ok (.if_icmp .le 8, 3) := by decide +kernel
theorem dX8_pointsOf_44 : decode cX8_pointsOf 44 = .ok (.iload 5, 2) := by decide +kernel
theorem dX8_pointsOf_46 : decode cX8_pointsOf 46 = .ok (.goto 4, 3) := by decide +kernel
theorem dX8_pointsOf_49 : decode cX8_pointsOf 49 = .ok (.iconst 1, 1) := by decide +kernel
theorem dX8_pointsOf_50 : decode cX8_pointsOf 50 = .ok (.istore 5, 2) := by decide +kernel
theorem dX8_pointsOf_52 : decode cX8_pointsOf 52 = .ok (.iload 4, 2) := by decide +kernel
theorem dX8_pointsOf_54 : decode cX8_pointsOf 54 = .ok (.iconst 2, 1) := by decide +kernel
theorem dX8_pointsOf_55 : decode cX8_pointsOf 55 = .ok (.if_icmp .ge 8, 3) := by decide +kernel
theorem dX8_pointsOf_58 : decode cX8_pointsOf 58 = .ok (.iload_n 3, 1) := by decide +kernel
theorem dX8_pointsOf_59 : decode cX8_pointsOf 59 = .ok (.iload 5, 2) := by decide +kernel
theorem dX8_pointsOf_61 : decode cX8_pointsOf 61 = .ok (.imul, 1) := by decide +kernel
theorem dX8_pointsOf_62 : decode cX8_pointsOf 62 = .ok (.ireturn, 1) := by decide +kernel
theorem dX8_pointsOf_63 : decode cX8_pointsOf 63 = .ok (.iload 4, 2) := by decide +kernel
theorem dX8_pointsOf_65 : decode cX8_pointsOf 65 = .ok (.iconst 2, 1) := by decide +kernel
theorem dX8_pointsOf_66 : decode cX8_pointsOf 66 = .ok (.if_icmp .eq 9, 3) := by decide +kernel
theorem dX8_pointsOf_69 : decode cX8_pointsOf 69 = .ok (.iload_n 3, 1) := by decide +kernel
theorem dX8_pointsOf_70 : decode cX8_pointsOf 70 = .ok (.bipush 7, 2) := by decide +kernel
theorem dX8_pointsOf_72 : decode cX8_pointsOf 72 = .ok (.if_icmp .ge 12, 3) := by decide +kernel
theorem dX8_pointsOf_75 : decode cX8_pointsOf 75 = .ok (.iload_n 3, 1) := by decide +kernel
theorem dX8_pointsOf_76 : decode cX8_pointsOf 76 = .ok (.iload 5, 2) := by decide +kernel
theorem dX8_pointsOf_78 : decode cX8_pointsOf 78 = .ok (.imul, 1) := by decide +kernel
theorem dX8_pointsOf_79 : decode cX8_pointsOf 79 = .ok (.iconst 2, 1) := by decide +kernel
theorem dX8_pointsOf_80 : decode cX8_pointsOf 80 = .ok (.idiv, 1) := by decide +kernel
theorem dX8_pointsOf_81 : decode cX8_pointsOf 81 = .ok (.goto 18, 3) := by decide +kernel
theorem dX8_pointsOf_84 : decode cX8_pointsOf 84 = .ok (.bipush 6, 2) := by decide +kernel
theorem dX8_pointsOf_86 : decode cX8_pointsOf 86 = .ok (.iload 5, 2) := by decide +kernel
theorem dX8_pointsOf_88 : decode cX8_pointsOf 88 = .ok (.imul, 1) := by decide +kernel
theorem dX8_pointsOf_89 : decode cX8_pointsOf 89 = .ok (.iconst 2, 1) := by decide +kernel
theorem dX8_pointsOf_90 : decode cX8_pointsOf 90 = .ok (.idiv, 1) := by decide +kernel
theorem dX8_pointsOf_91 : decode cX8_pointsOf 91 = .ok (.iload_n 3, 1) := by decide +kernel
theorem dX8_pointsOf_92 : decode cX8_pointsOf 92 = .ok (.bipush 6, 2) := by decide +kernel
theorem dX8_pointsOf_94 : decode cX8_pointsOf 94 = .ok (.isub, 1) := by decide +kernel
theorem dX8_pointsOf_95 : decode cX8_pointsOf 95 = .ok (.iload 5, 2) := by decide +kernel
theorem dX8_pointsOf_97 : decode cX8_pointsOf 97 = .ok (.imul, 1) := by decide +kernel
theorem dX8_pointsOf_98 : decode cX8_pointsOf 98 = .ok (.iadd, 1) := by decide +kernel
theorem dX8_pointsOf_99 : decode cX8_pointsOf 99 = .ok (.ireturn, 1) := by decide +kernel
theorem dX8_hurtOf_0 : decode cX8_hurtOf 0 = .ok (.aload_n 0, 1) := by decide +kernel
theorem dX8_hurtOf_1 : decode cX8_hurtOf 1 = .ok (.getfield 16, 3) := by decide +kernel
theorem dX8_hurtOf_4 : decode cX8_hurtOf 4 = .ok (.iconst 3, 1) := by decide +kernel
theorem dX8_hurtOf_5 : decode cX8_hurtOf 5 = .ok (.iload_n 1, 1) := by decide +kernel
theorem dX8_hurtOf_6 : decode cX8_hurtOf 6 = .ok (.iadd, 1) := by decide +kernel
theorem dX8_hurtOf_7 : decode cX8_hurtOf 7 = .ok (.iaload, 1) := by decide +kernel
theorem dX8_hurtOf_8 : decode cX8_hurtOf 8 = .ok (.ireturn, 1) := by decide +kernel
theorem dX8_isDown_0 : decode cX8_isDown 0 = .ok (.aload_n 0, 1) := by decide +kernel
theorem dX8_isDown_1 : decode cX8_isDown 1 = .ok (.iload_n 1, 1) := by decide +kernel
theorem dX8_isDown_2 : decode cX8_isDown 2 = .ok (.invokevirtual 91, 3) := by decide +kernel
theorem dX8_isDown_5 : decode cX8_isDown 5 = .ok (.bipush 6, 2) := by decide +kernel
theorem dX8_isDown_7 : decode cX8_isDown 7 = .ok (.if_icmp .ne 7, 3) := by decide +kernel
theorem dX8_isDown_10 : decode cX8_isDown 10 = .ok (.iconst 1, 1) := by decide +kernel
theorem dX8_isDown_11 : decode cX8_isDown 11 = .ok (.goto 4, 3) := by decide +kernel
theorem dX8_isDown_14 : decode cX8_isDown 14 = .ok (.iconst 0, 1) := by decide +kernel
theorem dX8_isDown_15 : decode cX8_isDown 15 = .ok (.ireturn, 1) := by decide +kernel
theorem dX8_costOf_0 : decode cX8_costOf 0 = .ok (.iconst 0, 1) := by decide +kernel
theorem dX8_costOf_1 : decode cX8_costOf 1 = .ok (.istore_n 2, 1) := by decide +kernel
theorem dX8_costOf_2 : decode cX8_costOf 2 = .ok (.iconst 1, 1) := by decide +kernel
theorem dX8_costOf_3 : decode cX8_costOf 3 = .ok (.istore_n 3, 1) := by decide +kernel
theorem dX8_costOf_4 : decode cX8_costOf 4 = .ok (.iload_n 3, 1) := by decide +kernel
theorem dX8_costOf_5 : decode cX8_costOf 5 = .ok (.iload_n 1, 1) := by decide +kernel
theorem dX8_costOf_6 : decode cX8_costOf 6 = .ok (.if_icmp .gt 20, 3) := by decide +kernel
theorem dX8_costOf_9 : decode cX8_costOf 9 = .ok (.iload_n 2, 1) := by decide +kernel
theorem dX8_costOf_10 : decode cX8_costOf 10 = .ok (.aload_n 0, 1) := by decide +kernel
theorem dX8_costOf_11 : decode cX8_costOf 11 = .ok (.getfield 7, 3) := by decide +kernel
theorem dX8_costOf_14 : decode cX8_costOf 14 = .ok (.iload_n 3, 1) := by decide +kernel
theorem dX8_costOf_15 : decode cX8_costOf 15 = .ok (.iaload, 1) := by decide +kernel
theorem dX8_costOf_16 : decode cX8_costOf 16 = .ok (.iconst 1, 1) := by decide +kernel
theorem dX8_costOf_17 : decode cX8_costOf 17 = .ok (.iadd, 1) := by decide +kernel
theorem dX8_costOf_18 : decode cX8_costOf 18 = .ok (.iadd, 1) := by decide +kernel
theorem dX8_costOf_19 : decode cX8_costOf 19 = .ok (.istore_n 2, 1) := by decide +kernel
theorem dX8_costOf_20 : decode cX8_costOf 20 = .ok (.iinc 3 1, 3) := by decide +kernel
theorem dX8_costOf_23 : decode cX8_costOf 23 = .ok (.goto (-19), 3) := by decide +kernel
theorem dX8_costOf_26 : decode cX8_costOf 26 = .ok (.iload_n 2, 1) := by decide +kernel
theorem dX8_costOf_27 : decode cX8_costOf 27 = .ok (.ireturn, 1) := by decide +kernel
theorem dX8_farthest_0 : decode cX8_farthest 0 = .ok (.iconst 0, 1) := by decide +kernel
theorem dX8_farthest_1 : decode cX8_farthest 1 = .ok (.istore_n 2, 1) := by decide +kernel
theorem dX8_farthest_2 : decode cX8_farthest 2 = .ok (.iconst 0, 1) := by decide +kernel
theorem dX8_farthest_3 : decode cX8_farthest 3 = .ok (.istore_n 3, 1) := by decide +kernel
theorem dX8_farthest_4 : decode cX8_farthest 4 = .ok (.iconst 1, 1) := by decide +kernel
theorem dX8_farthest_5 : decode cX8_farthest 5 = .ok (.istore 4, 2) := by decide +kernel
theorem dX8_farthest_7 : decode cX8_farthest 7 = .ok (.iload 4, 2) := by decide +kernel
theorem dX8_farthest_9 : decode cX8_farthest 9 = .ok (.aload_n 0, 1) := by decide +kernel
theorem dX8_farthest_10 : decode cX8_farthest 10 = .ok (.getfield 62, 3) := by decide +kernel
theorem dX8_farthest_13 : decode cX8_farthest 13 = .ok (.if_icmp .ge 33, 3) := by decide +kernel
theorem dX8_farthest_16 : decode cX8_farthest 16 = .ok (.iload_n 3, 1) := by decide +kernel
theorem dX8_farthest_17 : decode cX8_farthest 17 = .ok (.aload_n 0, 1) := by decide +kernel
theorem dX8_farthest_18 : decode cX8_farthest 18 = .ok (.getfield 7, 3) := by decide +kernel
theorem dX8_farthest_21 : decode cX8_farthest 21 = .ok (.iload 4, 2) := by decide +kernel
theorem dX8_farthest_23 : decode cX8_farthest 23 = .ok (.iaload, 1) := by decide +kernel
theorem dX8_farthest_24 : decode cX8_farthest 24 = .ok (.iconst 1, 1) := by decide +kernel
theorem dX8_farthest_25 : decode cX8_farthest 25 = .ok (.iadd, 1) := by decide +kernel
theorem dX8_farthest_26 : decode cX8_farthest 26 = .ok (.iadd, 1) := by decide +kernel
theorem dX8_farthest_27 : decode cX8_farthest 27 = .ok (.istore_n 3, 1) := by decide +kernel
theorem dX8_farthest_28 : decode cX8_farthest 28 = .ok (.iload_n 3, 1) := by decide +kernel
theorem dX8_farthest_29 : decode cX8_farthest 29 = .ok (.iload_n 1, 1) := by decide +kernel
theorem dX8_farthest_30 : decode cX8_farthest 30 = .ok (.if_icmp .gt 8, 3) := by decide +kernel
theorem dX8_farthest_33 : decode cX8_farthest 33 = .ok (.iload 4, 2) := by decide +kernel
theorem dX8_farthest_35 : decode cX8_farthest 35 = .ok (.goto 4, 3) := by decide +kernel
theorem dX8_farthest_38 : decode cX8_farthest 38 = .ok (.iload_n 2, 1) := by decide +kernel
theorem dX8_farthest_39 : decode cX8_farthest 39 = .ok (.istore_n 2, 1) := by decide +kernel
theorem dX8_farthest_40 : decode cX8_farthest 40 = .ok (.iinc 4 1, 3) := by decide +kernel
theorem dX8_farthest_43 : decode cX8_farthest 43 = .ok (.goto (-36), 3) := by decide +kernel
theorem dX8_farthest_46 : decode cX8_farthest 46 = .ok (.iload_n 2, 1) := by decide +kernel
theorem dX8_farthest_47 : decode cX8_farthest 47 = .ok (.ireturn, 1) := by decide +kernel
theorem dX8_pursues_0 : decode cX8_pursues 0 = .ok (.aload_n 0, 1) := by decide +kernel
theorem dX8_pursues_1 : decode cX8_pursues 1 = .ok (.iload_n 1, 1) := by decide +kernel
theorem dX8_pursues_2 : decode cX8_pursues 2 = .ok (.aload_n 0, 1) := by decide +kernel
theorem dX8_pursues_3 : decode cX8_pursues 3 = .ok (.iload_n 1, 1) := by decide +kernel
theorem dX8_pursues_4 : decode cX8_pursues 4 = .ok (.invokevirtual 91, 3) := by decide +kernel
theorem dX8_pursues_7 : decode cX8_pursues 7 = .ok (.iload_n 2, 1) := by decide +kernel
theorem dX8_pursues_8 : decode cX8_pursues 8 = .ok (.invokevirtual 95, 3) := by decide +kernel
theorem dX8_pursues_11 : decode cX8_pursues 11 = .ok (.istore_n 3, 1) := by decide +kernel
theorem dX8_pursues_12 : decode cX8_pursues 12 = .ok (.iconst 1, 1) := by decide +kernel
theorem dX8_pursues_13 : decode cX8_pursues 13 = .ok (.istore 4, 2) := by decide +kernel
theorem dX8_pursues_15 : decode cX8_pursues 15 = .ok (.iload 4, 2) := by decide +kernel
theorem dX8_pursues_17 : decode cX8_pursues 17 = .ok (.aload_n 0, 1) := by decide +kernel
theorem dX8_pursues_18 : decode cX8_pursues 18 = .ok (.getfield 66, 3) := by decide +kernel
theorem dX8_pursues_21 : decode cX8_pursues 21 = .ok (.if_icmp .ge 53, 3) := by decide +kernel
theorem dX8_pursues_24 : decode cX8_pursues 24 = .ok (.aload_n 0, 1) := by decide +kernel
theorem dX8_pursues_25 : decode cX8_pursues 25 = .ok (.getfield 99, 3) := by decide +kernel
theorem dX8_pursues_28 : decode cX8_pursues 28 = .ok (.ifCond .eq 46, 3) := by decide +kernel
theorem dX8_pursues_31 : decode cX8_pursues 31 = .ok (.aload_n 0, 1) := by decide +kernel
theorem dX8_pursues_32 : decode cX8_pursues 32 = .ok (.iload 4, 2) := by decide +kernel
theorem dX8_pursues_34 : decode cX8_pursues 34 = .ok (.aload_n 0, 1) := by decide +kernel
theorem dX8_pursues_35 : decode cX8_pursues 35 = .ok (.iload 4, 2) := by decide +kernel
theorem dX8_pursues_37 : decode cX8_pursues 37 = .ok (.invokevirtual 91, 3) := by decide +kernel
theorem dX8_pursues_40 : decode cX8_pursues 40 = .ok (.iload_n 2, 1) := by decide +kernel
theorem dX8_pursues_41 : decode cX8_pursues 41 = .ok (.invokevirtual 95, 3) := by decide +kernel
theorem dX8_pursues_44 : decode cX8_pursues 44 = .ok (.istore 5, 2) := by decide +kernel
theorem dX8_pursues_46 : decode cX8_pursues 46 = .ok (.aload_n 0, 1) := by decide +kernel
theorem dX8_pursues_47 : decode cX8_pursues 47 = .ok (.iload 4, 2) := by decide +kernel
theorem dX8_pursues_49 : decode cX8_pursues 49 = .ok (.invokevirtual 103, 3) := by decide +kernel
theorem dX8_pursues_52 : decode cX8_pursues 52 = .ok (.ifCond .ne 14, 3) := by decide +kernel
theorem dX8_pursues_55 : decode cX8_pursues 55 = .ok (.iload 5, 2) := by decide +kernel
theorem dX8_pursues_57 : decode cX8_pursues 57 = .ok (.iload_n 3, 1) := by decide +kernel
theorem dX8_pursues_58 : decode cX8_pursues 58 = .ok (.if_icmp .ge 8, 3) := by decide +kernel
theorem dX8_pursues_61 : decode cX8_pursues 61 = .ok (.iload 5, 2) := by decide +kernel
theorem dX8_pursues_63 : decode cX8_pursues 63 = .ok (.goto 4, 3) := by decide +kernel
theorem dX8_pursues_66 : decode cX8_pursues 66 = .ok (.iload_n 3, 1) := by decide +kernel
theorem dX8_pursues_67 : decode cX8_pursues 67 = .ok (.istore_n 3, 1) := by decide +kernel
theorem dX8_pursues_68 : decode cX8_pursues 68 = .ok (.iinc 4 1, 3) := by decide +kernel
theorem dX8_pursues_71 : decode cX8_pursues 71 = .ok (.goto (-56), 3) := by decide +kernel
theorem dX8_pursues_74 : decode cX8_pursues 74 = .ok (.iload_n 3, 1) := by decide +kernel
theorem dX8_pursues_75 : decode cX8_pursues 75 = .ok (.ireturn, 1) := by decide +kernel
theorem dX8_runs_0 : decode cX8_runs 0 = .ok (.aload_n 0, 1) := by decide +kernel
theorem dX8_runs_1 : decode cX8_runs 1 = .ok (.iconst 0, 1) := by decide +kernel
theorem dX8_runs_2 : decode cX8_runs 2 = .ok (.invokevirtual 103, 3) := by decide +kernel
theorem dX8_runs_5 : decode cX8_runs 5 = .ok (.ifCond .eq 7, 3) := by decide +kernel
theorem dX8_runs_8 : decode cX8_runs 8 = .ok (.iconst 0, 1) := by decide +kernel
theorem dX8_runs_9 : decode cX8_runs 9 = .ok (.goto 18, 3) := by decide +kernel
theorem dX8_runs_12 : decode cX8_runs 12 = .ok (.aload_n 0, 1) := by decide +kernel
theorem dX8_runs_13 : decode cX8_runs 13 = .ok (.aload_n 0, 1) := by decide +kernel
theorem dX8_runs_14 : decode cX8_runs 14 = .ok (.iconst 0, 1) := by decide +kernel
theorem dX8_runs_15 : decode cX8_runs 15 = .ok (.aload_n 0, 1) := by decide +kernel
theorem dX8_runs_16 : decode cX8_runs 16 = .ok (.iconst 0, 1) := by decide +kernel
theorem dX8_runs_17 : decode cX8_runs 17 = .ok (.invokevirtual 91, 3) := by decide +kernel
theorem dX8_runs_20 : decode cX8_runs 20 = .ok (.iload_n 1, 1) := by decide +kernel
theorem dX8_runs_21 : decode cX8_runs 21 = .ok (.invokevirtual 95, 3) := by decide +kernel
theorem dX8_runs_24 : decode cX8_runs 24 = .ok (.invokevirtual 107, 3) := by decide +kernel
theorem dX8_runs_27 : decode cX8_runs 27 = .ok (.ireturn, 1) := by decide +kernel
theorem dX8_comesTo_0 : decode cX8_comesTo 0 = .ok (.aload_n 0, 1) := by decide +kernel
theorem dX8_comesTo_1 : decode cX8_comesTo 1 = .ok (.iload_n 2, 1) := by decide +kernel
theorem dX8_comesTo_2 : decode cX8_comesTo 2 = .ok (.invokevirtual 110, 3) := by decide +kernel
theorem dX8_comesTo_5 : decode cX8_comesTo 5 = .ok (.istore_n 3, 1) := by decide +kernel
theorem dX8_comesTo_6 : decode cX8_comesTo 6 = .ok (.iload_n 3, 1) := by decide +kernel
theorem dX8_comesTo_7 : decode cX8_comesTo 7 = .ok (.ifCond .ne 5, 3) := by decide +kernel
theorem dX8_comesTo_10 : decode cX8_comesTo 10 = .ok (.iconst 0, 1) := by decide +kernel
theorem dX8_comesTo_11 : decode cX8_comesTo 11 = .ok (.ireturn, 1) := by decide +kernel
theorem dX8_comesTo_12 : decode cX8_comesTo 12 = .ok (.iconst 0, 1) := by decide +kernel
theorem dX8_comesTo_13 : decode cX8_comesTo 13 = .ok (.istore 4, 2) := by decide +kernel
theorem dX8_comesTo_15 : decode cX8_comesTo 15 = .ok (.aload_n 0, 1) := by decide +kernel
theorem dX8_comesTo_16 : decode cX8_comesTo 16 = .ok (.iload_n 1, 1) := by decide +kernel
theorem dX8_comesTo_17 : decode cX8_comesTo 17 = .ok (.iload 4, 2) := by decide +kernel
theorem dX8_comesTo_19 : decode cX8_comesTo 19 = .ok (.invokevirtual 113, 3) := by decide +kernel
theorem dX8_comesTo_22 : decode cX8_comesTo 22 = .ok (.iload_n 3, 1) := by decide +kernel
theorem dX8_comesTo_23 : decode cX8_comesTo 23 = .ok (.if_icmp .ge 9, 3) := by decide +kernel
theorem dX8_comesTo_26 : decode cX8_comesTo 26 = .ok (.iinc 4 1, 3) := by decide +kernel
theorem dX8_comesTo_29 : decode cX8_comesTo 29 = .ok (.goto (-14), 3) := by decide +kernel
theorem dX8_comesTo_32 : decode cX8_comesTo 32 = .ok (.aload_n 0, 1) := by decide +kernel
theorem dX8_comesTo_33 : decode cX8_comesTo 33 = .ok (.getfield 117, 3) := by decide +kernel
theorem dX8_comesTo_36 : decode cX8_comesTo 36 = .ok (.iload 4, 2) := by decide +kernel
theorem dX8_comesTo_38 : decode cX8_comesTo 38 = .ok (.iadd, 1) := by decide +kernel
theorem dX8_comesTo_39 : decode cX8_comesTo 39 = .ok (.ireturn, 1) := by decide +kernel
theorem dX8_isCaught_0 : decode cX8_isCaught 0 = .ok (.aload_n 0, 1) := by decide +kernel
theorem dX8_isCaught_1 : decode cX8_isCaught 1 = .ok (.iload_n 1, 1) := by decide +kernel
theorem dX8_isCaught_2 : decode cX8_isCaught 2 = .ok (.invokevirtual 120, 3) := by decide +kernel
theorem dX8_isCaught_5 : decode cX8_isCaught 5 = .ok (.istore_n 2, 1) := by decide +kernel
theorem dX8_isCaught_6 : decode cX8_isCaught 6 = .ok (.iload_n 2, 1) := by decide +kernel
theorem dX8_isCaught_7 : decode cX8_isCaught 7 = .ok (.aload_n 0, 1) := by decide +kernel
theorem dX8_isCaught_8 : decode cX8_isCaught 8 = .ok (.getfield 62, 3) := by decide +kernel
theorem dX8_isCaught_11 : decode cX8_isCaught 11 = .ok (.iconst 1, 1) := by decide +kernel
theorem dX8_isCaught_12 : decode cX8_isCaught 12 = .ok (.isub, 1) := by decide +kernel
theorem dX8_isCaught_13 : decode cX8_isCaught 13 = .ok (.if_icmp .ne 7, 3) := by decide +kernel
theorem dX8_isCaught_16 : decode cX8_isCaught 16 = .ok (.iconst 1, 1) := by decide +kernel
theorem dX8_isCaught_17 : decode cX8_isCaught 17 = .ok (.goto 4, 3) := by decide +kernel
theorem dX8_isCaught_20 : decode cX8_isCaught 20 = .ok (.iconst 0, 1) := by decide +kernel
theorem dX8_isCaught_21 : decode cX8_isCaught 21 = .ok (.istore_n 3, 1) := by decide +kernel
theorem dX8_isCaught_22 : decode cX8_isCaught 22 = .ok (.aload_n 0, 1) := by decide +kernel
theorem dX8_isCaught_23 : decode cX8_isCaught 23 = .ok (.iload_n 2, 1) := by decide +kernel
theorem dX8_isCaught_24 : decode cX8_isCaught 24 = .ok (.invokevirtual 110, 3) := by decide +kernel
theorem dX8_isCaught_27 : decode cX8_isCaught 27 = .ok (.istore 4, 2) := by decide +kernel
theorem dX8_isCaught_29 : decode cX8_isCaught 29 = .ok (.iconst 1, 1) := by decide +kernel
theorem dX8_isCaught_30 : decode cX8_isCaught 30 = .ok (.istore 5, 2) := by decide +kernel
theorem dX8_isCaught_32 : decode cX8_isCaught 32 = .ok (.iload 5, 2) := by decide +kernel
theorem dX8_isCaught_34 : decode cX8_isCaught 34 = .ok (.aload_n 0, 1) := by decide +kernel
theorem dX8_isCaught_35 : decode cX8_isCaught 35 = .ok (.getfield 66, 3) := by decide +kernel
theorem dX8_isCaught_38 : decode cX8_isCaught 38 = .ok (.if_icmp .ge 58, 3) := by decide +kernel
theorem dX8_isCaught_41 : decode cX8_isCaught 41 = .ok (.iload_n 3, 1) := by decide +kernel
theorem dX8_isCaught_42 : decode cX8_isCaught 42 = .ok (.ifCond .ne 42, 3) := by decide +kernel
theorem dX8_isCaught_45 : decode cX8_isCaught 45 = .ok (.aload_n 0, 1) := by decide +kernel
theorem dX8_isCaught_46 : decode cX8_isCaught 46 = .ok (.iload 5, 2) := by decide +kernel
theorem dX8_isCaught_48 : decode cX8_isCaught 48 = .ok (.invokevirtual 103, 3) := by decide +kernel
theorem dX8_isCaught_51 : decode cX8_isCaught 51 = .ok (.ifCond .ne 37, 3) := by decide +kernel
theorem dX8_isCaught_54 : decode cX8_isCaught 54 = .ok (.iload 4, 2) := by decide +kernel
theorem dX8_isCaught_56 : decode cX8_isCaught 56 = .ok (.ifCond .eq 28, 3) := by decide +kernel
theorem dX8_isCaught_59 : decode cX8_isCaught 59 = .ok (.iload_n 1, 1) := by decide +kernel
theorem dX8_isCaught_60 : decode cX8_isCaught 60 = .ok (.aload_n 0, 1) := by decide +kernel
theorem dX8_isCaught_61 : decode cX8_isCaught 61 = .ok (.getfield 117, 3) := by decide +kernel
theorem dX8_isCaught_64 : decode cX8_isCaught 64 = .ok (.if_icmp .lt 24, 3) := by decide +kernel
theorem dX8_isCaught_67 : decode cX8_isCaught 67 = .ok (.aload_n 0, 1) := by decide +kernel
theorem dX8_isCaught_68 : decode cX8_isCaught 68 = .ok (.iload 5, 2) := by decide +kernel
theorem dX8_isCaught_70 : decode cX8_isCaught 70 = .ok (.iload_n 1, 1) := by decide +kernel
theorem dX8_isCaught_71 : decode cX8_isCaught 71 = .ok (.aload_n 0, 1) := by decide +kernel
theorem dX8_isCaught_72 : decode cX8_isCaught 72 = .ok (.getfield 117, 3) := by decide +kernel
theorem dX8_isCaught_75 : decode cX8_isCaught 75 = .ok (.isub, 1) := by decide +kernel
theorem dX8_isCaught_76 : decode cX8_isCaught 76 = .ok (.invokevirtual 113, 3) := by decide +kernel
theorem dX8_isCaught_79 : decode cX8_isCaught 79 = .ok (.iload 4, 2) := by decide +kernel
theorem dX8_isCaught_81 : decode cX8_isCaught 81 = .ok (.if_icmp .lt 7, 3) := by decide +kernel
theorem dX8_isCaught_84 : decode cX8_isCaught 84 = .ok (.iconst 1, 1) := by decide +kernel
theorem dX8_isCaught_85 : decode cX8_isCaught 85 = .ok (.goto 4, 3) := by decide +kernel
theorem dX8_isCaught_88 : decode cX8_isCaught 88 = .ok (.iconst 0, 1) := by decide +kernel
theorem dX8_isCaught_89 : decode cX8_isCaught 89 = .ok (.istore_n 3, 1) := by decide +kernel
theorem dX8_isCaught_90 : decode cX8_isCaught 90 = .ok (.iinc 5 1, 3) := by decide +kernel
theorem dX8_isCaught_93 : decode cX8_isCaught 93 = .ok (.goto (-61), 3) := by decide +kernel
theorem dX8_isCaught_96 : decode cX8_isCaught 96 = .ok (.iload_n 3, 1) := by decide +kernel
theorem dX8_isCaught_97 : decode cX8_isCaught 97 = .ok (.ireturn, 1) := by decide +kernel
theorem dX8_place_0 : decode cX8_place 0 = .ok (.aload_n 0, 1) := by decide +kernel
theorem dX8_place_1 : decode cX8_place 1 = .ok (.getfield 16, 3) := by decide +kernel
theorem dX8_place_4 : decode cX8_place 4 = .ok (.iconst 0, 1) := by decide +kernel
theorem dX8_place_5 : decode cX8_place 5 = .ok (.iaload, 1) := by decide +kernel
theorem dX8_place_6 : decode cX8_place 6 = .ok (.istore_n 2, 1) := by decide +kernel
theorem dX8_place_7 : decode cX8_place 7 = .ok (.iload_n 1, 1) := by decide +kernel
theorem dX8_place_8 : decode cX8_place 8 = .ok (.ifCond .ne 25, 3) := by decide +kernel
theorem dX8_place_11 : decode cX8_place 11 = .ok (.aload_n 0, 1) := by decide +kernel
theorem dX8_place_12 : decode cX8_place 12 = .ok (.invokevirtual 80, 3) := by decide +kernel
theorem dX8_place_15 : decode cX8_place 15 = .ok (.ifCond .eq 12, 3) := by decide +kernel
theorem dX8_place_18 : decode cX8_place 18 = .ok (.aload_n 0, 1) := by decide +kernel
theorem dX8_place_19 : decode cX8_place 19 = .ok (.getfield 16, 3) := by decide +kernel
theorem dX8_place_22 : decode cX8_place 22 = .ok (.iconst 1, 1) := by decide +kernel
theorem dX8_place_23 : decode cX8_place 23 = .ok (.iaload, 1) := by decide +kernel
theorem dX8_place_24 : decode cX8_place 24 = .ok (.goto 8, 3) := by decide +kernel
theorem dX8_place_27 : decode cX8_place 27 = .ok (.aload_n 0, 1) := by decide +kernel
theorem dX8_place_28 : decode cX8_place 28 = .ok (.iload_n 2, 1) := by decide +kernel
theorem dX8_place_29 : decode cX8_place 29 = .ok (.invokevirtual 120, 3) := by decide +kernel
theorem dX8_place_32 : decode cX8_place 32 = .ok (.ireturn, 1) := by decide +kernel
theorem dX8_place_33 : decode cX8_place 33 = .ok (.aload_n 0, 1) := by decide +kernel
theorem dX8_place_34 : decode cX8_place 34 = .ok (.invokevirtual 80, 3) := by decide +kernel
theorem dX8_place_37 : decode cX8_place 37 = .ok (.ifCond .eq 23, 3) := by decide +kernel
theorem dX8_place_40 : decode cX8_place 40 = .ok (.aload_n 0, 1) := by decide +kernel
theorem dX8_place_41 : decode cX8_place 41 = .ok (.getfield 16, 3) := by decide +kernel
theorem dX8_place_44 : decode cX8_place 44 = .ok (.bipush 8, 2) := by decide +kernel
theorem dX8_place_46 : decode cX8_place 46 = .ok (.iload_n 1, 1) := by decide +kernel
theorem dX8_place_47 : decode cX8_place 47 = .ok (.iadd, 1) := by decide +kernel
theorem dX8_place_48 : decode cX8_place 48 = .ok (.iaload, 1) := by decide +kernel
theorem dX8_place_49 : decode cX8_place 49 = .ok (.iload_n 2, 1) := by decide +kernel
theorem dX8_place_50 : decode cX8_place 50 = .ok (.if_icmp .gt 10, 3) := by decide +kernel
theorem dX8_place_53 : decode cX8_place 53 = .ok (.aload_n 0, 1) := by decide +kernel
theorem dX8_place_54 : decode cX8_place 54 = .ok (.getfield 16, 3) := by decide +kernel
theorem dX8_place_57 : decode cX8_place 57 = .ok (.iconst 1, 1) := by decide +kernel
theorem dX8_place_58 : decode cX8_place 58 = .ok (.iaload, 1) := by decide +kernel
theorem dX8_place_59 : decode cX8_place 59 = .ok (.ireturn, 1) := by decide +kernel
theorem dX8_place_60 : decode cX8_place 60 = .ok (.aload_n 0, 1) := by decide +kernel
theorem dX8_place_61 : decode cX8_place 61 = .ok (.iload_n 1, 1) := by decide +kernel
theorem dX8_place_62 : decode cX8_place 62 = .ok (.invokevirtual 103, 3) := by decide +kernel
theorem dX8_place_65 : decode cX8_place 65 = .ok (.ifCond .ne 11, 3) := by decide +kernel
theorem dX8_place_68 : decode cX8_place 68 = .ok (.iload_n 2, 1) := by decide +kernel
theorem dX8_place_69 : decode cX8_place 69 = .ok (.aload_n 0, 1) := by decide +kernel
theorem dX8_place_70 : decode cX8_place 70 = .ok (.getfield 117, 3) := by decide +kernel
theorem dX8_place_73 : decode cX8_place 73 = .ok (.if_icmp .ge 7, 3) := by decide +kernel
theorem dX8_place_76 : decode cX8_place 76 = .ok (.iconst 0, 1) := by decide +kernel
theorem dX8_place_77 : decode cX8_place 77 = .ok (.goto 23, 3) := by decide +kernel
theorem dX8_place_80 : decode cX8_place 80 = .ok (.aload_n 0, 1) := by decide +kernel
theorem dX8_place_81 : decode cX8_place 81 = .ok (.aload_n 0, 1) := by decide +kernel
theorem dX8_place_82 : decode cX8_place 82 = .ok (.iload_n 1, 1) := by decide +kernel
theorem dX8_place_83 : decode cX8_place 83 = .ok (.aload_n 0, 1) := by decide +kernel
theorem dX8_place_84 : decode cX8_place 84 = .ok (.iload_n 1, 1) := by decide +kernel
theorem dX8_place_85 : decode cX8_place 85 = .ok (.invokevirtual 91, 3) := by decide +kernel
theorem dX8_place_88 : decode cX8_place 88 = .ok (.iload_n 2, 1) := by decide +kernel
theorem dX8_place_89 : decode cX8_place 89 = .ok (.aload_n 0, 1) := by decide +kernel
theorem dX8_place_90 : decode cX8_place 90 = .ok (.getfield 117, 3) := by decide +kernel
theorem dX8_place_93 : decode cX8_place 93 = .ok (.isub, 1) := by decide +kernel
theorem dX8_place_94 : decode cX8_place 94 = .ok (.invokevirtual 95, 3) := by decide +kernel
theorem dX8_place_97 : decode cX8_place 97 = .ok (.invokevirtual 107, 3) := by decide +kernel
theorem dX8_place_100 : decode cX8_place 100 = .ok (.istore_n 3, 1) := by decide +kernel
theorem dX8_place_101 : decode cX8_place 101 = .ok (.aload_n 0, 1) := by decide +kernel
theorem dX8_place_102 : decode cX8_place 102 = .ok (.invokevirtual 80, 3) := by decide +kernel
theorem dX8_place_105 : decode cX8_place 105 = .ok (.ifCond .eq 22, 3) := by decide +kernel
theorem dX8_place_108 : decode cX8_place 108 = .ok (.iload_n 3, 1) := by decide +kernel
theorem dX8_place_109 : decode cX8_place 109 = .ok (.aload_n 0, 1) := by decide +kernel
theorem dX8_place_110 : decode cX8_place 110 = .ok (.getfield 16, 3) := by decide +kernel
theorem dX8_place_113 : decode cX8_place 113 = .ok (.iconst 1, 1) := by decide +kernel
theorem dX8_place_114 : decode cX8_place 114 = .ok (.iaload, 1) := by decide +kernel
theorem dX8_place_115 : decode cX8_place 115 = .ok (.if_icmp .le 12, 3) := by decide +kernel
theorem dX8_place_118 : decode cX8_place 118 = .ok (.aload_n 0, 1) := by decide +kernel
theorem dX8_place_119 : decode cX8_place 119 = .ok (.getfield 16, 3) := by decide +kernel
theorem dX8_place_122 : decode cX8_place 122 = .ok (.iconst 1, 1) := by decide +kernel
theorem dX8_place_123 : decode cX8_place 123 = .ok (.iaload, 1) := by decide +kernel
theorem dX8_place_124 : decode cX8_place 124 = .ok (.goto 4, 3) := by decide +kernel
theorem dX8_place_127 : decode cX8_place 127 = .ok (.iload_n 3, 1) := by decide +kernel
theorem dX8_place_128 : decode cX8_place 128 = .ok (.ireturn, 1) := by decide +kernel
theorem dX8_of_0 : decode cX8_of 0 = .ok (.aload_n 0, 1) := by decide +kernel
theorem dX8_of_1 : decode cX8_of 1 = .ok (.iload_n 1, 1) := by decide +kernel
theorem dX8_of_2 : decode cX8_of 2 = .ok (.invokevirtual 123, 3) := by decide +kernel
theorem dX8_of_5 : decode cX8_of 5 = .ok (.ifCond .eq 15, 3) := by decide +kernel
theorem dX8_of_8 : decode cX8_of 8 = .ok (.iload_n 2, 1) := by decide +kernel
theorem dX8_of_9 : decode cX8_of 9 = .ok (.i2l, 1) := by decide +kernel
theorem dX8_of_10 : decode cX8_of 10 = .ok (.lconst 0, 1) := by decide +kernel
theorem dX8_of_11 : decode cX8_of 11 = .ok (.ldc2_w 78, 3) := by decide +kernel
theorem dX8_of_14 : decode cX8_of 14 = .ok (.invokestatic 69, 3) := by decide +kernel
theorem dX8_of_17 : decode cX8_of 17 = .ok (.ifCond .ne 5, 3) := by decide +kernel
theorem dX8_of_20 : decode cX8_of 20 = .ok (.iconst (-1), 1) := by decide +kernel
theorem dX8_of_21 : decode cX8_of 21 = .ok (.ireturn, 1) := by decide +kernel
theorem dX8_of_22 : decode cX8_of 22 = .ok (.iload_n 2, 1) := by decide +kernel
theorem dX8_of_23 : decode cX8_of 23 = .ok (.tableswitch 86 3 6 #[29, 35, 46, 52], 29) := by decide +kernel
theorem dX8_of_52 : decode cX8_of 52 = .ok (.aload_n 0, 1) := by decide +kernel
theorem dX8_of_53 : decode cX8_of 53 = .ok (.iload_n 1, 1) := by decide +kernel
theorem dX8_of_54 : decode cX8_of 54 = .ok (.invokevirtual 91, 3) := by decide +kernel
theorem dX8_of_57 : decode cX8_of 57 = .ok (.ireturn, 1) := by decide +kernel
theorem dX8_of_58 : decode cX8_of 58 = .ok (.aload_n 0, 1) := by decide +kernel
theorem dX8_of_59 : decode cX8_of 59 = .ok (.iload_n 1, 1) := by decide +kernel
theorem dX8_of_60 : decode cX8_of 60 = .ok (.aload_n 0, 1) := by decide +kernel
theorem dX8_of_61 : decode cX8_of 61 = .ok (.iload_n 1, 1) := by decide +kernel
theorem dX8_of_62 : decode cX8_of 62 = .ok (.invokevirtual 91, 3) := by decide +kernel
theorem dX8_of_65 : decode cX8_of 65 = .ok (.invokevirtual 126, 3) := by decide +kernel
theorem dX8_of_68 : decode cX8_of 68 = .ok (.ireturn, 1) := by decide +kernel
theorem dX8_of_69 : decode cX8_of 69 = .ok (.aload_n 0, 1) := by decide +kernel
theorem dX8_of_70 : decode cX8_of 70 = .ok (.iload_n 1, 1) := by decide +kernel
theorem dX8_of_71 : decode cX8_of 71 = .ok (.invokevirtual 129, 3) := by decide +kernel
theorem dX8_of_74 : decode cX8_of 74 = .ok (.ireturn, 1) := by decide +kernel
theorem dX8_of_75 : decode cX8_of 75 = .ok (.iload_n 1, 1) := by decide +kernel
theorem dX8_of_76 : decode cX8_of 76 = .ok (.ifCond .eq 18, 3) := by decide +kernel
theorem dX8_of_79 : decode cX8_of 79 = .ok (.aload_n 0, 1) := by decide +kernel
theorem dX8_of_80 : decode cX8_of 80 = .ok (.invokevirtual 80, 3) := by decide +kernel
theorem dX8_of_83 : decode cX8_of 83 = .ok (.ifCond .eq 11, 3) := by decide +kernel
theorem dX8_of_86 : decode cX8_of 86 = .ok (.aload_n 0, 1) := by decide +kernel
theorem dX8_of_87 : decode cX8_of 87 = .ok (.iload_n 1, 1) := by decide +kernel
theorem dX8_of_88 : decode cX8_of 88 = .ok (.invokevirtual 103, 3) := by decide +kernel
theorem dX8_of_91 : decode cX8_of 91 = .ok (.ifCond .eq 8, 3) := by decide +kernel
theorem dX8_of_94 : decode cX8_of 94 = .ok (.bipush (-4), 2) := by decide +kernel
theorem dX8_of_96 : decode cX8_of 96 = .ok (.goto 12, 3) := by decide +kernel
theorem dX8_of_99 : decode cX8_of 99 = .ok (.aload_n 0, 1) := by decide +kernel
theorem dX8_of_100 : decode cX8_of 100 = .ok (.getfield 16, 3) := by decide +kernel
theorem dX8_of_103 : decode cX8_of 103 = .ok (.bipush 8, 2) := by decide +kernel
theorem dX8_of_105 : decode cX8_of 105 = .ok (.iload_n 1, 1) := by decide +kernel
theorem dX8_of_106 : decode cX8_of 106 = .ok (.iadd, 1) := by decide +kernel
theorem dX8_of_107 : decode cX8_of 107 = .ok (.iaload, 1) := by decide +kernel
theorem dX8_of_108 : decode cX8_of 108 = .ok (.ireturn, 1) := by decide +kernel
theorem dX8_of_109 : decode cX8_of 109 = .ok (.aload_n 0, 1) := by decide +kernel
theorem dX8_of_110 : decode cX8_of 110 = .ok (.getfield 13, 3) := by decide +kernel
theorem dX8_of_113 : decode cX8_of 113 = .ok (.iconst 3, 1) := by decide +kernel
theorem dX8_of_114 : decode cX8_of 114 = .ok (.iload_n 1, 1) := by decide +kernel
theorem dX8_of_115 : decode cX8_of 115 = .ok (.imul, 1) := by decide +kernel
theorem dX8_of_116 : decode cX8_of 116 = .ok (.iload_n 2, 1) := by decide +kernel
theorem dX8_of_117 : decode cX8_of 117 = .ok (.iadd, 1) := by decide +kernel
theorem dX8_of_118 : decode cX8_of 118 = .ok (.iaload, 1) := by decide +kernel
theorem dX8_of_119 : decode cX8_of 119 = .ok (.ireturn, 1) := by decide +kernel
theorem dX8_hurt_0 : decode cX8_hurt 0 = .ok (.aload_n 0, 1) := by decide +kernel
theorem dX8_hurt_1 : decode cX8_hurt 1 = .ok (.iload_n 1, 1) := by decide +kernel
theorem dX8_hurt_2 : decode cX8_hurt 2 = .ok (.invokevirtual 123, 3) := by decide +kernel
theorem dX8_hurt_5 : decode cX8_hurt 5 = .ok (.ifCond .eq 15, 3) := by decide +kernel
theorem dX8_hurt_8 : decode cX8_hurt 8 = .ok (.iload_n 2, 1) := by decide +kernel
theorem dX8_hurt_9 : decode cX8_hurt 9 = .ok (.i2l, 1) := by decide +kernel
theorem dX8_hurt_10 : decode cX8_hurt 10 = .ok (.lconst 0, 1) := by decide +kernel
theorem dX8_hurt_11 : decode cX8_hurt 11 = .ok (.ldc2_w 78, 3) := by decide +kernel
theorem dX8_hurt_14 : decode cX8_hurt 14 = .ok (.invokestatic 69, 3) := by decide +kernel
theorem dX8_hurt_17 : decode cX8_hurt 17 = .ok (.ifCond .ne 5, 3) := by decide +kernel
theorem dX8_hurt_20 : decode cX8_hurt 20 = .ok (.iconst (-1), 1) := by decide +kernel
theorem dX8_hurt_21 : decode cX8_hurt 21 = .ok (.ireturn, 1) := by decide +kernel
theorem dX8_hurt_22 : decode cX8_hurt 22 = .ok (.aload_n 0, 1) := by decide +kernel
theorem dX8_hurt_23 : decode cX8_hurt 23 = .ok (.invokevirtual 80, 3) := by decide +kernel
theorem dX8_hurt_26 : decode cX8_hurt 26 = .ok (.ifCond .eq 6, 3) := by decide +kernel
theorem dX8_hurt_29 : decode cX8_hurt 29 = .ok (.bipush (-2), 2) := by decide +kernel
theorem dX8_hurt_31 : decode cX8_hurt 31 = .ok (.ireturn, 1) := by decide +kernel
theorem dX8_hurt_32 : decode cX8_hurt 32 = .ok (.aload_n 0, 1) := by decide +kernel
theorem dX8_hurt_33 : decode cX8_hurt 33 = .ok (.iload_n 1, 1) := by decide +kernel
theorem dX8_hurt_34 : decode cX8_hurt 34 = .ok (.invokevirtual 91, 3) := by decide +kernel
theorem dX8_hurt_37 : decode cX8_hurt 37 = .ok (.istore_n 3, 1) := by decide +kernel
theorem dX8_hurt_38 : decode cX8_hurt 38 = .ok (.aload_n 0, 1) := by decide +kernel
theorem dX8_hurt_39 : decode cX8_hurt 39 = .ok (.getfield 16, 3) := by decide +kernel
theorem dX8_hurt_42 : decode cX8_hurt 42 = .ok (.iconst 3, 1) := by decide +kernel
theorem dX8_hurt_43 : decode cX8_hurt 43 = .ok (.iload_n 1, 1) := by decide +kernel
theorem dX8_hurt_44 : decode cX8_hurt 44 = .ok (.iadd, 1) := by decide +kernel
theorem dX8_hurt_45 : decode cX8_hurt 45 = .ok (.iload_n 2, 1) := by decide +kernel
theorem dX8_hurt_46 : decode cX8_hurt 46 = .ok (.iastore, 1) := by decide +kernel
theorem dX8_hurt_47 : decode cX8_hurt 47 = .ok (.iload_n 3, 1) := by decide +kernel
theorem dX8_hurt_48 : decode cX8_hurt 48 = .ok (.ireturn, 1) := by decide +kernel
theorem dX8_start_0 : decode cX8_start 0 = .ok (.iload_n 1, 1) := by decide +kernel
theorem dX8_start_1 : decode cX8_start 1 = .ok (.i2l, 1) := by decide +kernel
theorem dX8_start_2 : decode cX8_start 2 = .ok (.lconst 0, 1) := by decide +kernel
theorem dX8_start_3 : decode cX8_start 3 = .ok (.ldc2_w 132, 3) := by decide +kernel
theorem dX8_start_6 : decode cX8_start 6 = .ok (.invokestatic 69, 3) := by decide +kernel
theorem dX8_start_9 : decode cX8_start 9 = .ok (.ifCond .ne 5, 3) := by decide +kernel
theorem dX8_start_12 : decode cX8_start 12 = .ok (.iconst (-1), 1) := by decide +kernel
theorem dX8_start_13 : decode cX8_start 13 = .ok (.ireturn, 1) := by decide +kernel
theorem dX8_start_14 : decode cX8_start 14 = .ok (.aload_n 0, 1) := by decide +kernel
theorem dX8_start_15 : decode cX8_start 15 = .ok (.getfield 16, 3) := by decide +kernel
theorem dX8_start_18 : decode cX8_start 18 = .ok (.iconst 0, 1) := by decide +kernel
theorem dX8_start_19 : decode cX8_start 19 = .ok (.iaload, 1) := by decide +kernel
theorem dX8_start_20 : decode cX8_start 20 = .ok (.ifCond .eq 6, 3) := by decide +kernel
theorem dX8_start_23 : decode cX8_start 23 = .ok (.bipush (-2), 2) := by decide +kernel
theorem dX8_start_25 : decode cX8_start 25 = .ok (.ireturn, 1) := by decide +kernel
theorem dX8_start_26 : decode cX8_start 26 = .ok (.aload_n 0, 1) := by decide +kernel
theorem dX8_start_27 : decode cX8_start 27 = .ok (.getfield 117, 3) := by decide +kernel
theorem dX8_start_30 : decode cX8_start 30 = .ok (.istore_n 2, 1) := by decide +kernel
theorem dX8_start_31 : decode cX8_start 31 = .ok (.aload_n 0, 1) := by decide +kernel
theorem dX8_start_32 : decode cX8_start 32 = .ok (.iload_n 1, 1) := by decide +kernel
theorem dX8_start_33 : decode cX8_start 33 = .ok (.putfield 117, 3) := by decide +kernel
theorem dX8_start_36 : decode cX8_start 36 = .ok (.iload_n 2, 1) := by decide +kernel
theorem dX8_start_37 : decode cX8_start 37 = .ok (.ireturn, 1) := by decide +kernel
theorem dX8_sort_0 : decode cX8_sort 0 = .ok (.iload_n 1, 1) := by decide +kernel
theorem dX8_sort_1 : decode cX8_sort 1 = .ok (.i2l, 1) := by decide +kernel
theorem dX8_sort_2 : decode cX8_sort 2 = .ok (.lconst 0, 1) := by decide +kernel
theorem dX8_sort_3 : decode cX8_sort 3 = .ok (.aload_n 0, 1) := by decide +kernel
theorem dX8_sort_4 : decode cX8_sort 4 = .ok (.getfield 62, 3) := by decide +kernel
theorem dX8_sort_7 : decode cX8_sort 7 = .ok (.iconst 1, 1) := by decide +kernel
theorem dX8_sort_8 : decode cX8_sort 8 = .ok (.isub, 1) := by decide +kernel
theorem dX8_sort_9 : decode cX8_sort 9 = .ok (.i2l, 1) := by decide +kernel
theorem dX8_sort_10 : decode cX8_sort 10 = .ok (.invokestatic 69, 3) := by decide +kernel
theorem dX8_sort_13 : decode cX8_sort 13 = .ok (.ifCond .eq 12, 3) := by decide +kernel
theorem dX8_sort_16 : decode cX8_sort 16 = .ok (.aload_n 0, 1) := by decide +kernel
theorem dX8_sort_17 : decode cX8_sort 17 = .ok (.getfield 7, 3) := by decide +kernel
theorem dX8_sort_20 : decode cX8_sort 20 = .ok (.iload_n 1, 1) := by decide +kernel
theorem dX8_sort_21 : decode cX8_sort 21 = .ok (.iaload, 1) := by decide +kernel
theorem dX8_sort_22 : decode cX8_sort 22 = .ok (.goto 4, 3) := by decide +kernel
theorem dX8_sort_25 : decode cX8_sort 25 = .ok (.iconst (-1), 1) := by decide +kernel
theorem dX8_sort_26 : decode cX8_sort 26 = .ok (.ireturn, 1) := by decide +kernel
theorem dX8_cost_0 : decode cX8_cost 0 = .ok (.iload_n 1, 1) := by decide +kernel
theorem dX8_cost_1 : decode cX8_cost 1 = .ok (.i2l, 1) := by decide +kernel
theorem dX8_cost_2 : decode cX8_cost 2 = .ok (.lconst 0, 1) := by decide +kernel
theorem dX8_cost_3 : decode cX8_cost 3 = .ok (.aload_n 0, 1) := by decide +kernel
theorem dX8_cost_4 : decode cX8_cost 4 = .ok (.getfield 62, 3) := by decide +kernel
theorem dX8_cost_7 : decode cX8_cost 7 = .ok (.iconst 1, 1) := by decide +kernel
theorem dX8_cost_8 : decode cX8_cost 8 = .ok (.isub, 1) := by decide +kernel
theorem dX8_cost_9 : decode cX8_cost 9 = .ok (.i2l, 1) := by decide +kernel
theorem dX8_cost_10 : decode cX8_cost 10 = .ok (.invokestatic 69, 3) := by decide +kernel
theorem dX8_cost_13 : decode cX8_cost 13 = .ok (.ifCond .eq 11, 3) := by decide +kernel
theorem dX8_cost_16 : decode cX8_cost 16 = .ok (.aload_n 0, 1) := by decide +kernel
theorem dX8_cost_17 : decode cX8_cost 17 = .ok (.iload_n 1, 1) := by decide +kernel
theorem dX8_cost_18 : decode cX8_cost 18 = .ok (.invokevirtual 110, 3) := by decide +kernel
theorem dX8_cost_21 : decode cX8_cost 21 = .ok (.goto 4, 3) := by decide +kernel
theorem dX8_cost_24 : decode cX8_cost 24 = .ok (.iconst (-1), 1) := by decide +kernel
theorem dX8_cost_25 : decode cX8_cost 25 = .ok (.ireturn, 1) := by decide +kernel
theorem dX8_points_0 : decode cX8_points 0 = .ok (.aload_n 0, 1) := by decide +kernel
theorem dX8_points_1 : decode cX8_points 1 = .ok (.iload_n 1, 1) := by decide +kernel
theorem dX8_points_2 : decode cX8_points 2 = .ok (.invokevirtual 123, 3) := by decide +kernel
theorem dX8_points_5 : decode cX8_points 5 = .ok (.ifCond .eq 29, 3) := by decide +kernel
theorem dX8_points_8 : decode cX8_points 8 = .ok (.iload_n 2, 1) := by decide +kernel
theorem dX8_points_9 : decode cX8_points 9 = .ok (.i2l, 1) := by decide +kernel
theorem dX8_points_10 : decode cX8_points 10 = .ok (.lconst 0, 1) := by decide +kernel
theorem dX8_points_11 : decode cX8_points 11 = .ok (.ldc2_w 134, 3) := by decide +kernel
theorem dX8_points_14 : decode cX8_points 14 = .ok (.invokestatic 69, 3) := by decide +kernel
theorem dX8_points_17 : decode cX8_points 17 = .ok (.ifCond .eq 17, 3) := by decide +kernel
theorem dX8_points_20 : decode cX8_points 20 = .ok (.aload_n 0, 1) := by decide +kernel
theorem dX8_points_21 : decode cX8_points 21 = .ok (.iload_n 1, 1) := by decide +kernel
theorem dX8_points_22 : decode cX8_points 22 = .ok (.aload_n 0, 1) := by decide +kernel
theorem dX8_points_23 : decode cX8_points 23 = .ok (.iload_n 1, 1) := by decide +kernel
theorem dX8_points_24 : decode cX8_points 24 = .ok (.invokevirtual 91, 3) := by decide +kernel
theorem dX8_points_27 : decode cX8_points 27 = .ok (.iload_n 2, 1) := by decide +kernel
theorem dX8_points_28 : decode cX8_points 28 = .ok (.invokevirtual 95, 3) := by decide +kernel
theorem dX8_points_31 : decode cX8_points 31 = .ok (.goto 4, 3) := by decide +kernel
theorem dX8_points_34 : decode cX8_points 34 = .ok (.iconst (-1), 1) := by decide +kernel
theorem dX8_points_35 : decode cX8_points 35 = .ok (.ireturn, 1) := by decide +kernel
theorem dX8_type_0 : decode cX8_type 0 = .ok (.iload_n 1, 1) := by decide +kernel
theorem dX8_type_1 : decode cX8_type 1 = .ok (.i2l, 1) := by decide +kernel
theorem dX8_type_2 : decode cX8_type 2 = .ok (.ldc2_w 136, 3) := by decide +kernel
theorem dX8_type_5 : decode cX8_type 5 = .ok (.ldc2_w 138, 3) := by decide +kernel
theorem dX8_type_8 : decode cX8_type 8 = .ok (.invokestatic 69, 3) := by decide +kernel
theorem dX8_type_11 : decode cX8_type 11 = .ok (.ifCond .ne 5, 3) := by decide +kernel
theorem dX8_type_14 : decode cX8_type 14 = .ok (.iconst (-1), 1) := by decide +kernel
theorem dX8_type_15 : decode cX8_type 15 = .ok (.ireturn, 1) := by decide +kernel
theorem dX8_type_16 : decode cX8_type 16 = .ok (.aload_n 0, 1) := by decide +kernel
theorem dX8_type_17 : decode cX8_type 17 = .ok (.getfield 140, 3) := by decide +kernel
theorem dX8_type_20 : decode cX8_type 20 = .ok (.bipush 100, 2) := by decide +kernel
theorem dX8_type_22 : decode cX8_type 22 = .ok (.if_icmp .ne 6, 3) := by decide +kernel
theorem dX8_type_25 : decode cX8_type 25 = .ok (.bipush (-3), 2) := by decide +kernel
theorem dX8_type_27 : decode cX8_type 27 = .ok (.ireturn, 1) := by decide +kernel
theorem dX8_type_28 : decode cX8_type 28 = .ok (.aload_n 0, 1) := by decide +kernel
theorem dX8_type_29 : decode cX8_type 29 = .ok (.getfield 19, 3) := by decide +kernel
theorem dX8_type_32 : decode cX8_type 32 = .ok (.aload_n 0, 1) := by decide +kernel
theorem dX8_type_33 : decode cX8_type 33 = .ok (.getfield 140, 3) := by decide +kernel
theorem dX8_type_36 : decode cX8_type 36 = .ok (.iload_n 1, 1) := by decide +kernel
theorem dX8_type_37 : decode cX8_type 37 = .ok (.iastore, 1) := by decide +kernel
theorem dX8_type_38 : decode cX8_type 38 = .ok (.aload_n 0, 1) := by decide +kernel
theorem dX8_type_39 : decode cX8_type 39 = .ok (.dup, 1) := by decide +kernel
theorem dX8_type_40 : decode cX8_type 40 = .ok (.getfield 140, 3) := by decide +kernel
theorem dX8_type_43 : decode cX8_type 43 = .ok (.iconst 1, 1) := by decide +kernel
theorem dX8_type_44 : decode cX8_type 44 = .ok (.iadd, 1) := by decide +kernel
theorem dX8_type_45 : decode cX8_type 45 = .ok (.putfield 140, 3) := by decide +kernel
theorem dX8_type_48 : decode cX8_type 48 = .ok (.aload_n 0, 1) := by decide +kernel
theorem dX8_type_49 : decode cX8_type 49 = .ok (.getfield 140, 3) := by decide +kernel
theorem dX8_type_52 : decode cX8_type 52 = .ok (.ireturn, 1) := by decide +kernel
theorem dX8_here_0 : decode cX8_here 0 = .ok (.aload_n 0, 1) := by decide +kernel
theorem dX8_here_1 : decode cX8_here 1 = .ok (.getfield 143, 3) := by decide +kernel
theorem dX8_here_4 : decode cX8_here 4 = .ok (.aload_n 0, 1) := by decide +kernel
theorem dX8_here_5 : decode cX8_here 5 = .ok (.getfield 140, 3) := by decide +kernel
theorem dX8_here_8 : decode cX8_here 8 = .ok (.if_icmp .ge 30, 3) := by decide +kernel
theorem dX8_here_11 : decode cX8_here 11 = .ok (.aload_n 0, 1) := by decide +kernel
theorem dX8_here_12 : decode cX8_here 12 = .ok (.getfield 19, 3) := by decide +kernel
theorem dX8_here_15 : decode cX8_here 15 = .ok (.aload_n 0, 1) := by decide +kernel
theorem dX8_here_16 : decode cX8_here 16 = .ok (.getfield 143, 3) := by decide +kernel
theorem dX8_here_19 : decode cX8_here 19 = .ok (.iaload, 1) := by decide +kernel
theorem dX8_here_20 : decode cX8_here 20 = .ok (.bipush 32, 2) := by decide +kernel
theorem dX8_here_22 : decode cX8_here 22 = .ok (.if_icmp .ne 16, 3) := by decide +kernel
theorem dX8_here_25 : decode cX8_here 25 = .ok (.aload_n 0, 1) := by decide +kernel
theorem dX8_here_26 : decode cX8_here 26 = .ok (.dup, 1) := by decide +kernel
theorem dX8_here_27 : decode cX8_here 27 = .ok (.getfield 143, 3) := by decide +kernel
theorem dX8_here_30 : decode cX8_here 30 = .ok (.iconst 1, 1) := by decide +kernel
theorem dX8_here_31 : decode cX8_here 31 = .ok (.iadd, 1) := by decide +kernel
theorem dX8_here_32 : decode cX8_here 32 = .ok (.putfield 143, 3) := by decide +kernel
theorem dX8_here_35 : decode cX8_here 35 = .ok (.goto (-35), 3) := by decide +kernel
theorem dX8_here_38 : decode cX8_here 38 = .ok (.aload_n 0, 1) := by decide +kernel
theorem dX8_here_39 : decode cX8_here 39 = .ok (.getfield 143, 3) := by decide +kernel
theorem dX8_here_42 : decode cX8_here 42 = .ok (.aload_n 0, 1) := by decide +kernel
theorem dX8_here_43 : decode cX8_here 43 = .ok (.getfield 140, 3) := by decide +kernel
theorem dX8_here_46 : decode cX8_here 46 = .ok (.if_icmp .ge 15, 3) := by decide +kernel
theorem dX8_here_49 : decode cX8_here 49 = .ok (.aload_n 0, 1) := by decide +kernel
theorem dX8_here_50 : decode cX8_here 50 = .ok (.getfield 19, 3) := by decide +kernel
theorem dX8_here_53 : decode cX8_here 53 = .ok (.aload_n 0, 1) := by decide +kernel
theorem dX8_here_54 : decode cX8_here 54 = .ok (.getfield 143, 3) := by decide +kernel
theorem dX8_here_57 : decode cX8_here 57 = .ok (.iaload, 1) := by decide +kernel
theorem dX8_here_58 : decode cX8_here 58 = .ok (.goto 4, 3) := by decide +kernel
theorem dX8_here_61 : decode cX8_here 61 = .ok (.iconst 0, 1) := by decide +kernel
theorem dX8_here_62 : decode cX8_here 62 = .ok (.ireturn, 1) := by decide +kernel
theorem dX8_has_0 : decode cX8_has 0 = .ok (.aload_n 0, 1) := by decide +kernel
theorem dX8_has_1 : decode cX8_has 1 = .ok (.getfield 146, 3) := by decide +kernel
theorem dX8_has_4 : decode cX8_has 4 = .ok (.ifCond .ne 15, 3) := by decide +kernel
theorem dX8_has_7 : decode cX8_has 7 = .ok (.aload_n 0, 1) := by decide +kernel
theorem dX8_has_8 : decode cX8_has 8 = .ok (.invokevirtual 149, 3) := by decide +kernel
theorem dX8_has_11 : decode cX8_has 11 = .ok (.iload_n 1, 1) := by decide +kernel
theorem dX8_has_12 : decode cX8_has 12 = .ok (.if_icmp .ne 7, 3) := by decide +kernel
theorem dX8_has_15 : decode cX8_has 15 = .ok (.iconst 1, 1) := by decide +kernel
theorem dX8_has_16 : decode cX8_has 16 = .ok (.goto 4, 3) := by decide +kernel
theorem dX8_has_19 : decode cX8_has 19 = .ok (.iconst 0, 1) := by decide +kernel
theorem dX8_has_20 : decode cX8_has 20 = .ok (.istore_n 2, 1) := by decide +kernel
theorem dX8_has_21 : decode cX8_has 21 = .ok (.aload_n 0, 1) := by decide +kernel
theorem dX8_has_22 : decode cX8_has 22 = .ok (.dup, 1) := by decide +kernel
theorem dX8_has_23 : decode cX8_has 23 = .ok (.getfield 143, 3) := by decide +kernel
theorem dX8_has_26 : decode cX8_has 26 = .ok (.iload_n 2, 1) := by decide +kernel
theorem dX8_has_27 : decode cX8_has 27 = .ok (.ifCond .eq 7, 3) := by decide +kernel
theorem dX8_has_30 : decode cX8_has 30 = .ok (.iconst 1, 1) := by decide +kernel
theorem dX8_has_31 : decode cX8_has 31 = .ok (.goto 4, 3) := by decide +kernel
theorem dX8_has_34 : decode cX8_has 34 = .ok (.iconst 0, 1) := by decide +kernel
theorem dX8_has_35 : decode cX8_has 35 = .ok (.iadd, 1) := by decide +kernel
theorem dX8_has_36 : decode cX8_has 36 = .ok (.putfield 143, 3) := by decide +kernel
theorem dX8_has_39 : decode cX8_has 39 = .ok (.iload_n 2, 1) := by decide +kernel
theorem dX8_has_40 : decode cX8_has 40 = .ok (.ireturn, 1) := by decide +kernel
theorem dX8_sign_0 : decode cX8_sign 0 = .ok (.aload_n 0, 1) := by decide +kernel
theorem dX8_sign_1 : decode cX8_sign 1 = .ok (.invokevirtual 149, 3) := by decide +kernel
theorem dX8_sign_4 : decode cX8_sign 4 = .ok (.istore_n 1, 1) := by decide +kernel
theorem dX8_sign_5 : decode cX8_sign 5 = .ok (.iload_n 1, 1) := by decide +kernel
theorem dX8_sign_6 : decode cX8_sign 6 = .ok (.bipush 46, 2) := by decide +kernel
theorem dX8_sign_8 : decode cX8_sign 8 = .ok (.if_icmp .ne 7, 3) := by decide +kernel
theorem dX8_sign_11 : decode cX8_sign 11 = .ok (.iconst 0, 1) := by decide +kernel
theorem dX8_sign_12 : decode cX8_sign 12 = .ok (.goto 25, 3) := by decide +kernel
theorem dX8_sign_15 : decode cX8_sign 15 = .ok (.iload_n 1, 1) := by decide +kernel
theorem dX8_sign_16 : decode cX8_sign 16 = .ok (.bipush 47, 2) := by decide +kernel
theorem dX8_sign_18 : decode cX8_sign 18 = .ok (.if_icmp .ne 7, 3) := by decide +kernel
theorem dX8_sign_21 : decode cX8_sign 21 = .ok (.iconst 1, 1) := by decide +kernel
theorem dX8_sign_22 : decode cX8_sign 22 = .ok (.goto 15, 3) := by decide +kernel
theorem dX8_sign_25 : decode cX8_sign 25 = .ok (.iload_n 1, 1) := by decide +kernel
theorem dX8_sign_26 : decode cX8_sign 26 = .ok (.bipush 118, 2) := by decide +kernel
theorem dX8_sign_28 : decode cX8_sign 28 = .ok (.if_icmp .ne 7, 3) := by decide +kernel
theorem dX8_sign_31 : decode cX8_sign 31 = .ok (.iconst 2, 1) := by decide +kernel
theorem dX8_sign_32 : decode cX8_sign 32 = .ok (.goto 5, 3) := by decide +kernel
theorem dX8_sign_35 : decode cX8_sign 35 = .ok (.bipush (-4), 2) := by decide +kernel
theorem dX8_sign_37 : decode cX8_sign 37 = .ok (.ireturn, 1) := by decide +kernel
theorem dX8_digit_0 : decode cX8_digit 0 = .ok (.aload_n 0, 1) := by decide +kernel
theorem dX8_digit_1 : decode cX8_digit 1 = .ok (.getfield 146, 3) := by decide +kernel
theorem dX8_digit_4 : decode cX8_digit 4 = .ok (.ifCond .eq 7, 3) := by decide +kernel
theorem dX8_digit_7 : decode cX8_digit 7 = .ok (.iload_n 1, 1) := by decide +kernel
theorem dX8_digit_8 : decode cX8_digit 8 = .ok (.goto 10, 3) := by decide +kernel
theorem dX8_digit_11 : decode cX8_digit 11 = .ok (.aload_n 0, 1) := by decide +kernel
theorem dX8_digit_12 : decode cX8_digit 12 = .ok (.invokevirtual 149, 3) := by decide +kernel
theorem dX8_digit_15 : decode cX8_digit 15 = .ok (.bipush 48, 2) := by decide +kernel
theorem dX8_digit_17 : decode cX8_digit 17 = .ok (.isub, 1) := by decide +kernel
theorem dX8_digit_18 : decode cX8_digit 18 = .ok (.istore_n 3, 1) := by decide +kernel
theorem dX8_digit_19 : decode cX8_digit 19 = .ok (.aload_n 0, 1) := by decide +kernel
theorem dX8_digit_20 : decode cX8_digit 20 = .ok (.aload_n 0, 1) := by decide +kernel
theorem dX8_digit_21 : decode cX8_digit 21 = .ok (.getfield 146, 3) := by decide +kernel
theorem dX8_digit_24 : decode cX8_digit 24 = .ok (.ifCond .ne 15, 3) := by decide +kernel
theorem dX8_digit_27 : decode cX8_digit 27 = .ok (.iload_n 3, 1) := by decide +kernel
theorem dX8_digit_28 : decode cX8_digit 28 = .ok (.i2l, 1) := by decide +kernel
theorem dX8_digit_29 : decode cX8_digit 29 = .ok (.iload_n 1, 1) := by decide +kernel
theorem dX8_digit_30 : decode cX8_digit 30 = .ok (.i2l, 1) := by decide +kernel
theorem dX8_digit_31 : decode cX8_digit 31 = .ok (.iload_n 2, 1) := by decide +kernel
theorem dX8_digit_32 : decode cX8_digit 32 = .ok (.i2l, 1) := by decide +kernel
theorem dX8_digit_33 : decode cX8_digit 33 = .ok (.invokestatic 69, 3) := by decide +kernel
theorem dX8_digit_36 : decode cX8_digit 36 = .ok (.ifCond .ne 7, 3) := by decide +kernel
theorem dX8_digit_39 : decode cX8_digit 39 = .ok (.iconst 1, 1) := by decide +kernel
theorem dX8_digit_40 : decode cX8_digit 40 = .ok (.goto 4, 3) := by decide +kernel
theorem dX8_digit_43 : decode cX8_digit 43 = .ok (.iconst 0, 1) := by decide +kernel
theorem dX8_digit_44 : decode cX8_digit 44 = .ok (.putfield 146, 3) := by decide +kernel
theorem dX8_digit_47 : decode cX8_digit 47 = .ok (.aload_n 0, 1) := by decide +kernel
theorem dX8_digit_48 : decode cX8_digit 48 = .ok (.dup, 1) := by decide +kernel
theorem dX8_digit_49 : decode cX8_digit 49 = .ok (.getfield 143, 3) := by decide +kernel
theorem dX8_digit_52 : decode cX8_digit 52 = .ok (.aload_n 0, 1) := by decide +kernel
theorem dX8_digit_53 : decode cX8_digit 53 = .ok (.getfield 146, 3) := by decide +kernel
theorem dX8_digit_56 : decode cX8_digit 56 = .ok (.ifCond .eq 7, 3) := by decide +kernel
theorem dX8_digit_59 : decode cX8_digit 59 = .ok (.iconst 0, 1) := by decide +kernel
theorem dX8_digit_60 : decode cX8_digit 60 = .ok (.goto 4, 3) := by decide +kernel
theorem dX8_digit_63 : decode cX8_digit 63 = .ok (.iconst 1, 1) := by decide +kernel
theorem dX8_digit_64 : decode cX8_digit 64 = .ok (.iadd, 1) := by decide +kernel
theorem dX8_digit_65 : decode cX8_digit 65 = .ok (.putfield 143, 3) := by decide +kernel
theorem dX8_digit_68 : decode cX8_digit 68 = .ok (.iload_n 3, 1) := by decide +kernel
theorem dX8_digit_69 : decode cX8_digit 69 = .ok (.ireturn, 1) := by decide +kernel
theorem dX8_readFighter_0 : decode cX8_readFighter 0 = .ok (.iconst 4, 1) := by decide +kernel
theorem dX8_readFighter_1 : decode cX8_readFighter 1 = .ok (.aload_n 0, 1) := by decide +kernel
theorem dX8_readFighter_2 : decode cX8_readFighter 2 = .ok (.getfield 153, 3) := by decide +kernel
theorem dX8_readFighter_5 : decode cX8_readFighter 5 = .ok (.imul, 1) := by decide +kernel
theorem dX8_readFighter_6 : decode cX8_readFighter 6 = .ok (.istore_n 1, 1) := by decide +kernel
theorem dX8_readFighter_7 : decode cX8_readFighter 7 = .ok (.aload_n 0, 1) := by decide +kernel
theorem dX8_readFighter_8 : decode cX8_readFighter 8 = .ok (.getfield 146, 3) := by decide +kernel
theorem dX8_readFighter_11 : decode cX8_readFighter 11 = .ok (.ifCond .eq 7, 3) := by decide +kernel
theorem dX8_readFighter_14 : decode cX8_readFighter 14 = .ok (.iconst 0, 1) := by decide +kernel
theorem dX8_readFighter_15 : decode cX8_readFighter 15 = .ok (.goto 7, 3) := by decide +kernel
theorem dX8_readFighter_18 : decode cX8_readFighter 18 = .ok (.aload_n 0, 1) := by decide +kernel
theorem dX8_readFighter_19 : decode cX8_readFighter 19 = .ok (.invokevirtual 149, 3) := by decide +kernel
theorem dX8_readFighter_22 : decode cX8_readFighter 22 = .ok (.istore_n 2, 1) := by decide +kernel
theorem dX8_readFighter_23 : decode cX8_readFighter 23 = .ok (.aload_n 0, 1) := by decide +kernel
theorem dX8_readFighter_24 : decode cX8_readFighter 24 = .ok (.getfield 25, 3) := by decide +kernel
theorem dX8_readFighter_27 : decode cX8_readFighter 27 = .ok (.iload_n 1, 1) := by decide +kernel
theorem dX8_readFighter_28 : decode cX8_readFighter 28 = .ok (.iload_n 2, 1) := by decide +kernel
theorem dX8_readFighter_29 : decode cX8_readFighter 29 = .ok (.bipush 112, 2) := by decide +kernel
theorem dX8_readFighter_31 : decode cX8_readFighter 31 = .ok (.if_icmp .ne 7, 3) := by decide +kernel
theorem dX8_readFighter_34 : decode cX8_readFighter 34 = .ok (.iconst 0, 1) := by decide +kernel
theorem dX8_readFighter_35 : decode cX8_readFighter 35 = .ok (.goto 24, 3) := by decide +kernel
theorem dX8_readFighter_38 : decode cX8_readFighter 38 = .ok (.iload_n 2, 1) := by decide +kernel
theorem dX8_readFighter_39 : decode cX8_readFighter 39 = .ok (.bipush 115, 2) := by decide +kernel
theorem dX8_readFighter_41 : decode cX8_readFighter 41 = .ok (.if_icmp .ne 7, 3) := by decide +kernel
theorem dX8_readFighter_44 : decode cX8_readFighter 44 = .ok (.iconst 1, 1) := by decide +kernel
theorem dX8_readFighter_45 : decode cX8_readFighter 45 = .ok (.goto 14, 3) := by decide +kernel
theorem dX8_readFighter_48 : decode cX8_readFighter 48 = .ok (.iload_n 2, 1) := by decide +kernel
theorem dX8_readFighter_49 : decode cX8_readFighter 49 = .ok (.bipush 108, 2) := by decide +kernel
theorem dX8_readFighter_51 : decode cX8_readFighter 51 = .ok (.if_icmp .ne 7, 3) := by decide +kernel
theorem dX8_readFighter_54 : decode cX8_readFighter 54 = .ok (.iconst 2, 1) := by decide +kernel
theorem dX8_readFighter_55 : decode cX8_readFighter 55 = .ok (.goto 4, 3) := by decide +kernel
theorem dX8_readFighter_58 : decode cX8_readFighter 58 = .ok (.iconst 3, 1) := by decide +kernel
theorem dX8_readFighter_59 : decode cX8_readFighter 59 = .ok (.iastore, 1) := by decide +kernel
theorem dX8_readFighter_60 : decode cX8_readFighter 60 = .ok (.aload_n 0, 1) := by decide +kernel
theorem dX8_readFighter_61 : decode cX8_readFighter 61 = .ok (.aload_n 0, 1) := by decide +kernel
theorem dX8_readFighter_62 : decode cX8_readFighter 62 = .ok (.getfield 146, 3) := by decide +kernel
theorem dX8_readFighter_65 : decode cX8_readFighter 65 = .ok (.ifCond .ne 27, 3) := by decide +kernel
theorem dX8_readFighter_68 : decode cX8_readFighter 68 = .ok (.iload_n 2, 1) := by decide +kernel
theorem dX8_readFighter_69 : decode cX8_readFighter 69 = .ok (.bipush 112, 2) := by decide +kernel
theorem dX8_readFighter_71 : decode cX8_readFighter 71 = .ok (.if_icmp .eq 25, 3) := by decide +kernel
theorem dX8_readFighter_74 : decode cX8_readFighter 74 = .ok (.iload_n 2, 1) := by decide +kernel
theorem dX8_readFighter_75 : decode cX8_readFighter 75 = .ok (.bipush 115, 2) := by decide +kernel
theorem dX8_readFighter_77 : decode cX8_readFighter 77 = .ok (.if_icmp .eq 19, 3) := by decide +kernel
theorem dX8_readFighter_80 : decode cX8_readFighter 80 = .ok (.iload_n 2, 1) := by decide +kernel
theorem dX8_readFighter_81 : decode cX8_readFighter 81 = .ok (.bipush 108, 2) := by decide +kernel
theorem dX8_readFighter_83 : decode cX8_readFighter 83 = .ok (.if_icmp .eq 13, 3) := by decide +kernel
theorem dX8_readFighter_86 : decode cX8_readFighter 86 = .ok (.iload_n 2, 1) := by decide +kernel
theorem dX8_readFighter_87 : decode cX8_readFighter 87 = .ok (.bipush 102, 2) := by decide +kernel
theorem dX8_readFighter_89 : decode cX8_readFighter 89 = .ok (.if_icmp .eq 7, 3) := by decide +kernel
theorem dX8_readFighter_92 : decode cX8_readFighter 92 = .ok (.iconst 1, 1) := by decide +kernel
theorem dX8_readFighter_93 : decode cX8_readFighter 93 = .ok (.goto 4, 3) := by decide +kernel
theorem dX8_readFighter_96 : decode cX8_readFighter 96 = .ok (.iconst 0, 1) := by decide +kernel
theorem dX8_readFighter_97 : decode cX8_readFighter 97 = .ok (.putfield 146, 3) := by decide +kernel
theorem dX8_readFighter_100 : decode cX8_readFighter 100 = .ok (.aload_n 0, 1) := by decide +kernel
theorem dX8_readFighter_101 : decode cX8_readFighter 101 = .ok (.dup, 1) := by decide +kernel
theorem dX8_readFighter_102 : decode cX8_readFighter 102 = .ok (.getfield 143, 3) := by decide +kernel
theorem dX8_readFighter_105 : decode cX8_readFighter 105 = .ok (.aload_n 0, 1) := by decide +kernel
theorem dX8_readFighter_106 : decode cX8_readFighter 106 = .ok (.getfield 146, 3) := by decide +kernel
theorem dX8_readFighter_109 : decode cX8_readFighter 109 = .ok (.ifCond .eq 7, 3) := by decide +kernel
theorem dX8_readFighter_112 : decode cX8_readFighter 112 = .ok (.iconst 0, 1) := by decide +kernel
theorem dX8_readFighter_113 : decode cX8_readFighter 113 = .ok (.goto 4, 3) := by decide +kernel
theorem dX8_readFighter_116 : decode cX8_readFighter 116 = .ok (.iconst 1, 1) := by decide +kernel
theorem dX8_readFighter_117 : decode cX8_readFighter 117 = .ok (.iadd, 1) := by decide +kernel
theorem dX8_readFighter_118 : decode cX8_readFighter 118 = .ok (.putfield 143, 3) := by decide +kernel
theorem dX8_readFighter_121 : decode cX8_readFighter 121 = .ok (.aload_n 0, 1) := by decide +kernel
theorem dX8_readFighter_122 : decode cX8_readFighter 122 = .ok (.getfield 25, 3) := by decide +kernel
theorem dX8_readFighter_125 : decode cX8_readFighter 125 = .ok (.iload_n 1, 1) := by decide +kernel
theorem dX8_readFighter_126 : decode cX8_readFighter 126 = .ok (.iconst 1, 1) := by decide +kernel
theorem dX8_readFighter_127 : decode cX8_readFighter 127 = .ok (.iadd, 1) := by decide +kernel
theorem dX8_readFighter_128 : decode cX8_readFighter 128 = .ok (.aload_n 0, 1) := by decide +kernel
theorem dX8_readFighter_129 : decode cX8_readFighter 129 = .ok (.iconst 1, 1) := by decide +kernel
theorem dX8_readFighter_130 : decode cX8_readFighter 130 = .ok (.bipush 9, 2) := by decide +kernel
theorem dX8_readFighter_132 : decode cX8_readFighter 132 = .ok (.invokevirtual 156, 3) := by decide +kernel
theorem dX8_readFighter_135 : decode cX8_readFighter 135 = .ok (.iastore, 1) := by decide +kernel
theorem dX8_readFighter_136 : decode cX8_readFighter 136 = .ok (.aload_n 0, 1) := by decide +kernel
theorem dX8_readFighter_137 : decode cX8_readFighter 137 = .ok (.getfield 25, 3) := by decide +kernel
theorem dX8_readFighter_140 : decode cX8_readFighter 140 = .ok (.iload_n 1, 1) := by decide +kernel
theorem dX8_readFighter_141 : decode cX8_readFighter 141 = .ok (.iconst 2, 1) := by decide +kernel
theorem dX8_readFighter_142 : decode cX8_readFighter 142 = .ok (.iadd, 1) := by decide +kernel
theorem dX8_readFighter_143 : decode cX8_readFighter 143 = .ok (.aload_n 0, 1) := by decide +kernel
theorem dX8_readFighter_144 : decode cX8_readFighter 144 = .ok (.iconst 1, 1) := by decide +kernel
theorem dX8_readFighter_145 : decode cX8_readFighter 145 = .ok (.bipush 6, 2) := by decide +kernel
theorem dX8_readFighter_147 : decode cX8_readFighter 147 = .ok (.invokevirtual 156, 3) := by decide +kernel
theorem dX8_readFighter_150 : decode cX8_readFighter 150 = .ok (.iastore, 1) := by decide +kernel
theorem dX8_readFighter_151 : decode cX8_readFighter 151 = .ok (.aload_n 0, 1) := by decide +kernel
theorem dX8_readFighter_152 : decode cX8_readFighter 152 = .ok (.getfield 25, 3) := by decide +kernel
theorem dX8_readFighter_155 : decode cX8_readFighter 155 = .ok (.iload_n 1, 1) := by decide +kernel
theorem dX8_readFighter_156 : decode cX8_readFighter 156 = .ok (.iconst 3, 1) := by decide +kernel
theorem dX8_readFighter_157 : decode cX8_readFighter 157 = .ok (.iadd, 1) := by decide +kernel
theorem dX8_readFighter_158 : decode cX8_readFighter 158 = .ok (.aload_n 0, 1) := by decide +kernel
theorem dX8_readFighter_159 : decode cX8_readFighter 159 = .ok (.bipush 45, 2) := by decide +kernel
theorem dX8_readFighter_161 : decode cX8_readFighter 161 = .ok (.invokevirtual 159, 3) := by decide +kernel
theorem dX8_readFighter_164 : decode cX8_readFighter 164 = .ok (.ifCond .eq 13, 3) := by decide +kernel
theorem dX8_readFighter_167 : decode cX8_readFighter 167 = .ok (.aload_n 0, 1) := by decide +kernel
theorem dX8_readFighter_168 : decode cX8_readFighter 168 = .ok (.iconst 0, 1) := by decide +kernel
theorem dX8_readFighter_169 : decode cX8_readFighter 169 = .ok (.bipush 6, 2) := by decide +kernel
theorem dX8_readFighter_171 : decode cX8_readFighter 171 = .ok (.invokevirtual 156, 3) := by decide +kernel
theorem dX8_readFighter_174 : decode cX8_readFighter 174 = .ok (.goto 4, 3) := by decide +kernel
theorem dX8_readFighter_177 : decode cX8_readFighter 177 = .ok (.iconst 0, 1) := by decide +kernel
theorem dX8_readFighter_178 : decode cX8_readFighter 178 = .ok (.iastore, 1) := by decide +kernel
theorem dX8_readFighter_179 : decode cX8_readFighter 179 = .ok (.aload_n 0, 1) := by decide +kernel
theorem dX8_readFighter_180 : decode cX8_readFighter 180 = .ok (.dup, 1) := by decide +kernel
theorem dX8_readFighter_181 : decode cX8_readFighter 181 = .ok (.getfield 153, 3) := by decide +kernel
theorem dX8_readFighter_184 : decode cX8_readFighter 184 = .ok (.iconst 1, 1) := by decide +kernel
theorem dX8_readFighter_185 : decode cX8_readFighter 185 = .ok (.iadd, 1) := by decide +kernel
theorem dX8_readFighter_186 : decode cX8_readFighter 186 = .ok (.putfield 153, 3) := by decide +kernel
theorem dX8_readFighter_189 : decode cX8_readFighter 189 = .ok (.return_, 1) := by decide +kernel
theorem dX8_field_0 : decode cX8_field 0 = .ok (.aload_n 0, 1) := by decide +kernel
theorem dX8_field_1 : decode cX8_field 1 = .ok (.iconst 0, 1) := by decide +kernel
theorem dX8_field_2 : decode cX8_field 2 = .ok (.putfield 143, 3) := by decide +kernel
theorem dX8_field_5 : decode cX8_field 5 = .ok (.aload_n 0, 1) := by decide +kernel
theorem dX8_field_6 : decode cX8_field 6 = .ok (.aload_n 0, 1) := by decide +kernel
theorem dX8_field_7 : decode cX8_field 7 = .ok (.invokevirtual 149, 3) := by decide +kernel
theorem dX8_field_10 : decode cX8_field 10 = .ok (.bipush 46, 2) := by decide +kernel
theorem dX8_field_12 : decode cX8_field 12 = .ok (.if_icmp .eq 7, 3) := by decide +kernel
theorem dX8_field_15 : decode cX8_field 15 = .ok (.iconst 1, 1) := by decide +kernel
theorem dX8_field_16 : decode cX8_field 16 = .ok (.goto 4, 3) := by decide +kernel
theorem dX8_field_19 : decode cX8_field 19 = .ok (.iconst 0, 1) := by decide +kernel
theorem dX8_field_20 : decode cX8_field 20 = .ok (.putfield 146, 3) := by decide +kernel
theorem dX8_field_23 : decode cX8_field 23 = .ok (.aload_n 0, 1) := by decide +kernel
theorem dX8_field_24 : decode cX8_field 24 = .ok (.iconst 0, 1) := by decide +kernel
theorem dX8_field_25 : decode cX8_field 25 = .ok (.putfield 162, 3) := by decide +kernel
theorem dX8_field_28 : decode cX8_field 28 = .ok (.aload_n 0, 1) := by decide +kernel
theorem dX8_field_29 : decode cX8_field 29 = .ok (.iconst 0, 1) := by decide +kernel
theorem dX8_field_30 : decode cX8_field 30 = .ok (.putfield 153, 3) := by decide +kernel
theorem dX8_field_33 : decode cX8_field 33 = .ok (.aload_n 0, 1) := by decide +kernel
theorem dX8_field_34 : decode cX8_field 34 = .ok (.getfield 146, 3) := by decide +kernel
theorem dX8_field_37 : decode cX8_field 37 = .ok (.ifCond .ne 55, 3) := by decide +kernel
theorem dX8_field_40 : decode cX8_field 40 = .ok (.aload_n 0, 1) := by decide +kernel
theorem dX8_field_41 : decode cX8_field 41 = .ok (.getfield 162, 3) := by decide +kernel
theorem dX8_field_44 : decode cX8_field 44 = .ok (.bipush 40, 2) := by decide +kernel
theorem dX8_field_46 : decode cX8_field 46 = .ok (.if_icmp .ge 46, 3) := by decide +kernel
theorem dX8_field_49 : decode cX8_field 49 = .ok (.aload_n 0, 1) := by decide +kernel
theorem dX8_field_50 : decode cX8_field 50 = .ok (.invokevirtual 165, 3) := by decide +kernel
theorem dX8_field_53 : decode cX8_field 53 = .ok (.ifCond .lt 39, 3) := by decide +kernel
theorem dX8_field_56 : decode cX8_field 56 = .ok (.aload_n 0, 1) := by decide +kernel
theorem dX8_field_57 : decode cX8_field 57 = .ok (.getfield 22, 3) := by decide +kernel
theorem dX8_field_60 : decode cX8_field 60 = .ok (.aload_n 0, 1) := by decide +kernel
theorem dX8_field_61 : decode cX8_field 61 = .ok (.getfield 162, 3) := by decide +kernel
theorem dX8_field_64 : decode cX8_field 64 = .ok (.aload_n 0, 1) := by decide +kernel
theorem dX8_field_65 : decode cX8_field 65 = .ok (.invokevirtual 165, 3) := by decide +kernel
theorem dX8_field_68 : decode cX8_field 68 = .ok (.iastore, 1) := by decide +kernel
theorem dX8_field_69 : decode cX8_field 69 = .ok (.aload_n 0, 1) := by decide +kernel
theorem dX8_field_70 : decode cX8_field 70 = .ok (.dup, 1) := by decide +kernel
theorem dX8_field_71 : decode cX8_field 71 = .ok (.getfield 162, 3) := by decide +kernel
theorem dX8_field_74 : decode cX8_field 74 = .ok (.iconst 1, 1) := by decide +kernel
theorem dX8_field_75 : decode cX8_field 75 = .ok (.iadd, 1) := by decide +kernel
theorem dX8_field_76 : decode cX8_field 76 = .ok (.putfield 162, 3) := by decide +kernel
theorem dX8_field_79 : decode cX8_field 79 = .ok (.aload_n 0, 1) := by decide +kernel
theorem dX8_field_80 : decode cX8_field 80 = .ok (.dup, 1) := by decide +kernel
theorem dX8_field_81 : decode cX8_field 81 = .ok (.getfield 143, 3) := by decide +kernel
theorem dX8_field_84 : decode cX8_field 84 = .ok (.iconst 1, 1) := by decide +kernel
theorem dX8_field_85 : decode cX8_field 85 = .ok (.iadd, 1) := by decide +kernel
theorem dX8_field_86 : decode cX8_field 86 = .ok (.putfield 143, 3) := by decide +kernel
theorem dX8_field_89 : decode cX8_field 89 = .ok (.goto (-56), 3) := by decide +kernel
theorem dX8_field_92 : decode cX8_field 92 = .ok (.aload_n 0, 1) := by decide +kernel
theorem dX8_field_93 : decode cX8_field 93 = .ok (.bipush 59, 2) := by decide +kernel
theorem dX8_field_95 : decode cX8_field 95 = .ok (.invokevirtual 159, 3) := by decide +kernel
theorem dX8_field_98 : decode cX8_field 98 = .ok (.istore_n 1, 1) := by decide +kernel
theorem dX8_field_99 : decode cX8_field 99 = .ok (.iload_n 1, 1) := by decide +kernel
theorem dX8_field_100 : decode cX8_field 100 = .ok (.ifCond .eq 33, 3) := by decide +kernel
theorem dX8_field_103 : decode cX8_field 103 = .ok (.aload_n 0, 1) := by decide +kernel
theorem dX8_field_104 : decode cX8_field 104 = .ok (.invokevirtual 168, 3) := by decide +kernel
theorem dX8_field_107 : decode cX8_field 107 = .ok (.aload_n 0, 1) := by decide +kernel
theorem dX8_field_108 : decode cX8_field 108 = .ok (.getfield 153, 3) := by decide +kernel
theorem dX8_field_111 : decode cX8_field 111 = .ok (.iconst 5, 1) := by decide +kernel
theorem dX8_field_112 : decode cX8_field 112 = .ok (.if_icmp .ge 16, 3) := by decide +kernel
theorem dX8_field_115 : decode cX8_field 115 = .ok (.aload_n 0, 1) := by decide +kernel
theorem dX8_field_116 : decode cX8_field 116 = .ok (.bipush 44, 2) := by decide +kernel
theorem dX8_field_118 : decode cX8_field 118 = .ok (.invokevirtual 159, 3) := by decide +kernel
theorem dX8_field_121 : decode cX8_field 121 = .ok (.ifCond .eq 7, 3) := by decide +kernel
theorem dX8_field_124 : decode cX8_field 124 = .ok (.iconst 1, 1) := by decide +kernel
theorem dX8_field_125 : decode cX8_field 125 = .ok (.goto 4, 3) := by decide +kernel
theorem dX8_field_128 : decode cX8_field 128 = .ok (.iconst 0, 1) := by decide +kernel
theorem dX8_field_129 : decode cX8_field 129 = .ok (.istore_n 1, 1) := by decide +kernel
theorem dX8_field_130 : decode cX8_field 130 = .ok (.goto (-31), 3) := by decide +kernel
theorem dX8_field_133 : decode cX8_field 133 = .ok (.aload_n 0, 1) := by decide +kernel
theorem dX8_field_134 : decode cX8_field 134 = .ok (.aload_n 0, 1) := by decide +kernel
theorem dX8_field_135 : decode cX8_field 135 = .ok (.getfield 146, 3) := by decide +kernel
theorem dX8_field_138 : decode cX8_field 138 = .ok (.ifCond .ne 10, 3) := by decide +kernel
theorem dX8_field_141 : decode cX8_field 141 = .ok (.aload_n 0, 1) := by decide +kernel
theorem dX8_field_142 : decode cX8_field 142 = .ok (.invokevirtual 149, 3) := by decide +kernel
theorem dX8_field_145 : decode cX8_field 145 = .ok (.ifCond .eq 7, 3) := by decide +kernel
theorem dX8_field_148 : decode cX8_field 148 = .ok (.iconst 1, 1) := by decide +kernel
theorem dX8_field_149 : decode cX8_field 149 = .ok (.goto 4, 3) := by decide +kernel
theorem dX8_field_152 : decode cX8_field 152 = .ok (.iconst 0, 1) := by decide +kernel
theorem dX8_field_153 : decode cX8_field 153 = .ok (.putfield 146, 3) := by decide +kernel
theorem dX8_field_156 : decode cX8_field 156 = .ok (.aload_n 0, 1) := by decide +kernel
theorem dX8_field_157 : decode cX8_field 157 = .ok (.iconst 0, 1) := by decide +kernel
theorem dX8_field_158 : decode cX8_field 158 = .ok (.putfield 140, 3) := by decide +kernel
theorem dX8_field_161 : decode cX8_field 161 = .ok (.aload_n 0, 1) := by decide +kernel
theorem dX8_field_162 : decode cX8_field 162 = .ok (.getfield 146, 3) := by decide +kernel
theorem dX8_field_165 : decode cX8_field 165 = .ok (.ifCond .eq 11, 3) := by decide +kernel
theorem dX8_field_168 : decode cX8_field 168 = .ok (.bipush (-20), 2) := by decide +kernel
theorem dX8_field_170 : decode cX8_field 170 = .ok (.aload_n 0, 1) := by decide +kernel
theorem dX8_field_171 : decode cX8_field 171 = .ok (.getfield 143, 3) := by decide +kernel
theorem dX8_field_174 : decode cX8_field 174 = .ok (.isub, 1) := by decide +kernel
theorem dX8_field_175 : decode cX8_field 175 = .ok (.ireturn, 1) := by decide +kernel
theorem dX8_field_176 : decode cX8_field 176 = .ok (.aload_n 0, 1) := by decide +kernel
theorem dX8_field_177 : decode cX8_field 177 = .ok (.aload_n 0, 1) := by decide +kernel
theorem dX8_field_178 : decode cX8_field 178 = .ok (.getfield 162, 3) := by decide +kernel
theorem dX8_field_181 : decode cX8_field 181 = .ok (.putfield 62, 3) := by decide +kernel
theorem dX8_field_184 : decode cX8_field 184 = .ok (.iconst 0, 1) := by decide +kernel
theorem dX8_field_185 : decode cX8_field 185 = .ok (.istore_n 2, 1) := by decide +kernel
theorem dX8_field_186 : decode cX8_field 186 = .ok (.iload_n 2, 1) := by decide +kernel
theorem dX8_field_187 : decode cX8_field 187 = .ok (.aload_n 0, 1) := by decide +kernel
theorem dX8_field_188 : decode cX8_field 188 = .ok (.getfield 62, 3) := by decide +kernel
theorem dX8_field_191 : decode cX8_field 191 = .ok (.if_icmp .ge 21, 3) := by decide +kernel
theorem dX8_field_194 : decode cX8_field 194 = .ok (.aload_n 0, 1) := by decide +kernel
theorem dX8_field_195 : decode cX8_field 195 = .ok (.getfield 7, 3) := by decide +kernel
theorem dX8_field_198 : decode cX8_field 198 = .ok (.iload_n 2, 1) := by decide +kernel
theorem dX8_field_199 : decode cX8_field 199 = .ok (.aload_n 0, 1) := by decide +kernel
theorem dX8_field_200 : decode cX8_field 200 = .ok (.getfield 22, 3) := by decide +kernel
theorem dX8_field_203 : decode cX8_field 203 = .ok (.iload_n 2, 1) := by decide +kernel
theorem dX8_field_204 : decode cX8_field 204 = .ok (.iaload, 1) := by decide +kernel
end
section
theorem dX8_field_205 : decode cX8_field 205 = .ok (.iastore, 1) := by decide +kernel
theorem dX8_field_206 : decode cX8_field 206 = .ok (.iinc 2 1, 3) := by decide +kernel
theorem dX8_field_209 : decode cX8_field 209 = .ok (.goto (-23), 3) := by decide +kernel
theorem dX8_field_212 : decode cX8_field 212 = .ok (.aload_n 0, 1) := by decide +kernel
theorem dX8_field_213 : decode cX8_field 213 = .ok (.iconst 0, 1) := by decide +kernel
theorem dX8_field_214 : decode cX8_field 214 = .ok (.putfield 66, 3) := by decide +kernel
theorem dX8_field_217 : decode cX8_field 217 = .ok (.aload_n 0, 1) := by decide +kernel
theorem dX8_field_218 : decode cX8_field 218 = .ok (.getfield 16, 3) := by decide +kernel
theorem dX8_field_221 : decode cX8_field 221 = .ok (.iconst 0, 1) := by decide +kernel
theorem dX8_field_222 : decode cX8_field 222 = .ok (.iconst 0, 1) := by decide +kernel
theorem dX8_field_223 : decode cX8_field 223 = .ok (.iastore, 1) := by decide +kernel
theorem dX8_field_224 : decode cX8_field 224 = .ok (.aload_n 0, 1) := by decide +kernel
theorem dX8_field_225 : decode cX8_field 225 = .ok (.getfield 16, 3) := by decide +kernel
theorem dX8_field_228 : decode cX8_field 228 = .ok (.iconst 1, 1) := by decide +kernel
theorem dX8_field_229 : decode cX8_field 229 = .ok (.bipush (-4), 2) := by decide +kernel
theorem dX8_field_231 : decode cX8_field 231 = .ok (.iastore, 1) := by decide +kernel
theorem dX8_field_232 : decode cX8_field 232 = .ok (.aload_n 0, 1) := by decide +kernel
theorem dX8_field_233 : decode cX8_field 233 = .ok (.iconst 0, 1) := by decide +kernel
theorem dX8_field_234 : decode cX8_field 234 = .ok (.putfield 88, 3) := by decide +kernel
theorem dX8_field_237 : decode cX8_field 237 = .ok (.iconst 0, 1) := by decide +kernel
theorem dX8_field_238 : decode cX8_field 238 = .ok (.istore_n 2, 1) := by decide +kernel
theorem dX8_field_239 : decode cX8_field 239 = .ok (.iload_n 2, 1) := by decide +kernel
theorem dX8_field_240 : decode cX8_field 240 = .ok (.aload_n 0, 1) := by decide +kernel
theorem dX8_field_241 : decode cX8_field 241 = .ok (.getfield 153, 3) := by decide +kernel
theorem dX8_field_244 : decode cX8_field 244 = .ok (.if_icmp .ge 51, 3) := by decide +kernel
theorem dX8_field_247 : decode cX8_field 247 = .ok (.aload_n 0, 1) := by decide +kernel
theorem dX8_field_248 : decode cX8_field 248 = .ok (.aload_n 0, 1) := by decide +kernel
theorem dX8_field_249 : decode cX8_field 249 = .ok (.getfield 25, 3) := by decide +kernel
theorem dX8_field_252 : decode cX8_field 252 = .ok (.iconst 4, 1) := by decide +kernel
theorem dX8_field_253 : decode cX8_field 253 = .ok (.iload_n 2, 1) := by decide +kernel
theorem dX8_field_254 : decode cX8_field 254 = .ok (.imul, 1) := by decide +kernel
theorem dX8_field_255 : decode cX8_field 255 = .ok (.iaload, 1) := by decide +kernel
theorem dX8_field_256 : decode cX8_field 256 = .ok (.aload_n 0, 1) := by decide +kernel
theorem dX8_field_257 : decode cX8_field 257 = .ok (.getfield 25, 3) := by decide +kernel
theorem dX8_field_260 : decode cX8_field 260 = .ok (.iconst 4, 1) := by decide +kernel
theorem dX8_field_261 : decode cX8_field 261 = .ok (.iload_n 2, 1) := by decide +kernel
theorem dX8_field_262 : decode cX8_field 262 = .ok (.imul, 1) := by decide +kernel
theorem dX8_field_263 : decode cX8_field 263 = .ok (.iconst 1, 1) := by decide +kernel
theorem dX8_field_264 : decode cX8_field 264 = .ok (.iadd, 1) := by decide +kernel
theorem dX8_field_265 : decode cX8_field 265 = .ok (.iaload, 1) := by decide +kernel
theorem dX8_field_266 : decode cX8_field 266 = .ok (.aload_n 0, 1) := by decide +kernel
theorem dX8_field_267 : decode cX8_field 267 = .ok (.getfield 25, 3) := by decide +kernel
theorem dX8_field_270 : decode cX8_field 270 = .ok (.iconst 4, 1) := by decide +kernel
theorem dX8_field_271 : decode cX8_field 271 = .ok (.iload_n 2, 1) := by decide +kernel
theorem dX8_field_272 : decode cX8_field 272 = .ok (.imul, 1) := by decide +kernel
theorem dX8_field_273 : decode cX8_field 273 = .ok (.iconst 2, 1) := by decide +kernel
theorem dX8_field_274 : decode cX8_field 274 = .ok (.iadd, 1) := by decide +kernel
theorem dX8_field_275 : decode cX8_field 275 = .ok (.iaload, 1) := by decide +kernel
theorem dX8_field_276 : decode cX8_field 276 = .ok (.aload_n 0, 1) := by decide +kernel
theorem dX8_field_277 : decode cX8_field 277 = .ok (.getfield 25, 3) := by decide +kernel
theorem dX8_field_280 : decode cX8_field 280 = .ok (.iconst 4, 1) := by decide +kernel
theorem dX8_field_281 : decode cX8_field 281 = .ok (.iload_n 2, 1) := by decide +kernel
theorem dX8_field_282 : decode cX8_field 282 = .ok (.imul, 1) := by decide +kernel
theorem dX8_field_283 : decode cX8_field 283 = .ok (.iconst 3, 1) := by decide +kernel
theorem dX8_field_284 : decode cX8_field 284 = .ok (.iadd, 1) := by decide +kernel
theorem dX8_field_285 : decode cX8_field 285 = .ok (.iaload, 1) := by decide +kernel
theorem dX8_field_286 : decode cX8_field 286 = .ok (.invokevirtual 84, 3) := by decide +kernel
theorem dX8_field_289 : decode cX8_field 289 = .ok (.iinc 2 1, 3) := by decide +kernel
theorem dX8_field_292 : decode cX8_field 292 = .ok (.goto (-53), 3) := by decide +kernel
theorem dX8_field_295 : decode cX8_field 295 = .ok (.aload_n 0, 1) := by decide +kernel
theorem dX8_field_296 : decode cX8_field 296 = .ok (.getfield 66, 3) := by decide +kernel
theorem dX8_field_299 : decode cX8_field 299 = .ok (.ireturn, 1) := by decide +kernel
theorem dX8_down_0 : decode cX8_down 0 = .ok (.iconst 0, 1) := by decide +kernel
theorem dX8_down_1 : decode cX8_down 1 = .ok (.istore_n 1, 1) := by decide +kernel
theorem dX8_down_2 : decode cX8_down 2 = .ok (.iconst 0, 1) := by decide +kernel
theorem dX8_down_3 : decode cX8_down 3 = .ok (.istore_n 2, 1) := by decide +kernel
theorem dX8_down_4 : decode cX8_down 4 = .ok (.iload_n 2, 1) := by decide +kernel
theorem dX8_down_5 : decode cX8_down 5 = .ok (.aload_n 0, 1) := by decide +kernel
theorem dX8_down_6 : decode cX8_down 6 = .ok (.getfield 66, 3) := by decide +kernel
theorem dX8_down_9 : decode cX8_down 9 = .ok (.if_icmp .ge 27, 3) := by decide +kernel
theorem dX8_down_12 : decode cX8_down 12 = .ok (.iload_n 1, 1) := by decide +kernel
theorem dX8_down_13 : decode cX8_down 13 = .ok (.aload_n 0, 1) := by decide +kernel
theorem dX8_down_14 : decode cX8_down 14 = .ok (.iload_n 2, 1) := by decide +kernel
theorem dX8_down_15 : decode cX8_down 15 = .ok (.invokevirtual 103, 3) := by decide +kernel
theorem dX8_down_18 : decode cX8_down 18 = .ok (.ifCond .eq 9, 3) := by decide +kernel
theorem dX8_down_21 : decode cX8_down 21 = .ok (.iconst 1, 1) := by decide +kernel
theorem dX8_down_22 : decode cX8_down 22 = .ok (.iload_n 2, 1) := by decide +kernel
theorem dX8_down_23 : decode cX8_down 23 = .ok (.ishl, 1) := by decide +kernel
theorem dX8_down_24 : decode cX8_down 24 = .ok (.goto 4, 3) := by decide +kernel
theorem dX8_down_27 : decode cX8_down 27 = .ok (.iconst 0, 1) := by decide +kernel
theorem dX8_down_28 : decode cX8_down 28 = .ok (.ior, 1) := by decide +kernel
theorem dX8_down_29 : decode cX8_down 29 = .ok (.istore_n 1, 1) := by decide +kernel
theorem dX8_down_30 : decode cX8_down 30 = .ok (.iinc 2 1, 3) := by decide +kernel
theorem dX8_down_33 : decode cX8_down 33 = .ok (.goto (-29), 3) := by decide +kernel
theorem dX8_down_36 : decode cX8_down 36 = .ok (.iload_n 1, 1) := by decide +kernel
theorem dX8_down_37 : decode cX8_down 37 = .ok (.ireturn, 1) := by decide +kernel
theorem dX8_over_0 : decode cX8_over 0 = .ok (.aload_n 0, 1) := by decide +kernel
theorem dX8_over_1 : decode cX8_over 1 = .ok (.invokevirtual 171, 3) := by decide +kernel
theorem dX8_over_4 : decode cX8_over 4 = .ok (.istore_n 1, 1) := by decide +kernel
theorem dX8_over_5 : decode cX8_over 5 = .ok (.aload_n 0, 1) := by decide +kernel
theorem dX8_over_6 : decode cX8_over 6 = .ok (.getfield 66, 3) := by decide +kernel
theorem dX8_over_9 : decode cX8_over 9 = .ok (.iconst 2, 1) := by decide +kernel
theorem dX8_over_10 : decode cX8_over 10 = .ok (.if_icmp .ge 7, 3) := by decide +kernel
theorem dX8_over_13 : decode cX8_over 13 = .ok (.iconst 3, 1) := by decide +kernel
theorem dX8_over_14 : decode cX8_over 14 = .ok (.goto 31, 3) := by decide +kernel
theorem dX8_over_17 : decode cX8_over 17 = .ok (.iload_n 1, 1) := by decide +kernel
theorem dX8_over_18 : decode cX8_over 18 = .ok (.iconst 1, 1) := by decide +kernel
theorem dX8_over_19 : decode cX8_over 19 = .ok (.iand, 1) := by decide +kernel
theorem dX8_over_20 : decode cX8_over 20 = .ok (.iconst 1, 1) := by decide +kernel
theorem dX8_over_21 : decode cX8_over 21 = .ok (.if_icmp .ne 7, 3) := by decide +kernel
theorem dX8_over_24 : decode cX8_over 24 = .ok (.iconst 2, 1) := by decide +kernel
theorem dX8_over_25 : decode cX8_over 25 = .ok (.goto 20, 3) := by decide +kernel
theorem dX8_over_28 : decode cX8_over 28 = .ok (.iload_n 1, 1) := by decide +kernel
theorem dX8_over_29 : decode cX8_over 29 = .ok (.iconst 1, 1) := by decide +kernel
theorem dX8_over_30 : decode cX8_over 30 = .ok (.aload_n 0, 1) := by decide +kernel
theorem dX8_over_31 : decode cX8_over 31 = .ok (.getfield 66, 3) := by decide +kernel
theorem dX8_over_34 : decode cX8_over 34 = .ok (.ishl, 1) := by decide +kernel
theorem dX8_over_35 : decode cX8_over 35 = .ok (.iconst 2, 1) := by decide +kernel
theorem dX8_over_36 : decode cX8_over 36 = .ok (.isub, 1) := by decide +kernel
theorem dX8_over_37 : decode cX8_over 37 = .ok (.if_icmp .ne 7, 3) := by decide +kernel
theorem dX8_over_40 : decode cX8_over 40 = .ok (.iconst 1, 1) := by decide +kernel
theorem dX8_over_41 : decode cX8_over 41 = .ok (.goto 4, 3) := by decide +kernel
theorem dX8_over_44 : decode cX8_over 44 = .ok (.iconst 0, 1) := by decide +kernel
theorem dX8_over_45 : decode cX8_over 45 = .ok (.ireturn, 1) := by decide +kernel
theorem dX8_count_0 : decode cX8_count 0 = .ok (.iload_n 1, 1) := by decide +kernel
theorem dX8_count_1 : decode cX8_count 1 = .ok (.tableswitch 99 0 7 #[47, 52, 57, 64, 77, 84, 89, 94], 47) := by decide +kernel
theorem dX8_count_48 : decode cX8_count 48 = .ok (.aload_n 0, 1) := by decide +kernel
theorem dX8_count_49 : decode cX8_count 49 = .ok (.getfield 62, 3) := by decide +kernel
theorem dX8_count_52 : decode cX8_count 52 = .ok (.ireturn, 1) := by decide +kernel
theorem dX8_count_53 : decode cX8_count 53 = .ok (.aload_n 0, 1) := by decide +kernel
theorem dX8_count_54 : decode cX8_count 54 = .ok (.getfield 66, 3) := by decide +kernel
theorem dX8_count_57 : decode cX8_count 57 = .ok (.ireturn, 1) := by decide +kernel
theorem dX8_count_58 : decode cX8_count 58 = .ok (.aload_n 0, 1) := by decide +kernel
theorem dX8_count_59 : decode cX8_count 59 = .ok (.getfield 16, 3) := by decide +kernel
theorem dX8_count_62 : decode cX8_count 62 = .ok (.iconst 0, 1) := by decide +kernel
theorem dX8_count_63 : decode cX8_count 63 = .ok (.iaload, 1) := by decide +kernel
theorem dX8_count_64 : decode cX8_count 64 = .ok (.ireturn, 1) := by decide +kernel
theorem dX8_count_65 : decode cX8_count 65 = .ok (.aload_n 0, 1) := by decide +kernel
theorem dX8_count_66 : decode cX8_count 66 = .ok (.invokevirtual 80, 3) := by decide +kernel
theorem dX8_count_69 : decode cX8_count 69 = .ok (.ifCond .eq 7, 3) := by decide +kernel
theorem dX8_count_72 : decode cX8_count 72 = .ok (.iconst 1, 1) := by decide +kernel
theorem dX8_count_73 : decode cX8_count 73 = .ok (.goto 4, 3) := by decide +kernel
theorem dX8_count_76 : decode cX8_count 76 = .ok (.iconst 0, 1) := by decide +kernel
theorem dX8_count_77 : decode cX8_count 77 = .ok (.ireturn, 1) := by decide +kernel
theorem dX8_count_78 : decode cX8_count 78 = .ok (.aload_n 0, 1) := by decide +kernel
theorem dX8_count_79 : decode cX8_count 79 = .ok (.getfield 16, 3) := by decide +kernel
theorem dX8_count_82 : decode cX8_count 82 = .ok (.iconst 1, 1) := by decide +kernel
theorem dX8_count_83 : decode cX8_count 83 = .ok (.iaload, 1) := by decide +kernel
theorem dX8_count_84 : decode cX8_count 84 = .ok (.ireturn, 1) := by decide +kernel
theorem dX8_count_85 : decode cX8_count 85 = .ok (.aload_n 0, 1) := by decide +kernel
theorem dX8_count_86 : decode cX8_count 86 = .ok (.getfield 88, 3) := by decide +kernel
theorem dX8_count_89 : decode cX8_count 89 = .ok (.ireturn, 1) := by decide +kernel
theorem dX8_count_90 : decode cX8_count 90 = .ok (.aload_n 0, 1) := by decide +kernel
theorem dX8_count_91 : decode cX8_count 91 = .ok (.invokevirtual 171, 3) := by decide +kernel
theorem dX8_count_94 : decode cX8_count 94 = .ok (.ireturn, 1) := by decide +kernel
theorem dX8_count_95 : decode cX8_count 95 = .ok (.aload_n 0, 1) := by decide +kernel
theorem dX8_count_96 : decode cX8_count 96 = .ok (.invokevirtual 174, 3) := by decide +kernel
theorem dX8_count_99 : decode cX8_count 99 = .ok (.ireturn, 1) := by decide +kernel
theorem dX8_count_100 : decode cX8_count 100 = .ok (.iconst (-1), 1) := by decide +kernel
theorem dX8_count_101 : decode cX8_count 101 = .ok (.ireturn, 1) := by decide +kernel
theorem dX8_notes_0 : decode cX8_notes 0 = .ok (.aload_n 0, 1) := by decide +kernel
theorem dX8_notes_1 : decode cX8_notes 1 = .ok (.getfield 88, 3) := by decide +kernel
theorem dX8_notes_4 : decode cX8_notes 4 = .ok (.bipush 8, 2) := by decide +kernel
theorem dX8_notes_6 : decode cX8_notes 6 = .ok (.if_icmp .ne 39, 3) := by decide +kernel
theorem dX8_notes_9 : decode cX8_notes 9 = .ok (.bipush 13, 2) := by decide +kernel
theorem dX8_notes_11 : decode cX8_notes 11 = .ok (.istore_n 1, 1) := by decide +kernel
theorem dX8_notes_12 : decode cX8_notes 12 = .ok (.iload_n 1, 1) := by decide +kernel
theorem dX8_notes_13 : decode cX8_notes 13 = .ok (.bipush 104, 2) := by decide +kernel
theorem dX8_notes_15 : decode cX8_notes 15 = .ok (.if_icmp .ge 24, 3) := by decide +kernel
theorem dX8_notes_18 : decode cX8_notes 18 = .ok (.aload_n 0, 1) := by decide +kernel
theorem dX8_notes_19 : decode cX8_notes 19 = .ok (.getfield 28, 3) := by decide +kernel
theorem dX8_notes_22 : decode cX8_notes 22 = .ok (.iload_n 1, 1) := by decide +kernel
theorem dX8_notes_23 : decode cX8_notes 23 = .ok (.bipush 13, 2) := by decide +kernel
theorem dX8_notes_25 : decode cX8_notes 25 = .ok (.isub, 1) := by decide +kernel
theorem dX8_notes_26 : decode cX8_notes 26 = .ok (.aload_n 0, 1) := by decide +kernel
theorem dX8_notes_27 : decode cX8_notes 27 = .ok (.getfield 28, 3) := by decide +kernel
theorem dX8_notes_30 : decode cX8_notes 30 = .ok (.iload_n 1, 1) := by decide +kernel
theorem dX8_notes_31 : decode cX8_notes 31 = .ok (.iaload, 1) := by decide +kernel
theorem dX8_notes_32 : decode cX8_notes 32 = .ok (.iastore, 1) := by decide +kernel
theorem dX8_notes_33 : decode cX8_notes 33 = .ok (.iinc 1 1, 3) := by decide +kernel
theorem dX8_notes_36 : decode cX8_notes 36 = .ok (.goto (-24), 3) := by decide +kernel
theorem dX8_notes_39 : decode cX8_notes 39 = .ok (.aload_n 0, 1) := by decide +kernel
theorem dX8_notes_40 : decode cX8_notes 40 = .ok (.bipush 7, 2) := by decide +kernel
theorem dX8_notes_42 : decode cX8_notes 42 = .ok (.putfield 88, 3) := by decide +kernel
theorem dX8_notes_45 : decode cX8_notes 45 = .ok (.iconst 0, 1) := by decide +kernel
theorem dX8_notes_46 : decode cX8_notes 46 = .ok (.istore_n 1, 1) := by decide +kernel
theorem dX8_notes_47 : decode cX8_notes 47 = .ok (.iload_n 1, 1) := by decide +kernel
theorem dX8_notes_48 : decode cX8_notes 48 = .ok (.bipush 13, 2) := by decide +kernel
theorem dX8_notes_50 : decode cX8_notes 50 = .ok (.if_icmp .ge 29, 3) := by decide +kernel
theorem dX8_notes_53 : decode cX8_notes 53 = .ok (.aload_n 0, 1) := by decide +kernel
theorem dX8_notes_54 : decode cX8_notes 54 = .ok (.getfield 28, 3) := by decide +kernel
theorem dX8_notes_57 : decode cX8_notes 57 = .ok (.bipush 13, 2) := by decide +kernel
theorem dX8_notes_59 : decode cX8_notes 59 = .ok (.aload_n 0, 1) := by decide +kernel
theorem dX8_notes_60 : decode cX8_notes 60 = .ok (.getfield 88, 3) := by decide +kernel
theorem dX8_notes_63 : decode cX8_notes 63 = .ok (.imul, 1) := by decide +kernel
theorem dX8_notes_64 : decode cX8_notes 64 = .ok (.iload_n 1, 1) := by decide +kernel
theorem dX8_notes_65 : decode cX8_notes 65 = .ok (.iadd, 1) := by decide +kernel
theorem dX8_notes_66 : decode cX8_notes 66 = .ok (.aload_n 0, 1) := by decide +kernel
theorem dX8_notes_67 : decode cX8_notes 67 = .ok (.getfield 16, 3) := by decide +kernel
theorem dX8_notes_70 : decode cX8_notes 70 = .ok (.iload_n 1, 1) := by decide +kernel
theorem dX8_notes_71 : decode cX8_notes 71 = .ok (.iaload, 1) := by decide +kernel
theorem dX8_notes_72 : decode cX8_notes 72 = .ok (.iastore, 1) := by decide +kernel
theorem dX8_notes_73 : decode cX8_notes 73 = .ok (.iinc 1 1, 3) := by decide +kernel
theorem dX8_notes_76 : decode cX8_notes 76 = .ok (.goto (-29), 3) := by decide +kernel
theorem dX8_notes_79 : decode cX8_notes 79 = .ok (.aload_n 0, 1) := by decide +kernel
theorem dX8_notes_80 : decode cX8_notes 80 = .ok (.dup, 1) := by decide +kernel
theorem dX8_notes_81 : decode cX8_notes 81 = .ok (.getfield 88, 3) := by decide +kernel
theorem dX8_notes_84 : decode cX8_notes 84 = .ok (.iconst 1, 1) := by decide +kernel
theorem dX8_notes_85 : decode cX8_notes 85 = .ok (.iadd, 1) := by decide +kernel
theorem dX8_notes_86 : decode cX8_notes 86 = .ok (.putfield 88, 3) := by decide +kernel
theorem dX8_notes_89 : decode cX8_notes 89 = .ok (.return_, 1) := by decide +kernel
theorem dX8_turns_0 : decode cX8_turns 0 = .ok (.aload_n 0, 1) := by decide +kernel
theorem dX8_turns_1 : decode cX8_turns 1 = .ok (.getfield 16, 3) := by decide +kernel
theorem dX8_turns_4 : decode cX8_turns 4 = .ok (.iconst 0, 1) := by decide +kernel
theorem dX8_turns_5 : decode cX8_turns 5 = .ok (.iload_n 1, 1) := by decide +kernel
theorem dX8_turns_6 : decode cX8_turns 6 = .ok (.iastore, 1) := by decide +kernel
theorem dX8_turns_7 : decode cX8_turns 7 = .ok (.aload_n 0, 1) := by decide +kernel
theorem dX8_turns_8 : decode cX8_turns 8 = .ok (.getfield 16, 3) := by decide +kernel
theorem dX8_turns_11 : decode cX8_turns 11 = .ok (.iconst 1, 1) := by decide +kernel
theorem dX8_turns_12 : decode cX8_turns 12 = .ok (.aload_n 0, 1) := by decide +kernel
theorem dX8_turns_13 : decode cX8_turns 13 = .ok (.iload_n 1, 1) := by decide +kernel
theorem dX8_turns_14 : decode cX8_turns 14 = .ok (.invokevirtual 120, 3) := by decide +kernel
theorem dX8_turns_17 : decode cX8_turns 17 = .ok (.iastore, 1) := by decide +kernel
theorem dX8_turns_18 : decode cX8_turns 18 = .ok (.iconst 0, 1) := by decide +kernel
theorem dX8_turns_19 : decode cX8_turns 19 = .ok (.istore_n 2, 1) := by decide +kernel
theorem dX8_turns_20 : decode cX8_turns 20 = .ok (.iload_n 2, 1) := by decide +kernel
theorem dX8_turns_21 : decode cX8_turns 21 = .ok (.iconst 5, 1) := by decide +kernel
theorem dX8_turns_22 : decode cX8_turns 22 = .ok (.if_icmp .ge 54, 3) := by decide +kernel
theorem dX8_turns_25 : decode cX8_turns 25 = .ok (.aload_n 0, 1) := by decide +kernel
theorem dX8_turns_26 : decode cX8_turns 26 = .ok (.getfield 16, 3) := by decide +kernel
theorem dX8_turns_29 : decode cX8_turns 29 = .ok (.bipush 8, 2) := by decide +kernel
theorem dX8_turns_31 : decode cX8_turns 31 = .ok (.iload_n 2, 1) := by decide +kernel
theorem dX8_turns_32 : decode cX8_turns 32 = .ok (.iadd, 1) := by decide +kernel
theorem dX8_turns_33 : decode cX8_turns 33 = .ok (.iload_n 2, 1) := by decide +kernel
theorem dX8_turns_34 : decode cX8_turns 34 = .ok (.ifCond .eq 19, 3) := by decide +kernel
theorem dX8_turns_37 : decode cX8_turns 37 = .ok (.iload_n 2, 1) := by decide +kernel
theorem dX8_turns_38 : decode cX8_turns 38 = .ok (.aload_n 0, 1) := by decide +kernel
theorem dX8_turns_39 : decode cX8_turns 39 = .ok (.getfield 66, 3) := by decide +kernel
theorem dX8_turns_42 : decode cX8_turns 42 = .ok (.if_icmp .ge 11, 3) := by decide +kernel
theorem dX8_turns_45 : decode cX8_turns 45 = .ok (.aload_n 0, 1) := by decide +kernel
theorem dX8_turns_46 : decode cX8_turns 46 = .ok (.iload_n 2, 1) := by decide +kernel
theorem dX8_turns_47 : decode cX8_turns 47 = .ok (.invokevirtual 103, 3) := by decide +kernel
theorem dX8_turns_50 : decode cX8_turns 50 = .ok (.ifCond .eq 8, 3) := by decide +kernel
theorem dX8_turns_53 : decode cX8_turns 53 = .ok (.ldc 73, 2) := by decide +kernel
theorem dX8_turns_55 : decode cX8_turns 55 = .ok (.goto 14, 3) := by decide +kernel
theorem dX8_turns_58 : decode cX8_turns 58 = .ok (.aload_n 0, 1) := by decide +kernel
theorem dX8_turns_59 : decode cX8_turns 59 = .ok (.iload_n 2, 1) := by decide +kernel
theorem dX8_turns_60 : decode cX8_turns 60 = .ok (.aload_n 0, 1) := by decide +kernel
theorem dX8_turns_61 : decode cX8_turns 61 = .ok (.getfield 16, 3) := by decide +kernel
theorem dX8_turns_64 : decode cX8_turns 64 = .ok (.iconst 1, 1) := by decide +kernel
theorem dX8_turns_65 : decode cX8_turns 65 = .ok (.iaload, 1) := by decide +kernel
theorem dX8_turns_66 : decode cX8_turns 66 = .ok (.invokevirtual 177, 3) := by decide +kernel
theorem dX8_turns_69 : decode cX8_turns 69 = .ok (.iastore, 1) := by decide +kernel
theorem dX8_turns_70 : decode cX8_turns 70 = .ok (.iinc 2 1, 3) := by decide +kernel
theorem dX8_turns_73 : decode cX8_turns 73 = .ok (.goto (-53), 3) := by decide +kernel
theorem dX8_turns_76 : decode cX8_turns 76 = .ok (.return_, 1) := by decide +kernel
theorem dX8_meets_0 : decode cX8_meets 0 = .ok (.bipush (-4), 2) := by decide +kernel
theorem dX8_meets_2 : decode cX8_meets 2 = .ok (.istore_n 2, 1) := by decide +kernel
theorem dX8_meets_3 : decode cX8_meets 3 = .ok (.iconst 1, 1) := by decide +kernel
theorem dX8_meets_4 : decode cX8_meets 4 = .ok (.istore_n 3, 1) := by decide +kernel
theorem dX8_meets_5 : decode cX8_meets 5 = .ok (.iload_n 3, 1) := by decide +kernel
theorem dX8_meets_6 : decode cX8_meets 6 = .ok (.aload_n 0, 1) := by decide +kernel
theorem dX8_meets_7 : decode cX8_meets 7 = .ok (.getfield 66, 3) := by decide +kernel
theorem dX8_meets_10 : decode cX8_meets 10 = .ok (.if_icmp .ge 75, 3) := by decide +kernel
theorem dX8_meets_13 : decode cX8_meets 13 = .ok (.aload_n 0, 1) := by decide +kernel
theorem dX8_meets_14 : decode cX8_meets 14 = .ok (.iload_n 3, 1) := by decide +kernel
theorem dX8_meets_15 : decode cX8_meets 15 = .ok (.invokevirtual 103, 3) := by decide +kernel
theorem dX8_meets_18 : decode cX8_meets 18 = .ok (.ifCond .ne 47, 3) := by decide +kernel
theorem dX8_meets_21 : decode cX8_meets 21 = .ok (.aload_n 0, 1) := by decide +kernel
theorem dX8_meets_22 : decode cX8_meets 22 = .ok (.getfield 16, 3) := by decide +kernel
theorem dX8_meets_25 : decode cX8_meets 25 = .ok (.bipush 8, 2) := by decide +kernel
theorem dX8_meets_27 : decode cX8_meets 27 = .ok (.iload_n 3, 1) := by decide +kernel
theorem dX8_meets_28 : decode cX8_meets 28 = .ok (.iadd, 1) := by decide +kernel
theorem dX8_meets_29 : decode cX8_meets 29 = .ok (.iaload, 1) := by decide +kernel
theorem dX8_meets_30 : decode cX8_meets 30 = .ok (.iload_n 1, 1) := by decide +kernel
theorem dX8_meets_31 : decode cX8_meets 31 = .ok (.if_icmp .gt 34, 3) := by decide +kernel
theorem dX8_meets_34 : decode cX8_meets 34 = .ok (.iload_n 2, 1) := by decide +kernel
theorem dX8_meets_35 : decode cX8_meets 35 = .ok (.bipush (-4), 2) := by decide +kernel
theorem dX8_meets_37 : decode cX8_meets 37 = .ok (.if_icmp .eq 24, 3) := by decide +kernel
theorem dX8_meets_40 : decode cX8_meets 40 = .ok (.aload_n 0, 1) := by decide +kernel
theorem dX8_meets_41 : decode cX8_meets 41 = .ok (.getfield 16, 3) := by decide +kernel
theorem dX8_meets_44 : decode cX8_meets 44 = .ok (.bipush 8, 2) := by decide +kernel
theorem dX8_meets_46 : decode cX8_meets 46 = .ok (.iload_n 3, 1) := by decide +kernel
theorem dX8_meets_47 : decode cX8_meets 47 = .ok (.iadd, 1) := by decide +kernel
theorem dX8_meets_48 : decode cX8_meets 48 = .ok (.iaload, 1) := by decide +kernel
theorem dX8_meets_49 : decode cX8_meets 49 = .ok (.aload_n 0, 1) := by decide +kernel
theorem dX8_meets_50 : decode cX8_meets 50 = .ok (.getfield 16, 3) := by decide +kernel
theorem dX8_meets_53 : decode cX8_meets 53 = .ok (.bipush 8, 2) := by decide +kernel
theorem dX8_meets_55 : decode cX8_meets 55 = .ok (.iload_n 2, 1) := by decide +kernel
theorem dX8_meets_56 : decode cX8_meets 56 = .ok (.iadd, 1) := by decide +kernel
theorem dX8_meets_57 : decode cX8_meets 57 = .ok (.iaload, 1) := by decide +kernel
theorem dX8_meets_58 : decode cX8_meets 58 = .ok (.if_icmp .ge 7, 3) := by decide +kernel
theorem dX8_meets_61 : decode cX8_meets 61 = .ok (.iconst 1, 1) := by decide +kernel
theorem dX8_meets_62 : decode cX8_meets 62 = .ok (.goto 4, 3) := by decide +kernel
theorem dX8_meets_65 : decode cX8_meets 65 = .ok (.iconst 0, 1) := by decide +kernel
theorem dX8_meets_66 : decode cX8_meets 66 = .ok (.istore 4, 2) := by decide +kernel
theorem dX8_meets_68 : decode cX8_meets 68 = .ok (.iload 4, 2) := by decide +kernel
theorem dX8_meets_70 : decode cX8_meets 70 = .ok (.ifCond .eq 7, 3) := by decide +kernel
theorem dX8_meets_73 : decode cX8_meets 73 = .ok (.iload_n 3, 1) := by decide +kernel
theorem dX8_meets_74 : decode cX8_meets 74 = .ok (.goto 4, 3) := by decide +kernel
theorem dX8_meets_77 : decode cX8_meets 77 = .ok (.iload_n 2, 1) := by decide +kernel
theorem dX8_meets_78 : decode cX8_meets 78 = .ok (.istore_n 2, 1) := by decide +kernel
theorem dX8_meets_79 : decode cX8_meets 79 = .ok (.iinc 3 1, 3) := by decide +kernel
theorem dX8_meets_82 : decode cX8_meets 82 = .ok (.goto (-77), 3) := by decide +kernel
theorem dX8_meets_85 : decode cX8_meets 85 = .ok (.iload_n 2, 1) := by decide +kernel
theorem dX8_meets_86 : decode cX8_meets 86 = .ok (.ireturn, 1) := by decide +kernel
theorem dX8_between_0 : decode cX8_between 0 = .ok (.iload_n 0, 1) := by decide +kernel
theorem dX8_between_1 : decode cX8_between 1 = .ok (.iconst 1, 1) := by decide +kernel
theorem dX8_between_2 : decode cX8_between 2 = .ok (.if_icmp .ge 7, 3) := by decide +kernel
theorem dX8_between_5 : decode cX8_between 5 = .ok (.iconst 1, 1) := by decide +kernel
theorem dX8_between_6 : decode cX8_between 6 = .ok (.goto 15, 3) := by decide +kernel
theorem dX8_between_9 : decode cX8_between 9 = .ok (.iload_n 0, 1) := by decide +kernel
theorem dX8_between_10 : decode cX8_between 10 = .ok (.bipush 15, 2) := by decide +kernel
theorem dX8_between_12 : decode cX8_between 12 = .ok (.if_icmp .le 8, 3) := by decide +kernel
theorem dX8_between_15 : decode cX8_between 15 = .ok (.bipush 15, 2) := by decide +kernel
theorem dX8_between_17 : decode cX8_between 17 = .ok (.goto 4, 3) := by decide +kernel
theorem dX8_between_20 : decode cX8_between 20 = .ok (.iload_n 0, 1) := by decide +kernel
theorem dX8_between_21 : decode cX8_between 21 = .ok (.ireturn, 1) := by decide +kernel
theorem dX8_fights_0 : decode cX8_fights 0 = .ok (.aload_n 0, 1) := by decide +kernel
theorem dX8_fights_1 : decode cX8_fights 1 = .ok (.getfield 16, 3) := by decide +kernel
theorem dX8_fights_4 : decode cX8_fights 4 = .ok (.iconst 0, 1) := by decide +kernel
theorem dX8_fights_5 : decode cX8_fights 5 = .ok (.dup2, 1) := by decide +kernel
theorem dX8_fights_6 : decode cX8_fights 6 = .ok (.iaload, 1) := by decide +kernel
theorem dX8_fights_7 : decode cX8_fights 7 = .ok (.iconst 1, 1) := by decide +kernel
theorem dX8_fights_8 : decode cX8_fights 8 = .ok (.iadd, 1) := by decide +kernel
theorem dX8_fights_9 : decode cX8_fights 9 = .ok (.iastore, 1) := by decide +kernel
theorem dX8_fights_10 : decode cX8_fights 10 = .ok (.aload_n 0, 1) := by decide +kernel
theorem dX8_fights_11 : decode cX8_fights 11 = .ok (.aload_n 0, 1) := by decide +kernel
theorem dX8_fights_12 : decode cX8_fights 12 = .ok (.getfield 16, 3) := by decide +kernel
theorem dX8_fights_15 : decode cX8_fights 15 = .ok (.iconst 0, 1) := by decide +kernel
theorem dX8_fights_16 : decode cX8_fights 16 = .ok (.iaload, 1) := by decide +kernel
theorem dX8_fights_17 : decode cX8_fights 17 = .ok (.invokevirtual 180, 3) := by decide +kernel
theorem dX8_fights_20 : decode cX8_fights 20 = .ok (.istore_n 1, 1) := by decide +kernel
theorem dX8_fights_21 : decode cX8_fights 21 = .ok (.iload_n 1, 1) := by decide +kernel
theorem dX8_fights_22 : decode cX8_fights 22 = .ok (.bipush (-4), 2) := by decide +kernel
theorem dX8_fights_24 : decode cX8_fights 24 = .ok (.if_icmp .ne 6, 3) := by decide +kernel
theorem dX8_fights_27 : decode cX8_fights 27 = .ok (.bipush (-4), 2) := by decide +kernel
theorem dX8_fights_29 : decode cX8_fights 29 = .ok (.ireturn, 1) := by decide +kernel
theorem dX8_fights_30 : decode cX8_fights 30 = .ok (.iconst 0, 1) := by decide +kernel
theorem dX8_fights_31 : decode cX8_fights 31 = .ok (.istore_n 2, 1) := by decide +kernel
theorem dX8_fights_32 : decode cX8_fights 32 = .ok (.iconst 1, 1) := by decide +kernel
theorem dX8_fights_33 : decode cX8_fights 33 = .ok (.istore_n 3, 1) := by decide +kernel
theorem dX8_fights_34 : decode cX8_fights 34 = .ok (.iload_n 3, 1) := by decide +kernel
theorem dX8_fights_35 : decode cX8_fights 35 = .ok (.aload_n 0, 1) := by decide +kernel
theorem dX8_fights_36 : decode cX8_fights 36 = .ok (.getfield 66, 3) := by decide +kernel
theorem dX8_fights_39 : decode cX8_fights 39 = .ok (.if_icmp .ge 48, 3) := by decide +kernel
theorem dX8_fights_42 : decode cX8_fights 42 = .ok (.iload_n 2, 1) := by decide +kernel
theorem dX8_fights_43 : decode cX8_fights 43 = .ok (.iload_n 3, 1) := by decide +kernel
theorem dX8_fights_44 : decode cX8_fights 44 = .ok (.iload_n 1, 1) := by decide +kernel
theorem dX8_fights_45 : decode cX8_fights 45 = .ok (.if_icmp .eq 33, 3) := by decide +kernel
theorem dX8_fights_48 : decode cX8_fights 48 = .ok (.aload_n 0, 1) := by decide +kernel
theorem dX8_fights_49 : decode cX8_fights 49 = .ok (.iload_n 3, 1) := by decide +kernel
theorem dX8_fights_50 : decode cX8_fights 50 = .ok (.invokevirtual 103, 3) := by decide +kernel
theorem dX8_fights_53 : decode cX8_fights 53 = .ok (.ifCond .ne 25, 3) := by decide +kernel
theorem dX8_fights_56 : decode cX8_fights 56 = .ok (.aload_n 0, 1) := by decide +kernel
theorem dX8_fights_57 : decode cX8_fights 57 = .ok (.getfield 16, 3) := by decide +kernel
theorem dX8_fights_60 : decode cX8_fights 60 = .ok (.bipush 8, 2) := by decide +kernel
theorem dX8_fights_62 : decode cX8_fights 62 = .ok (.iload_n 3, 1) := by decide +kernel
theorem dX8_fights_63 : decode cX8_fights 63 = .ok (.iadd, 1) := by decide +kernel
theorem dX8_fights_64 : decode cX8_fights 64 = .ok (.iaload, 1) := by decide +kernel
theorem dX8_fights_65 : decode cX8_fights 65 = .ok (.aload_n 0, 1) := by decide +kernel
theorem dX8_fights_66 : decode cX8_fights 66 = .ok (.getfield 16, 3) := by decide +kernel
theorem dX8_fights_69 : decode cX8_fights 69 = .ok (.iconst 0, 1) := by decide +kernel
theorem dX8_fights_70 : decode cX8_fights 70 = .ok (.iaload, 1) := by decide +kernel
theorem dX8_fights_71 : decode cX8_fights 71 = .ok (.if_icmp .gt 7, 3) := by decide +kernel
theorem dX8_fights_74 : decode cX8_fights 74 = .ok (.iconst 1, 1) := by decide +kernel
theorem dX8_fights_75 : decode cX8_fights 75 = .ok (.goto 4, 3) := by decide +kernel
theorem dX8_fights_78 : decode cX8_fights 78 = .ok (.iconst 0, 1) := by decide +kernel
theorem dX8_fights_79 : decode cX8_fights 79 = .ok (.iadd, 1) := by decide +kernel
theorem dX8_fights_80 : decode cX8_fights 80 = .ok (.istore_n 2, 1) := by decide +kernel
theorem dX8_fights_81 : decode cX8_fights 81 = .ok (.iinc 3 1, 3) := by decide +kernel
theorem dX8_fights_84 : decode cX8_fights 84 = .ok (.goto (-50), 3) := by decide +kernel
theorem dX8_fights_87 : decode cX8_fights 87 = .ok (.bipush 8, 2) := by decide +kernel
theorem dX8_fights_89 : decode cX8_fights 89 = .ok (.aload_n 0, 1) := by decide +kernel
theorem dX8_fights_90 : decode cX8_fights 90 = .ok (.iconst 0, 1) := by decide +kernel
theorem dX8_fights_91 : decode cX8_fights 91 = .ok (.aload_n 0, 1) := by decide +kernel
theorem dX8_fights_92 : decode cX8_fights 92 = .ok (.iconst 0, 1) := by decide +kernel
theorem dX8_fights_93 : decode cX8_fights 93 = .ok (.invokevirtual 91, 3) := by decide +kernel
theorem dX8_fights_96 : decode cX8_fights 96 = .ok (.invokevirtual 126, 3) := by decide +kernel
theorem dX8_fights_99 : decode cX8_fights 99 = .ok (.iadd, 1) := by decide +kernel
theorem dX8_fights_100 : decode cX8_fights 100 = .ok (.aload_n 0, 1) := by decide +kernel
theorem dX8_fights_101 : decode cX8_fights 101 = .ok (.iload_n 1, 1) := by decide +kernel
theorem dX8_fights_102 : decode cX8_fights 102 = .ok (.aload_n 0, 1) := by decide +kernel
theorem dX8_fights_103 : decode cX8_fights 103 = .ok (.iload_n 1, 1) := by decide +kernel
theorem dX8_fights_104 : decode cX8_fights 104 = .ok (.invokevirtual 91, 3) := by decide +kernel
theorem dX8_fights_107 : decode cX8_fights 107 = .ok (.invokevirtual 126, 3) := by decide +kernel
theorem dX8_fights_110 : decode cX8_fights 110 = .ok (.isub, 1) := by decide +kernel
theorem dX8_fights_111 : decode cX8_fights 111 = .ok (.iconst 2, 1) := by decide +kernel
theorem dX8_fights_112 : decode cX8_fights 112 = .ok (.iload_n 2, 1) := by decide +kernel
theorem dX8_fights_113 : decode cX8_fights 113 = .ok (.imul, 1) := by decide +kernel
theorem dX8_fights_114 : decode cX8_fights 114 = .ok (.isub, 1) := by decide +kernel
theorem dX8_fights_115 : decode cX8_fights 115 = .ok (.invokestatic 183, 3) := by decide +kernel
theorem dX8_fights_118 : decode cX8_fights 118 = .ok (.istore_n 3, 1) := by decide +kernel
theorem dX8_fights_119 : decode cX8_fights 119 = .ok (.aload_n 0, 1) := by decide +kernel
theorem dX8_fights_120 : decode cX8_fights 120 = .ok (.getfield 16, 3) := by decide +kernel
theorem dX8_fights_123 : decode cX8_fights 123 = .ok (.iconst 2, 1) := by decide +kernel
theorem dX8_fights_124 : decode cX8_fights 124 = .ok (.aload_n 0, 1) := by decide +kernel
theorem dX8_fights_125 : decode cX8_fights 125 = .ok (.getfield 16, 3) := by decide +kernel
theorem dX8_fights_128 : decode cX8_fights 128 = .ok (.iconst 2, 1) := by decide +kernel
theorem dX8_fights_129 : decode cX8_fights 129 = .ok (.iaload, 1) := by decide +kernel
theorem dX8_fights_130 : decode cX8_fights 130 = .ok (.ldc 186, 2) := by decide +kernel
theorem dX8_fights_132 : decode cX8_fights 132 = .ok (.imul, 1) := by decide +kernel
theorem dX8_fights_133 : decode cX8_fights 133 = .ok (.sipush 12345, 3) := by decide +kernel
theorem dX8_fights_136 : decode cX8_fights 136 = .ok (.iadd, 1) := by decide +kernel
theorem dX8_fights_137 : decode cX8_fights 137 = .ok (.ldc 187, 2) := by decide +kernel
theorem dX8_fights_139 : decode cX8_fights 139 = .ok (.iand, 1) := by decide +kernel
theorem dX8_fights_140 : decode cX8_fights 140 = .ok (.iastore, 1) := by decide +kernel
theorem dX8_fights_141 : decode cX8_fights 141 = .ok (.iload_n 3, 1) := by decide +kernel
theorem dX8_fights_142 : decode cX8_fights 142 = .ok (.aload_n 0, 1) := by decide +kernel
theorem dX8_fights_143 : decode cX8_fights 143 = .ok (.getfield 16, 3) := by decide +kernel
theorem dX8_fights_146 : decode cX8_fights 146 = .ok (.iconst 2, 1) := by decide +kernel
theorem dX8_fights_147 : decode cX8_fights 147 = .ok (.iaload, 1) := by decide +kernel
theorem dX8_fights_148 : decode cX8_fights 148 = .ok (.ldc 188, 2) := by decide +kernel
theorem dX8_fights_150 : decode cX8_fights 150 = .ok (.idiv, 1) := by decide +kernel
theorem dX8_fights_151 : decode cX8_fights 151 = .ok (.bipush 16, 2) := by decide +kernel
theorem dX8_fights_153 : decode cX8_fights 153 = .ok (.irem, 1) := by decide +kernel
theorem dX8_fights_154 : decode cX8_fights 154 = .ok (.if_icmp .le 7, 3) := by decide +kernel
theorem dX8_fights_157 : decode cX8_fights 157 = .ok (.iload_n 1, 1) := by decide +kernel
theorem dX8_fights_158 : decode cX8_fights 158 = .ok (.goto 4, 3) := by decide +kernel
theorem dX8_fights_161 : decode cX8_fights 161 = .ok (.iconst 0, 1) := by decide +kernel
theorem dX8_fights_162 : decode cX8_fights 162 = .ok (.istore 4, 2) := by decide +kernel
theorem dX8_fights_164 : decode cX8_fights 164 = .ok (.aload_n 0, 1) := by decide +kernel
theorem dX8_fights_165 : decode cX8_fights 165 = .ok (.getfield 16, 3) := by decide +kernel
theorem dX8_fights_168 : decode cX8_fights 168 = .ok (.iconst 3, 1) := by decide +kernel
theorem dX8_fights_169 : decode cX8_fights 169 = .ok (.iload 4, 2) := by decide +kernel
theorem dX8_fights_171 : decode cX8_fights 171 = .ok (.iadd, 1) := by decide +kernel
theorem dX8_fights_172 : decode cX8_fights 172 = .ok (.dup2, 1) := by decide +kernel
theorem dX8_fights_173 : decode cX8_fights 173 = .ok (.iaload, 1) := by decide +kernel
theorem dX8_fights_174 : decode cX8_fights 174 = .ok (.iconst 1, 1) := by decide +kernel
theorem dX8_fights_175 : decode cX8_fights 175 = .ok (.iadd, 1) := by decide +kernel
theorem dX8_fights_176 : decode cX8_fights 176 = .ok (.iastore, 1) := by decide +kernel
theorem dX8_fights_177 : decode cX8_fights 177 = .ok (.iload 4, 2) := by decide +kernel
theorem dX8_fights_179 : decode cX8_fights 179 = .ok (.ireturn, 1) := by decide +kernel
theorem dX8_moment_0 : decode cX8_moment 0 = .ok (.aload_n 0, 1) := by decide +kernel
theorem dX8_moment_1 : decode cX8_moment 1 = .ok (.invokevirtual 174, 3) := by decide +kernel
theorem dX8_moment_4 : decode cX8_moment 4 = .ok (.ifCond .eq 6, 3) := by decide +kernel
theorem dX8_moment_7 : decode cX8_moment 7 = .ok (.bipush (-2), 2) := by decide +kernel
theorem dX8_moment_9 : decode cX8_moment 9 = .ok (.ireturn, 1) := by decide +kernel
theorem dX8_moment_10 : decode cX8_moment 10 = .ok (.aload_n 0, 1) := by decide +kernel
theorem dX8_moment_11 : decode cX8_moment 11 = .ok (.getfield 16, 3) := by decide +kernel
theorem dX8_moment_14 : decode cX8_moment 14 = .ok (.iconst 0, 1) := by decide +kernel
theorem dX8_moment_15 : decode cX8_moment 15 = .ok (.iaload, 1) := by decide +kernel
theorem dX8_moment_16 : decode cX8_moment 16 = .ok (.sipush 400, 3) := by decide +kernel
theorem dX8_moment_19 : decode cX8_moment 19 = .ok (.if_icmp .ne 6, 3) := by decide +kernel
theorem dX8_moment_22 : decode cX8_moment 22 = .ok (.bipush (-3), 2) := by decide +kernel
theorem dX8_moment_24 : decode cX8_moment 24 = .ok (.ireturn, 1) := by decide +kernel
theorem dX8_moment_25 : decode cX8_moment 25 = .ok (.aload_n 0, 1) := by decide +kernel
theorem dX8_moment_26 : decode cX8_moment 26 = .ok (.invokevirtual 189, 3) := by decide +kernel
theorem dX8_moment_29 : decode cX8_moment 29 = .ok (.aload_n 0, 1) := by decide +kernel
theorem dX8_moment_30 : decode cX8_moment 30 = .ok (.invokevirtual 80, 3) := by decide +kernel
theorem dX8_moment_33 : decode cX8_moment 33 = .ok (.ifCond .eq 8, 3) := by decide +kernel
theorem dX8_moment_36 : decode cX8_moment 36 = .ok (.aload_n 0, 1) := by decide +kernel
theorem dX8_moment_37 : decode cX8_moment 37 = .ok (.invokevirtual 192, 3) := by decide +kernel
theorem dX8_moment_40 : decode cX8_moment 40 = .ok (.ireturn, 1) := by decide +kernel
theorem dX8_moment_41 : decode cX8_moment 41 = .ok (.aload_n 0, 1) := by decide +kernel
theorem dX8_moment_42 : decode cX8_moment 42 = .ok (.getfield 16, 3) := by decide +kernel
theorem dX8_moment_45 : decode cX8_moment 45 = .ok (.iconst 0, 1) := by decide +kernel
theorem dX8_moment_46 : decode cX8_moment 46 = .ok (.dup2, 1) := by decide +kernel
theorem dX8_moment_47 : decode cX8_moment 47 = .ok (.iaload, 1) := by decide +kernel
theorem dX8_moment_48 : decode cX8_moment 48 = .ok (.iconst 1, 1) := by decide +kernel
theorem dX8_moment_49 : decode cX8_moment 49 = .ok (.iadd, 1) := by decide +kernel
theorem dX8_moment_50 : decode cX8_moment 50 = .ok (.iastore, 1) := by decide +kernel
theorem dX8_moment_51 : decode cX8_moment 51 = .ok (.aload_n 0, 1) := by decide +kernel
theorem dX8_moment_52 : decode cX8_moment 52 = .ok (.aload_n 0, 1) := by decide +kernel
theorem dX8_moment_53 : decode cX8_moment 53 = .ok (.getfield 16, 3) := by decide +kernel
theorem dX8_moment_56 : decode cX8_moment 56 = .ok (.iconst 0, 1) := by decide +kernel
theorem dX8_moment_57 : decode cX8_moment 57 = .ok (.iaload, 1) := by decide +kernel
theorem dX8_moment_58 : decode cX8_moment 58 = .ok (.invokevirtual 195, 3) := by decide +kernel
theorem dX8_moment_61 : decode cX8_moment 61 = .ok (.ifCond .eq 13, 3) := by decide +kernel
theorem dX8_moment_64 : decode cX8_moment 64 = .ok (.aload_n 0, 1) := by decide +kernel
theorem dX8_moment_65 : decode cX8_moment 65 = .ok (.aload_n 0, 1) := by decide +kernel
theorem dX8_moment_66 : decode cX8_moment 66 = .ok (.getfield 16, 3) := by decide +kernel
theorem dX8_moment_69 : decode cX8_moment 69 = .ok (.iconst 0, 1) := by decide +kernel
theorem dX8_moment_70 : decode cX8_moment 70 = .ok (.iaload, 1) := by decide +kernel
theorem dX8_moment_71 : decode cX8_moment 71 = .ok (.invokevirtual 198, 3) := by decide +kernel
theorem dX8_moment_74 : decode cX8_moment 74 = .ok (.bipush (-4), 2) := by decide +kernel
theorem dX8_moment_76 : decode cX8_moment 76 = .ok (.ireturn, 1) := by decide +kernel
theorem dX8_turn_0 : decode cX8_turn 0 = .ok (.aload_n 0, 1) := by decide +kernel
theorem dX8_turn_1 : decode cX8_turn 1 = .ok (.invokevirtual 174, 3) := by decide +kernel
theorem dX8_turn_4 : decode cX8_turn 4 = .ok (.ifCond .ne 10, 3) := by decide +kernel
theorem dX8_turn_7 : decode cX8_turn 7 = .ok (.aload_n 0, 1) := by decide +kernel
theorem dX8_turn_8 : decode cX8_turn 8 = .ok (.invokevirtual 80, 3) := by decide +kernel
theorem dX8_turn_11 : decode cX8_turn 11 = .ok (.ifCond .eq 6, 3) := by decide +kernel
theorem dX8_turn_14 : decode cX8_turn 14 = .ok (.bipush (-2), 2) := by decide +kernel
theorem dX8_turn_16 : decode cX8_turn 16 = .ok (.ireturn, 1) := by decide +kernel
theorem dX8_turn_17 : decode cX8_turn 17 = .ok (.aload_n 0, 1) := by decide +kernel
theorem dX8_turn_18 : decode cX8_turn 18 = .ok (.aload_n 0, 1) := by decide +kernel
theorem dX8_turn_19 : decode cX8_turn 19 = .ok (.getfield 16, 3) := by decide +kernel
theorem dX8_turn_22 : decode cX8_turn 22 = .ok (.iconst 0, 1) := by decide +kernel
theorem dX8_turn_23 : decode cX8_turn 23 = .ok (.iaload, 1) := by decide +kernel
theorem dX8_turn_24 : decode cX8_turn 24 = .ok (.invokevirtual 198, 3) := by decide +kernel
theorem dX8_turn_27 : decode cX8_turn 27 = .ok (.aload_n 0, 1) := by decide +kernel
theorem dX8_turn_28 : decode cX8_turn 28 = .ok (.getfield 16, 3) := by decide +kernel
theorem dX8_turn_31 : decode cX8_turn 31 = .ok (.iconst 1, 1) := by decide +kernel
theorem dX8_turn_32 : decode cX8_turn 32 = .ok (.iaload, 1) := by decide +kernel
theorem dX8_turn_33 : decode cX8_turn 33 = .ok (.ireturn, 1) := by decide +kernel
theorem dX8_undo_0 : decode cX8_undo 0 = .ok (.aload_n 0, 1) := by decide +kernel
theorem dX8_undo_1 : decode cX8_undo 1 = .ok (.getfield 88, 3) := by decide +kernel
theorem dX8_undo_4 : decode cX8_undo 4 = .ok (.ifCond .ne 6, 3) := by decide +kernel
theorem dX8_undo_7 : decode cX8_undo 7 = .ok (.bipush (-4), 2) := by decide +kernel
theorem dX8_undo_9 : decode cX8_undo 9 = .ok (.ireturn, 1) := by decide +kernel
theorem dX8_undo_10 : decode cX8_undo 10 = .ok (.aload_n 0, 1) := by decide +kernel
theorem dX8_undo_11 : decode cX8_undo 11 = .ok (.dup, 1) := by decide +kernel
theorem dX8_undo_12 : decode cX8_undo 12 = .ok (.getfield 88, 3) := by decide +kernel
theorem dX8_undo_15 : decode cX8_undo 15 = .ok (.iconst 1, 1) := by decide +kernel
theorem dX8_undo_16 : decode cX8_undo 16 = .ok (.isub, 1) := by decide +kernel
theorem dX8_undo_17 : decode cX8_undo 17 = .ok (.putfield 88, 3) := by decide +kernel
theorem dX8_undo_20 : decode cX8_undo 20 = .ok (.iconst 0, 1) := by decide +kernel
theorem dX8_undo_21 : decode cX8_undo 21 = .ok (.istore_n 1, 1) := by decide +kernel
theorem dX8_undo_22 : decode cX8_undo 22 = .ok (.iload_n 1, 1) := by decide +kernel
theorem dX8_undo_23 : decode cX8_undo 23 = .ok (.bipush 13, 2) := by decide +kernel
theorem dX8_undo_25 : decode cX8_undo 25 = .ok (.if_icmp .ge 29, 3) := by decide +kernel
theorem dX8_undo_28 : decode cX8_undo 28 = .ok (.aload_n 0, 1) := by decide +kernel
theorem dX8_undo_29 : decode cX8_undo 29 = .ok (.getfield 16, 3) := by decide +kernel
theorem dX8_undo_32 : decode cX8_undo 32 = .ok (.iload_n 1, 1) := by decide +kernel
theorem dX8_undo_33 : decode cX8_undo 33 = .ok (.aload_n 0, 1) := by decide +kernel
theorem dX8_undo_34 : decode cX8_undo 34 = .ok (.getfield 28, 3) := by decide +kernel
theorem dX8_undo_37 : decode cX8_undo 37 = .ok (.bipush 13, 2) := by decide +kernel
theorem dX8_undo_39 : decode cX8_undo 39 = .ok (.aload_n 0, 1) := by decide +kernel
theorem dX8_undo_40 : decode cX8_undo 40 = .ok (.getfield 88, 3) := by decide +kernel
theorem dX8_undo_43 : decode cX8_undo 43 = .ok (.imul, 1) := by decide +kernel
theorem dX8_undo_44 : decode cX8_undo 44 = .ok (.iload_n 1, 1) := by decide +kernel
theorem dX8_undo_45 : decode cX8_undo 45 = .ok (.iadd, 1) := by decide +kernel
theorem dX8_undo_46 : decode cX8_undo 46 = .ok (.iaload, 1) := by decide +kernel
theorem dX8_undo_47 : decode cX8_undo 47 = .ok (.iastore, 1) := by decide +kernel
theorem dX8_undo_48 : decode cX8_undo 48 = .ok (.iinc 1 1, 3) := by decide +kernel
theorem dX8_undo_51 : decode cX8_undo 51 = .ok (.goto (-29), 3) := by decide +kernel
theorem dX8_undo_54 : decode cX8_undo 54 = .ok (.aload_n 0, 1) := by decide +kernel
theorem dX8_undo_55 : decode cX8_undo 55 = .ok (.getfield 88, 3) := by decide +kernel
theorem dX8_undo_58 : decode cX8_undo 58 = .ok (.ireturn, 1) := by decide +kernel
theorem dX8_seed_0 : decode cX8_seed 0 = .ok (.iload_n 1, 1) := by decide +kernel
theorem dX8_seed_1 : decode cX8_seed 1 = .ok (.ifCond .ge 5, 3) := by decide +kernel
theorem dX8_seed_4 : decode cX8_seed 4 = .ok (.iconst (-1), 1) := by decide +kernel
theorem dX8_seed_5 : decode cX8_seed 5 = .ok (.ireturn, 1) := by decide +kernel
theorem dX8_seed_6 : decode cX8_seed 6 = .ok (.aload_n 0, 1) := by decide +kernel
theorem dX8_seed_7 : decode cX8_seed 7 = .ok (.getfield 16, 3) := by decide +kernel
theorem dX8_seed_10 : decode cX8_seed 10 = .ok (.iconst 2, 1) := by decide +kernel
theorem dX8_seed_11 : decode cX8_seed 11 = .ok (.iaload, 1) := by decide +kernel
theorem dX8_seed_12 : decode cX8_seed 12 = .ok (.istore_n 2, 1) := by decide +kernel
theorem dX8_seed_13 : decode cX8_seed 13 = .ok (.aload_n 0, 1) := by decide +kernel
theorem dX8_seed_14 : decode cX8_seed 14 = .ok (.getfield 16, 3) := by decide +kernel
theorem dX8_seed_17 : decode cX8_seed 17 = .ok (.iconst 2, 1) := by decide +kernel
theorem dX8_seed_18 : decode cX8_seed 18 = .ok (.iload_n 1, 1) := by decide +kernel
theorem dX8_seed_19 : decode cX8_seed 19 = .ok (.iastore, 1) := by decide +kernel
theorem dX8_seed_20 : decode cX8_seed 20 = .ok (.iload_n 2, 1) := by decide +kernel
theorem dX8_seed_21 : decode cX8_seed 21 = .ok (.ireturn, 1) := by decide +kernel
theorem dX8_asides_0 : decode cX8_asides 0 = .ok (.iconst 0, 1) := by decide +kernel
theorem dX8_asides_1 : decode cX8_asides 1 = .ok (.istore_n 1, 1) := by decide +kernel
theorem dX8_asides_2 : decode cX8_asides 2 = .ok (.iload_n 1, 1) := by decide +kernel
theorem dX8_asides_3 : decode cX8_asides 3 = .ok (.bipush 13, 2) := by decide +kernel
theorem dX8_asides_5 : decode cX8_asides 5 = .ok (.if_icmp .ge 21, 3) := by decide +kernel
theorem dX8_asides_8 : decode cX8_asides 8 = .ok (.aload_n 0, 1) := by decide +kernel
theorem dX8_asides_9 : decode cX8_asides 9 = .ok (.getfield 31, 3) := by decide +kernel
theorem dX8_asides_12 : decode cX8_asides 12 = .ok (.iload_n 1, 1) := by decide +kernel
theorem dX8_asides_13 : decode cX8_asides 13 = .ok (.aload_n 0, 1) := by decide +kernel
theorem dX8_asides_14 : decode cX8_asides 14 = .ok (.getfield 16, 3) := by decide +kernel
theorem dX8_asides_17 : decode cX8_asides 17 = .ok (.iload_n 1, 1) := by decide +kernel
theorem dX8_asides_18 : decode cX8_asides 18 = .ok (.iaload, 1) := by decide +kernel
theorem dX8_asides_19 : decode cX8_asides 19 = .ok (.iastore, 1) := by decide +kernel
theorem dX8_asides_20 : decode cX8_asides 20 = .ok (.iinc 1 1, 3) := by decide +kernel
theorem dX8_asides_23 : decode cX8_asides 23 = .ok (.goto (-21), 3) := by decide +kernel
theorem dX8_asides_26 : decode cX8_asides 26 = .ok (.return_, 1) := by decide +kernel
theorem dX8_backs_0 : decode cX8_backs 0 = .ok (.iconst 0, 1) := by decide +kernel
theorem dX8_backs_1 : decode cX8_backs 1 = .ok (.istore_n 1, 1) := by decide +kernel
theorem dX8_backs_2 : decode cX8_backs 2 = .ok (.iload_n 1, 1) := by decide +kernel
theorem dX8_backs_3 : decode cX8_backs 3 = .ok (.bipush 13, 2) := by decide +kernel
theorem dX8_backs_5 : decode cX8_backs 5 = .ok (.if_icmp .ge 21, 3) := by decide +kernel
theorem dX8_backs_8 : decode cX8_backs 8 = .ok (.aload_n 0, 1) := by decide +kernel
theorem dX8_backs_9 : decode cX8_backs 9 = .ok (.getfield 16, 3) := by decide +kernel
theorem dX8_backs_12 : decode cX8_backs 12 = .ok (.iload_n 1, 1) := by decide +kernel
theorem dX8_backs_13 : decode cX8_backs 13 = .ok (.aload_n 0, 1) := by decide +kernel
theorem dX8_backs_14 : decode cX8_backs 14 = .ok (.getfield 31, 3) := by decide +kernel
theorem dX8_backs_17 : decode cX8_backs 17 = .ok (.iload_n 1, 1) := by decide +kernel
theorem dX8_backs_18 : decode cX8_backs 18 = .ok (.iaload, 1) := by decide +kernel
theorem dX8_backs_19 : decode cX8_backs 19 = .ok (.iastore, 1) := by decide +kernel
theorem dX8_backs_20 : decode cX8_backs 20 = .ok (.iinc 1 1, 3) := by decide +kernel
theorem dX8_backs_23 : decode cX8_backs 23 = .ok (.goto (-21), 3) := by decide +kernel
theorem dX8_backs_26 : decode cX8_backs 26 = .ok (.return_, 1) := by decide +kernel
theorem dX8_lines_0 : decode cX8_lines 0 = .ok (.iconst 0, 1) := by decide +kernel
theorem dX8_lines_1 : decode cX8_lines 1 = .ok (.istore_n 1, 1) := by decide +kernel
theorem dX8_lines_2 : decode cX8_lines 2 = .ok (.iconst (-1), 1) := by decide +kernel
theorem dX8_lines_3 : decode cX8_lines 3 = .ok (.istore_n 2, 1) := by decide +kernel
theorem dX8_lines_4 : decode cX8_lines 4 = .ok (.iconst (-1), 1) := by decide +kernel
theorem dX8_lines_5 : decode cX8_lines 5 = .ok (.istore_n 3, 1) := by decide +kernel
theorem dX8_lines_6 : decode cX8_lines 6 = .ok (.iconst 1, 1) := by decide +kernel
theorem dX8_lines_7 : decode cX8_lines 7 = .ok (.istore 4, 2) := by decide +kernel
theorem dX8_lines_9 : decode cX8_lines 9 = .ok (.iload 4, 2) := by decide +kernel
theorem dX8_lines_11 : decode cX8_lines 11 = .ok (.ifCond .eq 166, 3) := by decide +kernel
theorem dX8_lines_14 : decode cX8_lines 14 = .ok (.bipush (-4), 2) := by decide +kernel
theorem dX8_lines_16 : decode cX8_lines 16 = .ok (.istore 5, 2) := by decide +kernel
theorem dX8_lines_18 : decode cX8_lines 18 = .ok (.iconst 1, 1) := by decide +kernel
theorem dX8_lines_19 : decode cX8_lines 19 = .ok (.istore 6, 2) := by decide +kernel
theorem dX8_lines_21 : decode cX8_lines 21 = .ok (.iload 6, 2) := by decide +kernel
theorem dX8_lines_23 : decode cX8_lines 23 = .ok (.aload_n 0, 1) := by decide +kernel
theorem dX8_lines_24 : decode cX8_lines 24 = .ok (.getfield 66, 3) := by decide +kernel
theorem dX8_lines_27 : decode cX8_lines 27 = .ok (.if_icmp .ge 103, 3) := by decide +kernel
theorem dX8_lines_30 : decode cX8_lines 30 = .ok (.aload_n 0, 1) := by decide +kernel
theorem dX8_lines_31 : decode cX8_lines 31 = .ok (.iload 6, 2) := by decide +kernel
theorem dX8_lines_33 : decode cX8_lines 33 = .ok (.invokevirtual 103, 3) := by decide +kernel
theorem dX8_lines_36 : decode cX8_lines 36 = .ok (.ifCond .ne 41, 3) := by decide +kernel
theorem dX8_lines_39 : decode cX8_lines 39 = .ok (.aload_n 0, 1) := by decide +kernel
theorem dX8_lines_40 : decode cX8_lines 40 = .ok (.getfield 16, 3) := by decide +kernel
theorem dX8_lines_43 : decode cX8_lines 43 = .ok (.bipush 8, 2) := by decide +kernel
theorem dX8_lines_45 : decode cX8_lines 45 = .ok (.iload 6, 2) := by decide +kernel
theorem dX8_lines_47 : decode cX8_lines 47 = .ok (.iadd, 1) := by decide +kernel
theorem dX8_lines_48 : decode cX8_lines 48 = .ok (.iaload, 1) := by decide +kernel
theorem dX8_lines_49 : decode cX8_lines 49 = .ok (.iload_n 2, 1) := by decide +kernel
theorem dX8_lines_50 : decode cX8_lines 50 = .ok (.if_icmp .gt 23, 3) := by decide +kernel
theorem dX8_lines_53 : decode cX8_lines 53 = .ok (.aload_n 0, 1) := by decide +kernel
theorem dX8_lines_54 : decode cX8_lines 54 = .ok (.getfield 16, 3) := by decide +kernel
theorem dX8_lines_57 : decode cX8_lines 57 = .ok (.bipush 8, 2) := by decide +kernel
theorem dX8_lines_59 : decode cX8_lines 59 = .ok (.iload 6, 2) := by decide +kernel
theorem dX8_lines_61 : decode cX8_lines 61 = .ok (.iadd, 1) := by decide +kernel
theorem dX8_lines_62 : decode cX8_lines 62 = .ok (.iaload, 1) := by decide +kernel
theorem dX8_lines_63 : decode cX8_lines 63 = .ok (.iload_n 2, 1) := by decide +kernel
theorem dX8_lines_64 : decode cX8_lines 64 = .ok (.if_icmp .ne 13, 3) := by decide +kernel
theorem dX8_lines_67 : decode cX8_lines 67 = .ok (.iload 6, 2) := by decide +kernel
theorem dX8_lines_69 : decode cX8_lines 69 = .ok (.iload_n 3, 1) := by decide +kernel
theorem dX8_lines_70 : decode cX8_lines 70 = .ok (.if_icmp .le 7, 3) := by decide +kernel
theorem dX8_lines_73 : decode cX8_lines 73 = .ok (.iconst 1, 1) := by decide +kernel
theorem dX8_lines_74 : decode cX8_lines 74 = .ok (.goto 4, 3) := by decide +kernel
theorem dX8_lines_77 : decode cX8_lines 77 = .ok (.iconst 0, 1) := by decide +kernel
theorem dX8_lines_78 : decode cX8_lines 78 = .ok (.istore 7, 2) := by decide +kernel
theorem dX8_lines_80 : decode cX8_lines 80 = .ok (.iload 7, 2) := by decide +kernel
theorem dX8_lines_82 : decode cX8_lines 82 = .ok (.ifCond .eq 38, 3) := by decide +kernel
theorem dX8_lines_85 : decode cX8_lines 85 = .ok (.iload 5, 2) := by decide +kernel
theorem dX8_lines_87 : decode cX8_lines 87 = .ok (.bipush (-4), 2) := by decide +kernel
theorem dX8_lines_89 : decode cX8_lines 89 = .ok (.if_icmp .eq 26, 3) := by decide +kernel
theorem dX8_lines_92 : decode cX8_lines 92 = .ok (.aload_n 0, 1) := by decide +kernel
theorem dX8_lines_93 : decode cX8_lines 93 = .ok (.getfield 16, 3) := by decide +kernel
theorem dX8_lines_96 : decode cX8_lines 96 = .ok (.bipush 8, 2) := by decide +kernel
theorem dX8_lines_98 : decode cX8_lines 98 = .ok (.iload 6, 2) := by decide +kernel
theorem dX8_lines_100 : decode cX8_lines 100 = .ok (.iadd, 1) := by decide +kernel
theorem dX8_lines_101 : decode cX8_lines 101 = .ok (.iaload, 1) := by decide +kernel
theorem dX8_lines_102 : decode cX8_lines 102 = .ok (.aload_n 0, 1) := by decide +kernel
theorem dX8_lines_103 : decode cX8_lines 103 = .ok (.getfield 16, 3) := by decide +kernel
theorem dX8_lines_106 : decode cX8_lines 106 = .ok (.bipush 8, 2) := by decide +kernel
theorem dX8_lines_108 : decode cX8_lines 108 = .ok (.iload 5, 2) := by decide +kernel
theorem dX8_lines_110 : decode cX8_lines 110 = .ok (.iadd, 1) := by decide +kernel
theorem dX8_lines_111 : decode cX8_lines 111 = .ok (.iaload, 1) := by decide +kernel
theorem dX8_lines_112 : decode cX8_lines 112 = .ok (.if_icmp .ge 8, 3) := by decide +kernel
theorem dX8_lines_115 : decode cX8_lines 115 = .ok (.iload 6, 2) := by decide +kernel
theorem dX8_lines_117 : decode cX8_lines 117 = .ok (.goto 5, 3) := by decide +kernel
theorem dX8_lines_120 : decode cX8_lines 120 = .ok (.iload 5, 2) := by decide +kernel
theorem dX8_lines_122 : decode cX8_lines 122 = .ok (.istore 5, 2) := by decide +kernel
theorem dX8_lines_124 : decode cX8_lines 124 = .ok (.iinc 6 1, 3) := by decide +kernel
theorem dX8_lines_127 : decode cX8_lines 127 = .ok (.goto (-106), 3) := by decide +kernel
theorem dX8_lines_130 : decode cX8_lines 130 = .ok (.iload 5, 2) := by decide +kernel
theorem dX8_lines_132 : decode cX8_lines 132 = .ok (.bipush (-4), 2) := by decide +kernel
theorem dX8_lines_134 : decode cX8_lines 134 = .ok (.if_icmp .eq 7, 3) := by decide +kernel
theorem dX8_lines_137 : decode cX8_lines 137 = .ok (.iconst 1, 1) := by decide +kernel
theorem dX8_lines_138 : decode cX8_lines 138 = .ok (.goto 4, 3) := by decide +kernel
theorem dX8_lines_141 : decode cX8_lines 141 = .ok (.iconst 0, 1) := by decide +kernel
theorem dX8_lines_142 : decode cX8_lines 142 = .ok (.istore 4, 2) := by decide +kernel
theorem dX8_lines_144 : decode cX8_lines 144 = .ok (.iload 4, 2) := by decide +kernel
theorem dX8_lines_146 : decode cX8_lines 146 = .ok (.ifCond .eq 28, 3) := by decide +kernel
theorem dX8_lines_149 : decode cX8_lines 149 = .ok (.aload_n 0, 1) := by decide +kernel
theorem dX8_lines_150 : decode cX8_lines 150 = .ok (.getfield 34, 3) := by decide +kernel
theorem dX8_lines_153 : decode cX8_lines 153 = .ok (.iload_n 1, 1) := by decide +kernel
theorem dX8_lines_154 : decode cX8_lines 154 = .ok (.iload 5, 2) := by decide +kernel
theorem dX8_lines_156 : decode cX8_lines 156 = .ok (.iastore, 1) := by decide +kernel
theorem dX8_lines_157 : decode cX8_lines 157 = .ok (.iinc 1 1, 3) := by decide +kernel
theorem dX8_lines_160 : decode cX8_lines 160 = .ok (.aload_n 0, 1) := by decide +kernel
theorem dX8_lines_161 : decode cX8_lines 161 = .ok (.getfield 16, 3) := by decide +kernel
theorem dX8_lines_164 : decode cX8_lines 164 = .ok (.bipush 8, 2) := by decide +kernel
theorem dX8_lines_166 : decode cX8_lines 166 = .ok (.iload 5, 2) := by decide +kernel
theorem dX8_lines_168 : decode cX8_lines 168 = .ok (.iadd, 1) := by decide +kernel
theorem dX8_lines_169 : decode cX8_lines 169 = .ok (.iaload, 1) := by decide +kernel
theorem dX8_lines_170 : decode cX8_lines 170 = .ok (.istore_n 2, 1) := by decide +kernel
theorem dX8_lines_171 : decode cX8_lines 171 = .ok (.iload 5, 2) := by decide +kernel
theorem dX8_lines_173 : decode cX8_lines 173 = .ok (.istore_n 3, 1) := by decide +kernel
theorem dX8_lines_174 : decode cX8_lines 174 = .ok (.goto (-165), 3) := by decide +kernel
theorem dX8_lines_177 : decode cX8_lines 177 = .ok (.iload_n 1, 1) := by decide +kernel
theorem dX8_lines_178 : decode cX8_lines 178 = .ok (.ireturn, 1) := by decide +kernel
theorem dX8_fought_0 : decode cX8_fought 0 = .ok (.aload_n 0, 1) := by decide +kernel
theorem dX8_fought_1 : decode cX8_fought 1 = .ok (.getfield 34, 3) := by decide +kernel
theorem dX8_fought_4 : decode cX8_fought 4 = .ok (.iload_n 1, 1) := by decide +kernel
theorem dX8_fought_5 : decode cX8_fought 5 = .ok (.iaload, 1) := by decide +kernel
theorem dX8_fought_6 : decode cX8_fought 6 = .ok (.istore 7, 2) := by decide +kernel
theorem dX8_fought_8 : decode cX8_fought 8 = .ok (.bipush 8, 2) := by decide +kernel
theorem dX8_fought_10 : decode cX8_fought 10 = .ok (.aload_n 0, 1) := by decide +kernel
theorem dX8_fought_11 : decode cX8_fought 11 = .ok (.iconst 0, 1) := by decide +kernel
theorem dX8_fought_12 : decode cX8_fought 12 = .ok (.iload_n 3, 1) := by decide +kernel
theorem dX8_fought_13 : decode cX8_fought 13 = .ok (.invokevirtual 126, 3) := by decide +kernel
theorem dX8_fought_16 : decode cX8_fought 16 = .ok (.iadd, 1) := by decide +kernel
theorem dX8_fought_17 : decode cX8_fought 17 = .ok (.aload_n 0, 1) := by decide +kernel
theorem dX8_fought_18 : decode cX8_fought 18 = .ok (.iload 7, 2) := by decide +kernel
theorem dX8_fought_20 : decode cX8_fought 20 = .ok (.iload 4, 2) := by decide +kernel
theorem dX8_fought_22 : decode cX8_fought 22 = .ok (.invokevirtual 126, 3) := by decide +kernel
theorem dX8_fought_25 : decode cX8_fought 25 = .ok (.isub, 1) := by decide +kernel
theorem dX8_fought_26 : decode cX8_fought 26 = .ok (.iconst 2, 1) := by decide +kernel
theorem dX8_fought_27 : decode cX8_fought 27 = .ok (.iload 5, 2) := by decide +kernel
theorem dX8_fought_29 : decode cX8_fought 29 = .ok (.imul, 1) := by decide +kernel
theorem dX8_fought_30 : decode cX8_fought 30 = .ok (.isub, 1) := by decide +kernel
theorem dX8_fought_31 : decode cX8_fought 31 = .ok (.invokestatic 183, 3) := by decide +kernel
theorem dX8_fought_34 : decode cX8_fought 34 = .ok (.istore 8, 2) := by decide +kernel
theorem dX8_fought_36 : decode cX8_fought 36 = .ok (.iload 4, 2) := by decide +kernel
theorem dX8_fought_38 : decode cX8_fought 38 = .ok (.iconst 5, 1) := by decide +kernel
theorem dX8_fought_39 : decode cX8_fought 39 = .ok (.if_icmp .ge 23, 3) := by decide +kernel
theorem dX8_fought_42 : decode cX8_fought 42 = .ok (.aload 6, 2) := by decide +kernel
theorem dX8_fought_44 : decode cX8_fought 44 = .ok (.bipush 36, 2) := by decide +kernel
theorem dX8_fought_46 : decode cX8_fought 46 = .ok (.iload_n 1, 1) := by decide +kernel
theorem dX8_fought_47 : decode cX8_fought 47 = .ok (.imul, 1) := by decide +kernel
theorem dX8_fought_48 : decode cX8_fought 48 = .ok (.bipush 6, 2) := by decide +kernel
theorem dX8_fought_50 : decode cX8_fought 50 = .ok (.iload 4, 2) := by decide +kernel
theorem dX8_fought_52 : decode cX8_fought 52 = .ok (.iconst 1, 1) := by decide +kernel
theorem dX8_fought_53 : decode cX8_fought 53 = .ok (.iadd, 1) := by decide +kernel
theorem dX8_fought_54 : decode cX8_fought 54 = .ok (.imul, 1) := by decide +kernel
theorem dX8_fought_55 : decode cX8_fought 55 = .ok (.iadd, 1) := by decide +kernel
theorem dX8_fought_56 : decode cX8_fought 56 = .ok (.iload_n 3, 1) := by decide +kernel
theorem dX8_fought_57 : decode cX8_fought 57 = .ok (.iadd, 1) := by decide +kernel
theorem dX8_fought_58 : decode cX8_fought 58 = .ok (.iaload, 1) := by decide +kernel
theorem dX8_fought_59 : decode cX8_fought 59 = .ok (.goto 42, 3) := by decide +kernel
theorem dX8_fought_62 : decode cX8_fought 62 = .ok (.iload_n 1, 1) := by decide +kernel
theorem dX8_fought_63 : decode cX8_fought 63 = .ok (.iconst 1, 1) := by decide +kernel
theorem dX8_fought_64 : decode cX8_fought 64 = .ok (.iadd, 1) := by decide +kernel
theorem dX8_fought_65 : decode cX8_fought 65 = .ok (.iload_n 2, 1) := by decide +kernel
theorem dX8_fought_66 : decode cX8_fought 66 = .ok (.if_icmp .ne 8, 3) := by decide +kernel
theorem dX8_fought_69 : decode cX8_fought 69 = .ok (.ldc 202, 2) := by decide +kernel
theorem dX8_fought_71 : decode cX8_fought 71 = .ok (.goto 30, 3) := by decide +kernel
theorem dX8_fought_74 : decode cX8_fought 74 = .ok (.aload 6, 2) := by decide +kernel
theorem dX8_fought_76 : decode cX8_fought 76 = .ok (.bipush 36, 2) := by decide +kernel
theorem dX8_fought_78 : decode cX8_fought 78 = .ok (.iload_n 1, 1) := by decide +kernel
theorem dX8_fought_79 : decode cX8_fought 79 = .ok (.iconst 1, 1) := by decide +kernel
theorem dX8_fought_80 : decode cX8_fought 80 = .ok (.iadd, 1) := by decide +kernel
theorem dX8_fought_81 : decode cX8_fought 81 = .ok (.imul, 1) := by decide +kernel
theorem dX8_fought_82 : decode cX8_fought 82 = .ok (.bipush 6, 2) := by decide +kernel
theorem dX8_fought_84 : decode cX8_fought 84 = .ok (.aload_n 0, 1) := by decide +kernel
theorem dX8_fought_85 : decode cX8_fought 85 = .ok (.aload_n 0, 1) := by decide +kernel
theorem dX8_fought_86 : decode cX8_fought 86 = .ok (.getfield 34, 3) := by decide +kernel
theorem dX8_fought_89 : decode cX8_fought 89 = .ok (.iload_n 1, 1) := by decide +kernel
theorem dX8_fought_90 : decode cX8_fought 90 = .ok (.iconst 1, 1) := by decide +kernel
theorem dX8_fought_91 : decode cX8_fought 91 = .ok (.iadd, 1) := by decide +kernel
theorem dX8_fought_92 : decode cX8_fought 92 = .ok (.iaload, 1) := by decide +kernel
theorem dX8_fought_93 : decode cX8_fought 93 = .ok (.invokevirtual 91, 3) := by decide +kernel
theorem dX8_fought_96 : decode cX8_fought 96 = .ok (.imul, 1) := by decide +kernel
theorem dX8_fought_97 : decode cX8_fought 97 = .ok (.iadd, 1) := by decide +kernel
theorem dX8_fought_98 : decode cX8_fought 98 = .ok (.iload_n 3, 1) := by decide +kernel
theorem dX8_fought_99 : decode cX8_fought 99 = .ok (.iadd, 1) := by decide +kernel
theorem dX8_fought_100 : decode cX8_fought 100 = .ok (.iaload, 1) := by decide +kernel
theorem dX8_fought_101 : decode cX8_fought 101 = .ok (.istore 9, 2) := by decide +kernel
theorem dX8_fought_103 : decode cX8_fought 103 = .ok (.iload_n 3, 1) := by decide +kernel
theorem dX8_fought_104 : decode cX8_fought 104 = .ok (.iconst 5, 1) := by decide +kernel
theorem dX8_fought_105 : decode cX8_fought 105 = .ok (.if_icmp .ge 23, 3) := by decide +kernel
theorem dX8_fought_108 : decode cX8_fought 108 = .ok (.aload 6, 2) := by decide +kernel
theorem dX8_fought_110 : decode cX8_fought 110 = .ok (.bipush 36, 2) := by decide +kernel
theorem dX8_fought_112 : decode cX8_fought 112 = .ok (.iload_n 1, 1) := by decide +kernel
theorem dX8_fought_113 : decode cX8_fought 113 = .ok (.imul, 1) := by decide +kernel
theorem dX8_fought_114 : decode cX8_fought 114 = .ok (.bipush 6, 2) := by decide +kernel
theorem dX8_fought_116 : decode cX8_fought 116 = .ok (.iload 4, 2) := by decide +kernel
theorem dX8_fought_118 : decode cX8_fought 118 = .ok (.imul, 1) := by decide +kernel
theorem dX8_fought_119 : decode cX8_fought 119 = .ok (.iadd, 1) := by decide +kernel
theorem dX8_fought_120 : decode cX8_fought 120 = .ok (.iload_n 3, 1) := by decide +kernel
theorem dX8_fought_121 : decode cX8_fought 121 = .ok (.iadd, 1) := by decide +kernel
theorem dX8_fought_122 : decode cX8_fought 122 = .ok (.iconst 1, 1) := by decide +kernel
theorem dX8_fought_123 : decode cX8_fought 123 = .ok (.iadd, 1) := by decide +kernel
theorem dX8_fought_124 : decode cX8_fought 124 = .ok (.iaload, 1) := by decide +kernel
theorem dX8_fought_125 : decode cX8_fought 125 = .ok (.goto 4, 3) := by decide +kernel
theorem dX8_fought_128 : decode cX8_fought 128 = .ok (.iconst 0, 1) := by decide +kernel
theorem dX8_fought_129 : decode cX8_fought 129 = .ok (.istore 10, 2) := by decide +kernel
theorem dX8_fought_131 : decode cX8_fought 131 = .ok (.iload 8, 2) := by decide +kernel
theorem dX8_fought_133 : decode cX8_fought 133 = .ok (.iload 9, 2) := by decide +kernel
theorem dX8_fought_135 : decode cX8_fought 135 = .ok (.imul, 1) := by decide +kernel
theorem dX8_fought_136 : decode cX8_fought 136 = .ok (.bipush 16, 2) := by decide +kernel
theorem dX8_fought_138 : decode cX8_fought 138 = .ok (.iload 8, 2) := by decide +kernel
theorem dX8_fought_140 : decode cX8_fought 140 = .ok (.isub, 1) := by decide +kernel
theorem dX8_fought_141 : decode cX8_fought 141 = .ok (.iload 10, 2) := by decide +kernel
theorem dX8_fought_143 : decode cX8_fought 143 = .ok (.imul, 1) := by decide +kernel
theorem dX8_fought_144 : decode cX8_fought 144 = .ok (.iadd, 1) := by decide +kernel
theorem dX8_fought_145 : decode cX8_fought 145 = .ok (.bipush 16, 2) := by decide +kernel
theorem dX8_fought_147 : decode cX8_fought 147 = .ok (.idiv, 1) := by decide +kernel
theorem dX8_fought_148 : decode cX8_fought 148 = .ok (.ireturn, 1) := by decide +kernel
theorem dX8_likely_0 : decode cX8_likely 0 = .ok (.aload_n 0, 1) := by decide +kernel
theorem dX8_likely_1 : decode cX8_likely 1 = .ok (.invokevirtual 203, 3) := by decide +kernel
theorem dX8_likely_4 : decode cX8_likely 4 = .ok (.istore_n 1, 1) := by decide +kernel
theorem dX8_likely_5 : decode cX8_likely 5 = .ok (.iload_n 1, 1) := by decide +kernel
theorem dX8_likely_6 : decode cX8_likely 6 = .ok (.ifCond .ne 6, 3) := by decide +kernel
theorem dX8_likely_9 : decode cX8_likely 9 = .ok (.ldc 202, 2) := by decide +kernel
theorem dX8_likely_11 : decode cX8_likely 11 = .ok (.ireturn, 1) := by decide +kernel
theorem dX8_likely_12 : decode cX8_likely 12 = .ok (.iload_n 1, 1) := by decide +kernel
theorem dX8_likely_13 : decode cX8_likely 13 = .ok (.iconst 1, 1) := by decide +kernel
theorem dX8_likely_14 : decode cX8_likely 14 = .ok (.isub, 1) := by decide +kernel
theorem dX8_likely_15 : decode cX8_likely 15 = .ok (.istore_n 2, 1) := by decide +kernel
theorem dX8_likely_16 : decode cX8_likely 16 = .ok (.iload_n 2, 1) := by decide +kernel
theorem dX8_likely_17 : decode cX8_likely 17 = .ok (.ifCond .lt 70, 3) := by decide +kernel
theorem dX8_likely_20 : decode cX8_likely 20 = .ok (.iconst 5, 1) := by decide +kernel
theorem dX8_likely_21 : decode cX8_likely 21 = .ok (.istore_n 3, 1) := by decide +kernel
theorem dX8_likely_22 : decode cX8_likely 22 = .ok (.iload_n 3, 1) := by decide +kernel
theorem dX8_likely_23 : decode cX8_likely 23 = .ok (.ifCond .lt 58, 3) := by decide +kernel
theorem dX8_likely_26 : decode cX8_likely 26 = .ok (.iconst 5, 1) := by decide +kernel
theorem dX8_likely_27 : decode cX8_likely 27 = .ok (.istore 4, 2) := by decide +kernel
theorem dX8_likely_29 : decode cX8_likely 29 = .ok (.iload 4, 2) := by decide +kernel
theorem dX8_likely_31 : decode cX8_likely 31 = .ok (.ifCond .lt 44, 3) := by decide +kernel
theorem dX8_likely_34 : decode cX8_likely 34 = .ok (.aload_n 0, 1) := by decide +kernel
theorem dX8_likely_35 : decode cX8_likely 35 = .ok (.getfield 37, 3) := by decide +kernel
theorem dX8_likely_38 : decode cX8_likely 38 = .ok (.bipush 36, 2) := by decide +kernel
theorem dX8_likely_40 : decode cX8_likely 40 = .ok (.iload_n 2, 1) := by decide +kernel
theorem dX8_likely_41 : decode cX8_likely 41 = .ok (.imul, 1) := by decide +kernel
theorem dX8_likely_42 : decode cX8_likely 42 = .ok (.bipush 6, 2) := by decide +kernel
theorem dX8_likely_44 : decode cX8_likely 44 = .ok (.iload_n 3, 1) := by decide +kernel
theorem dX8_likely_45 : decode cX8_likely 45 = .ok (.imul, 1) := by decide +kernel
theorem dX8_likely_46 : decode cX8_likely 46 = .ok (.iadd, 1) := by decide +kernel
theorem dX8_likely_47 : decode cX8_likely 47 = .ok (.iload 4, 2) := by decide +kernel
theorem dX8_likely_49 : decode cX8_likely 49 = .ok (.iadd, 1) := by decide +kernel
theorem dX8_likely_50 : decode cX8_likely 50 = .ok (.aload_n 0, 1) := by decide +kernel
theorem dX8_likely_51 : decode cX8_likely 51 = .ok (.iload_n 2, 1) := by decide +kernel
theorem dX8_likely_52 : decode cX8_likely 52 = .ok (.iload_n 1, 1) := by decide +kernel
theorem dX8_likely_53 : decode cX8_likely 53 = .ok (.iload 4, 2) := by decide +kernel
theorem dX8_likely_55 : decode cX8_likely 55 = .ok (.iload_n 3, 1) := by decide +kernel
theorem dX8_likely_56 : decode cX8_likely 56 = .ok (.iload_n 1, 1) := by decide +kernel
theorem dX8_likely_57 : decode cX8_likely 57 = .ok (.iconst 1, 1) := by decide +kernel
theorem dX8_likely_58 : decode cX8_likely 58 = .ok (.isub, 1) := by decide +kernel
theorem dX8_likely_59 : decode cX8_likely 59 = .ok (.iload_n 2, 1) := by decide +kernel
theorem dX8_likely_60 : decode cX8_likely 60 = .ok (.isub, 1) := by decide +kernel
theorem dX8_likely_61 : decode cX8_likely 61 = .ok (.aload_n 0, 1) := by decide +kernel
theorem dX8_likely_62 : decode cX8_likely 62 = .ok (.getfield 37, 3) := by decide +kernel
theorem dX8_likely_65 : decode cX8_likely 65 = .ok (.invokevirtual 206, 3) := by decide +kernel
theorem dX8_likely_68 : decode cX8_likely 68 = .ok (.iastore, 1) := by decide +kernel
theorem dX8_likely_69 : decode cX8_likely 69 = .ok (.iinc 4 (-1), 3) := by decide +kernel
theorem dX8_likely_72 : decode cX8_likely 72 = .ok (.goto (-43), 3) := by decide +kernel
theorem dX8_likely_75 : decode cX8_likely 75 = .ok (.iinc 3 (-1), 3) := by decide +kernel
theorem dX8_likely_78 : decode cX8_likely 78 = .ok (.goto (-56), 3) := by decide +kernel
theorem dX8_likely_81 : decode cX8_likely 81 = .ok (.iinc 2 (-1), 3) := by decide +kernel
theorem dX8_likely_84 : decode cX8_likely 84 = .ok (.goto (-68), 3) := by decide +kernel
theorem dX8_likely_87 : decode cX8_likely 87 = .ok (.aload_n 0, 1) := by decide +kernel
theorem dX8_likely_88 : decode cX8_likely 88 = .ok (.getfield 16, 3) := by decide +kernel
theorem dX8_likely_91 : decode cX8_likely 91 = .ok (.bipush 8, 2) := by decide +kernel
theorem dX8_likely_93 : decode cX8_likely 93 = .ok (.aload_n 0, 1) := by decide +kernel
theorem dX8_likely_94 : decode cX8_likely 94 = .ok (.getfield 34, 3) := by decide +kernel
theorem dX8_likely_97 : decode cX8_likely 97 = .ok (.iload_n 1, 1) := by decide +kernel
theorem dX8_likely_98 : decode cX8_likely 98 = .ok (.iconst 1, 1) := by decide +kernel
theorem dX8_likely_99 : decode cX8_likely 99 = .ok (.isub, 1) := by decide +kernel
theorem dX8_likely_100 : decode cX8_likely 100 = .ok (.iaload, 1) := by decide +kernel
theorem dX8_likely_101 : decode cX8_likely 101 = .ok (.iadd, 1) := by decide +kernel
theorem dX8_likely_102 : decode cX8_likely 102 = .ok (.iaload, 1) := by decide +kernel
theorem dX8_likely_103 : decode cX8_likely 103 = .ok (.iconst 2, 1) := by decide +kernel
theorem dX8_likely_104 : decode cX8_likely 104 = .ok (.isub, 1) := by decide +kernel
theorem dX8_likely_105 : decode cX8_likely 105 = .ok (.istore_n 2, 1) := by decide +kernel
theorem dX8_likely_106 : decode cX8_likely 106 = .ok (.iload_n 2, 1) := by decide +kernel
theorem dX8_likely_107 : decode cX8_likely 107 = .ok (.aload_n 0, 1) := by decide +kernel
theorem dX8_likely_108 : decode cX8_likely 108 = .ok (.getfield 16, 3) := by decide +kernel
theorem dX8_likely_111 : decode cX8_likely 111 = .ok (.iconst 0, 1) := by decide +kernel
theorem dX8_likely_112 : decode cX8_likely 112 = .ok (.iaload, 1) := by decide +kernel
theorem dX8_likely_113 : decode cX8_likely 113 = .ok (.if_icmp .lt 17, 3) := by decide +kernel
theorem dX8_likely_116 : decode cX8_likely 116 = .ok (.aload_n 0, 1) := by decide +kernel
theorem dX8_likely_117 : decode cX8_likely 117 = .ok (.iload_n 1, 1) := by decide +kernel
theorem dX8_likely_118 : decode cX8_likely 118 = .ok (.iload_n 2, 1) := by decide +kernel
theorem dX8_likely_119 : decode cX8_likely 119 = .ok (.iconst 1, 1) := by decide +kernel
theorem dX8_likely_120 : decode cX8_likely 120 = .ok (.iadd, 1) := by decide +kernel
theorem dX8_likely_121 : decode cX8_likely 121 = .ok (.invokevirtual 210, 3) := by decide +kernel
theorem dX8_likely_124 : decode cX8_likely 124 = .ok (.iinc 2 (-1), 3) := by decide +kernel
theorem dX8_likely_127 : decode cX8_likely 127 = .ok (.goto (-21), 3) := by decide +kernel
theorem dX8_likely_130 : decode cX8_likely 130 = .ok (.aload_n 0, 1) := by decide +kernel
theorem dX8_likely_131 : decode cX8_likely 131 = .ok (.getfield 37, 3) := by decide +kernel
theorem dX8_likely_134 : decode cX8_likely 134 = .ok (.bipush 6, 2) := by decide +kernel
theorem dX8_likely_136 : decode cX8_likely 136 = .ok (.aload_n 0, 1) := by decide +kernel
theorem dX8_likely_137 : decode cX8_likely 137 = .ok (.aload_n 0, 1) := by decide +kernel
theorem dX8_likely_138 : decode cX8_likely 138 = .ok (.getfield 34, 3) := by decide +kernel
theorem dX8_likely_141 : decode cX8_likely 141 = .ok (.iconst 0, 1) := by decide +kernel
theorem dX8_likely_142 : decode cX8_likely 142 = .ok (.iaload, 1) := by decide +kernel
theorem dX8_likely_143 : decode cX8_likely 143 = .ok (.invokevirtual 91, 3) := by decide +kernel
theorem dX8_likely_146 : decode cX8_likely 146 = .ok (.imul, 1) := by decide +kernel
theorem dX8_likely_147 : decode cX8_likely 147 = .ok (.aload_n 0, 1) := by decide +kernel
theorem dX8_likely_148 : decode cX8_likely 148 = .ok (.iconst 0, 1) := by decide +kernel
theorem dX8_likely_149 : decode cX8_likely 149 = .ok (.invokevirtual 91, 3) := by decide +kernel
theorem dX8_likely_152 : decode cX8_likely 152 = .ok (.iadd, 1) := by decide +kernel
theorem dX8_likely_153 : decode cX8_likely 153 = .ok (.iaload, 1) := by decide +kernel
theorem dX8_likely_154 : decode cX8_likely 154 = .ok (.ireturn, 1) := by decide +kernel
theorem dX8_aheadOf_0 : decode cX8_aheadOf 0 = .ok (.iconst 0, 1) := by decide +kernel
theorem dX8_aheadOf_1 : decode cX8_aheadOf 1 = .ok (.istore_n 3, 1) := by decide +kernel
theorem dX8_aheadOf_2 : decode cX8_aheadOf 2 = .ok (.iload_n 3, 1) := by decide +kernel
theorem dX8_aheadOf_3 : decode cX8_aheadOf 3 = .ok (.iload_n 1, 1) := by decide +kernel
theorem dX8_aheadOf_4 : decode cX8_aheadOf 4 = .ok (.if_icmp .ge 156, 3) := by decide +kernel
theorem dX8_aheadOf_7 : decode cX8_aheadOf 7 = .ok (.iconst 0, 1) := by decide +kernel
theorem dX8_aheadOf_8 : decode cX8_aheadOf 8 = .ok (.istore 4, 2) := by decide +kernel
theorem dX8_aheadOf_10 : decode cX8_aheadOf 10 = .ok (.iload_n 3, 1) := by decide +kernel
theorem dX8_aheadOf_11 : decode cX8_aheadOf 11 = .ok (.iconst 1, 1) := by decide +kernel
theorem dX8_aheadOf_12 : decode cX8_aheadOf 12 = .ok (.iadd, 1) := by decide +kernel
theorem dX8_aheadOf_13 : decode cX8_aheadOf 13 = .ok (.istore 5, 2) := by decide +kernel
theorem dX8_aheadOf_15 : decode cX8_aheadOf 15 = .ok (.iload 5, 2) := by decide +kernel
theorem dX8_aheadOf_17 : decode cX8_aheadOf 17 = .ok (.iload_n 1, 1) := by decide +kernel
theorem dX8_aheadOf_18 : decode cX8_aheadOf 18 = .ok (.if_icmp .ge 38, 3) := by decide +kernel
theorem dX8_aheadOf_21 : decode cX8_aheadOf 21 = .ok (.iload 4, 2) := by decide +kernel
theorem dX8_aheadOf_23 : decode cX8_aheadOf 23 = .ok (.aload_n 0, 1) := by decide +kernel
theorem dX8_aheadOf_24 : decode cX8_aheadOf 24 = .ok (.getfield 16, 3) := by decide +kernel
theorem dX8_aheadOf_27 : decode cX8_aheadOf 27 = .ok (.bipush 8, 2) := by decide +kernel
theorem dX8_aheadOf_29 : decode cX8_aheadOf 29 = .ok (.aload_n 0, 1) := by decide +kernel
theorem dX8_aheadOf_30 : decode cX8_aheadOf 30 = .ok (.getfield 34, 3) := by decide +kernel
theorem dX8_aheadOf_33 : decode cX8_aheadOf 33 = .ok (.iload 5, 2) := by decide +kernel
theorem dX8_aheadOf_35 : decode cX8_aheadOf 35 = .ok (.iaload, 1) := by decide +kernel
theorem dX8_aheadOf_36 : decode cX8_aheadOf 36 = .ok (.iadd, 1) := by decide +kernel
theorem dX8_aheadOf_37 : decode cX8_aheadOf 37 = .ok (.iaload, 1) := by decide +kernel
theorem dX8_aheadOf_38 : decode cX8_aheadOf 38 = .ok (.iload_n 2, 1) := by decide +kernel
theorem dX8_aheadOf_39 : decode cX8_aheadOf 39 = .ok (.if_icmp .gt 7, 3) := by decide +kernel
theorem dX8_aheadOf_42 : decode cX8_aheadOf 42 = .ok (.iconst 1, 1) := by decide +kernel
theorem dX8_aheadOf_43 : decode cX8_aheadOf 43 = .ok (.goto 4, 3) := by decide +kernel
theorem dX8_aheadOf_46 : decode cX8_aheadOf 46 = .ok (.iconst 0, 1) := by decide +kernel
theorem dX8_aheadOf_47 : decode cX8_aheadOf 47 = .ok (.iadd, 1) := by decide +kernel
theorem dX8_aheadOf_48 : decode cX8_aheadOf 48 = .ok (.istore 4, 2) := by decide +kernel
theorem dX8_aheadOf_50 : decode cX8_aheadOf 50 = .ok (.iinc 5 1, 3) := by decide +kernel
theorem dX8_aheadOf_53 : decode cX8_aheadOf 53 = .ok (.goto (-38), 3) := by decide +kernel
theorem dX8_aheadOf_56 : decode cX8_aheadOf 56 = .ok (.iconst 0, 1) := by decide +kernel
theorem dX8_aheadOf_57 : decode cX8_aheadOf 57 = .ok (.istore 5, 2) := by decide +kernel
theorem dX8_aheadOf_59 : decode cX8_aheadOf 59 = .ok (.iload 5, 2) := by decide +kernel
theorem dX8_aheadOf_61 : decode cX8_aheadOf 61 = .ok (.bipush 6, 2) := by decide +kernel
theorem dX8_aheadOf_63 : decode cX8_aheadOf 63 = .ok (.if_icmp .ge 91, 3) := by decide +kernel
theorem dX8_aheadOf_66 : decode cX8_aheadOf 66 = .ok (.iconst 0, 1) := by decide +kernel
theorem dX8_aheadOf_67 : decode cX8_aheadOf 67 = .ok (.istore 6, 2) := by decide +kernel
theorem dX8_aheadOf_69 : decode cX8_aheadOf 69 = .ok (.iload 6, 2) := by decide +kernel
theorem dX8_aheadOf_71 : decode cX8_aheadOf 71 = .ok (.bipush 6, 2) := by decide +kernel
theorem dX8_aheadOf_73 : decode cX8_aheadOf 73 = .ok (.if_icmp .ge 75, 3) := by decide +kernel
theorem dX8_aheadOf_76 : decode cX8_aheadOf 76 = .ok (.bipush 36, 2) := by decide +kernel
theorem dX8_aheadOf_78 : decode cX8_aheadOf 78 = .ok (.iload_n 3, 1) := by decide +kernel
theorem dX8_aheadOf_79 : decode cX8_aheadOf 79 = .ok (.imul, 1) := by decide +kernel
theorem dX8_aheadOf_80 : decode cX8_aheadOf 80 = .ok (.bipush 6, 2) := by decide +kernel
theorem dX8_aheadOf_82 : decode cX8_aheadOf 82 = .ok (.iload 5, 2) := by decide +kernel
theorem dX8_aheadOf_84 : decode cX8_aheadOf 84 = .ok (.imul, 1) := by decide +kernel
theorem dX8_aheadOf_85 : decode cX8_aheadOf 85 = .ok (.iadd, 1) := by decide +kernel
theorem dX8_aheadOf_86 : decode cX8_aheadOf 86 = .ok (.iload 6, 2) := by decide +kernel
theorem dX8_aheadOf_88 : decode cX8_aheadOf 88 = .ok (.iadd, 1) := by decide +kernel
theorem dX8_aheadOf_89 : decode cX8_aheadOf 89 = .ok (.istore 7, 2) := by decide +kernel
theorem dX8_aheadOf_91 : decode cX8_aheadOf 91 = .ok (.aload_n 0, 1) := by decide +kernel
theorem dX8_aheadOf_92 : decode cX8_aheadOf 92 = .ok (.getfield 40, 3) := by decide +kernel
theorem dX8_aheadOf_95 : decode cX8_aheadOf 95 = .ok (.iload 7, 2) := by decide +kernel
theorem dX8_aheadOf_97 : decode cX8_aheadOf 97 = .ok (.aload_n 0, 1) := by decide +kernel
theorem dX8_aheadOf_98 : decode cX8_aheadOf 98 = .ok (.getfield 16, 3) := by decide +kernel
theorem dX8_aheadOf_101 : decode cX8_aheadOf 101 = .ok (.bipush 8, 2) := by decide +kernel
theorem dX8_aheadOf_103 : decode cX8_aheadOf 103 = .ok (.aload_n 0, 1) := by decide +kernel
theorem dX8_aheadOf_104 : decode cX8_aheadOf 104 = .ok (.getfield 34, 3) := by decide +kernel
theorem dX8_aheadOf_107 : decode cX8_aheadOf 107 = .ok (.iload_n 3, 1) := by decide +kernel
theorem dX8_aheadOf_108 : decode cX8_aheadOf 108 = .ok (.iaload, 1) := by decide +kernel
theorem dX8_aheadOf_109 : decode cX8_aheadOf 109 = .ok (.iadd, 1) := by decide +kernel
theorem dX8_aheadOf_110 : decode cX8_aheadOf 110 = .ok (.iaload, 1) := by decide +kernel
theorem dX8_aheadOf_111 : decode cX8_aheadOf 111 = .ok (.iload_n 2, 1) := by decide +kernel
theorem dX8_aheadOf_112 : decode cX8_aheadOf 112 = .ok (.if_icmp .le 13, 3) := by decide +kernel
theorem dX8_aheadOf_115 : decode cX8_aheadOf 115 = .ok (.aload_n 0, 1) := by decide +kernel
theorem dX8_aheadOf_116 : decode cX8_aheadOf 116 = .ok (.getfield 37, 3) := by decide +kernel
theorem dX8_aheadOf_119 : decode cX8_aheadOf 119 = .ok (.iload 7, 2) := by decide +kernel
theorem dX8_aheadOf_121 : decode cX8_aheadOf 121 = .ok (.iaload, 1) := by decide +kernel
theorem dX8_aheadOf_122 : decode cX8_aheadOf 122 = .ok (.goto 19, 3) := by decide +kernel
theorem dX8_aheadOf_125 : decode cX8_aheadOf 125 = .ok (.aload_n 0, 1) := by decide +kernel
theorem dX8_aheadOf_126 : decode cX8_aheadOf 126 = .ok (.iload_n 3, 1) := by decide +kernel
theorem dX8_aheadOf_127 : decode cX8_aheadOf 127 = .ok (.iload_n 1, 1) := by decide +kernel
theorem dX8_aheadOf_128 : decode cX8_aheadOf 128 = .ok (.iload 6, 2) := by decide +kernel
theorem dX8_aheadOf_130 : decode cX8_aheadOf 130 = .ok (.iload 5, 2) := by decide +kernel
theorem dX8_aheadOf_132 : decode cX8_aheadOf 132 = .ok (.iload 4, 2) := by decide +kernel
theorem dX8_aheadOf_134 : decode cX8_aheadOf 134 = .ok (.aload_n 0, 1) := by decide +kernel
theorem dX8_aheadOf_135 : decode cX8_aheadOf 135 = .ok (.getfield 37, 3) := by decide +kernel
theorem dX8_aheadOf_138 : decode cX8_aheadOf 138 = .ok (.invokevirtual 206, 3) := by decide +kernel
theorem dX8_aheadOf_141 : decode cX8_aheadOf 141 = .ok (.iastore, 1) := by decide +kernel
theorem dX8_aheadOf_142 : decode cX8_aheadOf 142 = .ok (.iinc 6 1, 3) := by decide +kernel
theorem dX8_aheadOf_145 : decode cX8_aheadOf 145 = .ok (.goto (-76), 3) := by decide +kernel
theorem dX8_aheadOf_148 : decode cX8_aheadOf 148 = .ok (.iinc 5 1, 3) := by decide +kernel
theorem dX8_aheadOf_151 : decode cX8_aheadOf 151 = .ok (.goto (-92), 3) := by decide +kernel
theorem dX8_aheadOf_154 : decode cX8_aheadOf 154 = .ok (.iinc 3 1, 3) := by decide +kernel
theorem dX8_aheadOf_157 : decode cX8_aheadOf 157 = .ok (.goto (-155), 3) := by decide +kernel
theorem dX8_aheadOf_160 : decode cX8_aheadOf 160 = .ok (.iconst 0, 1) := by decide +kernel
theorem dX8_aheadOf_161 : decode cX8_aheadOf 161 = .ok (.istore_n 3, 1) := by decide +kernel
theorem dX8_aheadOf_162 : decode cX8_aheadOf 162 = .ok (.iload_n 3, 1) := by decide +kernel
theorem dX8_aheadOf_163 : decode cX8_aheadOf 163 = .ok (.bipush 36, 2) := by decide +kernel
theorem dX8_aheadOf_165 : decode cX8_aheadOf 165 = .ok (.iload_n 1, 1) := by decide +kernel
theorem dX8_aheadOf_166 : decode cX8_aheadOf 166 = .ok (.imul, 1) := by decide +kernel
theorem dX8_aheadOf_167 : decode cX8_aheadOf 167 = .ok (.if_icmp .ge 21, 3) := by decide +kernel
theorem dX8_aheadOf_170 : decode cX8_aheadOf 170 = .ok (.aload_n 0, 1) := by decide +kernel
theorem dX8_aheadOf_171 : decode cX8_aheadOf 171 = .ok (.getfield 37, 3) := by decide +kernel
theorem dX8_aheadOf_174 : decode cX8_aheadOf 174 = .ok (.iload_n 3, 1) := by decide +kernel
theorem dX8_aheadOf_175 : decode cX8_aheadOf 175 = .ok (.aload_n 0, 1) := by decide +kernel
theorem dX8_aheadOf_176 : decode cX8_aheadOf 176 = .ok (.getfield 40, 3) := by decide +kernel
theorem dX8_aheadOf_179 : decode cX8_aheadOf 179 = .ok (.iload_n 3, 1) := by decide +kernel
theorem dX8_aheadOf_180 : decode cX8_aheadOf 180 = .ok (.iaload, 1) := by decide +kernel
theorem dX8_aheadOf_181 : decode cX8_aheadOf 181 = .ok (.iastore, 1) := by decide +kernel
theorem dX8_aheadOf_182 : decode cX8_aheadOf 182 = .ok (.iinc 3 1, 3) := by decide +kernel
theorem dX8_aheadOf_185 : decode cX8_aheadOf 185 = .ok (.goto (-23), 3) := by decide +kernel
theorem dX8_aheadOf_188 : decode cX8_aheadOf 188 = .ok (.return_, 1) := by decide +kernel
theorem dX8_reaches_0 : decode cX8_reaches 0 = .ok (.aload_n 0, 1) := by decide +kernel
theorem dX8_reaches_1 : decode cX8_reaches 1 = .ok (.invokevirtual 80, 3) := by decide +kernel
theorem dX8_reaches_4 : decode cX8_reaches 4 = .ok (.ifCond .ne 49, 3) := by decide +kernel
theorem dX8_reaches_7 : decode cX8_reaches 7 = .ok (.aload_n 0, 1) := by decide +kernel
theorem dX8_reaches_8 : decode cX8_reaches 8 = .ok (.getfield 16, 3) := by decide +kernel
theorem dX8_reaches_11 : decode cX8_reaches 11 = .ok (.iconst 0, 1) := by decide +kernel
theorem dX8_reaches_12 : decode cX8_reaches 12 = .ok (.iaload, 1) := by decide +kernel
theorem dX8_reaches_13 : decode cX8_reaches 13 = .ok (.iload_n 1, 1) := by decide +kernel
theorem dX8_reaches_14 : decode cX8_reaches 14 = .ok (.if_icmp .ge 39, 3) := by decide +kernel
theorem dX8_reaches_17 : decode cX8_reaches 17 = .ok (.aload_n 0, 1) := by decide +kernel
theorem dX8_reaches_18 : decode cX8_reaches 18 = .ok (.getfield 16, 3) := by decide +kernel
theorem dX8_reaches_21 : decode cX8_reaches 21 = .ok (.iconst 0, 1) := by decide +kernel
theorem dX8_reaches_22 : decode cX8_reaches 22 = .ok (.dup2, 1) := by decide +kernel
theorem dX8_reaches_23 : decode cX8_reaches 23 = .ok (.iaload, 1) := by decide +kernel
theorem dX8_reaches_24 : decode cX8_reaches 24 = .ok (.iconst 1, 1) := by decide +kernel
theorem dX8_reaches_25 : decode cX8_reaches 25 = .ok (.iadd, 1) := by decide +kernel
theorem dX8_reaches_26 : decode cX8_reaches 26 = .ok (.iastore, 1) := by decide +kernel
theorem dX8_reaches_27 : decode cX8_reaches 27 = .ok (.aload_n 0, 1) := by decide +kernel
theorem dX8_reaches_28 : decode cX8_reaches 28 = .ok (.aload_n 0, 1) := by decide +kernel
theorem dX8_reaches_29 : decode cX8_reaches 29 = .ok (.getfield 16, 3) := by decide +kernel
theorem dX8_reaches_32 : decode cX8_reaches 32 = .ok (.iconst 0, 1) := by decide +kernel
theorem dX8_reaches_33 : decode cX8_reaches 33 = .ok (.iaload, 1) := by decide +kernel
theorem dX8_reaches_34 : decode cX8_reaches 34 = .ok (.invokevirtual 195, 3) := by decide +kernel
theorem dX8_reaches_37 : decode cX8_reaches 37 = .ok (.ifCond .eq (-37), 3) := by decide +kernel
theorem dX8_reaches_40 : decode cX8_reaches 40 = .ok (.aload_n 0, 1) := by decide +kernel
theorem dX8_reaches_41 : decode cX8_reaches 41 = .ok (.aload_n 0, 1) := by decide +kernel
theorem dX8_reaches_42 : decode cX8_reaches 42 = .ok (.getfield 16, 3) := by decide +kernel
theorem dX8_reaches_45 : decode cX8_reaches 45 = .ok (.iconst 0, 1) := by decide +kernel
theorem dX8_reaches_46 : decode cX8_reaches 46 = .ok (.iaload, 1) := by decide +kernel
theorem dX8_reaches_47 : decode cX8_reaches 47 = .ok (.invokevirtual 198, 3) := by decide +kernel
theorem dX8_reaches_50 : decode cX8_reaches 50 = .ok (.goto (-50), 3) := by decide +kernel
theorem dX8_reaches_53 : decode cX8_reaches 53 = .ok (.aload_n 0, 1) := by decide +kernel
theorem dX8_reaches_54 : decode cX8_reaches 54 = .ok (.invokevirtual 80, 3) := by decide +kernel
theorem dX8_reaches_57 : decode cX8_reaches 57 = .ok (.ifCond .ne 13, 3) := by decide +kernel
theorem dX8_reaches_60 : decode cX8_reaches 60 = .ok (.aload_n 0, 1) := by decide +kernel
theorem dX8_reaches_61 : decode cX8_reaches 61 = .ok (.aload_n 0, 1) := by decide +kernel
theorem dX8_reaches_62 : decode cX8_reaches 62 = .ok (.getfield 16, 3) := by decide +kernel
theorem dX8_reaches_65 : decode cX8_reaches 65 = .ok (.iconst 0, 1) := by decide +kernel
theorem dX8_reaches_66 : decode cX8_reaches 66 = .ok (.iaload, 1) := by decide +kernel
theorem dX8_reaches_67 : decode cX8_reaches 67 = .ok (.invokevirtual 198, 3) := by decide +kernel
theorem dX8_reaches_70 : decode cX8_reaches 70 = .ok (.return_, 1) := by decide +kernel
theorem dX8_likelyBy_0 : decode cX8_likelyBy 0 = .ok (.aload_n 0, 1) := by decide +kernel
theorem dX8_likelyBy_1 : decode cX8_likelyBy 1 = .ok (.iload_n 1, 1) := by decide +kernel
theorem dX8_likelyBy_2 : decode cX8_likelyBy 2 = .ok (.invokevirtual 214, 3) := by decide +kernel
theorem dX8_likelyBy_5 : decode cX8_likelyBy 5 = .ok (.aload_n 0, 1) := by decide +kernel
theorem dX8_likelyBy_6 : decode cX8_likelyBy 6 = .ok (.invokevirtual 217, 3) := by decide +kernel
theorem dX8_likelyBy_9 : decode cX8_likelyBy 9 = .ok (.ireturn, 1) := by decide +kernel
theorem dX8_chance_0 : decode cX8_chance 0 = .ok (.iload_n 1, 1) := by decide +kernel
theorem dX8_chance_1 : decode cX8_chance 1 = .ok (.i2l, 1) := by decide +kernel
theorem dX8_chance_2 : decode cX8_chance 2 = .ok (.lconst 0, 1) := by decide +kernel
theorem dX8_chance_3 : decode cX8_chance 3 = .ok (.ldc2_w 134, 3) := by decide +kernel
theorem dX8_chance_6 : decode cX8_chance 6 = .ok (.invokestatic 69, 3) := by decide +kernel
theorem dX8_chance_9 : decode cX8_chance 9 = .ok (.ifCond .ne 5, 3) := by decide +kernel
theorem dX8_chance_12 : decode cX8_chance 12 = .ok (.iconst (-1), 1) := by decide +kernel
theorem dX8_chance_13 : decode cX8_chance 13 = .ok (.ireturn, 1) := by decide +kernel
theorem dX8_chance_14 : decode cX8_chance 14 = .ok (.aload_n 0, 1) := by decide +kernel
theorem dX8_chance_15 : decode cX8_chance 15 = .ok (.invokevirtual 174, 3) := by decide +kernel
theorem dX8_chance_18 : decode cX8_chance 18 = .ok (.ifCond .eq 8, 3) := by decide +kernel
theorem dX8_chance_21 : decode cX8_chance 21 = .ok (.bipush (-2), 2) := by decide +kernel
theorem dX8_chance_23 : decode cX8_chance 23 = .ok (.goto 8, 3) := by decide +kernel
theorem dX8_chance_26 : decode cX8_chance 26 = .ok (.aload_n 0, 1) := by decide +kernel
theorem dX8_chance_27 : decode cX8_chance 27 = .ok (.iload_n 1, 1) := by decide +kernel
theorem dX8_chance_28 : decode cX8_chance 28 = .ok (.invokevirtual 220, 3) := by decide +kernel
theorem dX8_chance_31 : decode cX8_chance 31 = .ok (.ireturn, 1) := by decide +kernel
theorem dX8_chanceOf_0 : decode cX8_chanceOf 0 = .ok (.aload_n 0, 1) := by decide +kernel
theorem dX8_chanceOf_1 : decode cX8_chanceOf 1 = .ok (.invokevirtual 223, 3) := by decide +kernel
theorem dX8_chanceOf_4 : decode cX8_chanceOf 4 = .ok (.aload_n 0, 1) := by decide +kernel
theorem dX8_chanceOf_5 : decode cX8_chanceOf 5 = .ok (.iload_n 1, 1) := by decide +kernel
theorem dX8_chanceOf_6 : decode cX8_chanceOf 6 = .ok (.invokevirtual 226, 3) := by decide +kernel
theorem dX8_chanceOf_9 : decode cX8_chanceOf 9 = .ok (.istore_n 2, 1) := by decide +kernel
theorem dX8_chanceOf_10 : decode cX8_chanceOf 10 = .ok (.aload_n 0, 1) := by decide +kernel
theorem dX8_chanceOf_11 : decode cX8_chanceOf 11 = .ok (.invokevirtual 229, 3) := by decide +kernel
theorem dX8_chanceOf_14 : decode cX8_chanceOf 14 = .ok (.iload_n 2, 1) := by decide +kernel
theorem dX8_chanceOf_15 : decode cX8_chanceOf 15 = .ok (.ireturn, 1) := by decide +kernel
theorem dX8_looks_0 : decode cX8_looks 0 = .ok (.aload_n 0, 1) := by decide +kernel
theorem dX8_looks_1 : decode cX8_looks 1 = .ok (.invokevirtual 223, 3) := by decide +kernel
theorem dX8_looks_4 : decode cX8_looks 4 = .ok (.aload_n 0, 1) := by decide +kernel
theorem dX8_looks_5 : decode cX8_looks 5 = .ok (.iconst (-1), 1) := by decide +kernel
theorem dX8_looks_6 : decode cX8_looks 6 = .ok (.putfield 232, 3) := by decide +kernel
theorem dX8_looks_9 : decode cX8_looks 9 = .ok (.iconst 0, 1) := by decide +kernel
theorem dX8_looks_10 : decode cX8_looks 10 = .ok (.istore_n 1, 1) := by decide +kernel
theorem dX8_looks_11 : decode cX8_looks 11 = .ok (.iconst 0, 1) := by decide +kernel
theorem dX8_looks_12 : decode cX8_looks 12 = .ok (.istore_n 2, 1) := by decide +kernel
theorem dX8_looks_13 : decode cX8_looks 13 = .ok (.iload_n 2, 1) := by decide +kernel
theorem dX8_looks_14 : decode cX8_looks 14 = .ok (.bipush 61, 2) := by decide +kernel
theorem dX8_looks_16 : decode cX8_looks 16 = .ok (.if_icmp .ge 135, 3) := by decide +kernel
theorem dX8_looks_19 : decode cX8_looks 19 = .ok (.iload_n 2, 1) := by decide +kernel
theorem dX8_looks_20 : decode cX8_looks 20 = .ok (.ifCond .le 14, 3) := by decide +kernel
theorem dX8_looks_23 : decode cX8_looks 23 = .ok (.aload_n 0, 1) := by decide +kernel
theorem dX8_looks_24 : decode cX8_looks 24 = .ok (.getfield 43, 3) := by decide +kernel
theorem dX8_looks_27 : decode cX8_looks 27 = .ok (.iload_n 2, 1) := by decide +kernel
theorem dX8_looks_28 : decode cX8_looks 28 = .ok (.iconst 1, 1) := by decide +kernel
theorem dX8_looks_29 : decode cX8_looks 29 = .ok (.isub, 1) := by decide +kernel
theorem dX8_looks_30 : decode cX8_looks 30 = .ok (.iaload, 1) := by decide +kernel
theorem dX8_looks_31 : decode cX8_looks 31 = .ok (.goto 4, 3) := by decide +kernel
theorem dX8_looks_34 : decode cX8_looks 34 = .ok (.iconst 0, 1) := by decide +kernel
theorem dX8_looks_35 : decode cX8_looks 35 = .ok (.istore_n 3, 1) := by decide +kernel
theorem dX8_looks_36 : decode cX8_looks 36 = .ok (.iload_n 1, 1) := by decide +kernel
theorem dX8_looks_37 : decode cX8_looks 37 = .ok (.ifCond .ne 54, 3) := by decide +kernel
theorem dX8_looks_40 : decode cX8_looks 40 = .ok (.aload_n 0, 1) := by decide +kernel
theorem dX8_looks_41 : decode cX8_looks 41 = .ok (.getfield 31, 3) := by decide +kernel
theorem dX8_looks_44 : decode cX8_looks 44 = .ok (.iconst 0, 1) := by decide +kernel
theorem dX8_looks_45 : decode cX8_looks 45 = .ok (.iaload, 1) := by decide +kernel
theorem dX8_looks_46 : decode cX8_looks 46 = .ok (.iload_n 2, 1) := by decide +kernel
theorem dX8_looks_47 : decode cX8_looks 47 = .ok (.iadd, 1) := by decide +kernel
theorem dX8_looks_48 : decode cX8_looks 48 = .ok (.istore 4, 2) := by decide +kernel
theorem dX8_looks_50 : decode cX8_looks 50 = .ok (.aload_n 0, 1) := by decide +kernel
theorem dX8_looks_51 : decode cX8_looks 51 = .ok (.iload 4, 2) := by decide +kernel
theorem dX8_looks_53 : decode cX8_looks 53 = .ok (.invokevirtual 226, 3) := by decide +kernel
theorem dX8_looks_56 : decode cX8_looks 56 = .ok (.istore_n 3, 1) := by decide +kernel
theorem dX8_looks_57 : decode cX8_looks 57 = .ok (.iload_n 2, 1) := by decide +kernel
theorem dX8_looks_58 : decode cX8_looks 58 = .ok (.ifCond .le 27, 3) := by decide +kernel
theorem dX8_looks_61 : decode cX8_looks 61 = .ok (.aload_n 0, 1) := by decide +kernel
theorem dX8_looks_62 : decode cX8_looks 62 = .ok (.getfield 16, 3) := by decide +kernel
theorem dX8_looks_65 : decode cX8_looks 65 = .ok (.iconst 0, 1) := by decide +kernel
theorem dX8_looks_66 : decode cX8_looks 66 = .ok (.iaload, 1) := by decide +kernel
theorem dX8_looks_67 : decode cX8_looks 67 = .ok (.iload 4, 2) := by decide +kernel
theorem dX8_looks_69 : decode cX8_looks 69 = .ok (.if_icmp .lt 12, 3) := by decide +kernel
theorem dX8_looks_72 : decode cX8_looks 72 = .ok (.aload_n 0, 1) := by decide +kernel
theorem dX8_looks_73 : decode cX8_looks 73 = .ok (.iload 4, 2) := by decide +kernel
theorem dX8_looks_75 : decode cX8_looks 75 = .ok (.invokevirtual 235, 3) := by decide +kernel
theorem dX8_looks_78 : decode cX8_looks 78 = .ok (.ifCond .eq 7, 3) := by decide +kernel
theorem dX8_looks_81 : decode cX8_looks 81 = .ok (.iconst 1, 1) := by decide +kernel
theorem dX8_looks_82 : decode cX8_looks 82 = .ok (.goto 4, 3) := by decide +kernel
theorem dX8_looks_85 : decode cX8_looks 85 = .ok (.iconst 0, 1) := by decide +kernel
theorem dX8_looks_86 : decode cX8_looks 86 = .ok (.istore_n 1, 1) := by decide +kernel
theorem dX8_looks_87 : decode cX8_looks 87 = .ok (.aload_n 0, 1) := by decide +kernel
theorem dX8_looks_88 : decode cX8_looks 88 = .ok (.invokevirtual 229, 3) := by decide +kernel
theorem dX8_looks_91 : decode cX8_looks 91 = .ok (.aload_n 0, 1) := by decide +kernel
theorem dX8_looks_92 : decode cX8_looks 92 = .ok (.getfield 43, 3) := by decide +kernel
theorem dX8_looks_95 : decode cX8_looks 95 = .ok (.iload_n 2, 1) := by decide +kernel
theorem dX8_looks_96 : decode cX8_looks 96 = .ok (.iload_n 3, 1) := by decide +kernel
theorem dX8_looks_97 : decode cX8_looks 97 = .ok (.iastore, 1) := by decide +kernel
theorem dX8_looks_98 : decode cX8_looks 98 = .ok (.aload_n 0, 1) := by decide +kernel
theorem dX8_looks_99 : decode cX8_looks 99 = .ok (.iload_n 3, 1) := by decide +kernel
theorem dX8_looks_100 : decode cX8_looks 100 = .ok (.aload_n 0, 1) := by decide +kernel
theorem dX8_looks_101 : decode cX8_looks 101 = .ok (.getfield 232, 3) := by decide +kernel
theorem dX8_looks_104 : decode cX8_looks 104 = .ok (.if_icmp .le 14, 3) := by decide +kernel
theorem dX8_looks_107 : decode cX8_looks 107 = .ok (.aload_n 0, 1) := by decide +kernel
theorem dX8_looks_108 : decode cX8_looks 108 = .ok (.getfield 31, 3) := by decide +kernel
theorem dX8_looks_111 : decode cX8_looks 111 = .ok (.iconst 0, 1) := by decide +kernel
theorem dX8_looks_112 : decode cX8_looks 112 = .ok (.iaload, 1) := by decide +kernel
theorem dX8_looks_113 : decode cX8_looks 113 = .ok (.iload_n 2, 1) := by decide +kernel
theorem dX8_looks_114 : decode cX8_looks 114 = .ok (.iadd, 1) := by decide +kernel
theorem dX8_looks_115 : decode cX8_looks 115 = .ok (.goto 7, 3) := by decide +kernel
theorem dX8_looks_118 : decode cX8_looks 118 = .ok (.aload_n 0, 1) := by decide +kernel
theorem dX8_looks_119 : decode cX8_looks 119 = .ok (.getfield 238, 3) := by decide +kernel
theorem dX8_looks_122 : decode cX8_looks 122 = .ok (.putfield 238, 3) := by decide +kernel
theorem dX8_looks_125 : decode cX8_looks 125 = .ok (.aload_n 0, 1) := by decide +kernel
end
section
theorem dX8_looks_126 : decode cX8_looks 126 = .ok (.iload_n 3, 1) := by decide +kernel
theorem dX8_looks_127 : decode cX8_looks 127 = .ok (.aload_n 0, 1) := by decide +kernel
theorem dX8_looks_128 : decode cX8_looks 128 = .ok (.getfield 232, 3) := by decide +kernel
theorem dX8_looks_131 : decode cX8_looks 131 = .ok (.if_icmp .le 7, 3) := by decide +kernel
theorem dX8_looks_134 : decode cX8_looks 134 = .ok (.iload_n 3, 1) := by decide +kernel
theorem dX8_looks_135 : decode cX8_looks 135 = .ok (.goto 7, 3) := by decide +kernel
theorem dX8_looks_138 : decode cX8_looks 138 = .ok (.aload_n 0, 1) := by decide +kernel
theorem dX8_looks_139 : decode cX8_looks 139 = .ok (.getfield 232, 3) := by decide +kernel
theorem dX8_looks_142 : decode cX8_looks 142 = .ok (.putfield 232, 3) := by decide +kernel
theorem dX8_looks_145 : decode cX8_looks 145 = .ok (.iinc 2 1, 3) := by decide +kernel
theorem dX8_looks_148 : decode cX8_looks 148 = .ok (.goto (-135), 3) := by decide +kernel
theorem dX8_looks_151 : decode cX8_looks 151 = .ok (.return_, 1) := by decide +kernel
theorem dX8_isCaughtThen_0 : decode cX8_isCaughtThen 0 = .ok (.aload_n 0, 1) := by decide +kernel
theorem dX8_isCaughtThen_1 : decode cX8_isCaughtThen 1 = .ok (.invokevirtual 229, 3) := by decide +kernel
theorem dX8_isCaughtThen_4 : decode cX8_isCaughtThen 4 = .ok (.aload_n 0, 1) := by decide +kernel
theorem dX8_isCaughtThen_5 : decode cX8_isCaughtThen 5 = .ok (.iload_n 1, 1) := by decide +kernel
theorem dX8_isCaughtThen_6 : decode cX8_isCaughtThen 6 = .ok (.invokevirtual 195, 3) := by decide +kernel
theorem dX8_isCaughtThen_9 : decode cX8_isCaughtThen 9 = .ok (.ireturn, 1) := by decide +kernel
theorem dX8_isOff_0 : decode cX8_isOff 0 = .ok (.aload_n 0, 1) := by decide +kernel
theorem dX8_isOff_1 : decode cX8_isOff 1 = .ok (.invokevirtual 174, 3) := by decide +kernel
theorem dX8_isOff_4 : decode cX8_isOff 4 = .ok (.ifCond .ne 10, 3) := by decide +kernel
theorem dX8_isOff_7 : decode cX8_isOff 7 = .ok (.aload_n 0, 1) := by decide +kernel
theorem dX8_isOff_8 : decode cX8_isOff 8 = .ok (.invokevirtual 80, 3) := by decide +kernel
theorem dX8_isOff_11 : decode cX8_isOff 11 = .ok (.ifCond .eq 7, 3) := by decide +kernel
theorem dX8_isOff_14 : decode cX8_isOff 14 = .ok (.iconst 1, 1) := by decide +kernel
theorem dX8_isOff_15 : decode cX8_isOff 15 = .ok (.goto 4, 3) := by decide +kernel
theorem dX8_isOff_18 : decode cX8_isOff 18 = .ok (.iconst 0, 1) := by decide +kernel
theorem dX8_isOff_19 : decode cX8_isOff 19 = .ok (.ireturn, 1) := by decide +kernel
theorem dX8_best_0 : decode cX8_best 0 = .ok (.iload_n 1, 1) := by decide +kernel
theorem dX8_best_1 : decode cX8_best 1 = .ok (.i2l, 1) := by decide +kernel
theorem dX8_best_2 : decode cX8_best 2 = .ok (.lconst 0, 1) := by decide +kernel
theorem dX8_best_3 : decode cX8_best 3 = .ok (.lconst 1, 1) := by decide +kernel
theorem dX8_best_4 : decode cX8_best 4 = .ok (.invokestatic 69, 3) := by decide +kernel
theorem dX8_best_7 : decode cX8_best 7 = .ok (.ifCond .ne 5, 3) := by decide +kernel
theorem dX8_best_10 : decode cX8_best 10 = .ok (.iconst (-1), 1) := by decide +kernel
theorem dX8_best_11 : decode cX8_best 11 = .ok (.ireturn, 1) := by decide +kernel
theorem dX8_best_12 : decode cX8_best 12 = .ok (.aload_n 0, 1) := by decide +kernel
theorem dX8_best_13 : decode cX8_best 13 = .ok (.invokevirtual 241, 3) := by decide +kernel
theorem dX8_best_16 : decode cX8_best 16 = .ok (.ifCond .eq 6, 3) := by decide +kernel
theorem dX8_best_19 : decode cX8_best 19 = .ok (.bipush (-2), 2) := by decide +kernel
theorem dX8_best_21 : decode cX8_best 21 = .ok (.ireturn, 1) := by decide +kernel
theorem dX8_best_22 : decode cX8_best 22 = .ok (.aload_n 0, 1) := by decide +kernel
theorem dX8_best_23 : decode cX8_best 23 = .ok (.invokevirtual 244, 3) := by decide +kernel
theorem dX8_best_26 : decode cX8_best 26 = .ok (.iload_n 1, 1) := by decide +kernel
theorem dX8_best_27 : decode cX8_best 27 = .ok (.ifCond .ne 10, 3) := by decide +kernel
theorem dX8_best_30 : decode cX8_best 30 = .ok (.aload_n 0, 1) := by decide +kernel
theorem dX8_best_31 : decode cX8_best 31 = .ok (.getfield 238, 3) := by decide +kernel
theorem dX8_best_34 : decode cX8_best 34 = .ok (.goto 7, 3) := by decide +kernel
theorem dX8_best_37 : decode cX8_best 37 = .ok (.aload_n 0, 1) := by decide +kernel
theorem dX8_best_38 : decode cX8_best 38 = .ok (.getfield 232, 3) := by decide +kernel
theorem dX8_best_41 : decode cX8_best 41 = .ok (.ireturn, 1) := by decide +kernel
theorem dX8_late_0 : decode cX8_late 0 = .ok (.iload_n 1, 1) := by decide +kernel
theorem dX8_late_1 : decode cX8_late 1 = .ok (.i2l, 1) := by decide +kernel
theorem dX8_late_2 : decode cX8_late 2 = .ok (.lconst 0, 1) := by decide +kernel
theorem dX8_late_3 : decode cX8_late 3 = .ok (.ldc2_w 247, 3) := by decide +kernel
theorem dX8_late_6 : decode cX8_late 6 = .ok (.invokestatic 69, 3) := by decide +kernel
theorem dX8_late_9 : decode cX8_late 9 = .ok (.ifCond .ne 5, 3) := by decide +kernel
theorem dX8_late_12 : decode cX8_late 12 = .ok (.iconst (-1), 1) := by decide +kernel
theorem dX8_late_13 : decode cX8_late 13 = .ok (.ireturn, 1) := by decide +kernel
theorem dX8_late_14 : decode cX8_late 14 = .ok (.aload_n 0, 1) := by decide +kernel
theorem dX8_late_15 : decode cX8_late 15 = .ok (.invokevirtual 241, 3) := by decide +kernel
theorem dX8_late_18 : decode cX8_late 18 = .ok (.ifCond .eq 6, 3) := by decide +kernel
theorem dX8_late_21 : decode cX8_late 21 = .ok (.bipush (-2), 2) := by decide +kernel
theorem dX8_late_23 : decode cX8_late 23 = .ok (.ireturn, 1) := by decide +kernel
theorem dX8_late_24 : decode cX8_late 24 = .ok (.aload_n 0, 1) := by decide +kernel
theorem dX8_late_25 : decode cX8_late 25 = .ok (.invokevirtual 244, 3) := by decide +kernel
theorem dX8_late_28 : decode cX8_late 28 = .ok (.bipush (-4), 2) := by decide +kernel
theorem dX8_late_30 : decode cX8_late 30 = .ok (.istore_n 2, 1) := by decide +kernel
theorem dX8_late_31 : decode cX8_late 31 = .ok (.iconst 0, 1) := by decide +kernel
theorem dX8_late_32 : decode cX8_late 32 = .ok (.istore_n 3, 1) := by decide +kernel
theorem dX8_late_33 : decode cX8_late 33 = .ok (.iload_n 3, 1) := by decide +kernel
theorem dX8_late_34 : decode cX8_late 34 = .ok (.bipush 61, 2) := by decide +kernel
theorem dX8_late_36 : decode cX8_late 36 = .ok (.if_icmp .ge 32, 3) := by decide +kernel
theorem dX8_late_39 : decode cX8_late 39 = .ok (.aload_n 0, 1) := by decide +kernel
theorem dX8_late_40 : decode cX8_late 40 = .ok (.getfield 43, 3) := by decide +kernel
theorem dX8_late_43 : decode cX8_late 43 = .ok (.iload_n 3, 1) := by decide +kernel
theorem dX8_late_44 : decode cX8_late 44 = .ok (.iaload, 1) := by decide +kernel
theorem dX8_late_45 : decode cX8_late 45 = .ok (.iload_n 1, 1) := by decide +kernel
theorem dX8_late_46 : decode cX8_late 46 = .ok (.if_icmp .lt 14, 3) := by decide +kernel
theorem dX8_late_49 : decode cX8_late 49 = .ok (.aload_n 0, 1) := by decide +kernel
theorem dX8_late_50 : decode cX8_late 50 = .ok (.getfield 16, 3) := by decide +kernel
theorem dX8_late_53 : decode cX8_late 53 = .ok (.iconst 0, 1) := by decide +kernel
theorem dX8_late_54 : decode cX8_late 54 = .ok (.iaload, 1) := by decide +kernel
theorem dX8_late_55 : decode cX8_late 55 = .ok (.iload_n 3, 1) := by decide +kernel
theorem dX8_late_56 : decode cX8_late 56 = .ok (.iadd, 1) := by decide +kernel
theorem dX8_late_57 : decode cX8_late 57 = .ok (.goto 4, 3) := by decide +kernel
theorem dX8_late_60 : decode cX8_late 60 = .ok (.iload_n 2, 1) := by decide +kernel
theorem dX8_late_61 : decode cX8_late 61 = .ok (.istore_n 2, 1) := by decide +kernel
theorem dX8_late_62 : decode cX8_late 62 = .ok (.iinc 3 1, 3) := by decide +kernel
theorem dX8_late_65 : decode cX8_late 65 = .ok (.goto (-32), 3) := by decide +kernel
theorem dX8_late_68 : decode cX8_late 68 = .ok (.iload_n 2, 1) := by decide +kernel
theorem dX8_late_69 : decode cX8_late 69 = .ok (.ireturn, 1) := by decide +kernel
theorem dX8_together_0 : decode cX8_together 0 = .ok (.iload_n 1, 1) := by decide +kernel
theorem dX8_together_1 : decode cX8_together 1 = .ok (.i2l, 1) := by decide +kernel
theorem dX8_together_2 : decode cX8_together 2 = .ok (.lconst 0, 1) := by decide +kernel
theorem dX8_together_3 : decode cX8_together 3 = .ok (.ldc2_w 134, 3) := by decide +kernel
theorem dX8_together_6 : decode cX8_together 6 = .ok (.invokestatic 69, 3) := by decide +kernel
theorem dX8_together_9 : decode cX8_together 9 = .ok (.ifCond .eq 15, 3) := by decide +kernel
theorem dX8_together_12 : decode cX8_together 12 = .ok (.iload_n 2, 1) := by decide +kernel
theorem dX8_together_13 : decode cX8_together 13 = .ok (.i2l, 1) := by decide +kernel
theorem dX8_together_14 : decode cX8_together 14 = .ok (.lconst 0, 1) := by decide +kernel
theorem dX8_together_15 : decode cX8_together 15 = .ok (.ldc2_w 249, 3) := by decide +kernel
theorem dX8_together_18 : decode cX8_together 18 = .ok (.invokestatic 69, 3) := by decide +kernel
theorem dX8_together_21 : decode cX8_together 21 = .ok (.ifCond .ne 5, 3) := by decide +kernel
theorem dX8_together_24 : decode cX8_together 24 = .ok (.iconst (-1), 1) := by decide +kernel
theorem dX8_together_25 : decode cX8_together 25 = .ok (.ireturn, 1) := by decide +kernel
theorem dX8_together_26 : decode cX8_together 26 = .ok (.aload_n 0, 1) := by decide +kernel
theorem dX8_together_27 : decode cX8_together 27 = .ok (.invokevirtual 241, 3) := by decide +kernel
theorem dX8_together_30 : decode cX8_together 30 = .ok (.ifCond .eq 6, 3) := by decide +kernel
theorem dX8_together_33 : decode cX8_together 33 = .ok (.bipush (-2), 2) := by decide +kernel
theorem dX8_together_35 : decode cX8_together 35 = .ok (.ireturn, 1) := by decide +kernel
theorem dX8_together_36 : decode cX8_together 36 = .ok (.aload_n 0, 1) := by decide +kernel
theorem dX8_together_37 : decode cX8_together 37 = .ok (.invokevirtual 244, 3) := by decide +kernel
theorem dX8_together_40 : decode cX8_together 40 = .ok (.aload_n 0, 1) := by decide +kernel
theorem dX8_together_41 : decode cX8_together 41 = .ok (.getfield 232, 3) := by decide +kernel
theorem dX8_together_44 : decode cX8_together 44 = .ok (.istore_n 3, 1) := by decide +kernel
theorem dX8_together_45 : decode cX8_together 45 = .ok (.aload_n 0, 1) := by decide +kernel
theorem dX8_together_46 : decode cX8_together 46 = .ok (.iconst 1, 1) := by decide +kernel
theorem dX8_together_47 : decode cX8_together 47 = .ok (.putfield 99, 3) := by decide +kernel
theorem dX8_together_50 : decode cX8_together 50 = .ok (.iload_n 2, 1) := by decide +kernel
theorem dX8_together_51 : decode cX8_together 51 = .ok (.ifCond .ne 11, 3) := by decide +kernel
theorem dX8_together_54 : decode cX8_together 54 = .ok (.aload_n 0, 1) := by decide +kernel
theorem dX8_together_55 : decode cX8_together 55 = .ok (.iload_n 1, 1) := by decide +kernel
theorem dX8_together_56 : decode cX8_together 56 = .ok (.invokevirtual 220, 3) := by decide +kernel
theorem dX8_together_59 : decode cX8_together 59 = .ok (.goto 4, 3) := by decide +kernel
theorem dX8_together_62 : decode cX8_together 62 = .ok (.iconst 0, 1) := by decide +kernel
theorem dX8_together_63 : decode cX8_together 63 = .ok (.istore 4, 2) := by decide +kernel
theorem dX8_together_65 : decode cX8_together 65 = .ok (.iload_n 2, 1) := by decide +kernel
theorem dX8_together_66 : decode cX8_together 66 = .ok (.ifCond .le 34, 3) := by decide +kernel
theorem dX8_together_69 : decode cX8_together 69 = .ok (.aload_n 0, 1) := by decide +kernel
theorem dX8_together_70 : decode cX8_together 70 = .ok (.invokevirtual 244, 3) := by decide +kernel
theorem dX8_together_73 : decode cX8_together 73 = .ok (.iload_n 2, 1) := by decide +kernel
theorem dX8_together_74 : decode cX8_together 74 = .ok (.iconst 1, 1) := by decide +kernel
theorem dX8_together_75 : decode cX8_together 75 = .ok (.if_icmp .ne 10, 3) := by decide +kernel
theorem dX8_together_78 : decode cX8_together 78 = .ok (.aload_n 0, 1) := by decide +kernel
theorem dX8_together_79 : decode cX8_together 79 = .ok (.getfield 232, 3) := by decide +kernel
theorem dX8_together_82 : decode cX8_together 82 = .ok (.goto 16, 3) := by decide +kernel
theorem dX8_together_85 : decode cX8_together 85 = .ok (.aload_n 0, 1) := by decide +kernel
theorem dX8_together_86 : decode cX8_together 86 = .ok (.getfield 232, 3) := by decide +kernel
theorem dX8_together_89 : decode cX8_together 89 = .ok (.iload_n 3, 1) := by decide +kernel
theorem dX8_together_90 : decode cX8_together 90 = .ok (.if_icmp .ge 7, 3) := by decide +kernel
theorem dX8_together_93 : decode cX8_together 93 = .ok (.iconst 1, 1) := by decide +kernel
theorem dX8_together_94 : decode cX8_together 94 = .ok (.goto 4, 3) := by decide +kernel
theorem dX8_together_97 : decode cX8_together 97 = .ok (.iconst 0, 1) := by decide +kernel
theorem dX8_together_98 : decode cX8_together 98 = .ok (.istore 4, 2) := by decide +kernel
theorem dX8_together_100 : decode cX8_together 100 = .ok (.aload_n 0, 1) := by decide +kernel
theorem dX8_together_101 : decode cX8_together 101 = .ok (.iconst 0, 1) := by decide +kernel
theorem dX8_together_102 : decode cX8_together 102 = .ok (.putfield 99, 3) := by decide +kernel
theorem dX8_together_105 : decode cX8_together 105 = .ok (.iload 4, 2) := by decide +kernel
theorem dX8_together_107 : decode cX8_together 107 = .ok (.ireturn, 1) := by decide +kernel
theorem dX8_ditched_0 : decode cX8_ditched 0 = .ok (.aload_n 0, 1) := by decide +kernel
theorem dX8_ditched_1 : decode cX8_ditched 1 = .ok (.invokevirtual 241, 3) := by decide +kernel
theorem dX8_ditched_4 : decode cX8_ditched 4 = .ok (.ifCond .eq 6, 3) := by decide +kernel
theorem dX8_ditched_7 : decode cX8_ditched 7 = .ok (.bipush (-2), 2) := by decide +kernel
theorem dX8_ditched_9 : decode cX8_ditched 9 = .ok (.ireturn, 1) := by decide +kernel
theorem dX8_ditched_10 : decode cX8_ditched 10 = .ok (.aload_n 0, 1) := by decide +kernel
theorem dX8_ditched_11 : decode cX8_ditched 11 = .ok (.invokevirtual 244, 3) := by decide +kernel
theorem dX8_ditched_14 : decode cX8_ditched 14 = .ok (.aload_n 0, 1) := by decide +kernel
theorem dX8_ditched_15 : decode cX8_ditched 15 = .ok (.getfield 232, 3) := by decide +kernel
theorem dX8_ditched_18 : decode cX8_ditched 18 = .ok (.istore_n 1, 1) := by decide +kernel
theorem dX8_ditched_19 : decode cX8_ditched 19 = .ok (.bipush (-4), 2) := by decide +kernel
theorem dX8_ditched_21 : decode cX8_ditched 21 = .ok (.istore_n 2, 1) := by decide +kernel
theorem dX8_ditched_22 : decode cX8_ditched 22 = .ok (.iconst 1, 1) := by decide +kernel
theorem dX8_ditched_23 : decode cX8_ditched 23 = .ok (.istore_n 3, 1) := by decide +kernel
theorem dX8_ditched_24 : decode cX8_ditched 24 = .ok (.iload_n 3, 1) := by decide +kernel
theorem dX8_ditched_25 : decode cX8_ditched 25 = .ok (.aload_n 0, 1) := by decide +kernel
theorem dX8_ditched_26 : decode cX8_ditched 26 = .ok (.getfield 62, 3) := by decide +kernel
theorem dX8_ditched_29 : decode cX8_ditched 29 = .ok (.if_icmp .ge 67, 3) := by decide +kernel
theorem dX8_ditched_32 : decode cX8_ditched 32 = .ok (.aload_n 0, 1) := by decide +kernel
theorem dX8_ditched_33 : decode cX8_ditched 33 = .ok (.getfield 7, 3) := by decide +kernel
theorem dX8_ditched_36 : decode cX8_ditched 36 = .ok (.iload_n 3, 1) := by decide +kernel
theorem dX8_ditched_37 : decode cX8_ditched 37 = .ok (.iaload, 1) := by decide +kernel
theorem dX8_ditched_38 : decode cX8_ditched 38 = .ok (.ifCond .ne 52, 3) := by decide +kernel
theorem dX8_ditched_41 : decode cX8_ditched 41 = .ok (.aload_n 0, 1) := by decide +kernel
theorem dX8_ditched_42 : decode cX8_ditched 42 = .ok (.getfield 7, 3) := by decide +kernel
theorem dX8_ditched_45 : decode cX8_ditched 45 = .ok (.iload_n 3, 1) := by decide +kernel
theorem dX8_ditched_46 : decode cX8_ditched 46 = .ok (.iconst 2, 1) := by decide +kernel
theorem dX8_ditched_47 : decode cX8_ditched 47 = .ok (.iastore, 1) := by decide +kernel
theorem dX8_ditched_48 : decode cX8_ditched 48 = .ok (.aload_n 0, 1) := by decide +kernel
theorem dX8_ditched_49 : decode cX8_ditched 49 = .ok (.invokevirtual 244, 3) := by decide +kernel
theorem dX8_ditched_52 : decode cX8_ditched 52 = .ok (.aload_n 0, 1) := by decide +kernel
theorem dX8_ditched_53 : decode cX8_ditched 53 = .ok (.getfield 232, 3) := by decide +kernel
theorem dX8_ditched_56 : decode cX8_ditched 56 = .ok (.iload_n 1, 1) := by decide +kernel
theorem dX8_ditched_57 : decode cX8_ditched 57 = .ok (.if_icmp .le 7, 3) := by decide +kernel
theorem dX8_ditched_60 : decode cX8_ditched 60 = .ok (.iload_n 3, 1) := by decide +kernel
theorem dX8_ditched_61 : decode cX8_ditched 61 = .ok (.goto 4, 3) := by decide +kernel
theorem dX8_ditched_64 : decode cX8_ditched 64 = .ok (.iload_n 2, 1) := by decide +kernel
theorem dX8_ditched_65 : decode cX8_ditched 65 = .ok (.istore_n 2, 1) := by decide +kernel
theorem dX8_ditched_66 : decode cX8_ditched 66 = .ok (.aload_n 0, 1) := by decide +kernel
theorem dX8_ditched_67 : decode cX8_ditched 67 = .ok (.getfield 232, 3) := by decide +kernel
theorem dX8_ditched_70 : decode cX8_ditched 70 = .ok (.iload_n 1, 1) := by decide +kernel
theorem dX8_ditched_71 : decode cX8_ditched 71 = .ok (.if_icmp .le 10, 3) := by decide +kernel
theorem dX8_ditched_74 : decode cX8_ditched 74 = .ok (.aload_n 0, 1) := by decide +kernel
theorem dX8_ditched_75 : decode cX8_ditched 75 = .ok (.getfield 232, 3) := by decide +kernel
theorem dX8_ditched_78 : decode cX8_ditched 78 = .ok (.goto 4, 3) := by decide +kernel
theorem dX8_ditched_81 : decode cX8_ditched 81 = .ok (.iload_n 1, 1) := by decide +kernel
theorem dX8_ditched_82 : decode cX8_ditched 82 = .ok (.istore_n 1, 1) := by decide +kernel
theorem dX8_ditched_83 : decode cX8_ditched 83 = .ok (.aload_n 0, 1) := by decide +kernel
theorem dX8_ditched_84 : decode cX8_ditched 84 = .ok (.getfield 7, 3) := by decide +kernel
theorem dX8_ditched_87 : decode cX8_ditched 87 = .ok (.iload_n 3, 1) := by decide +kernel
theorem dX8_ditched_88 : decode cX8_ditched 88 = .ok (.iconst 0, 1) := by decide +kernel
theorem dX8_ditched_89 : decode cX8_ditched 89 = .ok (.iastore, 1) := by decide +kernel
theorem dX8_ditched_90 : decode cX8_ditched 90 = .ok (.iinc 3 1, 3) := by decide +kernel
theorem dX8_ditched_93 : decode cX8_ditched 93 = .ok (.goto (-69), 3) := by decide +kernel
theorem dX8_ditched_96 : decode cX8_ditched 96 = .ok (.iload_n 2, 1) := by decide +kernel
theorem dX8_ditched_97 : decode cX8_ditched 97 = .ok (.ireturn, 1) := by decide +kernel
theorem dX8_ahead_0 : decode cX8_ahead 0 = .ok (.iload_n 1, 1) := by decide +kernel
theorem dX8_ahead_1 : decode cX8_ahead 1 = .ok (.i2l, 1) := by decide +kernel
theorem dX8_ahead_2 : decode cX8_ahead 2 = .ok (.lconst 0, 1) := by decide +kernel
theorem dX8_ahead_3 : decode cX8_ahead 3 = .ok (.lconst 1, 1) := by decide +kernel
theorem dX8_ahead_4 : decode cX8_ahead 4 = .ok (.invokestatic 69, 3) := by decide +kernel
theorem dX8_ahead_7 : decode cX8_ahead 7 = .ok (.ifCond .ne 5, 3) := by decide +kernel
theorem dX8_ahead_10 : decode cX8_ahead 10 = .ok (.iconst (-1), 1) := by decide +kernel
theorem dX8_ahead_11 : decode cX8_ahead 11 = .ok (.ireturn, 1) := by decide +kernel
theorem dX8_ahead_12 : decode cX8_ahead 12 = .ok (.aload_n 0, 1) := by decide +kernel
theorem dX8_ahead_13 : decode cX8_ahead 13 = .ok (.invokevirtual 241, 3) := by decide +kernel
theorem dX8_ahead_16 : decode cX8_ahead 16 = .ok (.ifCond .eq 6, 3) := by decide +kernel
theorem dX8_ahead_19 : decode cX8_ahead 19 = .ok (.bipush (-2), 2) := by decide +kernel
theorem dX8_ahead_21 : decode cX8_ahead 21 = .ok (.ireturn, 1) := by decide +kernel
theorem dX8_ahead_22 : decode cX8_ahead 22 = .ok (.bipush (-4), 2) := by decide +kernel
theorem dX8_ahead_24 : decode cX8_ahead 24 = .ok (.istore_n 2, 1) := by decide +kernel
theorem dX8_ahead_25 : decode cX8_ahead 25 = .ok (.iconst (-1), 1) := by decide +kernel
theorem dX8_ahead_26 : decode cX8_ahead 26 = .ok (.istore_n 3, 1) := by decide +kernel
theorem dX8_ahead_27 : decode cX8_ahead 27 = .ok (.iconst 1, 1) := by decide +kernel
theorem dX8_ahead_28 : decode cX8_ahead 28 = .ok (.istore 4, 2) := by decide +kernel
theorem dX8_ahead_30 : decode cX8_ahead 30 = .ok (.iload 4, 2) := by decide +kernel
theorem dX8_ahead_32 : decode cX8_ahead 32 = .ok (.aload_n 0, 1) := by decide +kernel
theorem dX8_ahead_33 : decode cX8_ahead 33 = .ok (.getfield 66, 3) := by decide +kernel
theorem dX8_ahead_36 : decode cX8_ahead 36 = .ok (.if_icmp .ge 96, 3) := by decide +kernel
theorem dX8_ahead_39 : decode cX8_ahead 39 = .ok (.aload_n 0, 1) := by decide +kernel
theorem dX8_ahead_40 : decode cX8_ahead 40 = .ok (.iload 4, 2) := by decide +kernel
theorem dX8_ahead_42 : decode cX8_ahead 42 = .ok (.invokevirtual 103, 3) := by decide +kernel
theorem dX8_ahead_45 : decode cX8_ahead 45 = .ok (.ifCond .ne 81, 3) := by decide +kernel
theorem dX8_ahead_48 : decode cX8_ahead 48 = .ok (.aload_n 0, 1) := by decide +kernel
theorem dX8_ahead_49 : decode cX8_ahead 49 = .ok (.getfield 16, 3) := by decide +kernel
theorem dX8_ahead_52 : decode cX8_ahead 52 = .ok (.iconst 3, 1) := by decide +kernel
theorem dX8_ahead_53 : decode cX8_ahead 53 = .ok (.iload 4, 2) := by decide +kernel
theorem dX8_ahead_55 : decode cX8_ahead 55 = .ok (.iadd, 1) := by decide +kernel
theorem dX8_ahead_56 : decode cX8_ahead 56 = .ok (.dup2, 1) := by decide +kernel
theorem dX8_ahead_57 : decode cX8_ahead 57 = .ok (.iaload, 1) := by decide +kernel
theorem dX8_ahead_58 : decode cX8_ahead 58 = .ok (.iconst 1, 1) := by decide +kernel
theorem dX8_ahead_59 : decode cX8_ahead 59 = .ok (.iadd, 1) := by decide +kernel
theorem dX8_ahead_60 : decode cX8_ahead 60 = .ok (.iastore, 1) := by decide +kernel
theorem dX8_ahead_61 : decode cX8_ahead 61 = .ok (.aload_n 0, 1) := by decide +kernel
theorem dX8_ahead_62 : decode cX8_ahead 62 = .ok (.invokevirtual 174, 3) := by decide +kernel
theorem dX8_ahead_65 : decode cX8_ahead 65 = .ok (.ifCond .ne 10, 3) := by decide +kernel
theorem dX8_ahead_68 : decode cX8_ahead 68 = .ok (.aload_n 0, 1) := by decide +kernel
theorem dX8_ahead_69 : decode cX8_ahead 69 = .ok (.invokevirtual 244, 3) := by decide +kernel
theorem dX8_ahead_72 : decode cX8_ahead 72 = .ok (.goto 9, 3) := by decide +kernel
theorem dX8_ahead_75 : decode cX8_ahead 75 = .ok (.aload_n 0, 1) := by decide +kernel
theorem dX8_ahead_76 : decode cX8_ahead 76 = .ok (.ldc 202, 2) := by decide +kernel
theorem dX8_ahead_78 : decode cX8_ahead 78 = .ok (.putfield 232, 3) := by decide +kernel
theorem dX8_ahead_81 : decode cX8_ahead 81 = .ok (.aload_n 0, 1) := by decide +kernel
theorem dX8_ahead_82 : decode cX8_ahead 82 = .ok (.getfield 232, 3) := by decide +kernel
theorem dX8_ahead_85 : decode cX8_ahead 85 = .ok (.iload_n 3, 1) := by decide +kernel
theorem dX8_ahead_86 : decode cX8_ahead 86 = .ok (.if_icmp .le 8, 3) := by decide +kernel
theorem dX8_ahead_89 : decode cX8_ahead 89 = .ok (.iload 4, 2) := by decide +kernel
theorem dX8_ahead_91 : decode cX8_ahead 91 = .ok (.goto 4, 3) := by decide +kernel
theorem dX8_ahead_94 : decode cX8_ahead 94 = .ok (.iload_n 2, 1) := by decide +kernel
theorem dX8_ahead_95 : decode cX8_ahead 95 = .ok (.istore_n 2, 1) := by decide +kernel
theorem dX8_ahead_96 : decode cX8_ahead 96 = .ok (.aload_n 0, 1) := by decide +kernel
theorem dX8_ahead_97 : decode cX8_ahead 97 = .ok (.getfield 232, 3) := by decide +kernel
theorem dX8_ahead_100 : decode cX8_ahead 100 = .ok (.iload_n 3, 1) := by decide +kernel
theorem dX8_ahead_101 : decode cX8_ahead 101 = .ok (.if_icmp .le 10, 3) := by decide +kernel
theorem dX8_ahead_104 : decode cX8_ahead 104 = .ok (.aload_n 0, 1) := by decide +kernel
theorem dX8_ahead_105 : decode cX8_ahead 105 = .ok (.getfield 232, 3) := by decide +kernel
theorem dX8_ahead_108 : decode cX8_ahead 108 = .ok (.goto 4, 3) := by decide +kernel
theorem dX8_ahead_111 : decode cX8_ahead 111 = .ok (.iload_n 3, 1) := by decide +kernel
theorem dX8_ahead_112 : decode cX8_ahead 112 = .ok (.istore_n 3, 1) := by decide +kernel
theorem dX8_ahead_113 : decode cX8_ahead 113 = .ok (.aload_n 0, 1) := by decide +kernel
theorem dX8_ahead_114 : decode cX8_ahead 114 = .ok (.getfield 16, 3) := by decide +kernel
theorem dX8_ahead_117 : decode cX8_ahead 117 = .ok (.iconst 3, 1) := by decide +kernel
theorem dX8_ahead_118 : decode cX8_ahead 118 = .ok (.iload 4, 2) := by decide +kernel
theorem dX8_ahead_120 : decode cX8_ahead 120 = .ok (.iadd, 1) := by decide +kernel
theorem dX8_ahead_121 : decode cX8_ahead 121 = .ok (.dup2, 1) := by decide +kernel
theorem dX8_ahead_122 : decode cX8_ahead 122 = .ok (.iaload, 1) := by decide +kernel
theorem dX8_ahead_123 : decode cX8_ahead 123 = .ok (.iconst 1, 1) := by decide +kernel
theorem dX8_ahead_124 : decode cX8_ahead 124 = .ok (.isub, 1) := by decide +kernel
theorem dX8_ahead_125 : decode cX8_ahead 125 = .ok (.iastore, 1) := by decide +kernel
theorem dX8_ahead_126 : decode cX8_ahead 126 = .ok (.iinc 4 1, 3) := by decide +kernel
theorem dX8_ahead_129 : decode cX8_ahead 129 = .ok (.goto (-99), 3) := by decide +kernel
theorem dX8_ahead_132 : decode cX8_ahead 132 = .ok (.iload_n 1, 1) := by decide +kernel
theorem dX8_ahead_133 : decode cX8_ahead 133 = .ok (.ifCond .ne 7, 3) := by decide +kernel
theorem dX8_ahead_136 : decode cX8_ahead 136 = .ok (.iload_n 2, 1) := by decide +kernel
theorem dX8_ahead_137 : decode cX8_ahead 137 = .ok (.goto 4, 3) := by decide +kernel
theorem dX8_ahead_140 : decode cX8_ahead 140 = .ok (.iload_n 3, 1) := by decide +kernel
theorem dX8_ahead_141 : decode cX8_ahead 141 = .ok (.ireturn, 1) := by decide +kernel
theorem dX8_fields_0 : decode cX8_fields 0 = .ok (.iload_n 1, 1) := by decide +kernel
theorem dX8_fields_1 : decode cX8_fields 1 = .ok (.i2l, 1) := by decide +kernel
theorem dX8_fields_2 : decode cX8_fields 2 = .ok (.lconst 0, 1) := by decide +kernel
theorem dX8_fields_3 : decode cX8_fields 3 = .ok (.ldc2_w 134, 3) := by decide +kernel
theorem dX8_fields_6 : decode cX8_fields 6 = .ok (.invokestatic 69, 3) := by decide +kernel
theorem dX8_fields_9 : decode cX8_fields 9 = .ok (.ifCond .eq 15, 3) := by decide +kernel
theorem dX8_fields_12 : decode cX8_fields 12 = .ok (.iload_n 2, 1) := by decide +kernel
theorem dX8_fields_13 : decode cX8_fields 13 = .ok (.i2l, 1) := by decide +kernel
theorem dX8_fields_14 : decode cX8_fields 14 = .ok (.lconst 1, 1) := by decide +kernel
theorem dX8_fields_15 : decode cX8_fields 15 = .ok (.ldc2_w 251, 3) := by decide +kernel
theorem dX8_fields_18 : decode cX8_fields 18 = .ok (.invokestatic 69, 3) := by decide +kernel
theorem dX8_fields_21 : decode cX8_fields 21 = .ok (.ifCond .ne 5, 3) := by decide +kernel
theorem dX8_fields_24 : decode cX8_fields 24 = .ok (.iconst (-1), 1) := by decide +kernel
theorem dX8_fields_25 : decode cX8_fields 25 = .ok (.ireturn, 1) := by decide +kernel
theorem dX8_fields_26 : decode cX8_fields 26 = .ok (.aload_n 0, 1) := by decide +kernel
theorem dX8_fields_27 : decode cX8_fields 27 = .ok (.invokevirtual 174, 3) := by decide +kernel
theorem dX8_fields_30 : decode cX8_fields 30 = .ok (.ifCond .eq 6, 3) := by decide +kernel
theorem dX8_fields_33 : decode cX8_fields 33 = .ok (.bipush (-2), 2) := by decide +kernel
theorem dX8_fields_35 : decode cX8_fields 35 = .ok (.ireturn, 1) := by decide +kernel
theorem dX8_fields_36 : decode cX8_fields 36 = .ok (.aload_n 0, 1) := by decide +kernel
theorem dX8_fields_37 : decode cX8_fields 37 = .ok (.invokevirtual 223, 3) := by decide +kernel
theorem dX8_fields_40 : decode cX8_fields 40 = .ok (.iconst 0, 1) := by decide +kernel
theorem dX8_fields_41 : decode cX8_fields 41 = .ok (.istore_n 3, 1) := by decide +kernel
theorem dX8_fields_42 : decode cX8_fields 42 = .ok (.iconst 0, 1) := by decide +kernel
theorem dX8_fields_43 : decode cX8_fields 43 = .ok (.istore 4, 2) := by decide +kernel
theorem dX8_fields_45 : decode cX8_fields 45 = .ok (.iload 4, 2) := by decide +kernel
theorem dX8_fields_47 : decode cX8_fields 47 = .ok (.iload_n 2, 1) := by decide +kernel
theorem dX8_fields_48 : decode cX8_fields 48 = .ok (.if_icmp .ge 73, 3) := by decide +kernel
theorem dX8_fields_51 : decode cX8_fields 51 = .ok (.aload_n 0, 1) := by decide +kernel
theorem dX8_fields_52 : decode cX8_fields 52 = .ok (.iload_n 1, 1) := by decide +kernel
theorem dX8_fields_53 : decode cX8_fields 53 = .ok (.invokevirtual 214, 3) := by decide +kernel
theorem dX8_fields_56 : decode cX8_fields 56 = .ok (.aload_n 0, 1) := by decide +kernel
theorem dX8_fields_57 : decode cX8_fields 57 = .ok (.invokevirtual 174, 3) := by decide +kernel
theorem dX8_fields_60 : decode cX8_fields 60 = .ok (.ifCond .ne 11, 3) := by decide +kernel
theorem dX8_fields_63 : decode cX8_fields 63 = .ok (.aload_n 0, 1) := by decide +kernel
theorem dX8_fields_64 : decode cX8_fields 64 = .ok (.invokevirtual 192, 3) := by decide +kernel
theorem dX8_fields_67 : decode cX8_fields 67 = .ok (.pop, 1) := by decide +kernel
theorem dX8_fields_68 : decode cX8_fields 68 = .ok (.goto (-12), 3) := by decide +kernel
theorem dX8_fields_71 : decode cX8_fields 71 = .ok (.iload_n 3, 1) := by decide +kernel
theorem dX8_fields_72 : decode cX8_fields 72 = .ok (.aload_n 0, 1) := by decide +kernel
theorem dX8_fields_73 : decode cX8_fields 73 = .ok (.invokevirtual 174, 3) := by decide +kernel
theorem dX8_fields_76 : decode cX8_fields 76 = .ok (.iconst 1, 1) := by decide +kernel
theorem dX8_fields_77 : decode cX8_fields 77 = .ok (.if_icmp .ne 7, 3) := by decide +kernel
theorem dX8_fields_80 : decode cX8_fields 80 = .ok (.iconst 1, 1) := by decide +kernel
theorem dX8_fields_81 : decode cX8_fields 81 = .ok (.goto 4, 3) := by decide +kernel
theorem dX8_fields_84 : decode cX8_fields 84 = .ok (.iconst 0, 1) := by decide +kernel
theorem dX8_fields_85 : decode cX8_fields 85 = .ok (.iadd, 1) := by decide +kernel
theorem dX8_fields_86 : decode cX8_fields 86 = .ok (.istore_n 3, 1) := by decide +kernel
theorem dX8_fields_87 : decode cX8_fields 87 = .ok (.aload_n 0, 1) := by decide +kernel
theorem dX8_fields_88 : decode cX8_fields 88 = .ok (.getfield 16, 3) := by decide +kernel
theorem dX8_fields_91 : decode cX8_fields 91 = .ok (.iconst 2, 1) := by decide +kernel
theorem dX8_fields_92 : decode cX8_fields 92 = .ok (.iaload, 1) := by decide +kernel
theorem dX8_fields_93 : decode cX8_fields 93 = .ok (.istore 5, 2) := by decide +kernel
theorem dX8_fields_95 : decode cX8_fields 95 = .ok (.aload_n 0, 1) := by decide +kernel
theorem dX8_fields_96 : decode cX8_fields 96 = .ok (.invokevirtual 229, 3) := by decide +kernel
theorem dX8_fields_99 : decode cX8_fields 99 = .ok (.aload_n 0, 1) := by decide +kernel
theorem dX8_fields_100 : decode cX8_fields 100 = .ok (.getfield 16, 3) := by decide +kernel
theorem dX8_fields_103 : decode cX8_fields 103 = .ok (.iconst 2, 1) := by decide +kernel
theorem dX8_fields_104 : decode cX8_fields 104 = .ok (.iload 5, 2) := by decide +kernel
theorem dX8_fields_106 : decode cX8_fields 106 = .ok (.iastore, 1) := by decide +kernel
theorem dX8_fields_107 : decode cX8_fields 107 = .ok (.aload_n 0, 1) := by decide +kernel
theorem dX8_fields_108 : decode cX8_fields 108 = .ok (.getfield 31, 3) := by decide +kernel
theorem dX8_fields_111 : decode cX8_fields 111 = .ok (.iconst 2, 1) := by decide +kernel
theorem dX8_fields_112 : decode cX8_fields 112 = .ok (.iload 5, 2) := by decide +kernel
theorem dX8_fields_114 : decode cX8_fields 114 = .ok (.iastore, 1) := by decide +kernel
theorem dX8_fields_115 : decode cX8_fields 115 = .ok (.iinc 4 1, 3) := by decide +kernel
theorem dX8_fields_118 : decode cX8_fields 118 = .ok (.goto (-73), 3) := by decide +kernel
theorem dX8_fields_121 : decode cX8_fields 121 = .ok (.iload_n 3, 1) := by decide +kernel
theorem dX8_fields_122 : decode cX8_fields 122 = .ok (.ireturn, 1) := by decide +kernel
theorem dX8_notesRow_0 : decode cX8_notesRow 0 = .ok (.iconst 0, 1) := by decide +kernel
theorem dX8_notesRow_1 : decode cX8_notesRow 1 = .ok (.istore_n 3, 1) := by decide +kernel
theorem dX8_notesRow_2 : decode cX8_notesRow 2 = .ok (.iload_n 3, 1) := by decide +kernel
theorem dX8_notesRow_3 : decode cX8_notesRow 3 = .ok (.aload_n 1, 1) := by decide +kernel
theorem dX8_notesRow_4 : decode cX8_notesRow 4 = .ok (.arraylength, 1) := by decide +kernel
theorem dX8_notesRow_5 : decode cX8_notesRow 5 = .ok (.if_icmp .ge 20, 3) := by decide +kernel
theorem dX8_notesRow_8 : decode cX8_notesRow 8 = .ok (.aload_n 0, 1) := by decide +kernel
theorem dX8_notesRow_9 : decode cX8_notesRow 9 = .ok (.getfield 46, 3) := by decide +kernel
theorem dX8_notesRow_12 : decode cX8_notesRow 12 = .ok (.iload_n 2, 1) := by decide +kernel
theorem dX8_notesRow_13 : decode cX8_notesRow 13 = .ok (.iload_n 3, 1) := by decide +kernel
theorem dX8_notesRow_14 : decode cX8_notesRow 14 = .ok (.iadd, 1) := by decide +kernel
theorem dX8_notesRow_15 : decode cX8_notesRow 15 = .ok (.aload_n 1, 1) := by decide +kernel
theorem dX8_notesRow_16 : decode cX8_notesRow 16 = .ok (.iload_n 3, 1) := by decide +kernel
theorem dX8_notesRow_17 : decode cX8_notesRow 17 = .ok (.iaload, 1) := by decide +kernel
theorem dX8_notesRow_18 : decode cX8_notesRow 18 = .ok (.iastore, 1) := by decide +kernel
theorem dX8_notesRow_19 : decode cX8_notesRow 19 = .ok (.iinc 3 1, 3) := by decide +kernel
theorem dX8_notesRow_22 : decode cX8_notesRow 22 = .ok (.goto (-20), 3) := by decide +kernel
theorem dX8_notesRow_25 : decode cX8_notesRow 25 = .ok (.iload_n 2, 1) := by decide +kernel
theorem dX8_notesRow_26 : decode cX8_notesRow 26 = .ok (.aload_n 1, 1) := by decide +kernel
theorem dX8_notesRow_27 : decode cX8_notesRow 27 = .ok (.arraylength, 1) := by decide +kernel
theorem dX8_notesRow_28 : decode cX8_notesRow 28 = .ok (.iadd, 1) := by decide +kernel
theorem dX8_notesRow_29 : decode cX8_notesRow 29 = .ok (.ireturn, 1) := by decide +kernel
theorem dX8_gives_0 : decode cX8_gives 0 = .ok (.iconst 0, 1) := by decide +kernel
theorem dX8_gives_1 : decode cX8_gives 1 = .ok (.istore_n 3, 1) := by decide +kernel
theorem dX8_gives_2 : decode cX8_gives 2 = .ok (.iload_n 3, 1) := by decide +kernel
theorem dX8_gives_3 : decode cX8_gives 3 = .ok (.aload_n 2, 1) := by decide +kernel
theorem dX8_gives_4 : decode cX8_gives 4 = .ok (.arraylength, 1) := by decide +kernel
theorem dX8_gives_5 : decode cX8_gives 5 = .ok (.if_icmp .ge 20, 3) := by decide +kernel
theorem dX8_gives_8 : decode cX8_gives 8 = .ok (.aload_n 2, 1) := by decide +kernel
theorem dX8_gives_9 : decode cX8_gives 9 = .ok (.iload_n 3, 1) := by decide +kernel
theorem dX8_gives_10 : decode cX8_gives 10 = .ok (.aload_n 0, 1) := by decide +kernel
theorem dX8_gives_11 : decode cX8_gives 11 = .ok (.getfield 46, 3) := by decide +kernel
theorem dX8_gives_14 : decode cX8_gives 14 = .ok (.iload_n 1, 1) := by decide +kernel
theorem dX8_gives_15 : decode cX8_gives 15 = .ok (.iload_n 3, 1) := by decide +kernel
theorem dX8_gives_16 : decode cX8_gives 16 = .ok (.iadd, 1) := by decide +kernel
theorem dX8_gives_17 : decode cX8_gives 17 = .ok (.iaload, 1) := by decide +kernel
theorem dX8_gives_18 : decode cX8_gives 18 = .ok (.iastore, 1) := by decide +kernel
theorem dX8_gives_19 : decode cX8_gives 19 = .ok (.iinc 3 1, 3) := by decide +kernel
theorem dX8_gives_22 : decode cX8_gives 22 = .ok (.goto (-20), 3) := by decide +kernel
theorem dX8_gives_25 : decode cX8_gives 25 = .ok (.iload_n 1, 1) := by decide +kernel
theorem dX8_gives_26 : decode cX8_gives 26 = .ok (.aload_n 2, 1) := by decide +kernel
theorem dX8_gives_27 : decode cX8_gives 27 = .ok (.arraylength, 1) := by decide +kernel
theorem dX8_gives_28 : decode cX8_gives 28 = .ok (.iadd, 1) := by decide +kernel
theorem dX8_gives_29 : decode cX8_gives 29 = .ok (.ireturn, 1) := by decide +kernel
theorem dX8_image_0 : decode cX8_image 0 = .ok (.aload_n 0, 1) := by decide +kernel
theorem dX8_image_1 : decode cX8_image 1 = .ok (.getfield 46, 3) := by decide +kernel
theorem dX8_image_4 : decode cX8_image 4 = .ok (.iconst 0, 1) := by decide +kernel
theorem dX8_image_5 : decode cX8_image 5 = .ok (.aload_n 0, 1) := by decide +kernel
theorem dX8_image_6 : decode cX8_image 6 = .ok (.getfield 62, 3) := by decide +kernel
theorem dX8_image_9 : decode cX8_image 9 = .ok (.iastore, 1) := by decide +kernel
theorem dX8_image_10 : decode cX8_image 10 = .ok (.aload_n 0, 1) := by decide +kernel
theorem dX8_image_11 : decode cX8_image 11 = .ok (.getfield 46, 3) := by decide +kernel
theorem dX8_image_14 : decode cX8_image 14 = .ok (.iconst 1, 1) := by decide +kernel
theorem dX8_image_15 : decode cX8_image 15 = .ok (.aload_n 0, 1) := by decide +kernel
theorem dX8_image_16 : decode cX8_image 16 = .ok (.getfield 66, 3) := by decide +kernel
theorem dX8_image_19 : decode cX8_image 19 = .ok (.iastore, 1) := by decide +kernel
theorem dX8_image_20 : decode cX8_image 20 = .ok (.aload_n 0, 1) := by decide +kernel
theorem dX8_image_21 : decode cX8_image 21 = .ok (.getfield 46, 3) := by decide +kernel
theorem dX8_image_24 : decode cX8_image 24 = .ok (.iconst 2, 1) := by decide +kernel
theorem dX8_image_25 : decode cX8_image 25 = .ok (.aload_n 0, 1) := by decide +kernel
theorem dX8_image_26 : decode cX8_image 26 = .ok (.getfield 117, 3) := by decide +kernel
theorem dX8_image_29 : decode cX8_image 29 = .ok (.iastore, 1) := by decide +kernel
theorem dX8_image_30 : decode cX8_image 30 = .ok (.aload_n 0, 1) := by decide +kernel
theorem dX8_image_31 : decode cX8_image 31 = .ok (.getfield 46, 3) := by decide +kernel
theorem dX8_image_34 : decode cX8_image 34 = .ok (.iconst 3, 1) := by decide +kernel
theorem dX8_image_35 : decode cX8_image 35 = .ok (.aload_n 0, 1) := by decide +kernel
theorem dX8_image_36 : decode cX8_image 36 = .ok (.getfield 88, 3) := by decide +kernel
theorem dX8_image_39 : decode cX8_image 39 = .ok (.iastore, 1) := by decide +kernel
theorem dX8_image_40 : decode cX8_image 40 = .ok (.aload_n 0, 1) := by decide +kernel
theorem dX8_image_41 : decode cX8_image 41 = .ok (.aload_n 0, 1) := by decide +kernel
theorem dX8_image_42 : decode cX8_image 42 = .ok (.getfield 7, 3) := by decide +kernel
theorem dX8_image_45 : decode cX8_image 45 = .ok (.iconst 4, 1) := by decide +kernel
theorem dX8_image_46 : decode cX8_image 46 = .ok (.invokevirtual 253, 3) := by decide +kernel
theorem dX8_image_49 : decode cX8_image 49 = .ok (.istore_n 1, 1) := by decide +kernel
theorem dX8_image_50 : decode cX8_image 50 = .ok (.aload_n 0, 1) := by decide +kernel
theorem dX8_image_51 : decode cX8_image 51 = .ok (.aload_n 0, 1) := by decide +kernel
theorem dX8_image_52 : decode cX8_image 52 = .ok (.getfield 13, 3) := by decide +kernel
theorem dX8_image_55 : decode cX8_image 55 = .ok (.iload_n 1, 1) := by decide +kernel
theorem dX8_image_56 : decode cX8_image 56 = .ok (.invokevirtual 253, 3) := by decide +kernel
theorem dX8_image_59 : decode cX8_image 59 = .ok (.istore_n 1, 1) := by decide +kernel
theorem dX8_image_60 : decode cX8_image 60 = .ok (.aload_n 0, 1) := by decide +kernel
theorem dX8_image_61 : decode cX8_image 61 = .ok (.aload_n 0, 1) := by decide +kernel
theorem dX8_image_62 : decode cX8_image 62 = .ok (.getfield 16, 3) := by decide +kernel
theorem dX8_image_65 : decode cX8_image 65 = .ok (.iload_n 1, 1) := by decide +kernel
theorem dX8_image_66 : decode cX8_image 66 = .ok (.invokevirtual 253, 3) := by decide +kernel
theorem dX8_image_69 : decode cX8_image 69 = .ok (.istore_n 1, 1) := by decide +kernel
theorem dX8_image_70 : decode cX8_image 70 = .ok (.aload_n 0, 1) := by decide +kernel
theorem dX8_image_71 : decode cX8_image 71 = .ok (.aload_n 0, 1) := by decide +kernel
theorem dX8_image_72 : decode cX8_image 72 = .ok (.getfield 28, 3) := by decide +kernel
theorem dX8_image_75 : decode cX8_image 75 = .ok (.iload_n 1, 1) := by decide +kernel
theorem dX8_image_76 : decode cX8_image 76 = .ok (.invokevirtual 253, 3) := by decide +kernel
theorem dX8_image_79 : decode cX8_image 79 = .ok (.pop, 1) := by decide +kernel
theorem dX8_image_80 : decode cX8_image 80 = .ok (.aload_n 0, 1) := by decide +kernel
theorem dX8_image_81 : decode cX8_image 81 = .ok (.iconst 1, 1) := by decide +kernel
theorem dX8_image_82 : decode cX8_image 82 = .ok (.putfield 257, 3) := by decide +kernel
theorem dX8_image_85 : decode cX8_image 85 = .ok (.iconst 1, 1) := by decide +kernel
theorem dX8_image_86 : decode cX8_image 86 = .ok (.ireturn, 1) := by decide +kernel
theorem dX8_restore_0 : decode cX8_restore 0 = .ok (.aload_n 0, 1) := by decide +kernel
theorem dX8_restore_1 : decode cX8_restore 1 = .ok (.getfield 257, 3) := by decide +kernel
theorem dX8_restore_4 : decode cX8_restore 4 = .ok (.ifCond .ne 6, 3) := by decide +kernel
theorem dX8_restore_7 : decode cX8_restore 7 = .ok (.bipush (-4), 2) := by decide +kernel
theorem dX8_restore_9 : decode cX8_restore 9 = .ok (.ireturn, 1) := by decide +kernel
theorem dX8_restore_10 : decode cX8_restore 10 = .ok (.aload_n 0, 1) := by decide +kernel
theorem dX8_restore_11 : decode cX8_restore 11 = .ok (.aload_n 0, 1) := by decide +kernel
theorem dX8_restore_12 : decode cX8_restore 12 = .ok (.getfield 46, 3) := by decide +kernel
theorem dX8_restore_15 : decode cX8_restore 15 = .ok (.iconst 0, 1) := by decide +kernel
theorem dX8_restore_16 : decode cX8_restore 16 = .ok (.iaload, 1) := by decide +kernel
theorem dX8_restore_17 : decode cX8_restore 17 = .ok (.putfield 62, 3) := by decide +kernel
theorem dX8_restore_20 : decode cX8_restore 20 = .ok (.aload_n 0, 1) := by decide +kernel
theorem dX8_restore_21 : decode cX8_restore 21 = .ok (.aload_n 0, 1) := by decide +kernel
theorem dX8_restore_22 : decode cX8_restore 22 = .ok (.getfield 46, 3) := by decide +kernel
theorem dX8_restore_25 : decode cX8_restore 25 = .ok (.iconst 1, 1) := by decide +kernel
theorem dX8_restore_26 : decode cX8_restore 26 = .ok (.iaload, 1) := by decide +kernel
theorem dX8_restore_27 : decode cX8_restore 27 = .ok (.putfield 66, 3) := by decide +kernel
theorem dX8_restore_30 : decode cX8_restore 30 = .ok (.aload_n 0, 1) := by decide +kernel
theorem dX8_restore_31 : decode cX8_restore 31 = .ok (.aload_n 0, 1) := by decide +kernel
theorem dX8_restore_32 : decode cX8_restore 32 = .ok (.getfield 46, 3) := by decide +kernel
theorem dX8_restore_35 : decode cX8_restore 35 = .ok (.iconst 2, 1) := by decide +kernel
theorem dX8_restore_36 : decode cX8_restore 36 = .ok (.iaload, 1) := by decide +kernel
theorem dX8_restore_37 : decode cX8_restore 37 = .ok (.putfield 117, 3) := by decide +kernel
theorem dX8_restore_40 : decode cX8_restore 40 = .ok (.aload_n 0, 1) := by decide +kernel
theorem dX8_restore_41 : decode cX8_restore 41 = .ok (.aload_n 0, 1) := by decide +kernel
theorem dX8_restore_42 : decode cX8_restore 42 = .ok (.getfield 46, 3) := by decide +kernel
theorem dX8_restore_45 : decode cX8_restore 45 = .ok (.iconst 3, 1) := by decide +kernel
theorem dX8_restore_46 : decode cX8_restore 46 = .ok (.iaload, 1) := by decide +kernel
theorem dX8_restore_47 : decode cX8_restore 47 = .ok (.putfield 88, 3) := by decide +kernel
theorem dX8_restore_50 : decode cX8_restore 50 = .ok (.aload_n 0, 1) := by decide +kernel
theorem dX8_restore_51 : decode cX8_restore 51 = .ok (.iconst 4, 1) := by decide +kernel
theorem dX8_restore_52 : decode cX8_restore 52 = .ok (.aload_n 0, 1) := by decide +kernel
theorem dX8_restore_53 : decode cX8_restore 53 = .ok (.getfield 7, 3) := by decide +kernel
theorem dX8_restore_56 : decode cX8_restore 56 = .ok (.invokevirtual 260, 3) := by decide +kernel
theorem dX8_restore_59 : decode cX8_restore 59 = .ok (.istore_n 1, 1) := by decide +kernel
theorem dX8_restore_60 : decode cX8_restore 60 = .ok (.aload_n 0, 1) := by decide +kernel
theorem dX8_restore_61 : decode cX8_restore 61 = .ok (.iload_n 1, 1) := by decide +kernel
theorem dX8_restore_62 : decode cX8_restore 62 = .ok (.aload_n 0, 1) := by decide +kernel
theorem dX8_restore_63 : decode cX8_restore 63 = .ok (.getfield 13, 3) := by decide +kernel
theorem dX8_restore_66 : decode cX8_restore 66 = .ok (.invokevirtual 260, 3) := by decide +kernel
theorem dX8_restore_69 : decode cX8_restore 69 = .ok (.istore_n 1, 1) := by decide +kernel
theorem dX8_restore_70 : decode cX8_restore 70 = .ok (.aload_n 0, 1) := by decide +kernel
theorem dX8_restore_71 : decode cX8_restore 71 = .ok (.iload_n 1, 1) := by decide +kernel
theorem dX8_restore_72 : decode cX8_restore 72 = .ok (.aload_n 0, 1) := by decide +kernel
theorem dX8_restore_73 : decode cX8_restore 73 = .ok (.getfield 16, 3) := by decide +kernel
theorem dX8_restore_76 : decode cX8_restore 76 = .ok (.invokevirtual 260, 3) := by decide +kernel
theorem dX8_restore_79 : decode cX8_restore 79 = .ok (.istore_n 1, 1) := by decide +kernel
theorem dX8_restore_80 : decode cX8_restore 80 = .ok (.aload_n 0, 1) := by decide +kernel
theorem dX8_restore_81 : decode cX8_restore 81 = .ok (.iload_n 1, 1) := by decide +kernel
theorem dX8_restore_82 : decode cX8_restore 82 = .ok (.aload_n 0, 1) := by decide +kernel
theorem dX8_restore_83 : decode cX8_restore 83 = .ok (.getfield 28, 3) := by decide +kernel
theorem dX8_restore_86 : decode cX8_restore 86 = .ok (.invokevirtual 260, 3) := by decide +kernel
theorem dX8_restore_89 : decode cX8_restore 89 = .ok (.pop, 1) := by decide +kernel
theorem dX8_restore_90 : decode cX8_restore 90 = .ok (.iconst 1, 1) := by decide +kernel
theorem dX8_restore_91 : decode cX8_restore 91 = .ok (.ireturn, 1) := by decide +kernel
theorem dX8_isSheet_0 : decode cX8_isSheet 0 = .ok (.iload_n 0, 1) := by decide +kernel
theorem dX8_isSheet_1 : decode cX8_isSheet 1 = .ok (.i2l, 1) := by decide +kernel
theorem dX8_isSheet_2 : decode cX8_isSheet 2 = .ok (.lconst 0, 1) := by decide +kernel
theorem dX8_isSheet_3 : decode cX8_isSheet 3 = .ok (.ldc2_w 74, 3) := by decide +kernel
theorem dX8_isSheet_6 : decode cX8_isSheet 6 = .ok (.invokestatic 69, 3) := by decide +kernel
theorem dX8_isSheet_9 : decode cX8_isSheet 9 = .ok (.ireturn, 1) := by decide +kernel
theorem dX8_isLane_0 : decode cX8_isLane 0 = .ok (.iload_n 0, 1) := by decide +kernel
theorem dX8_isLane_1 : decode cX8_isLane 1 = .ok (.i2l, 1) := by decide +kernel
theorem dX8_isLane_2 : decode cX8_isLane 2 = .ok (.lconst 0, 1) := by decide +kernel
theorem dX8_isLane_3 : decode cX8_isLane 3 = .ok (.ldc2_w 74, 3) := by decide +kernel
theorem dX8_isLane_6 : decode cX8_isLane 6 = .ok (.invokestatic 69, 3) := by decide +kernel
theorem dX8_isLane_9 : decode cX8_isLane 9 = .ok (.ireturn, 1) := by decide +kernel
theorem dX8_why_0 : decode cX8_why 0 = .ok (.aload_n 0, 1) := by decide +kernel
theorem dX8_why_1 : decode cX8_why 1 = .ok (.getfield 49, 3) := by decide +kernel
theorem dX8_why_4 : decode cX8_why 4 = .ok (.iload_n 1, 1) := by decide +kernel
theorem dX8_why_5 : decode cX8_why 5 = .ok (.iaload, 1) := by decide +kernel
theorem dX8_why_6 : decode cX8_why 6 = .ok (.ifCond .ge 6, 3) := by decide +kernel
theorem dX8_why_9 : decode cX8_why 9 = .ok (.bipush (-11), 2) := by decide +kernel
theorem dX8_why_11 : decode cX8_why 11 = .ok (.ireturn, 1) := by decide +kernel
theorem dX8_why_12 : decode cX8_why 12 = .ok (.aload_n 0, 1) := by decide +kernel
theorem dX8_why_13 : decode cX8_why 13 = .ok (.getfield 49, 3) := by decide +kernel
theorem dX8_why_16 : decode cX8_why 16 = .ok (.iload_n 1, 1) := by decide +kernel
theorem dX8_why_17 : decode cX8_why 17 = .ok (.iaload, 1) := by decide +kernel
theorem dX8_why_18 : decode cX8_why 18 = .ok (.iload_n 2, 1) := by decide +kernel
theorem dX8_why_19 : decode cX8_why 19 = .ok (.if_icmp .eq 6, 3) := by decide +kernel
theorem dX8_why_22 : decode cX8_why 22 = .ok (.bipush (-12), 2) := by decide +kernel
theorem dX8_why_24 : decode cX8_why 24 = .ok (.ireturn, 1) := by decide +kernel
theorem dX8_why_25 : decode cX8_why 25 = .ok (.iload_n 3, 1) := by decide +kernel
theorem dX8_why_26 : decode cX8_why 26 = .ok (.ifCond .lt 20, 3) := by decide +kernel
theorem dX8_why_29 : decode cX8_why 29 = .ok (.iload_n 3, 1) := by decide +kernel
theorem dX8_why_30 : decode cX8_why 30 = .ok (.i2l, 1) := by decide +kernel
theorem dX8_why_31 : decode cX8_why 31 = .ok (.iload 4, 2) := by decide +kernel
theorem dX8_why_33 : decode cX8_why 33 = .ok (.i2l, 1) := by decide +kernel
theorem dX8_why_34 : decode cX8_why 34 = .ok (.ladd, 1) := by decide +kernel
theorem dX8_why_35 : decode cX8_why 35 = .ok (.aload_n 0, 1) := by decide +kernel
theorem dX8_why_36 : decode cX8_why 36 = .ok (.getfield 52, 3) := by decide +kernel
theorem dX8_why_39 : decode cX8_why 39 = .ok (.iload_n 1, 1) := by decide +kernel
theorem dX8_why_40 : decode cX8_why 40 = .ok (.iaload, 1) := by decide +kernel
theorem dX8_why_41 : decode cX8_why 41 = .ok (.i2l, 1) := by decide +kernel
theorem dX8_why_42 : decode cX8_why 42 = .ok (.lcmp, 1) := by decide +kernel
theorem dX8_why_43 : decode cX8_why 43 = .ok (.ifCond .le 8, 3) := by decide +kernel
theorem dX8_why_46 : decode cX8_why 46 = .ok (.bipush (-13), 2) := by decide +kernel
theorem dX8_why_48 : decode cX8_why 48 = .ok (.goto 4, 3) := by decide +kernel
theorem dX8_why_51 : decode cX8_why 51 = .ok (.iconst 0, 1) := by decide +kernel
theorem dX8_why_52 : decode cX8_why 52 = .ok (.ireturn, 1) := by decide +kernel
theorem dX8_strides_0 : decode cX8_strides 0 = .ok (.aload_n 0, 1) := by decide +kernel
theorem dX8_strides_1 : decode cX8_strides 1 = .ok (.iload_n 1, 1) := by decide +kernel
theorem dX8_strides_2 : decode cX8_strides 2 = .ok (.invokevirtual 123, 3) := by decide +kernel
theorem dX8_strides_5 : decode cX8_strides 5 = .ok (.ifCond .eq 30, 3) := by decide +kernel
theorem dX8_strides_8 : decode cX8_strides 8 = .ok (.iload_n 2, 1) := by decide +kernel
theorem dX8_strides_9 : decode cX8_strides 9 = .ok (.invokestatic 264, 3) := by decide +kernel
theorem dX8_strides_12 : decode cX8_strides 12 = .ok (.ifCond .eq 23, 3) := by decide +kernel
theorem dX8_strides_15 : decode cX8_strides 15 = .ok (.iload_n 3, 1) := by decide +kernel
theorem dX8_strides_16 : decode cX8_strides 16 = .ok (.invokestatic 267, 3) := by decide +kernel
theorem dX8_strides_19 : decode cX8_strides 19 = .ok (.ifCond .eq 16, 3) := by decide +kernel
theorem dX8_strides_22 : decode cX8_strides 22 = .ok (.iload 5, 2) := by decide +kernel
theorem dX8_strides_24 : decode cX8_strides 24 = .ok (.i2l, 1) := by decide +kernel
theorem dX8_strides_25 : decode cX8_strides 25 = .ok (.lconst 1, 1) := by decide +kernel
theorem dX8_strides_26 : decode cX8_strides 26 = .ok (.ldc2_w 270, 3) := by decide +kernel
theorem dX8_strides_29 : decode cX8_strides 29 = .ok (.invokestatic 69, 3) := by decide +kernel
theorem dX8_strides_32 : decode cX8_strides 32 = .ok (.ifCond .ne 5, 3) := by decide +kernel
theorem dX8_strides_35 : decode cX8_strides 35 = .ok (.iconst (-1), 1) := by decide +kernel
theorem dX8_strides_36 : decode cX8_strides 36 = .ok (.ireturn, 1) := by decide +kernel
theorem dX8_strides_37 : decode cX8_strides 37 = .ok (.aload_n 0, 1) := by decide +kernel
theorem dX8_strides_38 : decode cX8_strides 38 = .ok (.iload_n 2, 1) := by decide +kernel
theorem dX8_strides_39 : decode cX8_strides 39 = .ok (.iload_n 3, 1) := by decide +kernel
theorem dX8_strides_40 : decode cX8_strides 40 = .ok (.iload 4, 2) := by decide +kernel
theorem dX8_strides_42 : decode cX8_strides 42 = .ok (.iconst 2, 1) := by decide +kernel
theorem dX8_strides_43 : decode cX8_strides 43 = .ok (.iload 5, 2) := by decide +kernel
theorem dX8_strides_45 : decode cX8_strides 45 = .ok (.imul, 1) := by decide +kernel
theorem dX8_strides_46 : decode cX8_strides 46 = .ok (.invokevirtual 272, 3) := by decide +kernel
theorem dX8_strides_49 : decode cX8_strides 49 = .ok (.istore 6, 2) := by decide +kernel
theorem dX8_strides_51 : decode cX8_strides 51 = .ok (.iload 6, 2) := by decide +kernel
theorem dX8_strides_53 : decode cX8_strides 53 = .ok (.ifCond .ge 6, 3) := by decide +kernel
theorem dX8_strides_56 : decode cX8_strides 56 = .ok (.iload 6, 2) := by decide +kernel
theorem dX8_strides_58 : decode cX8_strides 58 = .ok (.ireturn, 1) := by decide +kernel
theorem dX8_strides_59 : decode cX8_strides 59 = .ok (.bipush 24, 2) := by decide +kernel
theorem dX8_strides_61 : decode cX8_strides 61 = .ok (.iload_n 2, 1) := by decide +kernel
theorem dX8_strides_62 : decode cX8_strides 62 = .ok (.imul, 1) := by decide +kernel
theorem dX8_strides_63 : decode cX8_strides 63 = .ok (.iload 4, 2) := by decide +kernel
theorem dX8_strides_65 : decode cX8_strides 65 = .ok (.iadd, 1) := by decide +kernel
theorem dX8_strides_66 : decode cX8_strides 66 = .ok (.istore 7, 2) := by decide +kernel
theorem dX8_strides_68 : decode cX8_strides 68 = .ok (.iconst 0, 1) := by decide +kernel
theorem dX8_strides_69 : decode cX8_strides 69 = .ok (.istore 8, 2) := by decide +kernel
theorem dX8_strides_71 : decode cX8_strides 71 = .ok (.iload 8, 2) := by decide +kernel
theorem dX8_strides_73 : decode cX8_strides 73 = .ok (.iload 5, 2) := by decide +kernel
theorem dX8_strides_75 : decode cX8_strides 75 = .ok (.if_icmp .ge 62, 3) := by decide +kernel
theorem dX8_strides_78 : decode cX8_strides 78 = .ok (.aload_n 0, 1) := by decide +kernel
theorem dX8_strides_79 : decode cX8_strides 79 = .ok (.getfield 55, 3) := by decide +kernel
theorem dX8_strides_82 : decode cX8_strides 82 = .ok (.iload 7, 2) := by decide +kernel
theorem dX8_strides_84 : decode cX8_strides 84 = .ok (.iconst 2, 1) := by decide +kernel
theorem dX8_strides_85 : decode cX8_strides 85 = .ok (.iload 8, 2) := by decide +kernel
theorem dX8_strides_87 : decode cX8_strides 87 = .ok (.imul, 1) := by decide +kernel
theorem dX8_strides_88 : decode cX8_strides 88 = .ok (.iadd, 1) := by decide +kernel
theorem dX8_strides_89 : decode cX8_strides 89 = .ok (.laload, 1) := by decide +kernel
theorem dX8_strides_90 : decode cX8_strides 90 = .ok (.lconst 0, 1) := by decide +kernel
theorem dX8_strides_91 : decode cX8_strides 91 = .ok (.ldc2_w 134, 3) := by decide +kernel
theorem dX8_strides_94 : decode cX8_strides 94 = .ok (.invokestatic 69, 3) := by decide +kernel
theorem dX8_strides_97 : decode cX8_strides 97 = .ok (.ifCond .eq 31, 3) := by decide +kernel
theorem dX8_strides_100 : decode cX8_strides 100 = .ok (.aload_n 0, 1) := by decide +kernel
theorem dX8_strides_101 : decode cX8_strides 101 = .ok (.getfield 55, 3) := by decide +kernel
theorem dX8_strides_104 : decode cX8_strides 104 = .ok (.iload 7, 2) := by decide +kernel
theorem dX8_strides_106 : decode cX8_strides 106 = .ok (.iconst 2, 1) := by decide +kernel
theorem dX8_strides_107 : decode cX8_strides 107 = .ok (.iload 8, 2) := by decide +kernel
theorem dX8_strides_109 : decode cX8_strides 109 = .ok (.imul, 1) := by decide +kernel
theorem dX8_strides_110 : decode cX8_strides 110 = .ok (.iadd, 1) := by decide +kernel
theorem dX8_strides_111 : decode cX8_strides 111 = .ok (.iconst 1, 1) := by decide +kernel
theorem dX8_strides_112 : decode cX8_strides 112 = .ok (.iadd, 1) := by decide +kernel
theorem dX8_strides_113 : decode cX8_strides 113 = .ok (.laload, 1) := by decide +kernel
theorem dX8_strides_114 : decode cX8_strides 114 = .ok (.lconst 0, 1) := by decide +kernel
theorem dX8_strides_115 : decode cX8_strides 115 = .ok (.aload_n 0, 1) := by decide +kernel
theorem dX8_strides_116 : decode cX8_strides 116 = .ok (.getfield 62, 3) := by decide +kernel
theorem dX8_strides_119 : decode cX8_strides 119 = .ok (.iconst 1, 1) := by decide +kernel
theorem dX8_strides_120 : decode cX8_strides 120 = .ok (.isub, 1) := by decide +kernel
theorem dX8_strides_121 : decode cX8_strides 121 = .ok (.i2l, 1) := by decide +kernel
theorem dX8_strides_122 : decode cX8_strides 122 = .ok (.invokestatic 69, 3) := by decide +kernel
theorem dX8_strides_125 : decode cX8_strides 125 = .ok (.ifCond .ne 6, 3) := by decide +kernel
theorem dX8_strides_128 : decode cX8_strides 128 = .ok (.bipush (-2), 2) := by decide +kernel
theorem dX8_strides_130 : decode cX8_strides 130 = .ok (.ireturn, 1) := by decide +kernel
theorem dX8_strides_131 : decode cX8_strides 131 = .ok (.iinc 8 1, 3) := by decide +kernel
theorem dX8_strides_134 : decode cX8_strides 134 = .ok (.goto (-63), 3) := by decide +kernel
theorem dX8_strides_137 : decode cX8_strides 137 = .ok (.iconst 0, 1) := by decide +kernel
theorem dX8_strides_138 : decode cX8_strides 138 = .ok (.istore 8, 2) := by decide +kernel
theorem dX8_strides_140 : decode cX8_strides 140 = .ok (.iconst 0, 1) := by decide +kernel
theorem dX8_strides_141 : decode cX8_strides 141 = .ok (.istore 9, 2) := by decide +kernel
theorem dX8_strides_143 : decode cX8_strides 143 = .ok (.iload 9, 2) := by decide +kernel
theorem dX8_strides_145 : decode cX8_strides 145 = .ok (.bipush 6, 2) := by decide +kernel
theorem dX8_strides_147 : decode cX8_strides 147 = .ok (.if_icmp .ge 101, 3) := by decide +kernel
theorem dX8_strides_150 : decode cX8_strides 150 = .ok (.iconst 1, 1) := by decide +kernel
theorem dX8_strides_151 : decode cX8_strides 151 = .ok (.istore 10, 2) := by decide +kernel
theorem dX8_strides_153 : decode cX8_strides 153 = .ok (.iconst 0, 1) := by decide +kernel
theorem dX8_strides_154 : decode cX8_strides 154 = .ok (.istore 11, 2) := by decide +kernel
theorem dX8_strides_156 : decode cX8_strides 156 = .ok (.iload 11, 2) := by decide +kernel
theorem dX8_strides_158 : decode cX8_strides 158 = .ok (.iload 5, 2) := by decide +kernel
theorem dX8_strides_160 : decode cX8_strides 160 = .ok (.if_icmp .ge 64, 3) := by decide +kernel
theorem dX8_strides_163 : decode cX8_strides 163 = .ok (.iload 10, 2) := by decide +kernel
theorem dX8_strides_165 : decode cX8_strides 165 = .ok (.ifCond .eq 50, 3) := by decide +kernel
theorem dX8_strides_168 : decode cX8_strides 168 = .ok (.aload_n 0, 1) := by decide +kernel
theorem dX8_strides_169 : decode cX8_strides 169 = .ok (.aload_n 0, 1) := by decide +kernel
theorem dX8_strides_170 : decode cX8_strides 170 = .ok (.iload_n 1, 1) := by decide +kernel
theorem dX8_strides_171 : decode cX8_strides 171 = .ok (.iload 9, 2) := by decide +kernel
theorem dX8_strides_173 : decode cX8_strides 173 = .ok (.aload_n 0, 1) := by decide +kernel
theorem dX8_strides_174 : decode cX8_strides 174 = .ok (.getfield 55, 3) := by decide +kernel
theorem dX8_strides_177 : decode cX8_strides 177 = .ok (.iload 7, 2) := by decide +kernel
theorem dX8_strides_179 : decode cX8_strides 179 = .ok (.iconst 2, 1) := by decide +kernel
theorem dX8_strides_180 : decode cX8_strides 180 = .ok (.iload 11, 2) := by decide +kernel
theorem dX8_strides_182 : decode cX8_strides 182 = .ok (.imul, 1) := by decide +kernel
theorem dX8_strides_183 : decode cX8_strides 183 = .ok (.iadd, 1) := by decide +kernel
theorem dX8_strides_184 : decode cX8_strides 184 = .ok (.laload, 1) := by decide +kernel
theorem dX8_strides_185 : decode cX8_strides 185 = .ok (.l2i, 1) := by decide +kernel
theorem dX8_strides_186 : decode cX8_strides 186 = .ok (.invokevirtual 95, 3) := by decide +kernel
theorem dX8_strides_189 : decode cX8_strides 189 = .ok (.invokevirtual 107, 3) := by decide +kernel
theorem dX8_strides_192 : decode cX8_strides 192 = .ok (.i2l, 1) := by decide +kernel
theorem dX8_strides_193 : decode cX8_strides 193 = .ok (.aload_n 0, 1) := by decide +kernel
theorem dX8_strides_194 : decode cX8_strides 194 = .ok (.getfield 55, 3) := by decide +kernel
theorem dX8_strides_197 : decode cX8_strides 197 = .ok (.iload 7, 2) := by decide +kernel
theorem dX8_strides_199 : decode cX8_strides 199 = .ok (.iconst 2, 1) := by decide +kernel
theorem dX8_strides_200 : decode cX8_strides 200 = .ok (.iload 11, 2) := by decide +kernel
theorem dX8_strides_202 : decode cX8_strides 202 = .ok (.imul, 1) := by decide +kernel
theorem dX8_strides_203 : decode cX8_strides 203 = .ok (.iadd, 1) := by decide +kernel
theorem dX8_strides_204 : decode cX8_strides 204 = .ok (.iconst 1, 1) := by decide +kernel
theorem dX8_strides_205 : decode cX8_strides 205 = .ok (.iadd, 1) := by decide +kernel
theorem dX8_strides_206 : decode cX8_strides 206 = .ok (.laload, 1) := by decide +kernel
theorem dX8_strides_207 : decode cX8_strides 207 = .ok (.lcmp, 1) := by decide +kernel
theorem dX8_strides_208 : decode cX8_strides 208 = .ok (.ifCond .ne 7, 3) := by decide +kernel
theorem dX8_strides_211 : decode cX8_strides 211 = .ok (.iconst 1, 1) := by decide +kernel
theorem dX8_strides_212 : decode cX8_strides 212 = .ok (.goto 4, 3) := by decide +kernel
theorem dX8_strides_215 : decode cX8_strides 215 = .ok (.iconst 0, 1) := by decide +kernel
theorem dX8_strides_216 : decode cX8_strides 216 = .ok (.istore 10, 2) := by decide +kernel
theorem dX8_strides_218 : decode cX8_strides 218 = .ok (.iinc 11 1, 3) := by decide +kernel
theorem dX8_strides_221 : decode cX8_strides 221 = .ok (.goto (-65), 3) := by decide +kernel
theorem dX8_strides_224 : decode cX8_strides 224 = .ok (.iload 8, 2) := by decide +kernel
theorem dX8_strides_226 : decode cX8_strides 226 = .ok (.iload 10, 2) := by decide +kernel
theorem dX8_strides_228 : decode cX8_strides 228 = .ok (.ifCond .eq 10, 3) := by decide +kernel
theorem dX8_strides_231 : decode cX8_strides 231 = .ok (.iconst 1, 1) := by decide +kernel
theorem dX8_strides_232 : decode cX8_strides 232 = .ok (.iload 9, 2) := by decide +kernel
theorem dX8_strides_234 : decode cX8_strides 234 = .ok (.ishl, 1) := by decide +kernel
theorem dX8_strides_235 : decode cX8_strides 235 = .ok (.goto 4, 3) := by decide +kernel
theorem dX8_strides_238 : decode cX8_strides 238 = .ok (.iconst 0, 1) := by decide +kernel
theorem dX8_strides_239 : decode cX8_strides 239 = .ok (.ior, 1) := by decide +kernel
theorem dX8_strides_240 : decode cX8_strides 240 = .ok (.istore 8, 2) := by decide +kernel
theorem dX8_strides_242 : decode cX8_strides 242 = .ok (.iinc 9 1, 3) := by decide +kernel
theorem dX8_strides_245 : decode cX8_strides 245 = .ok (.goto (-102), 3) := by decide +kernel
theorem dX8_strides_248 : decode cX8_strides 248 = .ok (.iload 8, 2) := by decide +kernel
theorem dX8_strides_250 : decode cX8_strides 250 = .ok (.ireturn, 1) := by decide +kernel
theorem dX8_far_0 : decode cX8_far 0 = .ok (.iload_n 1, 1) := by decide +kernel
theorem dX8_far_1 : decode cX8_far 1 = .ok (.invokestatic 264, 3) := by decide +kernel
theorem dX8_far_4 : decode cX8_far 4 = .ok (.ifCond .eq 21, 3) := by decide +kernel
theorem dX8_far_7 : decode cX8_far 7 = .ok (.iload_n 2, 1) := by decide +kernel
theorem dX8_far_8 : decode cX8_far 8 = .ok (.invokestatic 267, 3) := by decide +kernel
theorem dX8_far_11 : decode cX8_far 11 = .ok (.ifCond .eq 14, 3) := by decide +kernel
theorem dX8_far_14 : decode cX8_far 14 = .ok (.iload 4, 2) := by decide +kernel
theorem dX8_far_16 : decode cX8_far 16 = .ok (.i2l, 1) := by decide +kernel
theorem dX8_far_17 : decode cX8_far 17 = .ok (.lconst 0, 1) := by decide +kernel
theorem dX8_far_18 : decode cX8_far 18 = .ok (.lconst 1, 1) := by decide +kernel
theorem dX8_far_19 : decode cX8_far 19 = .ok (.invokestatic 69, 3) := by decide +kernel
theorem dX8_far_22 : decode cX8_far 22 = .ok (.ifCond .ne 5, 3) := by decide +kernel
theorem dX8_far_25 : decode cX8_far 25 = .ok (.iconst (-1), 1) := by decide +kernel
theorem dX8_far_26 : decode cX8_far 26 = .ok (.ireturn, 1) := by decide +kernel
theorem dX8_far_27 : decode cX8_far 27 = .ok (.iconst 0, 1) := by decide +kernel
theorem dX8_far_28 : decode cX8_far 28 = .ok (.istore 5, 2) := by decide +kernel
theorem dX8_far_30 : decode cX8_far 30 = .ok (.iconst 1, 1) := by decide +kernel
theorem dX8_far_31 : decode cX8_far 31 = .ok (.istore 6, 2) := by decide +kernel
theorem dX8_far_33 : decode cX8_far 33 = .ok (.iload 6, 2) := by decide +kernel
theorem dX8_far_35 : decode cX8_far 35 = .ok (.aload_n 0, 1) := by decide +kernel
theorem dX8_far_36 : decode cX8_far 36 = .ok (.getfield 66, 3) := by decide +kernel
theorem dX8_far_39 : decode cX8_far 39 = .ok (.if_icmp .ge 28, 3) := by decide +kernel
theorem dX8_far_42 : decode cX8_far 42 = .ok (.iload 5, 2) := by decide +kernel
theorem dX8_far_44 : decode cX8_far 44 = .ok (.aload_n 0, 1) := by decide +kernel
theorem dX8_far_45 : decode cX8_far 45 = .ok (.iload 6, 2) := by decide +kernel
theorem dX8_far_47 : decode cX8_far 47 = .ok (.invokevirtual 103, 3) := by decide +kernel
theorem dX8_far_50 : decode cX8_far 50 = .ok (.ifCond .eq 7, 3) := by decide +kernel
theorem dX8_far_53 : decode cX8_far 53 = .ok (.iconst 0, 1) := by decide +kernel
theorem dX8_far_54 : decode cX8_far 54 = .ok (.goto 4, 3) := by decide +kernel
theorem dX8_far_57 : decode cX8_far 57 = .ok (.iconst 1, 1) := by decide +kernel
theorem dX8_far_58 : decode cX8_far 58 = .ok (.iadd, 1) := by decide +kernel
theorem dX8_far_59 : decode cX8_far 59 = .ok (.istore 5, 2) := by decide +kernel
theorem dX8_far_61 : decode cX8_far 61 = .ok (.iinc 6 1, 3) := by decide +kernel
theorem dX8_far_64 : decode cX8_far 64 = .ok (.goto (-31), 3) := by decide +kernel
theorem dX8_far_67 : decode cX8_far 67 = .ok (.aload_n 0, 1) := by decide +kernel
theorem dX8_far_68 : decode cX8_far 68 = .ok (.iload_n 1, 1) := by decide +kernel
theorem dX8_far_69 : decode cX8_far 69 = .ok (.iload_n 2, 1) := by decide +kernel
theorem dX8_far_70 : decode cX8_far 70 = .ok (.iload_n 3, 1) := by decide +kernel
theorem dX8_far_71 : decode cX8_far 71 = .ok (.iload 5, 2) := by decide +kernel
theorem dX8_far_73 : decode cX8_far 73 = .ok (.invokevirtual 272, 3) := by decide +kernel
theorem dX8_far_76 : decode cX8_far 76 = .ok (.istore 6, 2) := by decide +kernel
theorem dX8_far_78 : decode cX8_far 78 = .ok (.iload 6, 2) := by decide +kernel
theorem dX8_far_80 : decode cX8_far 80 = .ok (.ifCond .ge 6, 3) := by decide +kernel
theorem dX8_far_83 : decode cX8_far 83 = .ok (.iload 6, 2) := by decide +kernel
theorem dX8_far_85 : decode cX8_far 85 = .ok (.ireturn, 1) := by decide +kernel
theorem dX8_far_86 : decode cX8_far 86 = .ok (.iconst 0, 1) := by decide +kernel
theorem dX8_far_87 : decode cX8_far 87 = .ok (.istore 7, 2) := by decide +kernel
theorem dX8_far_89 : decode cX8_far 89 = .ok (.bipush (-4), 2) := by decide +kernel
theorem dX8_far_91 : decode cX8_far 91 = .ok (.istore 8, 2) := by decide +kernel
theorem dX8_far_93 : decode cX8_far 93 = .ok (.aload_n 0, 1) := by decide +kernel
theorem dX8_far_94 : decode cX8_far 94 = .ok (.getfield 66, 3) := by decide +kernel
theorem dX8_far_97 : decode cX8_far 97 = .ok (.ifCond .ne 7, 3) := by decide +kernel
theorem dX8_far_100 : decode cX8_far 100 = .ok (.iconst 1, 1) := by decide +kernel
theorem dX8_far_101 : decode cX8_far 101 = .ok (.goto 4, 3) := by decide +kernel
theorem dX8_far_104 : decode cX8_far 104 = .ok (.iconst 0, 1) := by decide +kernel
theorem dX8_far_105 : decode cX8_far 105 = .ok (.istore 9, 2) := by decide +kernel
theorem dX8_far_107 : decode cX8_far 107 = .ok (.iconst 0, 1) := by decide +kernel
theorem dX8_far_108 : decode cX8_far 108 = .ok (.istore 10, 2) := by decide +kernel
theorem dX8_far_110 : decode cX8_far 110 = .ok (.iload 10, 2) := by decide +kernel
theorem dX8_far_112 : decode cX8_far 112 = .ok (.bipush 61, 2) := by decide +kernel
theorem dX8_far_114 : decode cX8_far 114 = .ok (.if_icmp .ge 150, 3) := by decide +kernel
theorem dX8_far_117 : decode cX8_far 117 = .ok (.iload 9, 2) := by decide +kernel
theorem dX8_far_119 : decode cX8_far 119 = .ok (.ifCond .ne 145, 3) := by decide +kernel
theorem dX8_far_122 : decode cX8_far 122 = .ok (.aload_n 0, 1) := by decide +kernel
theorem dX8_far_123 : decode cX8_far 123 = .ok (.iload 10, 2) := by decide +kernel
theorem dX8_far_125 : decode cX8_far 125 = .ok (.invokevirtual 120, 3) := by decide +kernel
theorem dX8_far_128 : decode cX8_far 128 = .ok (.istore 11, 2) := by decide +kernel
theorem dX8_far_130 : decode cX8_far 130 = .ok (.iconst 1, 1) := by decide +kernel
theorem dX8_far_131 : decode cX8_far 131 = .ok (.istore 12, 2) := by decide +kernel
theorem dX8_far_133 : decode cX8_far 133 = .ok (.bipush 24, 2) := by decide +kernel
theorem dX8_far_135 : decode cX8_far 135 = .ok (.iload_n 1, 1) := by decide +kernel
theorem dX8_far_136 : decode cX8_far 136 = .ok (.imul, 1) := by decide +kernel
theorem dX8_far_137 : decode cX8_far 137 = .ok (.iload_n 3, 1) := by decide +kernel
theorem dX8_far_138 : decode cX8_far 138 = .ok (.iadd, 1) := by decide +kernel
theorem dX8_far_139 : decode cX8_far 139 = .ok (.istore 13, 2) := by decide +kernel
theorem dX8_far_141 : decode cX8_far 141 = .ok (.iconst 1, 1) := by decide +kernel
theorem dX8_far_142 : decode cX8_far 142 = .ok (.istore 14, 2) := by decide +kernel
theorem dX8_far_144 : decode cX8_far 144 = .ok (.iload 14, 2) := by decide +kernel
theorem dX8_far_146 : decode cX8_far 146 = .ok (.aload_n 0, 1) := by decide +kernel
theorem dX8_far_147 : decode cX8_far 147 = .ok (.getfield 66, 3) := by decide +kernel
theorem dX8_far_150 : decode cX8_far 150 = .ok (.if_icmp .ge 53, 3) := by decide +kernel
theorem dX8_far_153 : decode cX8_far 153 = .ok (.aload_n 0, 1) := by decide +kernel
theorem dX8_far_154 : decode cX8_far 154 = .ok (.iload 14, 2) := by decide +kernel
theorem dX8_far_156 : decode cX8_far 156 = .ok (.invokevirtual 103, 3) := by decide +kernel
theorem dX8_far_159 : decode cX8_far 159 = .ok (.ifCond .ne 38, 3) := by decide +kernel
theorem dX8_far_162 : decode cX8_far 162 = .ok (.iload 12, 2) := by decide +kernel
theorem dX8_far_164 : decode cX8_far 164 = .ok (.ifCond .eq 27, 3) := by decide +kernel
theorem dX8_far_167 : decode cX8_far 167 = .ok (.aload_n 0, 1) := by decide +kernel
theorem dX8_far_168 : decode cX8_far 168 = .ok (.iload 14, 2) := by decide +kernel
theorem dX8_far_170 : decode cX8_far 170 = .ok (.iload 11, 2) := by decide +kernel
theorem dX8_far_172 : decode cX8_far 172 = .ok (.invokevirtual 177, 3) := by decide +kernel
theorem dX8_far_175 : decode cX8_far 175 = .ok (.i2l, 1) := by decide +kernel
theorem dX8_far_176 : decode cX8_far 176 = .ok (.aload_n 0, 1) := by decide +kernel
theorem dX8_far_177 : decode cX8_far 177 = .ok (.getfield 55, 3) := by decide +kernel
theorem dX8_far_180 : decode cX8_far 180 = .ok (.iload 13, 2) := by decide +kernel
theorem dX8_far_182 : decode cX8_far 182 = .ok (.laload, 1) := by decide +kernel
theorem dX8_far_183 : decode cX8_far 183 = .ok (.lcmp, 1) := by decide +kernel
theorem dX8_far_184 : decode cX8_far 184 = .ok (.ifCond .ne 7, 3) := by decide +kernel
theorem dX8_far_187 : decode cX8_far 187 = .ok (.iconst 1, 1) := by decide +kernel
theorem dX8_far_188 : decode cX8_far 188 = .ok (.goto 4, 3) := by decide +kernel
theorem dX8_far_191 : decode cX8_far 191 = .ok (.iconst 0, 1) := by decide +kernel
theorem dX8_far_192 : decode cX8_far 192 = .ok (.istore 12, 2) := by decide +kernel
theorem dX8_far_194 : decode cX8_far 194 = .ok (.iinc 13 1, 3) := by decide +kernel
theorem dX8_far_197 : decode cX8_far 197 = .ok (.iinc 14 1, 3) := by decide +kernel
theorem dX8_far_200 : decode cX8_far 200 = .ok (.goto (-56), 3) := by decide +kernel
theorem dX8_far_203 : decode cX8_far 203 = .ok (.iload 12, 2) := by decide +kernel
theorem dX8_far_205 : decode cX8_far 205 = .ok (.ifCond .eq 13, 3) := by decide +kernel
theorem dX8_far_208 : decode cX8_far 208 = .ok (.iload 7, 2) := by decide +kernel
theorem dX8_far_210 : decode cX8_far 210 = .ok (.ifCond .ne 8, 3) := by decide +kernel
theorem dX8_far_213 : decode cX8_far 213 = .ok (.iload 10, 2) := by decide +kernel
theorem dX8_far_215 : decode cX8_far 215 = .ok (.goto 5, 3) := by decide +kernel
theorem dX8_far_218 : decode cX8_far 218 = .ok (.iload 8, 2) := by decide +kernel
theorem dX8_far_220 : decode cX8_far 220 = .ok (.istore 8, 2) := by decide +kernel
theorem dX8_far_222 : decode cX8_far 222 = .ok (.iload 7, 2) := by decide +kernel
theorem dX8_far_224 : decode cX8_far 224 = .ok (.iload 12, 2) := by decide +kernel
theorem dX8_far_226 : decode cX8_far 226 = .ok (.ifCond .eq 7, 3) := by decide +kernel
theorem dX8_far_229 : decode cX8_far 229 = .ok (.iconst 1, 1) := by decide +kernel
theorem dX8_far_230 : decode cX8_far 230 = .ok (.goto 4, 3) := by decide +kernel
theorem dX8_far_233 : decode cX8_far 233 = .ok (.iconst 0, 1) := by decide +kernel
theorem dX8_far_234 : decode cX8_far 234 = .ok (.iadd, 1) := by decide +kernel
theorem dX8_far_235 : decode cX8_far 235 = .ok (.istore 7, 2) := by decide +kernel
theorem dX8_far_237 : decode cX8_far 237 = .ok (.iload 10, 2) := by decide +kernel
theorem dX8_far_239 : decode cX8_far 239 = .ok (.ifCond .le 16, 3) := by decide +kernel
theorem dX8_far_242 : decode cX8_far 242 = .ok (.aload_n 0, 1) := by decide +kernel
theorem dX8_far_243 : decode cX8_far 243 = .ok (.iload 10, 2) := by decide +kernel
theorem dX8_far_245 : decode cX8_far 245 = .ok (.invokevirtual 195, 3) := by decide +kernel
theorem dX8_far_248 : decode cX8_far 248 = .ok (.ifCond .eq 7, 3) := by decide +kernel
theorem dX8_far_251 : decode cX8_far 251 = .ok (.iconst 1, 1) := by decide +kernel
theorem dX8_far_252 : decode cX8_far 252 = .ok (.goto 4, 3) := by decide +kernel
theorem dX8_far_255 : decode cX8_far 255 = .ok (.iconst 0, 1) := by decide +kernel
theorem dX8_far_256 : decode cX8_far 256 = .ok (.istore 9, 2) := by decide +kernel
theorem dX8_far_258 : decode cX8_far 258 = .ok (.iinc 10 1, 3) := by decide +kernel
theorem dX8_far_261 : decode cX8_far 261 = .ok (.goto (-151), 3) := by decide +kernel
theorem dX8_far_264 : decode cX8_far 264 = .ok (.iload 4, 2) := by decide +kernel
theorem dX8_far_266 : decode cX8_far 266 = .ok (.ifCond .ne 8, 3) := by decide +kernel
theorem dX8_far_269 : decode cX8_far 269 = .ok (.iload 7, 2) := by decide +kernel
theorem dX8_far_271 : decode cX8_far 271 = .ok (.goto 5, 3) := by decide +kernel
theorem dX8_far_274 : decode cX8_far 274 = .ok (.iload 8, 2) := by decide +kernel
theorem dX8_far_276 : decode cX8_far 276 = .ok (.ireturn, 1) := by decide +kernel
theorem dX8_puts_0 : decode cX8_puts 0 = .ok (.aload_n 0, 1) := by decide +kernel
theorem dX8_puts_1 : decode cX8_puts 1 = .ok (.getfield 49, 3) := by decide +kernel
theorem dX8_puts_4 : decode cX8_puts 4 = .ok (.iload_n 1, 1) := by decide +kernel
theorem dX8_puts_5 : decode cX8_puts 5 = .ok (.iaload, 1) := by decide +kernel
theorem dX8_puts_6 : decode cX8_puts 6 = .ok (.istore 5, 2) := by decide +kernel
theorem dX8_puts_8 : decode cX8_puts 8 = .ok (.aload_n 0, 1) := by decide +kernel
theorem dX8_puts_9 : decode cX8_puts 9 = .ok (.getfield 55, 3) := by decide +kernel
theorem dX8_puts_12 : decode cX8_puts 12 = .ok (.bipush 24, 2) := by decide +kernel
theorem dX8_puts_14 : decode cX8_puts 14 = .ok (.iload_n 1, 1) := by decide +kernel
theorem dX8_puts_15 : decode cX8_puts 15 = .ok (.imul, 1) := by decide +kernel
theorem dX8_puts_16 : decode cX8_puts 16 = .ok (.iload_n 2, 1) := by decide +kernel
theorem dX8_puts_17 : decode cX8_puts 17 = .ok (.iadd, 1) := by decide +kernel
theorem dX8_puts_18 : decode cX8_puts 18 = .ok (.iload 5, 2) := by decide +kernel
theorem dX8_puts_20 : decode cX8_puts 20 = .ok (.ifCond .ne 10, 3) := by decide +kernel
theorem dX8_puts_23 : decode cX8_puts 23 = .ok (.lload_n 3, 1) := by decide +kernel
theorem dX8_puts_24 : decode cX8_puts 24 = .ok (.l2i, 1) := by decide +kernel
theorem dX8_puts_25 : decode cX8_puts 25 = .ok (.i2b, 1) := by decide +kernel
theorem dX8_puts_26 : decode cX8_puts 26 = .ok (.i2l, 1) := by decide +kernel
theorem dX8_puts_27 : decode cX8_puts 27 = .ok (.goto 29, 3) := by decide +kernel
theorem dX8_puts_30 : decode cX8_puts 30 = .ok (.iload 5, 2) := by decide +kernel
theorem dX8_puts_32 : decode cX8_puts 32 = .ok (.iconst 1, 1) := by decide +kernel
theorem dX8_puts_33 : decode cX8_puts 33 = .ok (.if_icmp .ne 10, 3) := by decide +kernel
theorem dX8_puts_36 : decode cX8_puts 36 = .ok (.lload_n 3, 1) := by decide +kernel
theorem dX8_puts_37 : decode cX8_puts 37 = .ok (.l2i, 1) := by decide +kernel
theorem dX8_puts_38 : decode cX8_puts 38 = .ok (.i2s, 1) := by decide +kernel
theorem dX8_puts_39 : decode cX8_puts 39 = .ok (.i2l, 1) := by decide +kernel
theorem dX8_puts_40 : decode cX8_puts 40 = .ok (.goto 16, 3) := by decide +kernel
theorem dX8_puts_43 : decode cX8_puts 43 = .ok (.iload 5, 2) := by decide +kernel
theorem dX8_puts_45 : decode cX8_puts 45 = .ok (.iconst 2, 1) := by decide +kernel
theorem dX8_puts_46 : decode cX8_puts 46 = .ok (.if_icmp .ne 9, 3) := by decide +kernel
theorem dX8_puts_49 : decode cX8_puts 49 = .ok (.lload_n 3, 1) := by decide +kernel
theorem dX8_puts_50 : decode cX8_puts 50 = .ok (.l2i, 1) := by decide +kernel
theorem dX8_puts_51 : decode cX8_puts 51 = .ok (.i2l, 1) := by decide +kernel
theorem dX8_puts_52 : decode cX8_puts 52 = .ok (.goto 4, 3) := by decide +kernel
theorem dX8_puts_55 : decode cX8_puts 55 = .ok (.lload_n 3, 1) := by decide +kernel
theorem dX8_puts_56 : decode cX8_puts 56 = .ok (.lastore, 1) := by decide +kernel
theorem dX8_puts_57 : decode cX8_puts 57 = .ok (.return_, 1) := by decide +kernel
theorem dX8_film_0 : decode cX8_film 0 = .ok (.iload_n 1, 1) := by decide +kernel
theorem dX8_film_1 : decode cX8_film 1 = .ok (.i2l, 1) := by decide +kernel
theorem dX8_film_2 : decode cX8_film 2 = .ok (.lconst 1, 1) := by decide +kernel
theorem dX8_film_3 : decode cX8_film 3 = .ok (.ldc2_w 276, 3) := by decide +kernel
theorem dX8_film_6 : decode cX8_film 6 = .ok (.invokestatic 69, 3) := by decide +kernel
theorem dX8_film_9 : decode cX8_film 9 = .ok (.ifCond .eq 17, 3) := by decide +kernel
theorem dX8_film_12 : decode cX8_film 12 = .ok (.iload_n 2, 1) := by decide +kernel
theorem dX8_film_13 : decode cX8_film 13 = .ok (.invokestatic 264, 3) := by decide +kernel
theorem dX8_film_16 : decode cX8_film 16 = .ok (.ifCond .eq 10, 3) := by decide +kernel
theorem dX8_film_19 : decode cX8_film 19 = .ok (.iload_n 3, 1) := by decide +kernel
theorem dX8_film_20 : decode cX8_film 20 = .ok (.invokestatic 267, 3) := by decide +kernel
theorem dX8_film_23 : decode cX8_film 23 = .ok (.ifCond .ne 5, 3) := by decide +kernel
theorem dX8_film_26 : decode cX8_film 26 = .ok (.iconst (-1), 1) := by decide +kernel
theorem dX8_film_27 : decode cX8_film 27 = .ok (.ireturn, 1) := by decide +kernel
theorem dX8_film_28 : decode cX8_film 28 = .ok (.aload_n 0, 1) := by decide +kernel
theorem dX8_film_29 : decode cX8_film 29 = .ok (.invokevirtual 241, 3) := by decide +kernel
theorem dX8_film_32 : decode cX8_film 32 = .ok (.ifCond .eq 6, 3) := by decide +kernel
theorem dX8_film_35 : decode cX8_film 35 = .ok (.bipush (-2), 2) := by decide +kernel
theorem dX8_film_37 : decode cX8_film 37 = .ok (.ireturn, 1) := by decide +kernel
theorem dX8_film_38 : decode cX8_film 38 = .ok (.aload_n 0, 1) := by decide +kernel
theorem dX8_film_39 : decode cX8_film 39 = .ok (.iload_n 2, 1) := by decide +kernel
theorem dX8_film_40 : decode cX8_film 40 = .ok (.iload_n 3, 1) := by decide +kernel
theorem dX8_film_41 : decode cX8_film 41 = .ok (.iload 4, 2) := by decide +kernel
theorem dX8_film_43 : decode cX8_film 43 = .ok (.iload_n 1, 1) := by decide +kernel
theorem dX8_film_44 : decode cX8_film 44 = .ok (.invokevirtual 272, 3) := by decide +kernel
theorem dX8_film_47 : decode cX8_film 47 = .ok (.istore 5, 2) := by decide +kernel
theorem dX8_film_49 : decode cX8_film 49 = .ok (.iload 5, 2) := by decide +kernel
theorem dX8_film_51 : decode cX8_film 51 = .ok (.ifCond .ge 6, 3) := by decide +kernel
theorem dX8_film_54 : decode cX8_film 54 = .ok (.iload 5, 2) := by decide +kernel
theorem dX8_film_56 : decode cX8_film 56 = .ok (.ireturn, 1) := by decide +kernel
theorem dX8_film_57 : decode cX8_film 57 = .ok (.aload_n 0, 1) := by decide +kernel
theorem dX8_film_58 : decode cX8_film 58 = .ok (.invokevirtual 244, 3) := by decide +kernel
theorem dX8_film_61 : decode cX8_film 61 = .ok (.iconst 0, 1) := by decide +kernel
theorem dX8_film_62 : decode cX8_film 62 = .ok (.istore 6, 2) := by decide +kernel
theorem dX8_film_64 : decode cX8_film 64 = .ok (.iload 6, 2) := by decide +kernel
theorem dX8_film_66 : decode cX8_film 66 = .ok (.iload_n 1, 1) := by decide +kernel
theorem dX8_film_67 : decode cX8_film 67 = .ok (.if_icmp .ge 27, 3) := by decide +kernel
theorem dX8_film_70 : decode cX8_film 70 = .ok (.aload_n 0, 1) := by decide +kernel
theorem dX8_film_71 : decode cX8_film 71 = .ok (.iload_n 2, 1) := by decide +kernel
theorem dX8_film_72 : decode cX8_film 72 = .ok (.iload 4, 2) := by decide +kernel
theorem dX8_film_74 : decode cX8_film 74 = .ok (.iload 6, 2) := by decide +kernel
theorem dX8_film_76 : decode cX8_film 76 = .ok (.iadd, 1) := by decide +kernel
theorem dX8_film_77 : decode cX8_film 77 = .ok (.aload_n 0, 1) := by decide +kernel
theorem dX8_film_78 : decode cX8_film 78 = .ok (.getfield 43, 3) := by decide +kernel
theorem dX8_film_81 : decode cX8_film 81 = .ok (.iload 6, 2) := by decide +kernel
theorem dX8_film_83 : decode cX8_film 83 = .ok (.iaload, 1) := by decide +kernel
theorem dX8_film_84 : decode cX8_film 84 = .ok (.i2l, 1) := by decide +kernel
theorem dX8_film_85 : decode cX8_film 85 = .ok (.invokevirtual 278, 3) := by decide +kernel
theorem dX8_film_88 : decode cX8_film 88 = .ok (.iinc 6 1, 3) := by decide +kernel
theorem dX8_film_91 : decode cX8_film 91 = .ok (.goto (-27), 3) := by decide +kernel
theorem dX8_film_94 : decode cX8_film 94 = .ok (.iload_n 1, 1) := by decide +kernel
theorem dX8_film_95 : decode cX8_film 95 = .ok (.ireturn, 1) := by decide +kernel
theorem dX8_sheet_0 : decode cX8_sheet 0 = .ok (.iload_n 1, 1) := by decide +kernel
theorem dX8_sheet_1 : decode cX8_sheet 1 = .ok (.invokestatic 264, 3) := by decide +kernel
theorem dX8_sheet_4 : decode cX8_sheet 4 = .ok (.ifCond .eq 16, 3) := by decide +kernel
theorem dX8_sheet_7 : decode cX8_sheet 7 = .ok (.iload_n 2, 1) := by decide +kernel
theorem dX8_sheet_8 : decode cX8_sheet 8 = .ok (.invokestatic 267, 3) := by decide +kernel
theorem dX8_sheet_11 : decode cX8_sheet 11 = .ok (.ifCond .eq 9, 3) := by decide +kernel
theorem dX8_sheet_14 : decode cX8_sheet 14 = .ok (.iload_n 3, 1) := by decide +kernel
theorem dX8_sheet_15 : decode cX8_sheet 15 = .ok (.bipush 24, 2) := by decide +kernel
theorem dX8_sheet_17 : decode cX8_sheet 17 = .ok (.if_icmp .le 5, 3) := by decide +kernel
theorem dX8_sheet_20 : decode cX8_sheet 20 = .ok (.iconst (-1), 1) := by decide +kernel
theorem dX8_sheet_21 : decode cX8_sheet 21 = .ok (.ireturn, 1) := by decide +kernel
theorem dX8_sheet_22 : decode cX8_sheet 22 = .ok (.iload_n 3, 1) := by decide +kernel
theorem dX8_sheet_23 : decode cX8_sheet 23 = .ok (.ifCond .ge 6, 3) := by decide +kernel
theorem dX8_sheet_26 : decode cX8_sheet 26 = .ok (.bipush (-14), 2) := by decide +kernel
theorem dX8_sheet_28 : decode cX8_sheet 28 = .ok (.ireturn, 1) := by decide +kernel
theorem dX8_sheet_29 : decode cX8_sheet 29 = .ok (.aload_n 0, 1) := by decide +kernel
theorem dX8_sheet_30 : decode cX8_sheet 30 = .ok (.getfield 49, 3) := by decide +kernel
theorem dX8_sheet_33 : decode cX8_sheet 33 = .ok (.iload_n 1, 1) := by decide +kernel
theorem dX8_sheet_34 : decode cX8_sheet 34 = .ok (.iload_n 2, 1) := by decide +kernel
theorem dX8_sheet_35 : decode cX8_sheet 35 = .ok (.iastore, 1) := by decide +kernel
theorem dX8_sheet_36 : decode cX8_sheet 36 = .ok (.aload_n 0, 1) := by decide +kernel
theorem dX8_sheet_37 : decode cX8_sheet 37 = .ok (.getfield 52, 3) := by decide +kernel
theorem dX8_sheet_40 : decode cX8_sheet 40 = .ok (.iload_n 1, 1) := by decide +kernel
theorem dX8_sheet_41 : decode cX8_sheet 41 = .ok (.iload_n 3, 1) := by decide +kernel
theorem dX8_sheet_42 : decode cX8_sheet 42 = .ok (.iastore, 1) := by decide +kernel
theorem dX8_sheet_43 : decode cX8_sheet 43 = .ok (.iconst 0, 1) := by decide +kernel
theorem dX8_sheet_44 : decode cX8_sheet 44 = .ok (.istore 4, 2) := by decide +kernel
theorem dX8_sheet_46 : decode cX8_sheet 46 = .ok (.iload 4, 2) := by decide +kernel
theorem dX8_sheet_48 : decode cX8_sheet 48 = .ok (.bipush 24, 2) := by decide +kernel
theorem dX8_sheet_50 : decode cX8_sheet 50 = .ok (.if_icmp .ge 22, 3) := by decide +kernel
theorem dX8_sheet_53 : decode cX8_sheet 53 = .ok (.aload_n 0, 1) := by decide +kernel
theorem dX8_sheet_54 : decode cX8_sheet 54 = .ok (.getfield 55, 3) := by decide +kernel
theorem dX8_sheet_57 : decode cX8_sheet 57 = .ok (.bipush 24, 2) := by decide +kernel
theorem dX8_sheet_59 : decode cX8_sheet 59 = .ok (.iload_n 1, 1) := by decide +kernel
theorem dX8_sheet_60 : decode cX8_sheet 60 = .ok (.imul, 1) := by decide +kernel
theorem dX8_sheet_61 : decode cX8_sheet 61 = .ok (.iload 4, 2) := by decide +kernel
theorem dX8_sheet_63 : decode cX8_sheet 63 = .ok (.iadd, 1) := by decide +kernel
theorem dX8_sheet_64 : decode cX8_sheet 64 = .ok (.lconst 0, 1) := by decide +kernel
theorem dX8_sheet_65 : decode cX8_sheet 65 = .ok (.lastore, 1) := by decide +kernel
theorem dX8_sheet_66 : decode cX8_sheet 66 = .ok (.iinc 4 1, 3) := by decide +kernel
theorem dX8_sheet_69 : decode cX8_sheet 69 = .ok (.goto (-23), 3) := by decide +kernel
theorem dX8_sheet_72 : decode cX8_sheet 72 = .ok (.iload_n 3, 1) := by decide +kernel
theorem dX8_sheet_73 : decode cX8_sheet 73 = .ok (.ireturn, 1) := by decide +kernel
theorem dX8_drop_0 : decode cX8_drop 0 = .ok (.iload_n 1, 1) := by decide +kernel
theorem dX8_drop_1 : decode cX8_drop 1 = .ok (.invokestatic 264, 3) := by decide +kernel
theorem dX8_drop_4 : decode cX8_drop 4 = .ok (.ifCond .ne 5, 3) := by decide +kernel
theorem dX8_drop_7 : decode cX8_drop 7 = .ok (.iconst (-1), 1) := by decide +kernel
theorem dX8_drop_8 : decode cX8_drop 8 = .ok (.ireturn, 1) := by decide +kernel
theorem dX8_drop_9 : decode cX8_drop 9 = .ok (.aload_n 0, 1) := by decide +kernel
theorem dX8_drop_10 : decode cX8_drop 10 = .ok (.getfield 49, 3) := by decide +kernel
theorem dX8_drop_13 : decode cX8_drop 13 = .ok (.iload_n 1, 1) := by decide +kernel
theorem dX8_drop_14 : decode cX8_drop 14 = .ok (.iaload, 1) := by decide +kernel
theorem dX8_drop_15 : decode cX8_drop 15 = .ok (.ifCond .ge 6, 3) := by decide +kernel
theorem dX8_drop_18 : decode cX8_drop 18 = .ok (.bipush (-11), 2) := by decide +kernel
theorem dX8_drop_20 : decode cX8_drop 20 = .ok (.ireturn, 1) := by decide +kernel
theorem dX8_drop_21 : decode cX8_drop 21 = .ok (.aload_n 0, 1) := by decide +kernel
theorem dX8_drop_22 : decode cX8_drop 22 = .ok (.getfield 49, 3) := by decide +kernel
theorem dX8_drop_25 : decode cX8_drop 25 = .ok (.iload_n 1, 1) := by decide +kernel
theorem dX8_drop_26 : decode cX8_drop 26 = .ok (.iconst (-1), 1) := by decide +kernel
theorem dX8_drop_27 : decode cX8_drop 27 = .ok (.iastore, 1) := by decide +kernel
theorem dX8_drop_28 : decode cX8_drop 28 = .ok (.aload_n 0, 1) := by decide +kernel
theorem dX8_drop_29 : decode cX8_drop 29 = .ok (.getfield 52, 3) := by decide +kernel
theorem dX8_drop_32 : decode cX8_drop 32 = .ok (.iload_n 1, 1) := by decide +kernel
theorem dX8_drop_33 : decode cX8_drop 33 = .ok (.iaload, 1) := by decide +kernel
theorem dX8_drop_34 : decode cX8_drop 34 = .ok (.ireturn, 1) := by decide +kernel
theorem dX8_item_0 : decode cX8_item 0 = .ok (.iload_n 1, 1) := by decide +kernel
theorem dX8_item_1 : decode cX8_item 1 = .ok (.invokestatic 264, 3) := by decide +kernel
theorem dX8_item_4 : decode cX8_item 4 = .ok (.ifCond .eq 10, 3) := by decide +kernel
theorem dX8_item_7 : decode cX8_item 7 = .ok (.iload_n 2, 1) := by decide +kernel
theorem dX8_item_8 : decode cX8_item 8 = .ok (.invokestatic 267, 3) := by decide +kernel
theorem dX8_item_11 : decode cX8_item 11 = .ok (.ifCond .ne 5, 3) := by decide +kernel
theorem dX8_item_14 : decode cX8_item 14 = .ok (.iconst (-1), 1) := by decide +kernel
theorem dX8_item_15 : decode cX8_item 15 = .ok (.ireturn, 1) := by decide +kernel
theorem dX8_item_16 : decode cX8_item 16 = .ok (.aload_n 0, 1) := by decide +kernel
theorem dX8_item_17 : decode cX8_item 17 = .ok (.iload_n 1, 1) := by decide +kernel
theorem dX8_item_18 : decode cX8_item 18 = .ok (.iload_n 2, 1) := by decide +kernel
theorem dX8_item_19 : decode cX8_item 19 = .ok (.iload_n 3, 1) := by decide +kernel
theorem dX8_item_20 : decode cX8_item 20 = .ok (.iconst 1, 1) := by decide +kernel
theorem dX8_item_21 : decode cX8_item 21 = .ok (.invokevirtual 272, 3) := by decide +kernel
theorem dX8_item_24 : decode cX8_item 24 = .ok (.istore 6, 2) := by decide +kernel
theorem dX8_item_26 : decode cX8_item 26 = .ok (.iload 6, 2) := by decide +kernel
theorem dX8_item_28 : decode cX8_item 28 = .ok (.ifCond .ge 6, 3) := by decide +kernel
theorem dX8_item_31 : decode cX8_item 31 = .ok (.iload 6, 2) := by decide +kernel
theorem dX8_item_33 : decode cX8_item 33 = .ok (.ireturn, 1) := by decide +kernel
theorem dX8_item_34 : decode cX8_item 34 = .ok (.aload_n 0, 1) := by decide +kernel
theorem dX8_item_35 : decode cX8_item 35 = .ok (.iload_n 1, 1) := by decide +kernel
theorem dX8_item_36 : decode cX8_item 36 = .ok (.iload_n 3, 1) := by decide +kernel
theorem dX8_item_37 : decode cX8_item 37 = .ok (.lload 4, 2) := by decide +kernel
theorem dX8_item_39 : decode cX8_item 39 = .ok (.invokevirtual 278, 3) := by decide +kernel
theorem dX8_item_42 : decode cX8_item 42 = .ok (.iconst 1, 1) := by decide +kernel
theorem dX8_item_43 : decode cX8_item 43 = .ok (.ireturn, 1) := by decide +kernel
theorem dX8_copy_0 : decode cX8_copy 0 = .ok (.iload_n 1, 1) := by decide +kernel
theorem dX8_copy_1 : decode cX8_copy 1 = .ok (.invokestatic 264, 3) := by decide +kernel
theorem dX8_copy_4 : decode cX8_copy 4 = .ok (.ifCond .eq 10, 3) := by decide +kernel
theorem dX8_copy_7 : decode cX8_copy 7 = .ok (.iload_n 3, 1) := by decide +kernel
theorem dX8_copy_8 : decode cX8_copy 8 = .ok (.invokestatic 264, 3) := by decide +kernel
theorem dX8_copy_11 : decode cX8_copy 11 = .ok (.ifCond .ne 5, 3) := by decide +kernel
theorem dX8_copy_14 : decode cX8_copy 14 = .ok (.iconst (-1), 1) := by decide +kernel
theorem dX8_copy_15 : decode cX8_copy 15 = .ok (.ireturn, 1) := by decide +kernel
theorem dX8_copy_16 : decode cX8_copy 16 = .ok (.aload_n 0, 1) := by decide +kernel
theorem dX8_copy_17 : decode cX8_copy 17 = .ok (.getfield 49, 3) := by decide +kernel
theorem dX8_copy_20 : decode cX8_copy 20 = .ok (.iload_n 1, 1) := by decide +kernel
theorem dX8_copy_21 : decode cX8_copy 21 = .ok (.iaload, 1) := by decide +kernel
theorem dX8_copy_22 : decode cX8_copy 22 = .ok (.ifCond .lt 12, 3) := by decide +kernel
theorem dX8_copy_25 : decode cX8_copy 25 = .ok (.aload_n 0, 1) := by decide +kernel
theorem dX8_copy_26 : decode cX8_copy 26 = .ok (.getfield 49, 3) := by decide +kernel
theorem dX8_copy_29 : decode cX8_copy 29 = .ok (.iload_n 3, 1) := by decide +kernel
theorem dX8_copy_30 : decode cX8_copy 30 = .ok (.iaload, 1) := by decide +kernel
theorem dX8_copy_31 : decode cX8_copy 31 = .ok (.ifCond .ge 6, 3) := by decide +kernel
theorem dX8_copy_34 : decode cX8_copy 34 = .ok (.bipush (-11), 2) := by decide +kernel
theorem dX8_copy_36 : decode cX8_copy 36 = .ok (.ireturn, 1) := by decide +kernel
theorem dX8_copy_37 : decode cX8_copy 37 = .ok (.aload_n 0, 1) := by decide +kernel
theorem dX8_copy_38 : decode cX8_copy 38 = .ok (.getfield 49, 3) := by decide +kernel
theorem dX8_copy_41 : decode cX8_copy 41 = .ok (.iload_n 1, 1) := by decide +kernel
theorem dX8_copy_42 : decode cX8_copy 42 = .ok (.iaload, 1) := by decide +kernel
theorem dX8_copy_43 : decode cX8_copy 43 = .ok (.aload_n 0, 1) := by decide +kernel
theorem dX8_copy_44 : decode cX8_copy 44 = .ok (.getfield 49, 3) := by decide +kernel
theorem dX8_copy_47 : decode cX8_copy 47 = .ok (.iload_n 3, 1) := by decide +kernel
theorem dX8_copy_48 : decode cX8_copy 48 = .ok (.iaload, 1) := by decide +kernel
theorem dX8_copy_49 : decode cX8_copy 49 = .ok (.if_icmp .eq 6, 3) := by decide +kernel
theorem dX8_copy_52 : decode cX8_copy 52 = .ok (.bipush (-12), 2) := by decide +kernel
theorem dX8_copy_54 : decode cX8_copy 54 = .ok (.ireturn, 1) := by decide +kernel
theorem dX8_copy_55 : decode cX8_copy 55 = .ok (.iload 5, 2) := by decide +kernel
theorem dX8_copy_57 : decode cX8_copy 57 = .ok (.ifCond .lt 38, 3) := by decide +kernel
theorem dX8_copy_60 : decode cX8_copy 60 = .ok (.aload_n 0, 1) := by decide +kernel
theorem dX8_copy_61 : decode cX8_copy 61 = .ok (.iload_n 1, 1) := by decide +kernel
theorem dX8_copy_62 : decode cX8_copy 62 = .ok (.aload_n 0, 1) := by decide +kernel
theorem dX8_copy_63 : decode cX8_copy 63 = .ok (.getfield 49, 3) := by decide +kernel
theorem dX8_copy_66 : decode cX8_copy 66 = .ok (.iload_n 1, 1) := by decide +kernel
theorem dX8_copy_67 : decode cX8_copy 67 = .ok (.iaload, 1) := by decide +kernel
theorem dX8_copy_68 : decode cX8_copy 68 = .ok (.iload_n 2, 1) := by decide +kernel
theorem dX8_copy_69 : decode cX8_copy 69 = .ok (.iload 5, 2) := by decide +kernel
theorem dX8_copy_71 : decode cX8_copy 71 = .ok (.invokevirtual 272, 3) := by decide +kernel
theorem dX8_copy_74 : decode cX8_copy 74 = .ok (.ifCond .lt 21, 3) := by decide +kernel
theorem dX8_copy_77 : decode cX8_copy 77 = .ok (.aload_n 0, 1) := by decide +kernel
theorem dX8_copy_78 : decode cX8_copy 78 = .ok (.iload_n 3, 1) := by decide +kernel
theorem dX8_copy_79 : decode cX8_copy 79 = .ok (.aload_n 0, 1) := by decide +kernel
theorem dX8_copy_80 : decode cX8_copy 80 = .ok (.getfield 49, 3) := by decide +kernel
theorem dX8_copy_83 : decode cX8_copy 83 = .ok (.iload_n 3, 1) := by decide +kernel
theorem dX8_copy_84 : decode cX8_copy 84 = .ok (.iaload, 1) := by decide +kernel
theorem dX8_copy_85 : decode cX8_copy 85 = .ok (.iload 4, 2) := by decide +kernel
theorem dX8_copy_87 : decode cX8_copy 87 = .ok (.iload 5, 2) := by decide +kernel
theorem dX8_copy_89 : decode cX8_copy 89 = .ok (.invokevirtual 272, 3) := by decide +kernel
theorem dX8_copy_92 : decode cX8_copy 92 = .ok (.ifCond .ge 6, 3) := by decide +kernel
theorem dX8_copy_95 : decode cX8_copy 95 = .ok (.bipush (-13), 2) := by decide +kernel
theorem dX8_copy_97 : decode cX8_copy 97 = .ok (.ireturn, 1) := by decide +kernel
theorem dX8_copy_98 : decode cX8_copy 98 = .ok (.iconst 0, 1) := by decide +kernel
theorem dX8_copy_99 : decode cX8_copy 99 = .ok (.istore 6, 2) := by decide +kernel
theorem dX8_copy_101 : decode cX8_copy 101 = .ok (.iload 6, 2) := by decide +kernel
theorem dX8_copy_103 : decode cX8_copy 103 = .ok (.iload 5, 2) := by decide +kernel
theorem dX8_copy_105 : decode cX8_copy 105 = .ok (.if_icmp .ge 30, 3) := by decide +kernel
theorem dX8_copy_108 : decode cX8_copy 108 = .ok (.aload_n 0, 1) := by decide +kernel
theorem dX8_copy_109 : decode cX8_copy 109 = .ok (.getfield 59, 3) := by decide +kernel
theorem dX8_copy_112 : decode cX8_copy 112 = .ok (.iload 6, 2) := by decide +kernel
theorem dX8_copy_114 : decode cX8_copy 114 = .ok (.aload_n 0, 1) := by decide +kernel
theorem dX8_copy_115 : decode cX8_copy 115 = .ok (.getfield 55, 3) := by decide +kernel
theorem dX8_copy_118 : decode cX8_copy 118 = .ok (.bipush 24, 2) := by decide +kernel
theorem dX8_copy_120 : decode cX8_copy 120 = .ok (.iload_n 1, 1) := by decide +kernel
theorem dX8_copy_121 : decode cX8_copy 121 = .ok (.imul, 1) := by decide +kernel
theorem dX8_copy_122 : decode cX8_copy 122 = .ok (.iload_n 2, 1) := by decide +kernel
theorem dX8_copy_123 : decode cX8_copy 123 = .ok (.iadd, 1) := by decide +kernel
theorem dX8_copy_124 : decode cX8_copy 124 = .ok (.iload 6, 2) := by decide +kernel
theorem dX8_copy_126 : decode cX8_copy 126 = .ok (.iadd, 1) := by decide +kernel
theorem dX8_copy_127 : decode cX8_copy 127 = .ok (.laload, 1) := by decide +kernel
theorem dX8_copy_128 : decode cX8_copy 128 = .ok (.lastore, 1) := by decide +kernel
theorem dX8_copy_129 : decode cX8_copy 129 = .ok (.iinc 6 1, 3) := by decide +kernel
theorem dX8_copy_132 : decode cX8_copy 132 = .ok (.goto (-31), 3) := by decide +kernel
theorem dX8_copy_135 : decode cX8_copy 135 = .ok (.iconst 0, 1) := by decide +kernel
theorem dX8_copy_136 : decode cX8_copy 136 = .ok (.istore 6, 2) := by decide +kernel
theorem dX8_copy_138 : decode cX8_copy 138 = .ok (.iload 6, 2) := by decide +kernel
theorem dX8_copy_140 : decode cX8_copy 140 = .ok (.iload 5, 2) := by decide +kernel
theorem dX8_copy_142 : decode cX8_copy 142 = .ok (.if_icmp .ge 31, 3) := by decide +kernel
theorem dX8_copy_145 : decode cX8_copy 145 = .ok (.aload_n 0, 1) := by decide +kernel
theorem dX8_copy_146 : decode cX8_copy 146 = .ok (.getfield 55, 3) := by decide +kernel
theorem dX8_copy_149 : decode cX8_copy 149 = .ok (.bipush 24, 2) := by decide +kernel
theorem dX8_copy_151 : decode cX8_copy 151 = .ok (.iload_n 3, 1) := by decide +kernel
theorem dX8_copy_152 : decode cX8_copy 152 = .ok (.imul, 1) := by decide +kernel
theorem dX8_copy_153 : decode cX8_copy 153 = .ok (.iload 4, 2) := by decide +kernel
theorem dX8_copy_155 : decode cX8_copy 155 = .ok (.iadd, 1) := by decide +kernel
theorem dX8_copy_156 : decode cX8_copy 156 = .ok (.iload 6, 2) := by decide +kernel
theorem dX8_copy_158 : decode cX8_copy 158 = .ok (.iadd, 1) := by decide +kernel
theorem dX8_copy_159 : decode cX8_copy 159 = .ok (.aload_n 0, 1) := by decide +kernel
theorem dX8_copy_160 : decode cX8_copy 160 = .ok (.getfield 59, 3) := by decide +kernel
theorem dX8_copy_163 : decode cX8_copy 163 = .ok (.iload 6, 2) := by decide +kernel
theorem dX8_copy_165 : decode cX8_copy 165 = .ok (.laload, 1) := by decide +kernel
theorem dX8_copy_166 : decode cX8_copy 166 = .ok (.lastore, 1) := by decide +kernel
theorem dX8_copy_167 : decode cX8_copy 167 = .ok (.iinc 6 1, 3) := by decide +kernel
theorem dX8_copy_170 : decode cX8_copy 170 = .ok (.goto (-32), 3) := by decide +kernel
theorem dX8_copy_173 : decode cX8_copy 173 = .ok (.iload 5, 2) := by decide +kernel
theorem dX8_copy_175 : decode cX8_copy 175 = .ok (.ireturn, 1) := by decide +kernel
end
section
/-! the game's numbers -/
/-- COST of a CELL -/
def pc_cost (so : Nat → Nat) : Nat → Nat
  | 0 => 0
  | n + 1 => pc_cost so n + (so (n + 1) + 1)
/-- the farthest CELL up to n whose COST is no more than the POINTS -/
def pc_far (so : Nat → Nat) (pts : Nat) : Nat → Nat
  | 0 => 0
  | n + 1 => if pts < pc_cost so n + (so (n + 1) + 1) then pc_far so pts n else n + 1
theorem pc_cost_le {so : Nat → Nat} (h : ∀ c, so c ≤ 2) : ∀ n, pc_cost so n ≤ 3 * n
  | 0 => Nat.le_refl 0
  | n + 1 => by
    have h1 := pc_cost_le h n
    have h2 := h (n + 1)
    unfold pc_cost
    omega
theorem pc_far_le (so : Nat → Nat) (pts : Nat) : ∀ n, pc_far so pts n ≤ n
  | 0 => Nat.le_refl 0
  | n + 1 => by
    have h1 := pc_far_le so pts n
    unfold pc_far
    split <;> omega
def pc_in (v low high : Int64) : Nat := if v < low then 0 else if high < v then 0 else 1
/-- FORCE -/
def pc_force (kind str hurt : Nat) : Nat := (if str - hurt / 2 ≤ 1 then 1 else str - hurt / 2) + (if kind = 1 then 2 else 0)
/-- what one makes in a MOMENT -/
def pc_pace (kind pace hurt : Nat) : Nat := if pace - (if kind = 1 then 1 else 0) - hurt / 2 ≤ 1 then 1 else pace - (if kind = 1 then 1 else 0) - hurt / 2
/-- POINTS in t MOMENTS -/
def pc_pts (kind pace hurt t : Nat) : Nat :=
  if kind < 2 then t * pc_pace kind pace hurt else if kind = 2 then t * pc_pace kind pace hurt / 2 else if t < 7 then t * pc_pace kind pace hurt / 2 else 6 * pc_pace kind pace hurt / 2 + (t - 6) * pc_pace kind pace hurt
/-- ODDS between 1 and 15 -/
def pc_btw (x : Int) : Nat := if 1 ≤ x then (if x ≤ 15 then x.toNat else 15) else 1
theorem pc_btw_ok (x : Int) : iZ (if 1 ≤ x then (if x ≤ 15 then x else (15 : Int)) else (1 : Int)) = nI (pc_btw x) := by
  rw [← iZ_n]
  unfold pc_btw
  congr 1
  split
  · split <;> omega
  · rfl
theorem pc_in01 (a b c : Int64) : nI (pc_in a b c) = 0 ∨ nI (pc_in a b c) = 1 := by
  unfold pc_in
  split
  · exact Or.inl rfl
  · split
    · exact Or.inl rfl
    · exact Or.inr rfl
theorem pc_in_f (f : Int32) (nf : Nat) (h : nf ≤ 5) : pc_in f.toInt64 0 (iZ ((nf : Int) - (1 : Int))).toInt64 = if f.toInt < 0 then 0 else if (nf : Int) ≤ f.toInt then 0 else 1 := by
  unfold pc_in
  have e0 : (0 : Int64) = (0 : Int32).toInt64 := rfl
  have h1 : f.toInt64 < (0 : Int64) ↔ f.toInt < 0 := by
    rw [e0, Int64.lt_iff_toInt_lt, Int32.toInt_toInt64, Int32.toInt_toInt64]
    rfl
  have h2 : (iZ ((nf : Int) - (1 : Int))).toInt64 < f.toInt64 ↔ (nf : Int) ≤ f.toInt := by
    rw [Int64.lt_iff_toInt_lt, Int32.toInt_toInt64, Int32.toInt_toInt64, iZ_toInt (by omega) (by omega)]
    omega
  simp only [h1, h2]
end
section
theorem ok_in : rOkS yX8_in cX8_in 6 (some .boolean) 3 := ⟨wc_X8_in, wt_X8_in, rfl, by decide, by decide, by decide +kernel⟩
set_option maxHeartbeats 4000000 in
set_option maxRecDepth 100000 in
theorem k_in (l : Launch) (v : Int64) (low : Int64) (high : Int64)  : rMs l yX8_in cX8_in 6 (some .boolean) 0 0 [.long (v), .long (low), .long (high)] (fun r => r = nI (pc_in v low high)) := by
  refine rMs_in (by decide) rfl (Nat.le_of_ble_eq_true rfl) ?_
  intro p e s m args below meth c ls X hml hr hk hl
  have hx := X.1
  have hb := X.2.1
  have hts := X.2.2.1
  have hown := X.2.2.2
  have hl : lv_has ls 6 [(0, .long (v)), (2, .long (low)), (4, .long (high))] := hl
  refine lv_lload_n hx hb dX8_in_0 rfl (lv_at hl 0 rfl) ?_
  refine lv_lload_n hx hb dX8_in_1 rfl (lv_at hl 1 rfl) ?_
  refine W.lcmp hx hb dX8_in_2 ?_
  refine jn (tgt := 18) (rest := []) (fun v9 => ∃ x9 : Nat, x9 = (if ((lg_cmp v low)) < 0 then 0 else (if 0 < ((lg_cmp v high)) then 0 else 1)) ∧ v9 = nI x9) (fun v_ hv_ => ?_) (fun k_18 => ?_)
  · obtain ⟨x_18, ex_18, rfl⟩ := hv_
    exact re_pz hx hb hr hk (by subst_vars; split; exact Or.inl rfl; split; exact Or.inl rfl; exact Or.inr rfl) (by subst_vars; simp only [pc_in, lg_cmp_lt, lg_cmp_gt]) dX8_in_18
  · skip
    refine lv_if_lt (tgt := 17) hx hb dX8_in_3 (by decide) (fun c_3_2 => ?_) (fun c_3_2 => ?_)
    · skip
      refine lv_iconst (v := (nI 0)) hx hb dX8_in_17 (by decide) ?_
      exact k_18 _ ⟨_, by simp only [if_pos c_3_2], rfl⟩
    · skip
      refine lv_lload_n hx hb dX8_in_6 rfl (lv_at hl 0 rfl) ?_
      refine lv_lload hx hb dX8_in_7 (lv_at hl 2 rfl) ?_
      refine W.lcmp hx hb dX8_in_9 ?_
      refine lv_if_gt (tgt := 17) hx hb dX8_in_10 (by decide) (fun c_10_3 => ?_) (fun c_10_3 => ?_)
      · skip
        refine lv_iconst (v := (nI 0)) hx hb dX8_in_17 (by decide) ?_
        exact k_18 _ ⟨_, by simp only [if_neg c_3_2, if_pos c_10_3], rfl⟩
      · skip
        refine lv_iconst (v := (nI 1)) hx hb dX8_in_13 (by decide) ?_
        refine lv_goto (tgt := 18) hx hb dX8_in_14 (by decide) ?_
        exact k_18 _ ⟨_, by simp only [if_neg c_3_2, if_neg c_10_3], rfl⟩

theorem ok_isFighter : rOk yX8_isFighter cX8_isFighter 2 (some .boolean) 1 := ⟨wc_X8_isFighter, wi_X8_isFighter, ws_X8_isFighter, rfl, by decide, by decide, by decide +kernel⟩
set_option maxHeartbeats 4000000 in
set_option maxRecDepth 100000 in
theorem k_isFighter (l : Launch) (g : RG) (z : RS) (f : Int32) (nf : Nat) (hnf : z.1 1 = nI nf) (hn5 : nf ≤ 5) : rMp g l yX8_isFighter cX8_isFighter 2 (some .boolean) 1 25 [.int f] z (fun r => r = nI (if f.toInt < 0 then 0 else if (nf : Int) ≤ f.toInt then 0 else 1)) := by
  refine rMp_in (by decide) rfl (Nat.le_of_ble_eq_true rfl) ?_
  intro p e s m args below meth c ls X hml hr hk hl w
  have hx := X.1
  have hb := X.2.1
  have hts := X.2.2.1
  have hown := X.2.2.2.1
  have hl : lv_has ls 2 [(0, .ref g.2.2.2.1), (1, .int f)] := hl
  refine lv_iload_n hx hb dX8_isFighter_0 rfl (lv_at hl 1 rfl) ?_
  refine lv_i2l (v := f.toInt64) hx hb dX8_isFighter_1 rfl ?_
  refine lv_lconst (v := 0) hx hb dX8_isFighter_2 (by decide) ?_
  refine lv_aload_n hx hb dX8_isFighter_3 rfl (lv_at hl 0 rfl) ?_
  refine rg_1 X w dX8_isFighter_4 ?_
  refine tp_i (show z.1 1 = (nI nf) from hnf) ?_
  refine lv_iconst (v := (nI 1)) hx hb dX8_isFighter_7 (by decide) ?_
  refine tp_i (show nI 1 = iZ (1 : Int) from by decide) ?_
  refine tp_i2 (iZ_n nf).symm ?_
  refine z_isub hx hb dX8_isFighter_8 ?_
  refine lv_i2l (v := (iZ ((((nf : Nat) : Int)) - ((1 : Int)))).toInt64) hx hb dX8_isFighter_9 rfl ?_
  refine rc_s (rest := []) ⟨X.1, X.2.1, X.2.2.1, X.2.2.2.1⟩ hml hl.1 (k_in l f.toInt64 0 ((iZ ((((nf : Nat) : Int)) - ((1 : Int)))).toInt64)) ok_in wm_X8_69 ⟨Nat.le_of_ble_eq_true rfl, Nat.le_of_ble_eq_true rfl⟩ ⟨Nat.le_refl _, Nat.le_refl _⟩ rfl (Nat.le_of_ble_eq_true rfl) dX8_isFighter_10 (fun r_10 hr_10 => ?_)
  subst hr_10
  exact re_pz hx hb hr hk (pc_in01 _ _ _) (by subst_vars; exact congrArg nI (pc_in_f f nf hn5)) dX8_isFighter_13

theorem ok_isTurned : rOk yX8_isTurned cX8_isTurned 1 (some .boolean) 0 := ⟨wc_X8_isTurned, wi_X8_isTurned, ws_X8_isTurned, rfl, by decide, by decide, by decide +kernel⟩
set_option maxHeartbeats 4000000 in
set_option maxRecDepth 100000 in
theorem k_isTurned (l : Launch) (g : RG) (z : RS)   : rMp g l yX8_isTurned cX8_isTurned 1 (some .boolean) 0 0 [] z (fun r => r = nI (if z.2.1 5 1 = -4 then 0 else 1)) := by
  refine rMp_in (by decide) rfl (Nat.le_of_ble_eq_true rfl) ?_
  intro p e s m args below meth c ls X hml hr hk hl w
  have hx := X.1
  have hb := X.2.1
  have hts := X.2.2.1
  have hown := X.2.2.2.1
  have hl : lv_has ls 1 [(0, .ref g.2.2.2.1)] := hl
  refine lv_aload_n hx hb dX8_isTurned_0 rfl (lv_at hl 0 rfl) ?_
  refine rg_5 X w dX8_isTurned_1 ?_
  refine lv_iconst (v := (nI 1)) hx hb dX8_isTurned_4 (by decide) ?_
  refine rn_5 X w (by omega) dX8_isTurned_5 ?_
  refine lv_bipush (v := (iZ (-4))) hx hb dX8_isTurned_6 (by decide) ?_
  refine jn (tgt := 16) (rest := []) (fun v9 => ∃ x9 : Nat, x9 = (if ((z.2.1 5 1)) = ((iZ (-4))) then 0 else 1) ∧ v9 = nI x9) (fun v_ hv_ => ?_) (fun k_16 => ?_)
  · obtain ⟨x_16, ex_16, rfl⟩ := hv_
    exact re_pz hx hb hr hk (by subst_vars; split; exact Or.inl rfl; exact Or.inr rfl) (by subst_vars; rfl) dX8_isTurned_16
  · skip
    refine lv_icmp_eq (tgt := 15) hx hb dX8_isTurned_8 (by decide) (fun c_8_2 => ?_) (fun c_8_2 => ?_)
    · skip
      refine lv_iconst (v := (nI 0)) hx hb dX8_isTurned_15 (by decide) ?_
      exact k_16 _ ⟨_, by simp only [if_pos c_8_2], rfl⟩
    · skip
      refine lv_iconst (v := (nI 1)) hx hb dX8_isTurned_11 (by decide) ?_
      refine lv_goto (tgt := 16) hx hb dX8_isTurned_12 (by decide) ?_
      exact k_16 _ ⟨_, by simp only [if_neg c_8_2], rfl⟩

theorem ok_hurtOf : rOk yX8_hurtOf cX8_hurtOf 2 (some .int) 1 := ⟨wc_X8_hurtOf, wi_X8_hurtOf, ws_X8_hurtOf, rfl, by decide, by decide, by decide +kernel⟩
set_option maxHeartbeats 4000000 in
set_option maxRecDepth 100000 in
theorem k_hurtOf (l : Launch) (g : RG) (z : RS) (f : Nat) (hf : f < 5) : rMp g l yX8_hurtOf cX8_hurtOf 2 (some .int) 0 0 [.int (nI f)] z (fun r => r = z.2.1 5 (3 + f)) := by
  refine rMp_in (by decide) rfl (Nat.le_of_ble_eq_true rfl) ?_
  intro p e s m args below meth c ls X hml hr hk hl w
  have hx := X.1
  have hb := X.2.1
  have hts := X.2.2.1
  have hown := X.2.2.2.1
  have hl : lv_has ls 2 [(0, .ref g.2.2.2.1), (1, .int (nI f))] := hl
  refine lv_aload_n hx hb dX8_hurtOf_0 rfl (lv_at hl 0 rfl) ?_
  refine rg_5 X w dX8_hurtOf_1 ?_
  refine lv_iconst (v := (nI 3)) hx hb dX8_hurtOf_4 (by decide) ?_
  refine lv_iload_n hx hb dX8_hurtOf_5 rfl (lv_at hl 1 rfl) ?_
  refine n_iadd hx hb dX8_hurtOf_6 ?_
  refine rn_5 X w (by omega) dX8_hurtOf_7 ?_
  exact re_p hx hb hr hk (by subst_vars; rfl) dX8_hurtOf_8

theorem ok_isDown : rOk yX8_isDown cX8_isDown 2 (some .boolean) 1 := ⟨wc_X8_isDown, wi_X8_isDown, ws_X8_isDown, rfl, by decide, by decide, by decide +kernel⟩
set_option maxHeartbeats 4000000 in
set_option maxRecDepth 100000 in
theorem k_isDown (l : Launch) (g : RG) (z : RS) (f : Nat) (hf : f < 5) : rMp g l yX8_isDown cX8_isDown 2 (some .boolean) 1 21 [.int (nI f)] z (fun r => r = nI (if z.2.1 5 (3 + f) = nI 6 then 1 else 0)) := by
  refine rMp_in (by decide) rfl (Nat.le_of_ble_eq_true rfl) ?_
  intro p e s m args below meth c ls X hml hr hk hl w
  have hx := X.1
  have hb := X.2.1
  have hts := X.2.2.1
  have hown := X.2.2.2.1
  have hl : lv_has ls 2 [(0, .ref g.2.2.2.1), (1, .int (nI f))] := hl
  refine lv_aload_n hx hb dX8_isDown_0 rfl (lv_at hl 0 rfl) ?_
  refine lv_iload_n hx hb dX8_isDown_1 rfl (lv_at hl 1 rfl) ?_
  refine rc_p (rest := []) X hml hl.1 (k_hurtOf l g z f (by omega)) ok_hurtOf wm_X8_91 ⟨Nat.le_of_ble_eq_true rfl, Nat.le_of_ble_eq_true rfl⟩ ⟨Nat.le_refl _, Nat.le_refl _⟩ w rfl (Nat.le_of_ble_eq_true rfl) dX8_isDown_2 (fun r_2 hr_2 => ?_)
  subst hr_2
  refine lv_bipush (v := (nI 6)) hx hb dX8_isDown_5 (by decide) ?_
  refine jn (tgt := 15) (rest := []) (fun v9 => ∃ x9 : Nat, x9 = (if ((z.2.1 5 (3 + f))) = ((nI 6)) then 1 else 0) ∧ v9 = nI x9) (fun v_ hv_ => ?_) (fun k_15 => ?_)
  · obtain ⟨x_15, ex_15, rfl⟩ := hv_
    exact re_pz hx hb hr hk (by subst_vars; split; exact Or.inr rfl; exact Or.inl rfl) (by subst_vars; rfl) dX8_isDown_15
  · skip
    refine lv_icmp_ne (tgt := 14) hx hb dX8_isDown_7 (by decide) (fun c_7_2 => ?_) (fun c_7_2 => ?_)
    · skip
      refine lv_iconst (v := (nI 0)) hx hb dX8_isDown_14 (by decide) ?_
      exact k_15 _ ⟨_, by simp only [if_neg c_7_2], rfl⟩
    · skip
      refine lv_iconst (v := (nI 1)) hx hb dX8_isDown_10 (by decide) ?_
      refine lv_goto (tgt := 15) hx hb dX8_isDown_11 (by decide) ?_
      exact k_15 _ ⟨_, by simp only [if_pos c_7_2], rfl⟩

theorem ok_costOf : rOk yX8_costOf cX8_costOf 4 (some .int) 1 := ⟨wc_X8_costOf, wi_X8_costOf, ws_X8_costOf, rfl, by decide, by decide, by decide +kernel⟩
set_option maxHeartbeats 4000000 in
set_option maxRecDepth 100000 in
theorem k_costOf (l : Launch) (g : RG) (z : RS) (cell : Nat) (so : Nat → Nat) (hso : ∀ c, c < 40 → z.2.1 2 c = nI (so c)) (hce : cell < 40) : rMp g l yX8_costOf cX8_costOf 4 (some .int) 0 0 [.int (nI cell)] z (fun r => r = nI (pc_cost so cell)) := by
  refine rMp_in (by decide) rfl (Nat.le_of_ble_eq_true rfl) ?_
  intro p e s m args below meth c ls X hml hr hk hl w
  have hx := X.1
  have hb := X.2.1
  have hts := X.2.2.1
  have hown := X.2.2.2.1
  have hl : lv_has ls 4 [(0, .ref g.2.2.2.1), (1, .int (nI cell))] := hl
  refine lv_iconst (v := (nI 0)) hx hb dX8_costOf_0 (by decide) ?_
  refine lv_istore_n (lv' := [(2, .int (nI 0)), (0, .ref g.2.2.2.1), (1, .int (nI cell))]) hx hb dX8_costOf_1 rfl hl (by decide) rfl (fun ls hl => ?_)
  refine lv_iconst (v := (nI 1)) hx hb dX8_costOf_2 (by decide) ?_
  refine lv_istore_n (lv' := [(3, .int (nI 1)), (2, .int (nI 0)), (0, .ref g.2.2.2.1), (1, .int (nI cell))]) hx hb dX8_costOf_3 rfl hl (by decide) rfl (fun ls hl => ?_)
  have lp_4 : ∀ (n_4 : Nat) (i : Nat) (hi : i ≤ cell) (hm_4 : cell - i < n_4) (ls : Array Slot), lv_has ls 4 [(0, .ref g.2.2.2.1), (1, .int (nI cell)), (2, .int (nI (pc_cost so i))), (3, .int (nI (i + 1)))] → W p l e (ro_m 0 0) s m args below meth c s.heap [] 0 0 (MQ below (vp_Si (fun r => r = nI (pc_cost so cell))) args s 0 0 (fun _ => False)) (F0 m 4 ls []) := by
    intro n_4
    induction n_4 with
    | zero => intro i hi hm; exact absurd hm (Nat.not_lt_zero _)
    | succ n_4 ih_4 =>
      intro i hi hm_4 ls hl
      refine lv_iload_n hx hb dX8_costOf_4 rfl (lv_at hl 3 rfl) ?_
      refine lv_iload_n hx hb dX8_costOf_5 rfl (lv_at hl 1 rfl) ?_
      refine n_icmp_gt (tgt := 26) hx hb dX8_costOf_6 (by decide) (by omega) (by omega) (fun c_6_1 => ?_) (fun c_6_1 => ?_)
      · skip
        refine lv_iload_n hx hb dX8_costOf_26 rfl (lv_at hl 2 rfl) ?_
        exact re_p hx hb hr hk (by rw [show i = cell by omega]) dX8_costOf_27
      · skip
        refine lv_iload_n hx hb dX8_costOf_9 rfl (lv_at hl 2 rfl) ?_
        refine lv_aload_n hx hb dX8_costOf_10 rfl (lv_at hl 0 rfl) ?_
        refine rg_2 X w dX8_costOf_11 ?_
        refine lv_iload_n hx hb dX8_costOf_14 rfl (lv_at hl 3 rfl) ?_
        refine rn_2 X w (by omega) dX8_costOf_15 ?_
        refine tp_i (show z.2.1 2 (i + 1) = (nI (so (i + 1))) from hso (i + 1) (by omega)) ?_
        refine lv_iconst (v := (nI 1)) hx hb dX8_costOf_16 (by decide) ?_
        refine n_iadd hx hb dX8_costOf_17 ?_
        refine n_iadd hx hb dX8_costOf_18 ?_
        refine lv_istore_n (lv' := [(2, .int (nI ((pc_cost so i) + ((so (i + 1)) + 1)))), (0, .ref g.2.2.2.1), (1, .int (nI cell)), (3, .int (nI (i + 1)))]) hx hb dX8_costOf_19 rfl hl (by decide) rfl (fun ls hl => ?_)
        refine lv_iinc (v := (nI (i + 1 + 1))) (lv' := [(3, .int (nI (i + 1 + 1))), (2, .int (nI ((pc_cost so i) + ((so (i + 1)) + 1)))), (0, .ref g.2.2.2.1), (1, .int (nI cell))]) hx hb dX8_costOf_20 hl (k := 3) rfl (by first | exact nI_1 _ | (rw [show Int32.ofInt 1 = nI 1 from by decide, nI_add])) (by decide) rfl (fun ls hl => ?_)
        refine lv_goto (tgt := 4) hx hb dX8_costOf_23 (by decide) ?_
        exact ih_4 (i + 1) (by omega) (by omega) ls (lv_sub hl [2, 3, 1, 0] rfl)
  exact lp_4 _ 0 (Nat.zero_le _) (Nat.lt_succ_self _) ls (lv_sub hl [2, 3, 1, 0] rfl)

theorem ok_farthest : rOk yX8_farthest cX8_farthest 5 (some .int) 1 := ⟨wc_X8_farthest, wi_X8_farthest, ws_X8_farthest, rfl, by decide, by decide, by decide +kernel⟩
set_option maxHeartbeats 4000000 in
set_option maxRecDepth 100000 in
theorem k_farthest (l : Launch) (g : RG) (z : RS) (pts : Nat) (so : Nat → Nat) (ce : Nat) (hso : ∀ c, c < 40 → z.2.1 2 c = nI (so c)) (hs2 : ∀ c, so c ≤ 2) (hz0 : z.1 0 = nI ce) (hce : 1 ≤ ce ∧ ce ≤ 40) (hpt : pts < 1000000) : rMp g l yX8_farthest cX8_farthest 5 (some .int) 0 0 [.int (nI pts)] z (fun r => r = nI (pc_far so pts (ce - 1))) := by
  refine rMp_in (by decide) rfl (Nat.le_of_ble_eq_true rfl) ?_
  intro p e s m args below meth c ls X hml hr hk hl w
  have hx := X.1
  have hb := X.2.1
  have hts := X.2.2.1
  have hown := X.2.2.2.1
  have hl : lv_has ls 5 [(0, .ref g.2.2.2.1), (1, .int (nI pts))] := hl
  refine lv_iconst (v := (nI 0)) hx hb dX8_farthest_0 (by decide) ?_
  refine lv_istore_n (lv' := [(2, .int (nI 0)), (0, .ref g.2.2.2.1), (1, .int (nI pts))]) hx hb dX8_farthest_1 rfl hl (by decide) rfl (fun ls hl => ?_)
  refine lv_iconst (v := (nI 0)) hx hb dX8_farthest_2 (by decide) ?_
  refine lv_istore_n (lv' := [(3, .int (nI 0)), (2, .int (nI 0)), (0, .ref g.2.2.2.1), (1, .int (nI pts))]) hx hb dX8_farthest_3 rfl hl (by decide) rfl (fun ls hl => ?_)
  refine lv_iconst (v := (nI 1)) hx hb dX8_farthest_4 (by decide) ?_
  refine lv_istore (lv' := [(4, .int (nI 1)), (3, .int (nI 0)), (2, .int (nI 0)), (0, .ref g.2.2.2.1), (1, .int (nI pts))]) hx hb dX8_farthest_5 hl (by decide) rfl (fun ls hl => ?_)
  have lp_7 : ∀ (n_7 : Nat) (i : Nat) (hi : i < ce) (hm_7 : ce - i < n_7) (ls : Array Slot), lv_has ls 5 [(0, .ref g.2.2.2.1), (1, .int (nI pts)), (2, .int (nI (pc_far so pts i))), (3, .int (nI (pc_cost so i))), (4, .int (nI (i + 1)))] → W p l e (ro_m 0 0) s m args below meth c s.heap [] 0 0 (MQ below (vp_Si (fun r => r = nI (pc_far so pts (ce - 1)))) args s 0 0 (fun _ => False)) (F0 m 7 ls []) := by
    intro n_7
    induction n_7 with
    | zero => intro i hi hm; exact absurd hm (Nat.not_lt_zero _)
    | succ n_7 ih_7 =>
      intro i hi hm_7 ls hl
      have q1 := pc_cost_le hs2 i
      have q2 := hs2 (i + 1)
      refine lv_iload hx hb dX8_farthest_7 (lv_at hl 4 rfl) ?_
      refine lv_aload_n hx hb dX8_farthest_9 rfl (lv_at hl 0 rfl) ?_
      refine rg_0 X w dX8_farthest_10 ?_
      refine tp_i (show z.1 0 = (nI ce) from hz0) ?_
      refine n_icmp_ge (tgt := 46) hx hb dX8_farthest_13 (by decide) (by omega) (by omega) (fun c_13_1 => ?_) (fun c_13_1 => ?_)
      · skip
        refine lv_iload_n hx hb dX8_farthest_46 rfl (lv_at hl 2 rfl) ?_
        exact re_p hx hb hr hk (by rw [show i = ce - 1 by omega]) dX8_farthest_47
      · skip
        refine lv_iload_n hx hb dX8_farthest_16 rfl (lv_at hl 3 rfl) ?_
        refine lv_aload_n hx hb dX8_farthest_17 rfl (lv_at hl 0 rfl) ?_
        refine rg_2 X w dX8_farthest_18 ?_
        refine lv_iload hx hb dX8_farthest_21 (lv_at hl 4 rfl) ?_
        refine rn_2 X w (by omega) dX8_farthest_23 ?_
        refine tp_i (show z.2.1 2 (i + 1) = (nI (so (i + 1))) from hso (i + 1) (by omega)) ?_
        refine lv_iconst (v := (nI 1)) hx hb dX8_farthest_24 (by decide) ?_
        refine n_iadd hx hb dX8_farthest_25 ?_
        refine n_iadd hx hb dX8_farthest_26 ?_
        refine lv_istore_n (lv' := [(3, .int (nI ((pc_cost so i) + ((so (i + 1)) + 1)))), (0, .ref g.2.2.2.1), (1, .int (nI pts)), (2, .int (nI (pc_far so pts i))), (4, .int (nI (i + 1)))]) hx hb dX8_farthest_27 rfl hl (by decide) rfl (fun ls hl => ?_)
        refine lv_iload_n hx hb dX8_farthest_28 rfl (lv_at hl 0 rfl) ?_
        refine lv_iload_n hx hb dX8_farthest_29 rfl (lv_at hl 2 rfl) ?_
        refine jn (tgt := 39) (rest := []) (fun v9 => ∃ x9 : Nat, x9 = (if pts < ((pc_cost so i) + ((so (i + 1)) + 1)) then (pc_far so pts i) else (i + 1)) ∧ v9 = nI x9) (fun v_ hv_ => ?_) (fun k_39 => ?_)
        · obtain ⟨x_39, ex_39, rfl⟩ := hv_
          refine lv_istore_n (lv' := [(2, .int (nI x_39)), (3, .int (nI ((pc_cost so i) + ((so (i + 1)) + 1)))), (0, .ref g.2.2.2.1), (1, .int (nI pts)), (4, .int (nI (i + 1)))]) hx hb dX8_farthest_39 rfl hl (by decide) rfl (fun ls hl => ?_)
          refine lv_iinc (v := (nI (i + 1 + 1))) (lv' := [(4, .int (nI (i + 1 + 1))), (2, .int (nI x_39)), (3, .int (nI ((pc_cost so i) + ((so (i + 1)) + 1)))), (0, .ref g.2.2.2.1), (1, .int (nI pts))]) hx hb dX8_farthest_40 hl (k := 4) rfl (by first | exact nI_1 _ | (rw [show Int32.ofInt 1 = nI 1 from by decide, nI_add])) (by decide) rfl (fun ls hl => ?_)
          refine lv_goto (tgt := 7) hx hb dX8_farthest_43 (by decide) ?_
          subst ex_39
          exact ih_7 (i + 1) (by omega) (by omega) ls (lv_sub hl [3, 4, 1, 2, 0] rfl)
        · skip
          refine n_icmp_gt (tgt := 38) hx hb dX8_farthest_30 (by decide) (by omega) (by omega) (fun c_30_3 => ?_) (fun c_30_3 => ?_)
          · skip
            refine lv_iload_n hx hb dX8_farthest_38 rfl (lv_at hl 3 rfl) ?_
            exact k_39 _ ⟨_, by simp only [if_pos c_30_3], rfl⟩
          · skip
            refine lv_iload hx hb dX8_farthest_33 (lv_at hl 4 rfl) ?_
            refine lv_goto (tgt := 39) hx hb dX8_farthest_35 (by decide) ?_
            exact k_39 _ ⟨_, by simp only [if_neg c_30_3], rfl⟩
  exact lp_7 _ 0 (by omega) (Nat.lt_succ_self _) ls (lv_sub hl [3, 4, 2, 1, 0] rfl)

theorem ok_between : rOkS yX8_between cX8_between 1 (some .int) 1 := ⟨wc_X8_between, wt_X8_between, rfl, by decide, by decide, by decide +kernel⟩
set_option maxHeartbeats 4000000 in
set_option maxRecDepth 100000 in
theorem k_between (l : Launch) (x : Int) (h1 : -1000 ≤ x) (h2 : x ≤ 1000) : rMs l yX8_between cX8_between 1 (some .int) 0 0 [.int (iZ (x))] (fun r => r = nI (pc_btw x)) := by
  refine rMs_in (by decide) rfl (Nat.le_of_ble_eq_true rfl) ?_
  intro p e s m args below meth c ls X hml hr hk hl
  have hx := X.1
  have hb := X.2.1
  have hts := X.2.2.1
  have hown := X.2.2.2
  have hl : lv_has ls 1 [(0, .int (iZ (x)))] := hl
  refine lv_iload_n hx hb dX8_between_0 rfl (lv_at hl 0 rfl) ?_
  refine lv_iconst (v := (nI 1)) hx hb dX8_between_1 (by decide) ?_
  refine jn (tgt := 21) (rest := []) (fun v9 => ∃ x9 : Int, x9 = (if ((1 : Int)) ≤ x then (if x ≤ ((15 : Int)) then x else ((15 : Int))) else ((1 : Int))) ∧ v9 = iZ x9) (fun v_ hv_ => ?_) (fun k_21 => ?_)
  · obtain ⟨x_21, ex_21, rfl⟩ := hv_
    exact re_p hx hb hr hk (by subst_vars; exact pc_btw_ok _) dX8_between_21
  · skip
    refine tp_i (show nI 1 = iZ (1 : Int) from by decide) ?_
    refine z_icmp_ge (tgt := 9) hx hb dX8_between_2 (by decide) (by omega) (by omega) (by omega) (by omega) (fun c_2_2 => ?_) (fun c_2_2 => ?_)
    · skip
      refine lv_iload_n hx hb dX8_between_9 rfl (lv_at hl 0 rfl) ?_
      refine lv_bipush (v := (nI 15)) hx hb dX8_between_10 (by decide) ?_
      refine tp_i (show nI 15 = iZ (15 : Int) from by decide) ?_
      refine z_icmp_le (tgt := 20) hx hb dX8_between_12 (by decide) (by omega) (by omega) (by omega) (by omega) (fun c_12_3 => ?_) (fun c_12_3 => ?_)
      · skip
        refine lv_iload_n hx hb dX8_between_20 rfl (lv_at hl 0 rfl) ?_
        exact k_21 _ ⟨_, by simp only [if_pos c_2_2, if_pos c_12_3], rfl⟩
      · skip
        refine lv_bipush (v := (nI 15)) hx hb dX8_between_15 (by decide) ?_
        refine lv_goto (tgt := 21) hx hb dX8_between_17 (by decide) ?_
        exact k_21 _ ⟨(15 : Int), by simp only [if_pos c_2_2, if_neg c_12_3], (show nI 15 = iZ (15 : Int) from by decide)⟩
    · skip
      refine lv_iconst (v := (nI 1)) hx hb dX8_between_5 (by decide) ?_
      refine lv_goto (tgt := 21) hx hb dX8_between_6 (by decide) ?_
      exact k_21 _ ⟨(1 : Int), by simp only [if_neg c_2_2], (show nI 1 = iZ (1 : Int) from by decide)⟩
end
section
/-! the scene: numbers (0 CELLS, 1 FIGHTERS, 2 START, 3 THE MOMENT, 4 nothing or where he stands, and one more), rows (0 SORTS, 1 KINDS, 2 STRENGTHS, 3 PACES, 4 HURTS, 5 when they COME), THE DRAW -/
abbrev Sc : Type := (Nat → Nat) × (Nat → Nat → Nat) × Int32
def pc_sd (n : Nat) : Int32 := if n = 0 then -4 else nI (n - 1)
/-- the reference's cells hold the scene -/
def rSc (z : RS) (S : Sc) : Prop := z.1 0 = nI (S.1 0) ∧ z.1 1 = nI (S.1 1) ∧ z.1 4 = nI (S.1 2) ∧ z.2.1 5 0 = nI (S.1 3) ∧ z.2.1 5 1 = pc_sd (S.1 4) ∧ z.2.1 5 2 = S.2.2 ∧ (∀ c, c < 40 → z.2.1 2 c = nI (S.2.1 0 c)) ∧ (∀ f, f < 5 → z.2.1 3 (3 * f) = nI (S.2.1 1 f)) ∧ (∀ f, f < 5 → z.2.1 3 (3 * f + 1) = nI (S.2.1 2 f)) ∧ (∀ f, f < 5 → z.2.1 3 (3 * f + 2) = nI (S.2.1 3 f)) ∧ (∀ f, f < 5 → z.2.1 5 (3 + f) = nI (S.2.1 4 f)) ∧ (∀ f, f < 5 → z.2.1 5 (8 + f) = nI (S.2.1 5 f))
/-- its numbers are in their bounds -/
def oSc (S : Sc) : Prop := 1 ≤ S.1 0 ∧ S.1 0 ≤ 40 ∧ S.1 1 ≤ 5 ∧ S.1 2 ≤ 20 ∧ S.1 3 ≤ 100000 ∧ S.1 4 ≤ S.1 0 ∧ (∀ c, S.2.1 0 c ≤ 2) ∧ (∀ f, S.2.1 1 f ≤ 3) ∧ (∀ f, S.2.1 2 f ≤ 9) ∧ (∀ f, S.2.1 3 f ≤ 6) ∧ (∀ f, S.2.1 4 f ≤ 6) ∧ (∀ f, S.2.1 5 f ≤ 99999)
/-- DOWN: 1, else 0 -/
def pc_dn (S : Sc) (f : Nat) : Nat := if S.2.1 4 f = 6 then 1 else 0
def sp_pts (S : Sc) (f hurt t : Nat) : Nat := pc_pts (S.2.1 1 f) (S.2.1 3 f) hurt t
/-- POINTS, and the least of all that are not DOWN -/
def sp_purL (S : Sc) (t a : Nat) : Nat → Nat
  | 0 => a
  | n + 1 => if pc_dn S (n + 1) = 0 then (if sp_purL S t a n ≤ sp_pts S (n + 1) (S.2.1 4 (n + 1)) t then sp_purL S t a n else sp_pts S (n + 1) (S.2.1 4 (n + 1)) t) else sp_purL S t a n
def sp_pur (S : Sc) (tg f t : Nat) : Nat := if tg = 0 then sp_pts S f (S.2.1 4 f) t else sp_purL S t (sp_pts S f (S.2.1 4 f) t) (S.1 1 - 1)
/-- where the RUNNER is -/
def sp_run (S : Sc) (m : Nat) : Nat := if pc_dn S 0 = 0 then pc_far (S.2.1 0) (sp_pts S 0 (S.2.1 4 0) m) (S.1 0 - 1) else 0
def pc_fst (P : Nat → Nat) (cost : Nat) : Nat → Nat → Nat
  | 0, t => t
  | n + 1, t => if cost ≤ P t then t else pc_fst P cost n (t + 1)
/-- when one COMES -/
def sp_com (S : Sc) (tg f cell : Nat) : Nat := if pc_cost (S.2.1 0) cell = 0 then 0 else S.1 2 + pc_fst (sp_pur S tg f) (pc_cost (S.2.1 0) cell) 400 0
def sp_ctL (S : Sc) (tg cost m b : Nat) : Nat → Nat
  | 0 => b
  | i + 1 => if sp_ctL S tg cost m b i = 0 then (if pc_dn S (i + 1) = 0 then (if cost = 0 then 1 else (if m < S.1 2 then 0 else (if sp_pur S tg (i + 1) (m - S.1 2) < cost then 0 else 1))) else 0) else 1
/-- CAUGHT: 1, else 0 -/
def sp_ct (S : Sc) (tg m : Nat) : Nat := sp_ctL S tg (pc_cost (S.2.1 0) (sp_run S m)) m (if sp_run S m = S.1 0 - 1 then 1 else 0) (S.1 1 - 1)
theorem pc_pace_le (k p h : Nat) (hp : p ≤ 6) : pc_pace k p h ≤ 6 := by
  unfold pc_pace
  split <;> split <;> omega
theorem pc_pace_ge (k p h : Nat) : 1 ≤ pc_pace k p h := by
  unfold pc_pace
  split <;> split <;> omega
theorem pc_dn01 (S : Sc) (f : Nat) : pc_dn S f ≤ 1 := by
  unfold pc_dn
  split <;> omega
theorem pc_pts_le (k p h t : Nat) (hp : p ≤ 6) : pc_pts k p h t ≤ 6 * t + 18 := by
  have h1 : t * pc_pace k p h ≤ t * 6 := Nat.mul_le_mul_left t (pc_pace_le k p h hp)
  have h2 : (t - 6) * pc_pace k p h ≤ (t - 6) * 6 := Nat.mul_le_mul_left _ (pc_pace_le k p h hp)
  have h3 := pc_pace_le k p h hp
  unfold pc_pts
  split
  · omega
  · split
    · omega
    · split <;> omega
theorem pc_pts_ge (k p h t : Nat) : t / 2 ≤ pc_pts k p h t := by
  have h1 : t * 1 ≤ t * pc_pace k p h := Nat.mul_le_mul_left t (pc_pace_ge k p h)
  have h2 : (t - 6) * 1 ≤ (t - 6) * pc_pace k p h := Nat.mul_le_mul_left _ (pc_pace_ge k p h)
  have h3 := pc_pace_ge k p h
  unfold pc_pts
  split
  · omega
  · split
    · omega
    · split <;> omega
theorem sp_purL_ge (S : Sc) (t a : Nat) (ha : t / 2 ≤ a) : ∀ n, t / 2 ≤ sp_purL S t a n
  | 0 => ha
  | n + 1 => by
    have h1 := sp_purL_ge S t a ha n
    have h2 : t / 2 ≤ sp_pts S (n + 1) (S.2.1 4 (n + 1)) t := pc_pts_ge _ _ _ _
    unfold sp_purL
    split
    · split <;> assumption
    · assumption
theorem sp_purL_le (S : Sc) (t a : Nat) : ∀ n, sp_purL S t a n ≤ a
  | 0 => Nat.le_refl _
  | n + 1 => by
    have h1 := sp_purL_le S t a n
    unfold sp_purL
    split
    · split <;> omega
    · assumption
theorem sp_pur_ge (S : Sc) (tg f t : Nat) : t / 2 ≤ sp_pur S tg f t := by
  unfold sp_pur
  split
  · exact pc_pts_ge _ _ _ _
  · exact sp_purL_ge S t _ (pc_pts_ge _ _ _ _) _
theorem sp_pts_le (S : Sc) (ho : oSc S) (f h t : Nat) : sp_pts S f h t ≤ 6 * t + 18 := pc_pts_le _ _ _ _ (ho.2.2.2.2.2.2.2.2.2.1 f)
theorem sp_pur_le (S : Sc) (ho : oSc S) (tg f t : Nat) : sp_pur S tg f t ≤ 6 * t + 18 := by
  unfold sp_pur
  split
  · exact sp_pts_le S ho _ _ _
  · exact Nat.le_trans (sp_purL_le _ _ _ _) (sp_pts_le S ho _ _ _)
theorem sp_run_lt (S : Sc) (ho : oSc S) (m : Nat) : sp_run S m < S.1 0 := by
  have h := pc_far_le (S.2.1 0) (sp_pts S 0 (S.2.1 4 0) m) (S.1 0 - 1)
  have h1 := ho.1
  unfold sp_run
  split <;> omega
theorem pc_force_z (k a h : Nat) : iZ ((if (a : Int) - ((h / 2 : Nat) : Int) ≤ (1 : Int) then (1 : Int) else (a : Int) - ((h / 2 : Nat) : Int)) + (((if k = 1 then 2 else 0 : Nat)) : Int)) = nI (pc_force k a h) := by
  rw [← iZ_n]
  unfold pc_force
  congr 1
  by_cases q : a - h / 2 ≤ 1
  · rw [if_pos q, if_pos (by omega)]
    omega
  · rw [if_neg q, if_neg (by omega)]
    omega
theorem pc_pace_z (k a h : Nat) (x : Nat) (hx : x = if k = 1 then 1 else 0) : iZ (if ((a : Int) - (x : Int)) - ((h / 2 : Nat) : Int) ≤ (1 : Int) then (1 : Int) else ((a : Int) - (x : Int)) - ((h / 2 : Nat) : Int)) = nI (pc_pace k a h) := by
  rw [← iZ_n]
  unfold pc_pace
  rw [← hx]
  congr 1
  by_cases q : a - x - h / 2 ≤ 1
  · rw [if_pos q, if_pos (by omega)]
    rfl
  · rw [if_neg q, if_neg (by omega)]
    omega
theorem pc_pts_alt {k p h t P : Nat} (hP : P = pc_pace k p h) (hk : 2 ≤ k) : (if k = 2 then t * P / 2 else if 7 ≤ t then 6 * P / 2 + (t - 6) * P else t * P / 2) = pc_pts k p h t := by
  subst hP
  unfold pc_pts
  rw [if_neg (show ¬ k < 2 by omega)]
  by_cases q : k = 2
  · rw [if_pos q, if_pos q]
  · rw [if_neg q, if_neg q]
    by_cases q2 : 7 ≤ t
    · rw [if_pos q2, if_neg (show ¬ t < 7 by omega)]
    · rw [if_neg q2, if_pos (show t < 7 by omega)]
theorem pc_fst_step {P : Nat → Nat} {cost i : Nat} (h : i < 400) (hp : P i < cost) : pc_fst P cost (400 - i) i = pc_fst P cost (400 - (i + 1)) (i + 1) := by
  rw [show 400 - i = (400 - (i + 1)) + 1 by omega]
  show (if cost ≤ P i then i else _) = _
  rw [if_neg (by omega)]
theorem pc_fst_end {P : Nat → Nat} {cost : Nat} : ∀ {n i : Nat}, cost ≤ P i → pc_fst P cost n i = i
  | 0, _, _ => rfl
  | _ + 1, _, h => if_pos h
theorem pc_fst_le {P : Nat → Nat} {cost : Nat} : ∀ (n i : Nat), i ≤ pc_fst P cost n i ∧ pc_fst P cost n i ≤ i + n
  | 0, i => ⟨Nat.le_refl _, Nat.le_refl _⟩
  | n + 1, i => by
    have h := pc_fst_le (P := P) (cost := cost) n (i + 1)
    show i ≤ (if cost ≤ P i then i else _) ∧ (if cost ≤ P i then i else _) ≤ _
    split <;> omega
theorem sp_com_le (S : Sc) (ho : oSc S) (tg f cell : Nat) (h : cell < 40) : sp_com S tg f cell ≤ 420 := by
  have h1 := (pc_fst_le (P := sp_pur S tg f) (cost := pc_cost (S.2.1 0) cell) 400 0).2
  have h2 := ho.2.2.2.1
  unfold sp_com
  split <;> omega
theorem sp_ctL01 (S : Sc) (tg cost m b : Nat) (hb : b ≤ 1) : ∀ i, sp_ctL S tg cost m b i ≤ 1
  | 0 => hb
  | i + 1 => by
    unfold sp_ctL
    split
    · split
      · split
        · omega
        · split
          · omega
          · split <;> omega
      · omega
    · omega
theorem sp_ct01 (S : Sc) (tg m : Nat) : sp_ct S tg m ≤ 1 := by
  unfold sp_ct
  refine sp_ctL01 S tg _ m _ ?_ _
  split <;> omega
end
section
set_option maxHeartbeats 4000000 in
set_option maxRecDepth 100000 in
theorem k_hurtS (l : Launch) (g : RG) (z : RS) (f : Nat) (S : Sc) (hz : rSc z S) (ho : oSc S) (hf : f < 5) : rMp g l yX8_hurtOf cX8_hurtOf 2 (some .int) 0 0 [.int (nI f)] z (fun r => r = nI (S.2.1 4 f)) := by
  refine rMp_in (by decide) rfl (Nat.le_of_ble_eq_true rfl) ?_
  intro p e s m args below meth c ls X hml hr hk hl w
  have hx := X.1
  have hb := X.2.1
  have hts := X.2.2.1
  have hown := X.2.2.2.1
  have hl : lv_has ls 2 [(0, .ref g.2.2.2.1), (1, .int (nI f))] := hl
  obtain ⟨hz0, hz1, hz4, hm0, hm1, hm2, hso, hki, hsr, hpa, hhu, hco⟩ := id hz
  obtain ⟨o1, o2, o3, o4, o5, o6, oso, oki, osr, opa, ohu, oco⟩ := id ho
  refine lv_aload_n hx hb dX8_hurtOf_0 rfl (lv_at hl 0 rfl) ?_
  refine rg_5 X w dX8_hurtOf_1 ?_
  refine lv_iconst (v := (nI 3)) hx hb dX8_hurtOf_4 (by decide) ?_
  refine lv_iload_n hx hb dX8_hurtOf_5 rfl (lv_at hl 1 rfl) ?_
  refine n_iadd hx hb dX8_hurtOf_6 ?_
  refine rn_5 X w (by omega) dX8_hurtOf_7 ?_
  refine tp_i (show z.2.1 5 (3 + f) = (nI (S.2.1 4 f)) from hhu f (by omega)) ?_
  exact re_p hx hb hr hk (by subst_vars; rfl) dX8_hurtOf_8

set_option maxHeartbeats 4000000 in
set_option maxRecDepth 100000 in
theorem k_downS (l : Launch) (g : RG) (z : RS) (f : Nat) (S : Sc) (hz : rSc z S) (ho : oSc S) (hf : f < 5) : rMp g l yX8_isDown cX8_isDown 2 (some .boolean) 1 21 [.int (nI f)] z (fun r => r = nI (pc_dn S f)) := by
  refine rMp_in (by decide) rfl (Nat.le_of_ble_eq_true rfl) ?_
  intro p e s m args below meth c ls X hml hr hk hl w
  have hx := X.1
  have hb := X.2.1
  have hts := X.2.2.1
  have hown := X.2.2.2.1
  have hl : lv_has ls 2 [(0, .ref g.2.2.2.1), (1, .int (nI f))] := hl
  obtain ⟨hz0, hz1, hz4, hm0, hm1, hm2, hso, hki, hsr, hpa, hhu, hco⟩ := id hz
  obtain ⟨o1, o2, o3, o4, o5, o6, oso, oki, osr, opa, ohu, oco⟩ := id ho
  have q1 := ohu f
  refine lv_aload_n hx hb dX8_isDown_0 rfl (lv_at hl 0 rfl) ?_
  refine lv_iload_n hx hb dX8_isDown_1 rfl (lv_at hl 1 rfl) ?_
  refine rc_p (rest := []) X hml hl.1 (k_hurtS l g z f S hz ho (by omega)) ok_hurtOf wm_X8_91 ⟨Nat.le_of_ble_eq_true rfl, Nat.le_of_ble_eq_true rfl⟩ ⟨Nat.le_refl _, Nat.le_refl _⟩ w rfl (Nat.le_of_ble_eq_true rfl) dX8_isDown_2 (fun r_2 hr_2 => ?_)
  subst hr_2
  refine lv_bipush (v := (nI 6)) hx hb dX8_isDown_5 (by decide) ?_
  refine jn (tgt := 15) (rest := []) (fun v9 => ∃ x9 : Nat, x9 = (if (S.2.1 4 f) = 6 then 1 else 0) ∧ v9 = nI x9) (fun v_ hv_ => ?_) (fun k_15 => ?_)
  · obtain ⟨x_15, ex_15, rfl⟩ := hv_
    exact re_pz hx hb hr hk (by subst_vars; split; exact Or.inr rfl; exact Or.inl rfl) (by subst_vars; rfl) dX8_isDown_15
  · skip
    refine n_icmp_ne (tgt := 14) hx hb dX8_isDown_7 (by decide) (by omega) (by omega) (fun c_7_2 => ?_) (fun c_7_2 => ?_)
    · skip
      refine lv_iconst (v := (nI 0)) hx hb dX8_isDown_14 (by decide) ?_
      exact k_15 _ ⟨_, by simp only [if_neg c_7_2], rfl⟩
    · skip
      refine lv_iconst (v := (nI 1)) hx hb dX8_isDown_10 (by decide) ?_
      refine lv_goto (tgt := 15) hx hb dX8_isDown_11 (by decide) ?_
      exact k_15 _ ⟨_, by simp only [if_pos c_7_2], rfl⟩

theorem ok_force : rOk yX8_force cX8_force 4 (some .int) 2 := ⟨wc_X8_force, wi_X8_force, ws_X8_force, rfl, by decide, by decide, by decide +kernel⟩
set_option maxHeartbeats 4000000 in
set_option maxRecDepth 100000 in
theorem k_force (l : Launch) (g : RG) (z : RS) (f : Nat) (hurt : Nat) (S : Sc) (hz : rSc z S) (ho : oSc S) (hf : f < 5) (hh : hurt ≤ 6) : rMp g l yX8_force cX8_force 4 (some .int) 0 0 [.int (nI f), .int (nI hurt)] z (fun r => r = nI (pc_force (S.2.1 1 f) (S.2.1 2 f) hurt)) := by
  refine rMp_in (by decide) rfl (Nat.le_of_ble_eq_true rfl) ?_
  intro p e s m args below meth c ls X hml hr hk hl w
  have hx := X.1
  have hb := X.2.1
  have hts := X.2.2.1
  have hown := X.2.2.2.1
  have hl : lv_has ls 4 [(0, .ref g.2.2.2.1), (1, .int (nI f)), (2, .int (nI hurt))] := hl
  obtain ⟨hz0, hz1, hz4, hm0, hm1, hm2, hso, hki, hsr, hpa, hhu, hco⟩ := id hz
  obtain ⟨o1, o2, o3, o4, o5, o6, oso, oki, osr, opa, ohu, oco⟩ := id ho
  have q1 := osr f
  have q2 := oki f
  refine lv_aload_n hx hb dX8_force_0 rfl (lv_at hl 0 rfl) ?_
  refine rg_3 X w dX8_force_1 ?_
  refine lv_iconst (v := (nI 3)) hx hb dX8_force_4 (by decide) ?_
  refine lv_iload_n hx hb dX8_force_5 rfl (lv_at hl 1 rfl) ?_
  refine n_imul hx hb dX8_force_6 ?_
  refine lv_iconst (v := (nI 1)) hx hb dX8_force_7 (by decide) ?_
  refine n_iadd hx hb dX8_force_8 ?_
  refine rn_3 X w (by omega) dX8_force_9 ?_
  refine tp_i (show z.2.1 3 ((3 * f) + 1) = (nI (S.2.1 2 f)) from hsr f (by omega)) ?_
  refine lv_iload_n hx hb dX8_force_10 rfl (lv_at hl 2 rfl) ?_
  refine lv_iconst (v := (nI 2)) hx hb dX8_force_11 (by decide) ?_
  refine n_idiv hx hb dX8_force_12 (by omega) (by omega) (by omega) ?_
  refine tp_i (iZ_n (hurt / 2)).symm ?_
  refine tp_i2 (iZ_n (S.2.1 2 f)).symm ?_
  refine z_isub hx hb dX8_force_13 ?_
  refine lv_istore_n (lv' := [(3, .int (iZ ((((S.2.1 2 f : Nat) : Int)) - (((hurt / 2 : Nat) : Int))))), (0, .ref g.2.2.2.1), (1, .int (nI f)), (2, .int (nI hurt))]) hx hb dX8_force_14 rfl hl (by decide) rfl (fun ls hl => ?_)
  refine lv_iload_n hx hb dX8_force_15 rfl (lv_at hl 0 rfl) ?_
  refine lv_iconst (v := (nI 1)) hx hb dX8_force_16 (by decide) ?_
  refine jn (tgt := 25) (rest := []) (fun v9 => ∃ x9 : Int, x9 = (if ((((S.2.1 2 f : Nat) : Int)) - (((hurt / 2 : Nat) : Int))) ≤ ((1 : Int)) then ((1 : Int)) else ((((S.2.1 2 f : Nat) : Int)) - (((hurt / 2 : Nat) : Int)))) ∧ v9 = iZ x9) (fun v_ hv_ => ?_) (fun k_25 => ?_)
  · obtain ⟨x_25, ex_25, rfl⟩ := hv_
    refine lv_aload_n hx hb dX8_force_25 rfl (lv_at hl 1 rfl) ?_
    refine rg_3 X w dX8_force_26 ?_
    refine lv_iconst (v := (nI 3)) hx hb dX8_force_29 (by decide) ?_
    refine lv_iload_n hx hb dX8_force_30 rfl (lv_at hl 2 rfl) ?_
    refine n_imul hx hb dX8_force_31 ?_
    refine rn_3 X w (by omega) dX8_force_32 ?_
    refine tp_i (show z.2.1 3 (3 * f) = (nI (S.2.1 1 f)) from hki f (by omega)) ?_
    refine lv_iconst (v := (nI 1)) hx hb dX8_force_33 (by decide) ?_
    refine jn (tgt := 42) (rest := [.int (iZ (x_25))]) (fun v9 => ∃ x9 : Nat, x9 = (if (S.2.1 1 f) = 1 then 2 else 0) ∧ v9 = nI x9) (fun v_ hv_ => ?_) (fun k_42 => ?_)
    · obtain ⟨x_42, ex_42, rfl⟩ := hv_
      refine tp_i (iZ_n x_42).symm ?_
      refine z_iadd hx hb dX8_force_42 ?_
      exact re_p hx hb hr hk (by subst_vars; exact pc_force_z _ _ _) dX8_force_43
    · skip
      refine n_icmp_ne (tgt := 41) hx hb dX8_force_34 (by decide) (by omega) (by omega) (fun c_34_3 => ?_) (fun c_34_3 => ?_)
      · skip
        refine lv_iconst (v := (nI 0)) hx hb dX8_force_41 (by decide) ?_
        exact k_42 _ ⟨_, by simp only [if_neg c_34_3], rfl⟩
      · skip
        refine lv_iconst (v := (nI 2)) hx hb dX8_force_37 (by decide) ?_
        refine lv_goto (tgt := 42) hx hb dX8_force_38 (by decide) ?_
        exact k_42 _ ⟨_, by simp only [if_pos c_34_3], rfl⟩
  · skip
    refine tp_i (show nI 1 = iZ (1 : Int) from by decide) ?_
    refine z_icmp_le (tgt := 24) hx hb dX8_force_17 (by decide) (by omega) (by omega) (by omega) (by omega) (fun c_17_4 => ?_) (fun c_17_4 => ?_)
    · skip
      refine lv_iconst (v := (nI 1)) hx hb dX8_force_24 (by decide) ?_
      exact k_25 _ ⟨(1 : Int), by simp only [if_pos c_17_4], (show nI 1 = iZ (1 : Int) from by decide)⟩
    · skip
      refine lv_iload_n hx hb dX8_force_20 rfl (lv_at hl 0 rfl) ?_
      refine lv_goto (tgt := 25) hx hb dX8_force_21 (by decide) ?_
      exact k_25 _ ⟨_, by simp only [if_neg c_17_4], rfl⟩

theorem ok_pointsOf : rOk yX8_pointsOf cX8_pointsOf 6 (some .int) 3 := ⟨wc_X8_pointsOf, wi_X8_pointsOf, ws_X8_pointsOf, rfl, by decide, by decide, by decide +kernel⟩
set_option maxHeartbeats 4000000 in
set_option maxRecDepth 100000 in
theorem k_pointsOf (l : Launch) (g : RG) (z : RS) (f : Nat) (hurt : Nat) (t : Nat) (S : Sc) (hz : rSc z S) (ho : oSc S) (hf : f < 5) (hh : hurt ≤ 6) (ht : t ≤ 100000) : rMp g l yX8_pointsOf cX8_pointsOf 6 (some .int) 0 0 [.int (nI f), .int (nI hurt), .int (nI t)] z (fun r => r = nI (sp_pts S f hurt t)) := by
  refine rMp_in (by decide) rfl (Nat.le_of_ble_eq_true rfl) ?_
  intro p e s m args below meth c ls X hml hr hk hl w
  have hx := X.1
  have hb := X.2.1
  have hts := X.2.2.1
  have hown := X.2.2.2.1
  have hl : lv_has ls 6 [(0, .ref g.2.2.2.1), (1, .int (nI f)), (2, .int (nI hurt)), (3, .int (nI t))] := hl
  obtain ⟨hz0, hz1, hz4, hm0, hm1, hm2, hso, hki, hsr, hpa, hhu, hco⟩ := id hz
  obtain ⟨o1, o2, o3, o4, o5, o6, oso, oki, osr, opa, ohu, oco⟩ := id ho
  have q1 := opa f
  have q2 := oki f
  refine lv_aload_n hx hb dX8_pointsOf_0 rfl (lv_at hl 0 rfl) ?_
  refine rg_3 X w dX8_pointsOf_1 ?_
  refine lv_iconst (v := (nI 3)) hx hb dX8_pointsOf_4 (by decide) ?_
  refine lv_iload_n hx hb dX8_pointsOf_5 rfl (lv_at hl 1 rfl) ?_
  refine n_imul hx hb dX8_pointsOf_6 ?_
  refine rn_3 X w (by omega) dX8_pointsOf_7 ?_
  refine tp_i (show z.2.1 3 (3 * f) = (nI (S.2.1 1 f)) from hki f (by omega)) ?_
  refine lv_istore (lv' := [(4, .int (nI (S.2.1 1 f))), (0, .ref g.2.2.2.1), (1, .int (nI f)), (2, .int (nI hurt)), (3, .int (nI t))]) hx hb dX8_pointsOf_8 hl (by decide) rfl (fun ls hl => ?_)
  refine lv_aload_n hx hb dX8_pointsOf_10 rfl (lv_at hl 1 rfl) ?_
  refine rg_3 X w dX8_pointsOf_11 ?_
  refine lv_iconst (v := (nI 3)) hx hb dX8_pointsOf_14 (by decide) ?_
  refine lv_iload_n hx hb dX8_pointsOf_15 rfl (lv_at hl 2 rfl) ?_
  refine n_imul hx hb dX8_pointsOf_16 ?_
  refine lv_iconst (v := (nI 2)) hx hb dX8_pointsOf_17 (by decide) ?_
  refine n_iadd hx hb dX8_pointsOf_18 ?_
  refine rn_3 X w (by omega) dX8_pointsOf_19 ?_
  refine tp_i (show z.2.1 3 ((3 * f) + 2) = (nI (S.2.1 3 f)) from hpa f (by omega)) ?_
  refine lv_iload hx hb dX8_pointsOf_20 (lv_at hl 0 rfl) ?_
  refine lv_iconst (v := (nI 1)) hx hb dX8_pointsOf_22 (by decide) ?_
  refine jn (tgt := 31) (rest := [.int (nI (S.2.1 3 f))]) (fun v9 => ∃ x9 : Nat, x9 = (if (S.2.1 1 f) = 1 then 1 else 0) ∧ v9 = nI x9) (fun v_ hv_ => ?_) (fun k_31 => ?_)
  · obtain ⟨x_31, ex_31, rfl⟩ := hv_
    have q9 : x_31 ≤ 1 := by rw [ex_31]; split <;> omega
    refine tp_i (iZ_n x_31).symm ?_
    refine tp_i2 (iZ_n (S.2.1 3 f)).symm ?_
    refine z_isub hx hb dX8_pointsOf_31 ?_
    refine lv_iload_n hx hb dX8_pointsOf_32 rfl (lv_at hl 3 rfl) ?_
    refine lv_iconst (v := (nI 2)) hx hb dX8_pointsOf_33 (by decide) ?_
    refine n_idiv hx hb dX8_pointsOf_34 (by omega) (by omega) (by omega) ?_
    refine tp_i (iZ_n (hurt / 2)).symm ?_
    refine z_isub hx hb dX8_pointsOf_35 ?_
    refine lv_istore (lv' := [(5, .int (iZ (((((S.2.1 3 f : Nat) : Int)) - (((x_31 : Nat) : Int))) - (((hurt / 2 : Nat) : Int))))), (4, .int (nI (S.2.1 1 f))), (0, .ref g.2.2.2.1), (1, .int (nI f)), (2, .int (nI hurt)), (3, .int (nI t))]) hx hb dX8_pointsOf_36 hl (by decide) rfl (fun ls hl => ?_)
    refine lv_iload hx hb dX8_pointsOf_38 (lv_at hl 0 rfl) ?_
    refine lv_iconst (v := (nI 1)) hx hb dX8_pointsOf_40 (by decide) ?_
    refine jn (tgt := 50) (rest := []) (fun v9 => ∃ x9 : Int, x9 = (if (((((S.2.1 3 f : Nat) : Int)) - (((x_31 : Nat) : Int))) - (((hurt / 2 : Nat) : Int))) ≤ ((1 : Int)) then ((1 : Int)) else (((((S.2.1 3 f : Nat) : Int)) - (((x_31 : Nat) : Int))) - (((hurt / 2 : Nat) : Int)))) ∧ v9 = iZ x9) (fun v_ hv_ => ?_) (fun k_50 => ?_)
    · obtain ⟨x_50, ex_50, rfl⟩ := hv_
      refine tp_i (by rw [ex_50]; exact pc_pace_z _ _ _ _ ex_31 : iZ x_50 = nI (pc_pace (S.2.1 1 f) (S.2.1 3 f) hurt)) ?_
      have q3 := pc_pace_le (S.2.1 1 f) (S.2.1 3 f) hurt (opa f)
      obtain ⟨P, hP⟩ : ∃ P, P = pc_pace (S.2.1 1 f) (S.2.1 3 f) hurt := ⟨_, rfl⟩
      rw [← hP] at q3 ⊢
      have q4 : t * P ≤ t * 6 := Nat.mul_le_mul_left t q3
      refine lv_istore (lv' := [(5, .int (nI P)), (4, .int (nI (S.2.1 1 f))), (0, .ref g.2.2.2.1), (1, .int (nI f)), (2, .int (nI hurt)), (3, .int (nI t))]) hx hb dX8_pointsOf_50 hl (by decide) rfl (fun ls hl => ?_)
      refine lv_iload hx hb dX8_pointsOf_52 (lv_at hl 1 rfl) ?_
      refine lv_iconst (v := (nI 2)) hx hb dX8_pointsOf_54 (by decide) ?_
      refine n_icmp_ge (tgt := 63) hx hb dX8_pointsOf_55 (by decide) (by omega) (by omega) (fun c_55_3 => ?_) (fun c_55_3 => ?_)
      · skip
        refine lv_iload hx hb dX8_pointsOf_63 (lv_at hl 1 rfl) ?_
        refine lv_iconst (v := (nI 2)) hx hb dX8_pointsOf_65 (by decide) ?_
        refine jn (tgt := 99) (rest := []) (fun v9 => ∃ x9 : Nat, x9 = (if (S.2.1 1 f) = 2 then ((t * P) / 2) else (if 7 ≤ t then (((6 * P) / 2) + ((t - 6) * P)) else ((t * P) / 2))) ∧ v9 = nI x9) (fun v_ hv_ => ?_) (fun k_99 => ?_)
        · obtain ⟨x_99, ex_99, rfl⟩ := hv_
          exact re_p hx hb hr hk (by rw [ex_99]; exact congrArg nI (pc_pts_alt hP (by omega))) dX8_pointsOf_99
        · skip
          refine n_icmp_eq (tgt := 75) hx hb dX8_pointsOf_66 (by decide) (by omega) (by omega) (fun c_66_5 => ?_) (fun c_66_5 => ?_)
          · skip
            refine lv_iload_n hx hb dX8_pointsOf_75 rfl (lv_at hl 5 rfl) ?_
            refine lv_iload hx hb dX8_pointsOf_76 (lv_at hl 0 rfl) ?_
            refine n_imul hx hb dX8_pointsOf_78 ?_
            refine lv_iconst (v := (nI 2)) hx hb dX8_pointsOf_79 (by decide) ?_
            refine n_idiv hx hb dX8_pointsOf_80 (by omega) (by omega) (by omega) ?_
            refine lv_goto (tgt := 99) hx hb dX8_pointsOf_81 (by decide) ?_
            exact k_99 _ ⟨_, by simp only [if_pos c_66_5], rfl⟩
          · skip
            refine lv_iload_n hx hb dX8_pointsOf_69 rfl (lv_at hl 5 rfl) ?_
            refine lv_bipush (v := (nI 7)) hx hb dX8_pointsOf_70 (by decide) ?_
            refine n_icmp_ge (tgt := 84) hx hb dX8_pointsOf_72 (by decide) (by omega) (by omega) (fun c_72_6 => ?_) (fun c_72_6 => ?_)
            · skip
              refine lv_bipush (v := (nI 6)) hx hb dX8_pointsOf_84 (by decide) ?_
              refine lv_iload hx hb dX8_pointsOf_86 (lv_at hl 0 rfl) ?_
              refine n_imul hx hb dX8_pointsOf_88 ?_
              refine lv_iconst (v := (nI 2)) hx hb dX8_pointsOf_89 (by decide) ?_
              refine n_idiv hx hb dX8_pointsOf_90 (by omega) (by omega) (by omega) ?_
              refine lv_iload_n hx hb dX8_pointsOf_91 rfl (lv_at hl 5 rfl) ?_
              refine lv_bipush (v := (nI 6)) hx hb dX8_pointsOf_92 (by decide) ?_
              refine n_isub hx hb dX8_pointsOf_94 (by omega) ?_
              refine lv_iload hx hb dX8_pointsOf_95 (lv_at hl 0 rfl) ?_
              refine n_imul hx hb dX8_pointsOf_97 ?_
              refine n_iadd hx hb dX8_pointsOf_98 ?_
              exact k_99 _ ⟨_, by simp only [if_neg c_66_5, if_pos c_72_6], rfl⟩
            · skip
              refine lv_iload_n hx hb dX8_pointsOf_75 rfl (lv_at hl 5 rfl) ?_
              refine lv_iload hx hb dX8_pointsOf_76 (lv_at hl 0 rfl) ?_
              refine n_imul hx hb dX8_pointsOf_78 ?_
              refine lv_iconst (v := (nI 2)) hx hb dX8_pointsOf_79 (by decide) ?_
              refine n_idiv hx hb dX8_pointsOf_80 (by omega) (by omega) (by omega) ?_
              refine lv_goto (tgt := 99) hx hb dX8_pointsOf_81 (by decide) ?_
              exact k_99 _ ⟨_, by simp only [if_neg c_66_5, if_neg c_72_6], rfl⟩
      · skip
        refine lv_iload_n hx hb dX8_pointsOf_58 rfl (lv_at hl 5 rfl) ?_
        refine lv_iload hx hb dX8_pointsOf_59 (lv_at hl 0 rfl) ?_
        refine n_imul hx hb dX8_pointsOf_61 ?_
        exact re_p hx hb hr hk (by unfold sp_pts pc_pts; rw [← hP, if_pos (by omega)]) dX8_pointsOf_62
    · skip
      refine tp_i (show nI 1 = iZ (1 : Int) from by decide) ?_
      refine z_icmp_le (tgt := 49) hx hb dX8_pointsOf_41 (by decide) (by omega) (by omega) (by omega) (by omega) (fun c_41_7 => ?_) (fun c_41_7 => ?_)
      · skip
        refine lv_iconst (v := (nI 1)) hx hb dX8_pointsOf_49 (by decide) ?_
        exact k_50 _ ⟨(1 : Int), by simp only [if_pos c_41_7], (show nI 1 = iZ (1 : Int) from by decide)⟩
      · skip
        refine lv_iload hx hb dX8_pointsOf_44 (lv_at hl 0 rfl) ?_
        refine lv_goto (tgt := 50) hx hb dX8_pointsOf_46 (by decide) ?_
        exact k_50 _ ⟨_, by simp only [if_neg c_41_7], rfl⟩
  · skip
    refine n_icmp_ne (tgt := 30) hx hb dX8_pointsOf_23 (by decide) (by omega) (by omega) (fun c_23_8 => ?_) (fun c_23_8 => ?_)
    · skip
      refine lv_iconst (v := (nI 0)) hx hb dX8_pointsOf_30 (by decide) ?_
      exact k_31 _ ⟨_, by simp only [if_neg c_23_8], rfl⟩
    · skip
      refine lv_iconst (v := (nI 1)) hx hb dX8_pointsOf_26 (by decide) ?_
      refine lv_goto (tgt := 31) hx hb dX8_pointsOf_27 (by decide) ?_
      exact k_31 _ ⟨_, by simp only [if_pos c_23_8], rfl⟩

theorem ok_pursues : rOk yX8_pursues cX8_pursues 6 (some .int) 2 := ⟨wc_X8_pursues, wi_X8_pursues, ws_X8_pursues, rfl, by decide, by decide, by decide +kernel⟩
set_option maxHeartbeats 4000000 in
set_option maxRecDepth 100000 in
theorem k_pursues (l : Launch) (g : RG) (z : RS) (f : Nat) (t : Nat) (S : Sc) (hz : rSc z S) (ho : oSc S) (tg : Nat) (htg : z.1 6 = nI tg) (hg1 : tg ≤ 1) (hf : f < 5) (ht : t ≤ 100000) : rMp g l yX8_pursues cX8_pursues 6 (some .int) 2 42 [.int (nI f), .int (nI t)] z (fun r => r = nI (sp_pur S tg f t)) := by
  refine rMp_in (by decide) rfl (Nat.le_of_ble_eq_true rfl) ?_
  intro p e s m args below meth c ls X hml hr hk hl w
  have hx := X.1
  have hb := X.2.1
  have hts := X.2.2.1
  have hown := X.2.2.2.1
  have hl : lv_has ls 6 [(0, .ref g.2.2.2.1), (1, .int (nI f)), (2, .int (nI t))] := hl
  obtain ⟨hz0, hz1, hz4, hm0, hm1, hm2, hso, hki, hsr, hpa, hhu, hco⟩ := id hz
  obtain ⟨o1, o2, o3, o4, o5, o6, oso, oki, osr, opa, ohu, oco⟩ := id ho
  have qf := ohu f
  refine lv_aload_n hx hb dX8_pursues_0 rfl (lv_at hl 0 rfl) ?_
  refine lv_iload_n hx hb dX8_pursues_1 rfl (lv_at hl 1 rfl) ?_
  refine lv_aload_n hx hb dX8_pursues_2 rfl (lv_at hl 0 rfl) ?_
  refine lv_iload_n hx hb dX8_pursues_3 rfl (lv_at hl 1 rfl) ?_
  refine rc_p (rest := [.int (nI f), .ref g.2.2.2.1]) X hml hl.1 (k_hurtS l g z f S hz ho (by omega)) ok_hurtOf wm_X8_91 ⟨Nat.le_of_ble_eq_true rfl, Nat.le_of_ble_eq_true rfl⟩ ⟨Nat.le_refl _, Nat.le_refl _⟩ w rfl (Nat.le_of_ble_eq_true rfl) dX8_pursues_4 (fun r_4 hr_4 => ?_)
  subst hr_4
  refine lv_iload_n hx hb dX8_pursues_7 rfl (lv_at hl 2 rfl) ?_
  refine rc_p (rest := []) X hml hl.1 (k_pointsOf l g z f (S.2.1 4 f) t S hz ho (by omega) (by first | omega | exact ohu _) (by omega)) ok_pointsOf wm_X8_95 ⟨Nat.le_of_ble_eq_true rfl, Nat.le_of_ble_eq_true rfl⟩ ⟨Nat.le_refl _, Nat.le_refl _⟩ w rfl (Nat.le_of_ble_eq_true rfl) dX8_pursues_8 (fun r_8 hr_8 => ?_)
  subst hr_8
  have d_8 := sp_pts_le S ho f (S.2.1 4 f) t
  refine lv_istore_n (lv' := [(3, .int (nI (sp_pts S f (S.2.1 4 f) t))), (0, .ref g.2.2.2.1), (1, .int (nI f)), (2, .int (nI t))]) hx hb dX8_pursues_11 rfl hl (by decide) rfl (fun ls hl => ?_)
  refine lv_iconst (v := (nI 1)) hx hb dX8_pursues_12 (by decide) ?_
  refine lv_istore (lv' := [(4, .int (nI 1)), (3, .int (nI (sp_pts S f (S.2.1 4 f) t))), (0, .ref g.2.2.2.1), (1, .int (nI f)), (2, .int (nI t))]) hx hb dX8_pursues_13 hl (by decide) rfl (fun ls hl => ?_)
  have lp_15 : ∀ (n_15 : Nat) (i : Nat) (hi : i ≤ S.1 1 - 1) (hi0 : tg = 0 → i = 0) (hm_15 : S.1 1 - i < n_15) (ls : Array Slot), lv_has ls 6 [(0, .ref g.2.2.2.1), (1, .int (nI f)), (2, .int (nI t)), (3, .int (nI (sp_purL S t (sp_pts S f (S.2.1 4 f) t) i))), (4, .int (nI (i + 1)))] → W p l e (ro_m 2 42) s m args below meth c s.heap [] 0 0 (MQ below (vp_Si (fun r => r = nI (sp_pur S tg f t))) args s 0 0 (fun _ => False)) (F0 m 15 ls []) := by
    intro n_15
    induction n_15 with
    | zero => intro i hi hi0 hm; exact absurd hm (Nat.not_lt_zero _)
    | succ n_15 ih_15 =>
      intro i hi hi0 hm_15 ls hl
      have q1 := sp_purL_le S t (sp_pts S f (S.2.1 4 f) t) i
      have q2 := ohu (i + 1)
      refine lv_iload hx hb dX8_pursues_15 (lv_at hl 4 rfl) ?_
      refine lv_aload_n hx hb dX8_pursues_17 rfl (lv_at hl 0 rfl) ?_
      refine rg_1 X w dX8_pursues_18 ?_
      refine tp_i (show z.1 1 = (nI (S.1 1)) from hz1) ?_
      refine n_icmp_ge (tgt := 74) hx hb dX8_pursues_21 (by decide) (by omega) (by omega) (fun c_21_1 => ?_) (fun c_21_1 => ?_)
      · skip
        refine lv_iload_n hx hb dX8_pursues_74 rfl (lv_at hl 3 rfl) ?_
        exact re_p hx hb hr hk (by unfold sp_pur; by_cases q : tg = 0; rw [if_pos q, hi0 q]; rfl; rw [if_neg q, show i = S.1 1 - 1 by omega]) dX8_pursues_75
      · skip
        refine lv_aload_n hx hb dX8_pursues_24 rfl (lv_at hl 0 rfl) ?_
        refine rg_6 X w dX8_pursues_25 ?_
        refine tp_i (show z.1 6 = (nI tg) from htg) ?_
        refine n_if_eq (tgt := 74) hx hb dX8_pursues_28 (by decide) (by omega) (fun c_28_2 => ?_) (fun c_28_2 => ?_)
        · skip
          refine lv_iload_n hx hb dX8_pursues_74 rfl (lv_at hl 3 rfl) ?_
          exact re_p hx hb hr hk (by unfold sp_pur; by_cases q : tg = 0; rw [if_pos q, hi0 q]; rfl; rw [if_neg q, show i = S.1 1 - 1 by omega]) dX8_pursues_75
        · skip
          refine lv_aload_n hx hb dX8_pursues_31 rfl (lv_at hl 0 rfl) ?_
          refine lv_iload hx hb dX8_pursues_32 (lv_at hl 4 rfl) ?_
          refine lv_aload_n hx hb dX8_pursues_34 rfl (lv_at hl 0 rfl) ?_
          refine lv_iload hx hb dX8_pursues_35 (lv_at hl 4 rfl) ?_
          refine rc_p (rest := [.int (nI (i + 1)), .ref g.2.2.2.1]) X hml hl.1 (k_hurtS l g z (i + 1) S hz ho (by omega)) ok_hurtOf wm_X8_91 ⟨Nat.le_of_ble_eq_true rfl, Nat.le_of_ble_eq_true rfl⟩ ⟨Nat.le_refl _, Nat.le_refl _⟩ w rfl (Nat.le_of_ble_eq_true rfl) dX8_pursues_37 (fun r_37 hr_37 => ?_)
          subst hr_37
          refine lv_iload_n hx hb dX8_pursues_40 rfl (lv_at hl 2 rfl) ?_
          refine rc_p (rest := []) X hml hl.1 (k_pointsOf l g z (i + 1) (S.2.1 4 (i + 1)) t S hz ho (by omega) (by first | omega | exact ohu _) (by omega)) ok_pointsOf wm_X8_95 ⟨Nat.le_of_ble_eq_true rfl, Nat.le_of_ble_eq_true rfl⟩ ⟨Nat.le_refl _, Nat.le_refl _⟩ w rfl (Nat.le_of_ble_eq_true rfl) dX8_pursues_41 (fun r_41 hr_41 => ?_)
          subst hr_41
          have d_41 := sp_pts_le S ho (i + 1) (S.2.1 4 (i + 1)) t
          refine lv_istore (lv' := [(5, .int (nI (sp_pts S (i + 1) (S.2.1 4 (i + 1)) t))), (0, .ref g.2.2.2.1), (1, .int (nI f)), (2, .int (nI t)), (3, .int (nI (sp_purL S t (sp_pts S f (S.2.1 4 f) t) i))), (4, .int (nI (i + 1)))]) hx hb dX8_pursues_44 hl (by decide) rfl (fun ls hl => ?_)
          refine lv_aload_n hx hb dX8_pursues_46 rfl (lv_at hl 1 rfl) ?_
          refine lv_iload hx hb dX8_pursues_47 (lv_at hl 5 rfl) ?_
          refine rc_p (rest := []) X hml hl.1 (k_downS l g z (i + 1) S hz ho (by omega)) ok_isDown wm_X8_103 ⟨Nat.le_of_ble_eq_true rfl, Nat.le_of_ble_eq_true rfl⟩ ⟨Nat.le_refl _, Nat.le_refl _⟩ w rfl (Nat.le_of_ble_eq_true rfl) dX8_pursues_49 (fun r_49 hr_49 => ?_)
          subst hr_49
          have d_49 := pc_dn01 S (i + 1)
          refine jn (tgt := 67) (rest := []) (fun v9 => ∃ x9 : Nat, x9 = (if (pc_dn S (i + 1)) = 0 then (if (sp_purL S t (sp_pts S f (S.2.1 4 f) t) i) ≤ (sp_pts S (i + 1) (S.2.1 4 (i + 1)) t) then (sp_purL S t (sp_pts S f (S.2.1 4 f) t) i) else (sp_pts S (i + 1) (S.2.1 4 (i + 1)) t)) else (sp_purL S t (sp_pts S f (S.2.1 4 f) t) i)) ∧ v9 = nI x9) (fun v_ hv_ => ?_) (fun k_67 => ?_)
          · obtain ⟨x_67, ex_67, rfl⟩ := hv_
            refine lv_istore_n (lv' := [(3, .int (nI x_67)), (5, .int (nI (sp_pts S (i + 1) (S.2.1 4 (i + 1)) t))), (0, .ref g.2.2.2.1), (1, .int (nI f)), (2, .int (nI t)), (4, .int (nI (i + 1)))]) hx hb dX8_pursues_67 rfl hl (by decide) rfl (fun ls hl => ?_)
            refine lv_iinc (v := (nI (i + 1 + 1))) (lv' := [(4, .int (nI (i + 1 + 1))), (3, .int (nI x_67)), (5, .int (nI (sp_pts S (i + 1) (S.2.1 4 (i + 1)) t))), (0, .ref g.2.2.2.1), (1, .int (nI f)), (2, .int (nI t))]) hx hb dX8_pursues_68 hl (k := 5) rfl (by first | exact nI_1 _ | (rw [show Int32.ofInt 1 = nI 1 from by decide, nI_add])) (by decide) rfl (fun ls hl => ?_)
            refine lv_goto (tgt := 15) hx hb dX8_pursues_71 (by decide) ?_
            subst ex_67
            exact ih_15 (i + 1) (by omega) (fun q => absurd q (by omega)) (by omega) ls (lv_sub hl [3, 4, 5, 1, 0] rfl)
          · skip
            refine n_if_ne (tgt := 66) hx hb dX8_pursues_52 (by decide) (by omega) (fun c_52_4 => ?_) (fun c_52_4 => ?_)
            · skip
              refine lv_iload_n hx hb dX8_pursues_66 rfl (lv_at hl 4 rfl) ?_
              exact k_67 _ ⟨_, by simp only [if_neg c_52_4], rfl⟩
            · skip
              refine lv_iload hx hb dX8_pursues_55 (lv_at hl 0 rfl) ?_
              refine lv_iload_n hx hb dX8_pursues_57 rfl (lv_at hl 4 rfl) ?_
              refine n_icmp_ge (tgt := 66) hx hb dX8_pursues_58 (by decide) (by omega) (by omega) (fun c_58_5 => ?_) (fun c_58_5 => ?_)
              · skip
                refine lv_iload_n hx hb dX8_pursues_66 rfl (lv_at hl 4 rfl) ?_
                exact k_67 _ ⟨_, by simp only [if_pos c_52_4, if_pos c_58_5], rfl⟩
              · skip
                refine lv_iload hx hb dX8_pursues_61 (lv_at hl 0 rfl) ?_
                refine lv_goto (tgt := 67) hx hb dX8_pursues_63 (by decide) ?_
                exact k_67 _ ⟨_, by simp only [if_pos c_52_4, if_neg c_58_5], rfl⟩
  exact lp_15 _ 0 (Nat.zero_le _) (fun _ => rfl) (Nat.lt_succ_self _) ls (lv_sub hl [2, 3, 4, 1, 0] rfl)

theorem ok_runs : rOk yX8_runs cX8_runs 2 (some .int) 1 := ⟨wc_X8_runs, wi_X8_runs, ws_X8_runs, rfl, by decide, by decide, by decide +kernel⟩
set_option maxHeartbeats 4000000 in
set_option maxRecDepth 100000 in
theorem k_runs (l : Launch) (g : RG) (z : RS) (mo : Nat) (S : Sc) (hz : rSc z S) (ho : oSc S) (hmo : mo ≤ 100000) : rMp g l yX8_runs cX8_runs 2 (some .int) 2 42 [.int (nI mo)] z (fun r => r = nI (sp_run S mo)) := by
  refine rMp_in (by decide) rfl (Nat.le_of_ble_eq_true rfl) ?_
  intro p e s m args below meth c ls X hml hr hk hl w
  have hx := X.1
  have hb := X.2.1
  have hts := X.2.2.1
  have hown := X.2.2.2.1
  have hl : lv_has ls 2 [(0, .ref g.2.2.2.1), (1, .int (nI mo))] := hl
  obtain ⟨hz0, hz1, hz4, hm0, hm1, hm2, hso, hki, hsr, hpa, hhu, hco⟩ := id hz
  obtain ⟨o1, o2, o3, o4, o5, o6, oso, oki, osr, opa, ohu, oco⟩ := id ho
  have qf := ohu 0
  refine lv_aload_n hx hb dX8_runs_0 rfl (lv_at hl 0 rfl) ?_
  refine lv_iconst (v := (nI 0)) hx hb dX8_runs_1 (by decide) ?_
  refine rc_p (rest := []) X hml hl.1 (k_downS l g z 0 S hz ho (by omega)) ok_isDown wm_X8_103 ⟨Nat.le_of_ble_eq_true rfl, Nat.le_of_ble_eq_true rfl⟩ ⟨Nat.le_refl _, Nat.le_refl _⟩ w rfl (Nat.le_of_ble_eq_true rfl) dX8_runs_2 (fun r_2 hr_2 => ?_)
  subst hr_2
  have d_2 := pc_dn01 S 0
  refine jn (tgt := 27) (rest := []) (fun v9 => ∃ x9 : Nat, x9 = (if (pc_dn S 0) = 0 then (pc_far (S.2.1 0) (sp_pts S 0 (S.2.1 4 0) mo) (S.1 0 - 1)) else 0) ∧ v9 = nI x9) (fun v_ hv_ => ?_) (fun k_27 => ?_)
  · obtain ⟨x_27, ex_27, rfl⟩ := hv_
    exact re_p hx hb hr hk (by rw [ex_27]; rfl) dX8_runs_27
  · skip
    refine n_if_eq (tgt := 12) hx hb dX8_runs_5 (by decide) (by omega) (fun c_5_2 => ?_) (fun c_5_2 => ?_)
    · skip
      refine lv_aload_n hx hb dX8_runs_12 rfl (lv_at hl 0 rfl) ?_
      refine lv_aload_n hx hb dX8_runs_13 rfl (lv_at hl 0 rfl) ?_
      refine lv_iconst (v := (nI 0)) hx hb dX8_runs_14 (by decide) ?_
      refine lv_aload_n hx hb dX8_runs_15 rfl (lv_at hl 0 rfl) ?_
      refine lv_iconst (v := (nI 0)) hx hb dX8_runs_16 (by decide) ?_
      refine rc_p (rest := [.int (nI 0), .ref g.2.2.2.1, .ref g.2.2.2.1]) X hml hl.1 (k_hurtS l g z 0 S hz ho (by omega)) ok_hurtOf wm_X8_91 ⟨Nat.le_of_ble_eq_true rfl, Nat.le_of_ble_eq_true rfl⟩ ⟨Nat.le_refl _, Nat.le_refl _⟩ w rfl (Nat.le_of_ble_eq_true rfl) dX8_runs_17 (fun r_17 hr_17 => ?_)
      subst hr_17
      refine lv_iload_n hx hb dX8_runs_20 rfl (lv_at hl 1 rfl) ?_
      refine rc_p (rest := [.ref g.2.2.2.1]) X hml hl.1 (k_pointsOf l g z 0 (S.2.1 4 0) mo S hz ho (by omega) (by first | omega | exact ohu _) (by omega)) ok_pointsOf wm_X8_95 ⟨Nat.le_of_ble_eq_true rfl, Nat.le_of_ble_eq_true rfl⟩ ⟨Nat.le_refl _, Nat.le_refl _⟩ w rfl (Nat.le_of_ble_eq_true rfl) dX8_runs_21 (fun r_21 hr_21 => ?_)
      subst hr_21
      have d_21 := sp_pts_le S ho 0 (S.2.1 4 0) mo
      refine rc_p (rest := []) X hml hl.1 (k_farthest l g z (sp_pts S 0 (S.2.1 4 0) mo) (S.2.1 0) (S.1 0) hso oso hz0 ⟨o1, o2⟩ (by omega)) ok_farthest wm_X8_107 ⟨Nat.le_of_ble_eq_true rfl, Nat.le_of_ble_eq_true rfl⟩ ⟨Nat.le_refl _, Nat.le_refl _⟩ w rfl (Nat.le_of_ble_eq_true rfl) dX8_runs_24 (fun r_24 hr_24 => ?_)
      subst hr_24
      exact k_27 _ ⟨_, by simp only [if_pos c_5_2], rfl⟩
    · skip
      refine lv_iconst (v := (nI 0)) hx hb dX8_runs_8 (by decide) ?_
      refine lv_goto (tgt := 27) hx hb dX8_runs_9 (by decide) ?_
      exact k_27 _ ⟨_, by simp only [if_neg c_5_2], rfl⟩

theorem ok_comesTo : rOk yX8_comesTo cX8_comesTo 5 (some .int) 2 := ⟨wc_X8_comesTo, wi_X8_comesTo, ws_X8_comesTo, rfl, by decide, by decide, by decide +kernel⟩
set_option maxHeartbeats 4000000 in
set_option maxRecDepth 100000 in
theorem k_comesTo (l : Launch) (g : RG) (z : RS) (f : Nat) (cell : Nat) (S : Sc) (hz : rSc z S) (ho : oSc S) (tg : Nat) (htg : z.1 6 = nI tg) (hg1 : tg ≤ 1) (hf : f < 5) (hcl : cell < 40) : rMp g l yX8_comesTo cX8_comesTo 5 (some .int) 3 67 [.int (nI f), .int (nI cell)] z (fun r => r = nI (sp_com S tg f cell)) := by
  refine rMp_in (by decide) rfl (Nat.le_of_ble_eq_true rfl) ?_
  intro p e s m args below meth c ls X hml hr hk hl w
  have hx := X.1
  have hb := X.2.1
  have hts := X.2.2.1
  have hown := X.2.2.2.1
  have hl : lv_has ls 5 [(0, .ref g.2.2.2.1), (1, .int (nI f)), (2, .int (nI cell))] := hl
  obtain ⟨hz0, hz1, hz4, hm0, hm1, hm2, hso, hki, hsr, hpa, hhu, hco⟩ := id hz
  obtain ⟨o1, o2, o3, o4, o5, o6, oso, oki, osr, opa, ohu, oco⟩ := id ho
  refine lv_aload_n hx hb dX8_comesTo_0 rfl (lv_at hl 0 rfl) ?_
  refine lv_iload_n hx hb dX8_comesTo_1 rfl (lv_at hl 2 rfl) ?_
  refine rc_p (rest := []) X hml hl.1 (k_costOf l g z cell (S.2.1 0) hso (by omega)) ok_costOf wm_X8_110 ⟨Nat.le_of_ble_eq_true rfl, Nat.le_of_ble_eq_true rfl⟩ ⟨Nat.le_refl _, Nat.le_refl _⟩ w rfl (Nat.le_of_ble_eq_true rfl) dX8_comesTo_2 (fun r_2 hr_2 => ?_)
  subst hr_2
  have d_2 := pc_cost_le oso cell
  refine lv_istore_n (lv' := [(3, .int (nI (pc_cost (S.2.1 0) cell))), (0, .ref g.2.2.2.1), (1, .int (nI f)), (2, .int (nI cell))]) hx hb dX8_comesTo_5 rfl hl (by decide) rfl (fun ls hl => ?_)
  refine lv_iload_n hx hb dX8_comesTo_6 rfl (lv_at hl 0 rfl) ?_
  refine n_if_ne (tgt := 12) hx hb dX8_comesTo_7 (by decide) (by omega) (fun c_7_1 => ?_) (fun c_7_1 => ?_)
  · skip
    refine lv_iconst (v := (nI 0)) hx hb dX8_comesTo_12 (by decide) ?_
    refine lv_istore (lv' := [(4, .int (nI 0)), (3, .int (nI (pc_cost (S.2.1 0) cell))), (0, .ref g.2.2.2.1), (1, .int (nI f)), (2, .int (nI cell))]) hx hb dX8_comesTo_13 hl (by decide) rfl (fun ls hl => ?_)
    have lp_15 : ∀ (n_15 : Nat) (i : Nat) (hi : i ≤ 400) (hi0 : pc_fst (sp_pur S tg f) (pc_cost (S.2.1 0) cell) 400 0 = pc_fst (sp_pur S tg f) (pc_cost (S.2.1 0) cell) (400 - i) i) (hm_15 : 400 - i < n_15) (ls : Array Slot), lv_has ls 5 [(0, .ref g.2.2.2.1), (1, .int (nI f)), (2, .int (nI cell)), (3, .int (nI (pc_cost (S.2.1 0) cell))), (4, .int (nI i))] → W p l e (ro_m 3 67) s m args below meth c s.heap [] 0 0 (MQ below (vp_Si (fun r => r = nI (sp_com S tg f cell))) args s 0 0 (fun _ => False)) (F0 m 15 ls []) := by
      intro n_15
      induction n_15 with
      | zero => intro i hi hi0 hm; exact absurd hm (Nat.not_lt_zero _)
      | succ n_15 ih_15 =>
        intro i hi hi0 hm_15 ls hl
        refine lv_aload_n hx hb dX8_comesTo_15 rfl (lv_at hl 0 rfl) ?_
        refine lv_iload_n hx hb dX8_comesTo_16 rfl (lv_at hl 1 rfl) ?_
        refine lv_iload hx hb dX8_comesTo_17 (lv_at hl 4 rfl) ?_
        refine rc_p (rest := []) X hml hl.1 (k_pursues l g z f i S hz ho tg htg hg1 (by omega) (by omega)) ok_pursues wm_X8_113 ⟨Nat.le_of_ble_eq_true rfl, Nat.le_of_ble_eq_true rfl⟩ ⟨Nat.le_refl _, Nat.le_refl _⟩ w rfl (Nat.le_of_ble_eq_true rfl) dX8_comesTo_19 (fun r_19 hr_19 => ?_)
        subst hr_19
        have d_19 := sp_pur_le S ho tg f i
        have b_19 := sp_pur_ge S tg f i
        refine lv_iload_n hx hb dX8_comesTo_22 rfl (lv_at hl 3 rfl) ?_
        refine n_icmp_ge (tgt := 32) hx hb dX8_comesTo_23 (by decide) (by omega) (by omega) (fun c_23_2 => ?_) (fun c_23_2 => ?_)
        · skip
          refine lv_aload_n hx hb dX8_comesTo_32 rfl (lv_at hl 0 rfl) ?_
          refine rg_4 X w dX8_comesTo_33 ?_
          refine tp_i (show z.1 4 = (nI (S.1 2)) from hz4) ?_
          refine lv_iload hx hb dX8_comesTo_36 (lv_at hl 4 rfl) ?_
          refine n_iadd hx hb dX8_comesTo_38 ?_
          exact re_p hx hb hr hk (by unfold sp_com; rw [if_neg (by omega), hi0, pc_fst_end (by omega)]) dX8_comesTo_39
        · skip
          refine lv_iinc (v := (nI (i + 1))) (lv' := [(4, .int (nI (i + 1))), (0, .ref g.2.2.2.1), (1, .int (nI f)), (2, .int (nI cell)), (3, .int (nI (pc_cost (S.2.1 0) cell)))]) hx hb dX8_comesTo_26 hl (k := 4) rfl (by first | exact nI_1 _ | (rw [show Int32.ofInt 1 = nI 1 from by decide, nI_add])) (by decide) rfl (fun ls hl => ?_)
          refine lv_goto (tgt := 15) hx hb dX8_comesTo_29 (by decide) ?_
          exact ih_15 (i + 1) (by omega) (by rw [hi0]; exact pc_fst_step (by omega) (by omega)) (by omega) ls (lv_sub hl [1, 2, 3, 4, 0] rfl)
    exact lp_15 _ 0 (Nat.zero_le _) rfl (Nat.lt_succ_self _) ls (lv_sub hl [2, 3, 4, 1, 0] rfl)
  · skip
    refine lv_iconst (v := (nI 0)) hx hb dX8_comesTo_10 (by decide) ?_
    exact re_p hx hb hr hk (by unfold sp_com; rw [if_pos (by omega)]) dX8_comesTo_11

theorem ok_isCaught : rOk yX8_isCaught cX8_isCaught 6 (some .boolean) 1 := ⟨wc_X8_isCaught, wi_X8_isCaught, ws_X8_isCaught, rfl, by decide, by decide, by decide +kernel⟩
set_option maxHeartbeats 4000000 in
set_option maxRecDepth 100000 in
theorem k_isCaught (l : Launch) (g : RG) (z : RS) (mo : Nat) (S : Sc) (hz : rSc z S) (ho : oSc S) (tg : Nat) (htg : z.1 6 = nI tg) (hg1 : tg ≤ 1) (hmo : mo ≤ 100000) : rMp g l yX8_isCaught cX8_isCaught 6 (some .boolean) 3 67 [.int (nI mo)] z (fun r => r = nI (sp_ct S tg mo)) := by
  refine rMp_in (by decide) rfl (Nat.le_of_ble_eq_true rfl) ?_
  intro p e s m args below meth c ls X hml hr hk hl w
  have hx := X.1
  have hb := X.2.1
  have hts := X.2.2.1
  have hown := X.2.2.2.1
  have hl : lv_has ls 6 [(0, .ref g.2.2.2.1), (1, .int (nI mo))] := hl
  obtain ⟨hz0, hz1, hz4, hm0, hm1, hm2, hso, hki, hsr, hpa, hhu, hco⟩ := id hz
  obtain ⟨o1, o2, o3, o4, o5, o6, oso, oki, osr, opa, ohu, oco⟩ := id ho
  refine lv_aload_n hx hb dX8_isCaught_0 rfl (lv_at hl 0 rfl) ?_
  refine lv_iload_n hx hb dX8_isCaught_1 rfl (lv_at hl 1 rfl) ?_
  refine rc_p (rest := []) X hml hl.1 (k_runs l g z mo S hz ho (by omega)) ok_runs wm_X8_120 ⟨Nat.le_of_ble_eq_true rfl, Nat.le_of_ble_eq_true rfl⟩ ⟨Nat.le_refl _, Nat.le_refl _⟩ w rfl (Nat.le_of_ble_eq_true rfl) dX8_isCaught_2 (fun r_2 hr_2 => ?_)
  subst hr_2
  have d_2 := sp_run_lt S ho mo
  refine lv_istore_n (lv' := [(2, .int (nI (sp_run S mo))), (0, .ref g.2.2.2.1), (1, .int (nI mo))]) hx hb dX8_isCaught_5 rfl hl (by decide) rfl (fun ls hl => ?_)
  refine lv_iload_n hx hb dX8_isCaught_6 rfl (lv_at hl 0 rfl) ?_
  refine lv_aload_n hx hb dX8_isCaught_7 rfl (lv_at hl 1 rfl) ?_
  refine rg_0 X w dX8_isCaught_8 ?_
  refine tp_i (show z.1 0 = (nI (S.1 0)) from hz0) ?_
  refine lv_iconst (v := (nI 1)) hx hb dX8_isCaught_11 (by decide) ?_
  refine n_isub hx hb dX8_isCaught_12 (by omega) ?_
  refine jn (tgt := 21) (rest := []) (fun v9 => ∃ x9 : Nat, x9 = (if (sp_run S mo) = ((S.1 0) - 1) then 1 else 0) ∧ v9 = nI x9) (fun v_ hv_ => ?_) (fun k_21 => ?_)
  · obtain ⟨x_21, ex_21, rfl⟩ := hv_
    have q9 : x_21 ≤ 1 := by rw [ex_21]; split <;> omega
    refine lv_istore_n (lv' := [(3, .int (nI x_21)), (2, .int (nI (sp_run S mo))), (0, .ref g.2.2.2.1), (1, .int (nI mo))]) hx hb dX8_isCaught_21 rfl hl (by decide) rfl (fun ls hl => ?_)
    refine lv_aload_n hx hb dX8_isCaught_22 rfl (lv_at hl 2 rfl) ?_
    refine lv_iload_n hx hb dX8_isCaught_23 rfl (lv_at hl 1 rfl) ?_
    refine rc_p (rest := []) X hml hl.1 (k_costOf l g z (sp_run S mo) (S.2.1 0) hso (by omega)) ok_costOf wm_X8_110 ⟨Nat.le_of_ble_eq_true rfl, Nat.le_of_ble_eq_true rfl⟩ ⟨Nat.le_refl _, Nat.le_refl _⟩ w rfl (Nat.le_of_ble_eq_true rfl) dX8_isCaught_24 (fun r_24 hr_24 => ?_)
    subst hr_24
    have d_24 := pc_cost_le oso (sp_run S mo)
    refine lv_istore (lv' := [(4, .int (nI (pc_cost (S.2.1 0) (sp_run S mo)))), (3, .int (nI x_21)), (2, .int (nI (sp_run S mo))), (0, .ref g.2.2.2.1), (1, .int (nI mo))]) hx hb dX8_isCaught_27 hl (by decide) rfl (fun ls hl => ?_)
    refine lv_iconst (v := (nI 1)) hx hb dX8_isCaught_29 (by decide) ?_
    refine lv_istore (lv' := [(5, .int (nI 1)), (4, .int (nI (pc_cost (S.2.1 0) (sp_run S mo)))), (3, .int (nI x_21)), (2, .int (nI (sp_run S mo))), (0, .ref g.2.2.2.1), (1, .int (nI mo))]) hx hb dX8_isCaught_30 hl (by decide) rfl (fun ls hl => ?_)
    have lp_32 : ∀ (n_32 : Nat) (i : Nat) (hi : i ≤ S.1 1 - 1) (hm_32 : S.1 1 - i < n_32) (ls : Array Slot), lv_has ls 6 [(0, .ref g.2.2.2.1), (1, .int (nI mo)), (2, .int (nI (sp_run S mo))), (3, .int (nI (sp_ctL S tg (pc_cost (S.2.1 0) (sp_run S mo)) mo x_21 i))), (4, .int (nI (pc_cost (S.2.1 0) (sp_run S mo)))), (5, .int (nI (i + 1)))] → W p l e (ro_m 3 67) s m args below meth c s.heap [] 0 0 (MQ below (vp_Si (fun r => r = nI (sp_ct S tg mo))) args s 0 0 (fun _ => False)) (F0 m 32 ls []) := by
      intro n_32
      induction n_32 with
      | zero => intro i hi hm; exact absurd hm (Nat.not_lt_zero _)
      | succ n_32 ih_32 =>
        intro i hi hm_32 ls hl
        have q1 := sp_ctL01 S tg (pc_cost (S.2.1 0) (sp_run S mo)) mo x_21 q9 i
        refine lv_iload hx hb dX8_isCaught_32 (lv_at hl 5 rfl) ?_
        refine lv_aload_n hx hb dX8_isCaught_34 rfl (lv_at hl 0 rfl) ?_
        refine rg_1 X w dX8_isCaught_35 ?_
        refine tp_i (show z.1 1 = (nI (S.1 1)) from hz1) ?_
        refine n_icmp_ge (tgt := 96) hx hb dX8_isCaught_38 (by decide) (by omega) (by omega) (fun c_38_2 => ?_) (fun c_38_2 => ?_)
        · skip
          refine lv_iload_n hx hb dX8_isCaught_96 rfl (lv_at hl 3 rfl) ?_
          exact re_pz hx hb hr hk (by have q8 := q1; rcases (show _ = 0 ∨ _ = 1 from by omega : sp_ctL S tg (pc_cost (S.2.1 0) (sp_run S mo)) mo x_21 i = 0 ∨ sp_ctL S tg (pc_cost (S.2.1 0) (sp_run S mo)) mo x_21 i = 1) with q | q <;> rw [q]; exact Or.inl rfl; exact Or.inr rfl) (by rw [show i = S.1 1 - 1 by omega, ex_21]; rfl) dX8_isCaught_97
        · skip
          refine lv_iload_n hx hb dX8_isCaught_41 rfl (lv_at hl 3 rfl) ?_
          refine jn (tgt := 89) (rest := []) (fun v9 => ∃ x9 : Nat, x9 = (if (sp_ctL S tg (pc_cost (S.2.1 0) (sp_run S mo)) mo x_21 i) = 0 then (if (pc_dn S (i + 1)) = 0 then (if (pc_cost (S.2.1 0) (sp_run S mo)) = 0 then 1 else (if mo < (S.1 2) then 0 else (if (sp_pur S tg (i + 1) (mo - (S.1 2))) < (pc_cost (S.2.1 0) (sp_run S mo)) then 0 else 1))) else 0) else 1) ∧ v9 = nI x9) (fun v_ hv_ => ?_) (fun k_89 => ?_)
          · obtain ⟨x_89, ex_89, rfl⟩ := hv_
            refine lv_istore_n (lv' := [(3, .int (nI x_89)), (0, .ref g.2.2.2.1), (1, .int (nI mo)), (2, .int (nI (sp_run S mo))), (4, .int (nI (pc_cost (S.2.1 0) (sp_run S mo)))), (5, .int (nI (i + 1)))]) hx hb dX8_isCaught_89 rfl hl (by decide) rfl (fun ls hl => ?_)
            refine lv_iinc (v := (nI (i + 1 + 1))) (lv' := [(5, .int (nI (i + 1 + 1))), (3, .int (nI x_89)), (0, .ref g.2.2.2.1), (1, .int (nI mo)), (2, .int (nI (sp_run S mo))), (4, .int (nI (pc_cost (S.2.1 0) (sp_run S mo))))]) hx hb dX8_isCaught_90 hl (k := 5) rfl (by first | exact nI_1 _ | (rw [show Int32.ofInt 1 = nI 1 from by decide, nI_add])) (by decide) rfl (fun ls hl => ?_)
            refine lv_goto (tgt := 32) hx hb dX8_isCaught_93 (by decide) ?_
            subst ex_89
            exact ih_32 (i + 1) (by omega) (by omega) ls (lv_sub hl [2, 3, 4, 1, 5, 0] rfl)
          · skip
            refine n_if_ne (tgt := 84) hx hb dX8_isCaught_42 (by decide) (by omega) (fun c_42_4 => ?_) (fun c_42_4 => ?_)
            · skip
              refine lv_iconst (v := (nI 1)) hx hb dX8_isCaught_84 (by decide) ?_
              refine lv_goto (tgt := 89) hx hb dX8_isCaught_85 (by decide) ?_
              exact k_89 _ ⟨_, by simp only [if_neg c_42_4], rfl⟩
            · skip
              refine lv_aload_n hx hb dX8_isCaught_45 rfl (lv_at hl 0 rfl) ?_
              refine lv_iload hx hb dX8_isCaught_46 (lv_at hl 5 rfl) ?_
              refine rc_p (rest := []) X hml hl.1 (k_downS l g z (i + 1) S hz ho (by omega)) ok_isDown wm_X8_103 ⟨Nat.le_of_ble_eq_true rfl, Nat.le_of_ble_eq_true rfl⟩ ⟨Nat.le_refl _, Nat.le_refl _⟩ w rfl (Nat.le_of_ble_eq_true rfl) dX8_isCaught_48 (fun r_48 hr_48 => ?_)
              subst hr_48
              have d_48 := pc_dn01 S (i + 1)
              refine n_if_ne (tgt := 88) hx hb dX8_isCaught_51 (by decide) (by omega) (fun c_51_5 => ?_) (fun c_51_5 => ?_)
              · skip
                refine lv_iconst (v := (nI 0)) hx hb dX8_isCaught_88 (by decide) ?_
                exact k_89 _ ⟨_, by simp only [if_pos c_42_4, if_neg c_51_5], rfl⟩
              · skip
                refine lv_iload hx hb dX8_isCaught_54 (lv_at hl 4 rfl) ?_
                refine n_if_eq (tgt := 84) hx hb dX8_isCaught_56 (by decide) (by omega) (fun c_56_6 => ?_) (fun c_56_6 => ?_)
                · skip
                  refine lv_iconst (v := (nI 1)) hx hb dX8_isCaught_84 (by decide) ?_
                  refine lv_goto (tgt := 89) hx hb dX8_isCaught_85 (by decide) ?_
                  exact k_89 _ ⟨_, by simp only [if_pos c_42_4, if_pos c_51_5, if_pos c_56_6], rfl⟩
                · skip
                  refine lv_iload_n hx hb dX8_isCaught_59 rfl (lv_at hl 1 rfl) ?_
                  refine lv_aload_n hx hb dX8_isCaught_60 rfl (lv_at hl 0 rfl) ?_
                  refine rg_4 X w dX8_isCaught_61 ?_
                  refine tp_i (show z.1 4 = (nI (S.1 2)) from hz4) ?_
                  refine n_icmp_lt (tgt := 88) hx hb dX8_isCaught_64 (by decide) (by omega) (by omega) (fun c_64_7 => ?_) (fun c_64_7 => ?_)
                  · skip
                    refine lv_iconst (v := (nI 0)) hx hb dX8_isCaught_88 (by decide) ?_
                    exact k_89 _ ⟨_, by simp only [if_pos c_42_4, if_pos c_51_5, if_neg c_56_6, if_pos c_64_7], rfl⟩
                  · skip
                    refine lv_aload_n hx hb dX8_isCaught_67 rfl (lv_at hl 0 rfl) ?_
                    refine lv_iload hx hb dX8_isCaught_68 (lv_at hl 5 rfl) ?_
                    refine lv_iload_n hx hb dX8_isCaught_70 rfl (lv_at hl 1 rfl) ?_
                    refine lv_aload_n hx hb dX8_isCaught_71 rfl (lv_at hl 0 rfl) ?_
                    refine rg_4 X w dX8_isCaught_72 ?_
                    refine tp_i (show z.1 4 = (nI (S.1 2)) from hz4) ?_
                    refine n_isub hx hb dX8_isCaught_75 (by omega) ?_
                    refine rc_p (rest := []) X hml hl.1 (k_pursues l g z (i + 1) (mo - (S.1 2)) S hz ho tg htg hg1 (by omega) (by omega)) ok_pursues wm_X8_113 ⟨Nat.le_of_ble_eq_true rfl, Nat.le_of_ble_eq_true rfl⟩ ⟨Nat.le_refl _, Nat.le_refl _⟩ w rfl (Nat.le_of_ble_eq_true rfl) dX8_isCaught_76 (fun r_76 hr_76 => ?_)
                    subst hr_76
                    have d_76 := sp_pur_le S ho tg (i + 1) (mo - (S.1 2))
                    have b_76 := sp_pur_ge S tg (i + 1) (mo - (S.1 2))
                    refine lv_iload hx hb dX8_isCaught_79 (lv_at hl 4 rfl) ?_
                    refine n_icmp_lt (tgt := 88) hx hb dX8_isCaught_81 (by decide) (by omega) (by omega) (fun c_81_8 => ?_) (fun c_81_8 => ?_)
                    · skip
                      refine lv_iconst (v := (nI 0)) hx hb dX8_isCaught_88 (by decide) ?_
                      exact k_89 _ ⟨_, by simp only [if_pos c_42_4, if_pos c_51_5, if_neg c_56_6, if_neg c_64_7, if_pos c_81_8], rfl⟩
                    · skip
                      refine lv_iconst (v := (nI 1)) hx hb dX8_isCaught_84 (by decide) ?_
                      refine lv_goto (tgt := 89) hx hb dX8_isCaught_85 (by decide) ?_
                      exact k_89 _ ⟨_, by simp only [if_pos c_42_4, if_pos c_51_5, if_neg c_56_6, if_neg c_64_7, if_neg c_81_8], rfl⟩
    exact lp_32 _ 0 (Nat.zero_le _) (Nat.lt_succ_self _) ls (lv_sub hl [4, 5, 3, 2, 1, 0] rfl)
  · skip
    refine n_icmp_ne (tgt := 20) hx hb dX8_isCaught_13 (by decide) (by omega) (by omega) (fun c_13_9 => ?_) (fun c_13_9 => ?_)
    · skip
      refine lv_iconst (v := (nI 0)) hx hb dX8_isCaught_20 (by decide) ?_
      exact k_21 _ ⟨_, by simp only [if_neg c_13_9], rfl⟩
    · skip
      refine lv_iconst (v := (nI 1)) hx hb dX8_isCaught_16 (by decide) ?_
      refine lv_goto (tgt := 21) hx hb dX8_isCaught_17 (by decide) ?_
      exact k_21 _ ⟨_, by simp only [if_pos c_13_9], rfl⟩
end
section
/-! the scene in the reference's cells: what is read, what is written -/
theorem s_l : ∀ n, n < 32 → ((nI n &&& 31).toBitVec.smod 32).toNat = n := by decide +kernel
theorem fa_and (a b : Nat) : nI a &&& nI b = nI (a &&& b) := by
  apply Int32.toBitVec_inj.1
  show BitVec.ofNat 32 a &&& BitVec.ofNat 32 b = BitVec.ofNat 32 (a &&& b)
  apply BitVec.eq_of_getLsbD_eq
  intro i hi
  simp [hi]
theorem fa_or (a b : Nat) : nI a ||| nI b = nI (a ||| b) := by
  apply Int32.toBitVec_inj.1
  show BitVec.ofNat 32 a ||| BitVec.ofNat 32 b = BitVec.ofNat 32 (a ||| b)
  apply BitVec.eq_of_getLsbD_eq
  intro i hi
  simp [hi]
theorem pw_32 {k : Nat} (h : k ≤ 5) : 2 ^ k ≤ 32 := Nat.le_trans (Nat.pow_le_pow_right (by decide) h) (by decide)
theorem sh_1 {k : Nat} (h : k ≤ 5) : nI 1 <<< (nI k &&& 31) = nI (2 ^ k) := by
  have h1 := pw_32 h
  rw [pk_shlN (n := 1) (nI k &&& 31) k (s_l k (by omega)) (by omega), Nat.one_mul]
abbrev sN (S : Sc) (k v : Nat) : Sc := (va_up S.1 k v, S.2)
abbrev sR (S : Sc) (j i v : Nat) : Sc := (S.1, va_up S.2.1 j (va_up (S.2.1 j) i v), S.2.2)
abbrev sD (S : Sc) (d : Int32) : Sc := (S.1, S.2.1, d)
section Acc
variable {z : RS} {S : Sc}
theorem rs_ce (h : rSc z S) : z.1 0 = nI (S.1 0) := h.1
theorem rs_nf (h : rSc z S) : z.1 1 = nI (S.1 1) := h.2.1
theorem rs_st (h : rSc z S) : z.1 4 = nI (S.1 2) := h.2.2.1
theorem rs_mo (h : rSc z S) : z.2.1 5 0 = nI (S.1 3) := h.2.2.2.1
theorem rs_sd (h : rSc z S) : z.2.1 5 1 = pc_sd (S.1 4) := h.2.2.2.2.1
theorem rs_dr (h : rSc z S) : z.2.1 5 2 = S.2.2 := h.2.2.2.2.2.1
theorem rs_so (h : rSc z S) (c : Nat) (hc : c < 40) : z.2.1 2 c = nI (S.2.1 0 c) := h.2.2.2.2.2.2.1 c hc
theorem rs_ki (h : rSc z S) (f : Nat) (hf : f < 5) : z.2.1 3 (3 * f) = nI (S.2.1 1 f) := h.2.2.2.2.2.2.2.1 f hf
theorem rs_sr (h : rSc z S) (f : Nat) (hf : f < 5) : z.2.1 3 (3 * f + 1) = nI (S.2.1 2 f) := h.2.2.2.2.2.2.2.2.1 f hf
theorem rs_pa (h : rSc z S) (f : Nat) (hf : f < 5) : z.2.1 3 (3 * f + 2) = nI (S.2.1 3 f) := h.2.2.2.2.2.2.2.2.2.1 f hf
theorem rs_hu (h : rSc z S) (f : Nat) (hf : f < 5) : z.2.1 5 (3 + f) = nI (S.2.1 4 f) := h.2.2.2.2.2.2.2.2.2.2.1 f hf
theorem rs_co (h : rSc z S) (f : Nat) (hf : f < 5) : z.2.1 5 (8 + f) = nI (S.2.1 5 f) := h.2.2.2.2.2.2.2.2.2.2.2 f hf
/-- TURNED: 1, else 0 -/
def pc_td (S : Sc) : Nat := if S.1 4 = 0 then 0 else 1
theorem pc_td01 (S : Sc) : pc_td S ≤ 1 := by
  unfold pc_td
  split <;> omega
theorem pc_td0 {S : Sc} (h : pc_td S = 0) : S.1 4 = 0 := by
  unfold pc_td at h
  split at h <;> omega
theorem pc_td1 {S : Sc} (h : ¬ pc_td S = 0) : ¬ S.1 4 = 0 := fun q => h (by unfold pc_td; rw [if_pos q])
theorem pc_sd_4 {n : Nat} (h : n ≤ 1000) : pc_sd n = iZ (-4) ↔ n = 0 := by
  unfold pc_sd
  by_cases q : n = 0
  · rw [if_pos q]
    exact ⟨fun _ => q, fun _ => rfl⟩
  · rw [if_neg q, ← iZ_n, iZ_eq (by omega) (by omega) (by omega) (by omega)]
    omega
theorem rs_sdn (h : rSc z S) (q : ¬ pc_td S = 0) : z.2.1 5 1 = nI (S.1 4 - 1) := by
  rw [rs_sd h]
  unfold pc_sd
  rw [if_neg (pc_td1 q)]
theorem rw_mo (h : rSc z S) (v : Nat) : rSc (sA z 5 0 (nI v)) (sN S 3 v) := by
  obtain ⟨h0, h1, h2, h3, h4, h5, h6, h7, h8, h9, h10, h11⟩ := h
  refine ⟨h0, h1, h2, rfl, h4, h5, h6, h7, h8, h9, fun f hf => ?_, fun f hf => ?_⟩
  · show upd (z.2.1 5) 0 (nI v) (3 + f) = _
    rw [pk_un (by omega)]; exact h10 f hf
  · show upd (z.2.1 5) 0 (nI v) (8 + f) = _
    rw [pk_un (by omega)]; exact h11 f hf
theorem rw_sd (h : rSc z S) (v : Nat) : rSc (sA z 5 1 (nI v)) (sN S 4 (v + 1)) := by
  obtain ⟨h0, h1, h2, h3, h4, h5, h6, h7, h8, h9, h10, h11⟩ := h
  refine ⟨h0, h1, h2, h3, ?_, h5, h6, h7, h8, h9, fun f hf => ?_, fun f hf => ?_⟩
  · show nI v = pc_sd (v + 1)
    unfold pc_sd
    rw [if_neg (by omega), Nat.add_sub_cancel]
  · show upd (z.2.1 5) 1 (nI v) (3 + f) = _
    rw [pk_un (by omega)]; exact h10 f hf
  · show upd (z.2.1 5) 1 (nI v) (8 + f) = _
    rw [pk_un (by omega)]; exact h11 f hf
theorem rw_dr (h : rSc z S) (v : Int32) : rSc (sA z 5 2 v) (sD S v) := by
  obtain ⟨h0, h1, h2, h3, h4, h5, h6, h7, h8, h9, h10, h11⟩ := h
  refine ⟨h0, h1, h2, h3, h4, rfl, h6, h7, h8, h9, fun f hf => ?_, fun f hf => ?_⟩
  · show upd (z.2.1 5) 2 v (3 + f) = _
    rw [pk_un (by omega)]; exact h10 f hf
  · show upd (z.2.1 5) 2 v (8 + f) = _
    rw [pk_un (by omega)]; exact h11 f hf
theorem rw_hu (h : rSc z S) (k : Nat) (hk : k < 5) (v : Nat) : rSc (sA z 5 (3 + k) (nI v)) (sR S 4 k v) := by
  obtain ⟨h0, h1, h2, h3, h4, h5, h6, h7, h8, h9, h10, h11⟩ := h
  refine ⟨h0, h1, h2, ?_, ?_, ?_, h6, h7, h8, h9, fun f hf => ?_, fun f hf => ?_⟩
  · show upd (z.2.1 5) (3 + k) (nI v) 0 = _
    rw [pk_un (by omega)]; exact h3
  · show upd (z.2.1 5) (3 + k) (nI v) 1 = _
    rw [pk_un (by omega)]; exact h4
  · show upd (z.2.1 5) (3 + k) (nI v) 2 = _
    rw [pk_un (by omega)]; exact h5
  · show upd (z.2.1 5) (3 + k) (nI v) (3 + f) = nI (va_up (S.2.1 4) k v f)
    by_cases q : f = k
    · subst q
      rw [pk_us, va_up_self]
    · rw [pk_un (by omega), va_up_ne _ _ q]; exact h10 f hf
  · show upd (z.2.1 5) (3 + k) (nI v) (8 + f) = _
    rw [pk_un (by omega)]; exact h11 f hf
theorem rw_co (h : rSc z S) (k : Nat) (hk : k < 5) (v : Nat) : rSc (sA z 5 (8 + k) (nI v)) (sR S 5 k v) := by
  obtain ⟨h0, h1, h2, h3, h4, h5, h6, h7, h8, h9, h10, h11⟩ := h
  refine ⟨h0, h1, h2, ?_, ?_, ?_, h6, h7, h8, h9, fun f hf => ?_, fun f hf => ?_⟩
  · show upd (z.2.1 5) (8 + k) (nI v) 0 = _
    rw [pk_un (by omega)]; exact h3
  · show upd (z.2.1 5) (8 + k) (nI v) 1 = _
    rw [pk_un (by omega)]; exact h4
  · show upd (z.2.1 5) (8 + k) (nI v) 2 = _
    rw [pk_un (by omega)]; exact h5
  · show upd (z.2.1 5) (8 + k) (nI v) (3 + f) = _
    rw [pk_un (by omega)]; exact h10 f hf
  · show upd (z.2.1 5) (8 + k) (nI v) (8 + f) = nI (va_up (S.2.1 5) k v f)
    by_cases q : f = k
    · subst q
      rw [pk_us, va_up_self]
    · rw [pk_un (by omega), va_up_ne _ _ q]; exact h11 f hf
/-- only these numbers and rows may have changed -/
def rFr (is ks : List Nat) (z z' : RS) : Prop := (∀ i, i ∉ is → z'.1 i = z.1 i) ∧ (∀ k, k ∉ ks → z'.2.1 k = z.2.1 k) ∧ z'.2.2 = z.2.2
theorem rFr_rf (is ks : List Nat) (z : RS) : rFr is ks z z := ⟨fun _ _ => rfl, fun _ _ => rfl, rfl⟩
theorem rFr_tr {is ks : List Nat} {z z1 z2 : RS} (h : rFr is ks z z1) (h2 : rFr is ks z1 z2) : rFr is ks z z2 := ⟨fun i q => (h2.1 i q).trans (h.1 i q), fun k q => (h2.2.1 k q).trans (h.2.1 k q), h2.2.2.trans h.2.2⟩
theorem rFr_A {is ks : List Nat} (z : RS) {k i : Nat} {v : Int32} (hk : k ∈ ks) : rFr is ks z (sA z k i v) := ⟨fun _ _ => rfl, fun j q => va_up_ne _ _ (fun e => q (e ▸ hk)), rfl⟩
theorem rFr_I {is ks : List Nat} (z : RS) {k : Nat} {v : Int32} (hk : k ∈ is) : rFr is ks z (sI z k v) := ⟨fun j q => va_up_ne _ _ (fun e => q (e ▸ hk)), fun _ _ => rfl, rfl⟩
theorem rFr_w {is ks is' ks' : List Nat} {z z' : RS} (h : rFr is ks z z') (h1 : ∀ i, i ∈ is → i ∈ is') (h2 : ∀ i, i ∈ ks → i ∈ ks') : rFr is' ks' z z' := ⟨fun i q => h.1 i (fun e => q (h1 i e)), fun k q => h.2.1 k (fun e => q (h2 k e)), h.2.2⟩
end Acc
/-- where one is -/
def sp_cell (S : Sc) (f : Nat) : Nat := if pc_dn S f = 0 then (if S.1 2 ≤ S.1 3 then pc_far (S.2.1 0) (sp_pts S f (S.2.1 4 f) (S.1 3 - S.1 2)) (S.1 0 - 1) else 0) else 0
def sp_place (S : Sc) (f : Nat) : Nat := if f = 0 then (if pc_td S = 0 then sp_run S (S.1 3) else S.1 4 - 1) else (if pc_td S = 0 then sp_cell S f else if S.2.1 5 f ≤ S.1 3 then S.1 4 - 1 else (if sp_cell S f ≤ S.1 4 - 1 then sp_cell S f else S.1 4 - 1))
/-- those DOWN -/
def sp_dnL (S : Sc) : Nat → Nat
  | 0 => 0
  | n + 1 => sp_dnL S n ||| (if pc_dn S n = 0 then 0 else 2 ^ n)
theorem sp_dnL_lt (S : Sc) : ∀ n, sp_dnL S n < 2 ^ n
  | 0 => Nat.one_pos
  | n + 1 => by
    have h := sp_dnL_lt S n
    have h2 : 2 ^ n < 2 ^ (n + 1) := Nat.pow_lt_pow_right (by decide) (by omega)
    unfold sp_dnL
    refine Nat.or_lt_two_pow (by omega) ?_
    split <;> omega
def sp_over (S : Sc) : Nat := if 2 ≤ S.1 1 then (if sp_dnL S (S.1 1) &&& 1 = 1 then 2 else if sp_dnL S (S.1 1) = 2 ^ (S.1 1) - 2 then 1 else 0) else 3
theorem sp_over_le (S : Sc) : sp_over S ≤ 3 := by
  unfold sp_over
  split
  · split
    · omega
    · split <;> omega
  · omega
end
section
set_option maxHeartbeats 4000000 in
set_option maxRecDepth 100000 in
theorem k_turnS (l : Launch) (g : RG) (z : RS)  (S : Sc) (hz : rSc z S) (ho : oSc S) : rMp g l yX8_isTurned cX8_isTurned 1 (some .boolean) 0 0 [] z (fun r => r = nI (pc_td S)) := by
  refine rMp_in (by decide) rfl (Nat.le_of_ble_eq_true rfl) ?_
  intro p e s m args below meth c ls X hml hr hk hl w
  have hx := X.1
  have hb := X.2.1
  have hts := X.2.2.1
  have hown := X.2.2.2.1
  have hl : lv_has ls 1 [(0, .ref g.2.2.2.1)] := hl
  obtain ⟨hz0, hz1, hz4, hm0, hm1, hm2, hso, hki, hsr, hpa, hhu, hco⟩ := id hz
  obtain ⟨o1, o2, o3, o4, o5, o6, oso, oki, osr, opa, ohu, oco⟩ := id ho
  refine lv_aload_n hx hb dX8_isTurned_0 rfl (lv_at hl 0 rfl) ?_
  refine rg_5 X w dX8_isTurned_1 ?_
  refine lv_iconst (v := (nI 1)) hx hb dX8_isTurned_4 (by decide) ?_
  refine rn_5 X w (by omega) dX8_isTurned_5 ?_
  refine lv_bipush (v := (iZ (-4))) hx hb dX8_isTurned_6 (by decide) ?_
  refine jn (tgt := 16) (rest := []) (fun v9 => ∃ x9 : Nat, x9 = (if ((z.2.1 5 1)) = ((iZ (-4))) then 0 else 1) ∧ v9 = nI x9) (fun v_ hv_ => ?_) (fun k_16 => ?_)
  · obtain ⟨x_16, ex_16, rfl⟩ := hv_
    exact re_pz hx hb hr hk (by rw [ex_16]; split; exact Or.inl rfl; exact Or.inr rfl) (by rw [ex_16]; unfold pc_td; simp only [hm1, pc_sd_4 (show S.1 4 ≤ 1000 by omega)]) dX8_isTurned_16
  · skip
    refine lv_icmp_eq (tgt := 15) hx hb dX8_isTurned_8 (by decide) (fun c_8_2 => ?_) (fun c_8_2 => ?_)
    · skip
      refine lv_iconst (v := (nI 0)) hx hb dX8_isTurned_15 (by decide) ?_
      exact k_16 _ ⟨_, by simp only [if_pos c_8_2], rfl⟩
    · skip
      refine lv_iconst (v := (nI 1)) hx hb dX8_isTurned_11 (by decide) ?_
      refine lv_goto (tgt := 16) hx hb dX8_isTurned_12 (by decide) ?_
      exact k_16 _ ⟨_, by simp only [if_neg c_8_2], rfl⟩

theorem ok_place : rOk yX8_place cX8_place 4 (some .int) 1 := ⟨wc_X8_place, wi_X8_place, ws_X8_place, rfl, by decide, by decide, by decide +kernel⟩
set_option maxHeartbeats 4000000 in
set_option maxRecDepth 100000 in
theorem k_place (l : Launch) (g : RG) (z : RS) (f : Nat) (S : Sc) (hz : rSc z S) (ho : oSc S) (hf : f < 5) : rMp g l yX8_place cX8_place 4 (some .int) 3 63 [.int (nI f)] z (fun r => r = nI (sp_place S f)) := by
  refine rMp_in (by decide) rfl (Nat.le_of_ble_eq_true rfl) ?_
  intro p e s m args below meth c ls X hml hr hk hl w
  have hx := X.1
  have hb := X.2.1
  have hts := X.2.2.1
  have hown := X.2.2.2.1
  have hl : lv_has ls 4 [(0, .ref g.2.2.2.1), (1, .int (nI f))] := hl
  obtain ⟨hz0, hz1, hz4, hm0, hm1, hm2, hso, hki, hsr, hpa, hhu, hco⟩ := id hz
  obtain ⟨o1, o2, o3, o4, o5, o6, oso, oki, osr, opa, ohu, oco⟩ := id ho
  have q1 := ohu f
  have q2 := ohu 0
  have q3 := oco f
  refine lv_aload_n hx hb dX8_place_0 rfl (lv_at hl 0 rfl) ?_
  refine rg_5 X w dX8_place_1 ?_
  refine lv_iconst (v := (nI 0)) hx hb dX8_place_4 (by decide) ?_
  refine rn_5 X w (by omega) dX8_place_5 ?_
  refine tp_i (show z.2.1 5 0 = (nI (S.1 3)) from hm0) ?_
  refine lv_istore_n (lv' := [(2, .int (nI (S.1 3))), (0, .ref g.2.2.2.1), (1, .int (nI f))]) hx hb dX8_place_6 rfl hl (by decide) rfl (fun ls hl => ?_)
  refine lv_iload_n hx hb dX8_place_7 rfl (lv_at hl 2 rfl) ?_
  refine n_if_ne (tgt := 33) hx hb dX8_place_8 (by decide) (by omega) (fun c_8_1 => ?_) (fun c_8_1 => ?_)
  · skip
    refine lv_aload_n hx hb dX8_place_33 rfl (lv_at hl 1 rfl) ?_
    refine rc_p (rest := []) X hml hl.1 (k_turnS l g z S hz ho) ok_isTurned wm_X8_80 ⟨Nat.le_of_ble_eq_true rfl, Nat.le_of_ble_eq_true rfl⟩ ⟨Nat.le_refl _, Nat.le_refl _⟩ w rfl (Nat.le_of_ble_eq_true rfl) dX8_place_34 (fun r_34 hr_34 => ?_)
    subst hr_34
    have d_34 := pc_td01 S
    refine n_if_eq (tgt := 60) hx hb dX8_place_37 (by decide) (by omega) (fun c_37_2 => ?_) (fun c_37_2 => ?_)
    · skip
      refine lv_aload_n hx hb dX8_place_60 rfl (lv_at hl 1 rfl) ?_
      refine lv_iload_n hx hb dX8_place_61 rfl (lv_at hl 2 rfl) ?_
      refine rc_p (rest := []) X hml hl.1 (k_downS l g z f S hz ho (by omega)) ok_isDown wm_X8_103 ⟨Nat.le_of_ble_eq_true rfl, Nat.le_of_ble_eq_true rfl⟩ ⟨Nat.le_refl _, Nat.le_refl _⟩ w rfl (Nat.le_of_ble_eq_true rfl) dX8_place_62 (fun r_62 hr_62 => ?_)
      subst hr_62
      have d_62 := pc_dn01 S f
      refine jn (tgt := 100) (rest := []) (fun v9 => ∃ x9 : Nat, x9 = (if (pc_dn S f) = 0 then (if (S.1 2) ≤ (S.1 3) then (pc_far (S.2.1 0) (sp_pts S f (S.2.1 4 f) ((S.1 3) - (S.1 2))) (S.1 0 - 1)) else 0) else 0) ∧ v9 = nI x9) (fun v_ hv_ => ?_) (fun k_100 => ?_)
      · obtain ⟨x_100, ex_100, rfl⟩ := hv_
        have q9 : x_100 ≤ S.1 0 - 1 := by rw [ex_100]; split; split; exact pc_far_le _ _ _; exact Nat.zero_le _; exact Nat.zero_le _
        refine lv_istore_n (lv' := [(3, .int (nI x_100)), (2, .int (nI (S.1 3))), (0, .ref g.2.2.2.1), (1, .int (nI f))]) hx hb dX8_place_100 rfl hl (by decide) rfl (fun ls hl => ?_)
        refine lv_aload_n hx hb dX8_place_101 rfl (lv_at hl 2 rfl) ?_
        refine rc_p (rest := []) X hml hl.1 (k_turnS l g z S hz ho) ok_isTurned wm_X8_80 ⟨Nat.le_of_ble_eq_true rfl, Nat.le_of_ble_eq_true rfl⟩ ⟨Nat.le_refl _, Nat.le_refl _⟩ w rfl (Nat.le_of_ble_eq_true rfl) dX8_place_102 (fun r_102 hr_102 => ?_)
        subst hr_102
        have d_102 := pc_td01 S
        refine jn (tgt := 128) (rest := []) (fun v9 => ∃ x9 : Nat, x9 = (if (pc_td S) = 0 then x_100 else (if x_100 ≤ (S.1 4 - 1) then x_100 else (S.1 4 - 1))) ∧ v9 = nI x9) (fun v_ hv_ => ?_) (fun k_128 => ?_)
        · obtain ⟨x_128, ex_128, rfl⟩ := hv_
          exact re_p hx hb hr hk (by rw [ex_128, ex_100]; unfold sp_place; first | rw [if_neg (show ¬ f = 0 by omega), if_pos (show pc_td S = 0 by omega), if_pos (show pc_td S = 0 by omega)]; rfl | rw [if_neg (show ¬ f = 0 by omega), if_neg (show ¬ pc_td S = 0 by omega), if_neg (show ¬ pc_td S = 0 by omega), if_neg (show ¬ S.2.1 5 f ≤ S.1 3 by omega)]; rfl) dX8_place_128
        · skip
          refine n_if_eq (tgt := 127) hx hb dX8_place_105 (by decide) (by omega) (fun c_105_5 => ?_) (fun c_105_5 => ?_)
          · skip
            refine lv_iload_n hx hb dX8_place_127 rfl (lv_at hl 0 rfl) ?_
            exact k_128 _ ⟨_, by simp only [if_pos c_105_5], rfl⟩
          · skip
            refine lv_iload_n hx hb dX8_place_108 rfl (lv_at hl 0 rfl) ?_
            refine lv_aload_n hx hb dX8_place_109 rfl (lv_at hl 2 rfl) ?_
            refine rg_5 X w dX8_place_110 ?_
            refine lv_iconst (v := (nI 1)) hx hb dX8_place_113 (by decide) ?_
            refine rn_5 X w (by omega) dX8_place_114 ?_
            refine tp_i (show z.2.1 5 1 = (nI (S.1 4 - 1)) from rs_sdn hz (by assumption)) ?_
            refine n_icmp_le (tgt := 127) hx hb dX8_place_115 (by decide) (by omega) (by omega) (fun c_115_6 => ?_) (fun c_115_6 => ?_)
            · skip
              refine lv_iload_n hx hb dX8_place_127 rfl (lv_at hl 0 rfl) ?_
              exact k_128 _ ⟨_, by simp only [if_neg c_105_5, if_pos c_115_6], rfl⟩
            · skip
              refine lv_aload_n hx hb dX8_place_118 rfl (lv_at hl 2 rfl) ?_
              refine rg_5 X w dX8_place_119 ?_
              refine lv_iconst (v := (nI 1)) hx hb dX8_place_122 (by decide) ?_
              refine rn_5 X w (by omega) dX8_place_123 ?_
              refine tp_i (show z.2.1 5 1 = (nI (S.1 4 - 1)) from rs_sdn hz (by assumption)) ?_
              refine lv_goto (tgt := 128) hx hb dX8_place_124 (by decide) ?_
              exact k_128 _ ⟨_, by simp only [if_neg c_105_5, if_neg c_115_6], rfl⟩
      · skip
        refine n_if_ne (tgt := 76) hx hb dX8_place_65 (by decide) (by omega) (fun c_65_7 => ?_) (fun c_65_7 => ?_)
        · skip
          refine lv_iconst (v := (nI 0)) hx hb dX8_place_76 (by decide) ?_
          refine lv_goto (tgt := 100) hx hb dX8_place_77 (by decide) ?_
          exact k_100 _ ⟨_, by simp only [if_neg c_65_7], rfl⟩
        · skip
          refine lv_iload_n hx hb dX8_place_68 rfl (lv_at hl 0 rfl) ?_
          refine lv_aload_n hx hb dX8_place_69 rfl (lv_at hl 1 rfl) ?_
          refine rg_4 X w dX8_place_70 ?_
          refine tp_i (show z.1 4 = (nI (S.1 2)) from hz4) ?_
          refine n_icmp_ge (tgt := 80) hx hb dX8_place_73 (by decide) (by omega) (by omega) (fun c_73_8 => ?_) (fun c_73_8 => ?_)
          · skip
            refine lv_aload_n hx hb dX8_place_80 rfl (lv_at hl 1 rfl) ?_
            refine lv_aload_n hx hb dX8_place_81 rfl (lv_at hl 1 rfl) ?_
            refine lv_iload_n hx hb dX8_place_82 rfl (lv_at hl 2 rfl) ?_
            refine lv_aload_n hx hb dX8_place_83 rfl (lv_at hl 1 rfl) ?_
            refine lv_iload_n hx hb dX8_place_84 rfl (lv_at hl 2 rfl) ?_
            refine rc_p (rest := [.int (nI f), .ref g.2.2.2.1, .ref g.2.2.2.1]) X hml hl.1 (k_hurtS l g z f S hz ho (by omega)) ok_hurtOf wm_X8_91 ⟨Nat.le_of_ble_eq_true rfl, Nat.le_of_ble_eq_true rfl⟩ ⟨Nat.le_refl _, Nat.le_refl _⟩ w rfl (Nat.le_of_ble_eq_true rfl) dX8_place_85 (fun r_85 hr_85 => ?_)
            subst hr_85
            refine lv_iload_n hx hb dX8_place_88 rfl (lv_at hl 0 rfl) ?_
            refine lv_aload_n hx hb dX8_place_89 rfl (lv_at hl 1 rfl) ?_
            refine rg_4 X w dX8_place_90 ?_
            refine tp_i (show z.1 4 = (nI (S.1 2)) from hz4) ?_
            refine n_isub hx hb dX8_place_93 (by omega) ?_
            refine rc_p (rest := [.ref g.2.2.2.1]) X hml hl.1 (k_pointsOf l g z f (S.2.1 4 f) ((S.1 3) - (S.1 2)) S hz ho (by omega) (by first | omega | exact ohu _) (by omega)) ok_pointsOf wm_X8_95 ⟨Nat.le_of_ble_eq_true rfl, Nat.le_of_ble_eq_true rfl⟩ ⟨Nat.le_refl _, Nat.le_refl _⟩ w rfl (Nat.le_of_ble_eq_true rfl) dX8_place_94 (fun r_94 hr_94 => ?_)
            subst hr_94
            have d_94 := sp_pts_le S ho f (S.2.1 4 f) ((S.1 3) - (S.1 2))
            refine rc_p (rest := []) X hml hl.1 (k_farthest l g z (sp_pts S f (S.2.1 4 f) ((S.1 3) - (S.1 2))) (S.2.1 0) (S.1 0) hso oso hz0 ⟨o1, o2⟩ (by omega)) ok_farthest wm_X8_107 ⟨Nat.le_of_ble_eq_true rfl, Nat.le_of_ble_eq_true rfl⟩ ⟨Nat.le_refl _, Nat.le_refl _⟩ w rfl (Nat.le_of_ble_eq_true rfl) dX8_place_97 (fun r_97 hr_97 => ?_)
            subst hr_97
            exact k_100 _ ⟨_, by simp only [if_pos c_65_7, if_pos c_73_8], rfl⟩
          · skip
            refine lv_iconst (v := (nI 0)) hx hb dX8_place_76 (by decide) ?_
            refine lv_goto (tgt := 100) hx hb dX8_place_77 (by decide) ?_
            exact k_100 _ ⟨_, by simp only [if_pos c_65_7, if_neg c_73_8], rfl⟩
    · skip
      refine lv_aload_n hx hb dX8_place_40 rfl (lv_at hl 1 rfl) ?_
      refine rg_5 X w dX8_place_41 ?_
      refine lv_bipush (v := (nI 8)) hx hb dX8_place_44 (by decide) ?_
      refine lv_iload_n hx hb dX8_place_46 rfl (lv_at hl 2 rfl) ?_
      refine n_iadd hx hb dX8_place_47 ?_
      refine rn_5 X w (by omega) dX8_place_48 ?_
      refine tp_i (show z.2.1 5 (8 + f) = (nI (S.2.1 5 f)) from hco f (by omega)) ?_
      refine lv_iload_n hx hb dX8_place_49 rfl (lv_at hl 0 rfl) ?_
      refine n_icmp_gt (tgt := 60) hx hb dX8_place_50 (by decide) (by omega) (by omega) (fun c_50_9 => ?_) (fun c_50_9 => ?_)
      · skip
        refine lv_aload_n hx hb dX8_place_60 rfl (lv_at hl 1 rfl) ?_
        refine lv_iload_n hx hb dX8_place_61 rfl (lv_at hl 2 rfl) ?_
        refine rc_p (rest := []) X hml hl.1 (k_downS l g z f S hz ho (by omega)) ok_isDown wm_X8_103 ⟨Nat.le_of_ble_eq_true rfl, Nat.le_of_ble_eq_true rfl⟩ ⟨Nat.le_refl _, Nat.le_refl _⟩ w rfl (Nat.le_of_ble_eq_true rfl) dX8_place_62 (fun r_62 hr_62 => ?_)
        subst hr_62
        have d_62 := pc_dn01 S f
        refine jn (tgt := 100) (rest := []) (fun v9 => ∃ x9 : Nat, x9 = (if (pc_dn S f) = 0 then (if (S.1 2) ≤ (S.1 3) then (pc_far (S.2.1 0) (sp_pts S f (S.2.1 4 f) ((S.1 3) - (S.1 2))) (S.1 0 - 1)) else 0) else 0) ∧ v9 = nI x9) (fun v_ hv_ => ?_) (fun k_100 => ?_)
        · obtain ⟨x_100, ex_100, rfl⟩ := hv_
          have q9 : x_100 ≤ S.1 0 - 1 := by rw [ex_100]; split; split; exact pc_far_le _ _ _; exact Nat.zero_le _; exact Nat.zero_le _
          refine lv_istore_n (lv' := [(3, .int (nI x_100)), (2, .int (nI (S.1 3))), (0, .ref g.2.2.2.1), (1, .int (nI f))]) hx hb dX8_place_100 rfl hl (by decide) rfl (fun ls hl => ?_)
          refine lv_aload_n hx hb dX8_place_101 rfl (lv_at hl 2 rfl) ?_
          refine rc_p (rest := []) X hml hl.1 (k_turnS l g z S hz ho) ok_isTurned wm_X8_80 ⟨Nat.le_of_ble_eq_true rfl, Nat.le_of_ble_eq_true rfl⟩ ⟨Nat.le_refl _, Nat.le_refl _⟩ w rfl (Nat.le_of_ble_eq_true rfl) dX8_place_102 (fun r_102 hr_102 => ?_)
          subst hr_102
          have d_102 := pc_td01 S
          refine jn (tgt := 128) (rest := []) (fun v9 => ∃ x9 : Nat, x9 = (if (pc_td S) = 0 then x_100 else (if x_100 ≤ (S.1 4 - 1) then x_100 else (S.1 4 - 1))) ∧ v9 = nI x9) (fun v_ hv_ => ?_) (fun k_128 => ?_)
          · obtain ⟨x_128, ex_128, rfl⟩ := hv_
            exact re_p hx hb hr hk (by rw [ex_128, ex_100]; unfold sp_place; first | rw [if_neg (show ¬ f = 0 by omega), if_pos (show pc_td S = 0 by omega), if_pos (show pc_td S = 0 by omega)]; rfl | rw [if_neg (show ¬ f = 0 by omega), if_neg (show ¬ pc_td S = 0 by omega), if_neg (show ¬ pc_td S = 0 by omega), if_neg (show ¬ S.2.1 5 f ≤ S.1 3 by omega)]; rfl) dX8_place_128
          · skip
            refine n_if_eq (tgt := 127) hx hb dX8_place_105 (by decide) (by omega) (fun c_105_12 => ?_) (fun c_105_12 => ?_)
            · skip
              refine lv_iload_n hx hb dX8_place_127 rfl (lv_at hl 0 rfl) ?_
              exact k_128 _ ⟨_, by simp only [if_pos c_105_12], rfl⟩
            · skip
              refine lv_iload_n hx hb dX8_place_108 rfl (lv_at hl 0 rfl) ?_
              refine lv_aload_n hx hb dX8_place_109 rfl (lv_at hl 2 rfl) ?_
              refine rg_5 X w dX8_place_110 ?_
              refine lv_iconst (v := (nI 1)) hx hb dX8_place_113 (by decide) ?_
              refine rn_5 X w (by omega) dX8_place_114 ?_
              refine tp_i (show z.2.1 5 1 = (nI (S.1 4 - 1)) from rs_sdn hz (by assumption)) ?_
              refine n_icmp_le (tgt := 127) hx hb dX8_place_115 (by decide) (by omega) (by omega) (fun c_115_13 => ?_) (fun c_115_13 => ?_)
              · skip
                refine lv_iload_n hx hb dX8_place_127 rfl (lv_at hl 0 rfl) ?_
                exact k_128 _ ⟨_, by simp only [if_neg c_105_12, if_pos c_115_13], rfl⟩
              · skip
                refine lv_aload_n hx hb dX8_place_118 rfl (lv_at hl 2 rfl) ?_
                refine rg_5 X w dX8_place_119 ?_
                refine lv_iconst (v := (nI 1)) hx hb dX8_place_122 (by decide) ?_
                refine rn_5 X w (by omega) dX8_place_123 ?_
                refine tp_i (show z.2.1 5 1 = (nI (S.1 4 - 1)) from rs_sdn hz (by assumption)) ?_
                refine lv_goto (tgt := 128) hx hb dX8_place_124 (by decide) ?_
                exact k_128 _ ⟨_, by simp only [if_neg c_105_12, if_neg c_115_13], rfl⟩
        · skip
          refine n_if_ne (tgt := 76) hx hb dX8_place_65 (by decide) (by omega) (fun c_65_14 => ?_) (fun c_65_14 => ?_)
          · skip
            refine lv_iconst (v := (nI 0)) hx hb dX8_place_76 (by decide) ?_
            refine lv_goto (tgt := 100) hx hb dX8_place_77 (by decide) ?_
            exact k_100 _ ⟨_, by simp only [if_neg c_65_14], rfl⟩
          · skip
            refine lv_iload_n hx hb dX8_place_68 rfl (lv_at hl 0 rfl) ?_
            refine lv_aload_n hx hb dX8_place_69 rfl (lv_at hl 1 rfl) ?_
            refine rg_4 X w dX8_place_70 ?_
            refine tp_i (show z.1 4 = (nI (S.1 2)) from hz4) ?_
            refine n_icmp_ge (tgt := 80) hx hb dX8_place_73 (by decide) (by omega) (by omega) (fun c_73_15 => ?_) (fun c_73_15 => ?_)
            · skip
              refine lv_aload_n hx hb dX8_place_80 rfl (lv_at hl 1 rfl) ?_
              refine lv_aload_n hx hb dX8_place_81 rfl (lv_at hl 1 rfl) ?_
              refine lv_iload_n hx hb dX8_place_82 rfl (lv_at hl 2 rfl) ?_
              refine lv_aload_n hx hb dX8_place_83 rfl (lv_at hl 1 rfl) ?_
              refine lv_iload_n hx hb dX8_place_84 rfl (lv_at hl 2 rfl) ?_
              refine rc_p (rest := [.int (nI f), .ref g.2.2.2.1, .ref g.2.2.2.1]) X hml hl.1 (k_hurtS l g z f S hz ho (by omega)) ok_hurtOf wm_X8_91 ⟨Nat.le_of_ble_eq_true rfl, Nat.le_of_ble_eq_true rfl⟩ ⟨Nat.le_refl _, Nat.le_refl _⟩ w rfl (Nat.le_of_ble_eq_true rfl) dX8_place_85 (fun r_85 hr_85 => ?_)
              subst hr_85
              refine lv_iload_n hx hb dX8_place_88 rfl (lv_at hl 0 rfl) ?_
              refine lv_aload_n hx hb dX8_place_89 rfl (lv_at hl 1 rfl) ?_
              refine rg_4 X w dX8_place_90 ?_
              refine tp_i (show z.1 4 = (nI (S.1 2)) from hz4) ?_
              refine n_isub hx hb dX8_place_93 (by omega) ?_
              refine rc_p (rest := [.ref g.2.2.2.1]) X hml hl.1 (k_pointsOf l g z f (S.2.1 4 f) ((S.1 3) - (S.1 2)) S hz ho (by omega) (by first | omega | exact ohu _) (by omega)) ok_pointsOf wm_X8_95 ⟨Nat.le_of_ble_eq_true rfl, Nat.le_of_ble_eq_true rfl⟩ ⟨Nat.le_refl _, Nat.le_refl _⟩ w rfl (Nat.le_of_ble_eq_true rfl) dX8_place_94 (fun r_94 hr_94 => ?_)
              subst hr_94
              have d_94 := sp_pts_le S ho f (S.2.1 4 f) ((S.1 3) - (S.1 2))
              refine rc_p (rest := []) X hml hl.1 (k_farthest l g z (sp_pts S f (S.2.1 4 f) ((S.1 3) - (S.1 2))) (S.2.1 0) (S.1 0) hso oso hz0 ⟨o1, o2⟩ (by omega)) ok_farthest wm_X8_107 ⟨Nat.le_of_ble_eq_true rfl, Nat.le_of_ble_eq_true rfl⟩ ⟨Nat.le_refl _, Nat.le_refl _⟩ w rfl (Nat.le_of_ble_eq_true rfl) dX8_place_97 (fun r_97 hr_97 => ?_)
              subst hr_97
              exact k_100 _ ⟨_, by simp only [if_pos c_65_14, if_pos c_73_15], rfl⟩
            · skip
              refine lv_iconst (v := (nI 0)) hx hb dX8_place_76 (by decide) ?_
              refine lv_goto (tgt := 100) hx hb dX8_place_77 (by decide) ?_
              exact k_100 _ ⟨_, by simp only [if_pos c_65_14, if_neg c_73_15], rfl⟩
      · skip
        refine lv_aload_n hx hb dX8_place_53 rfl (lv_at hl 1 rfl) ?_
        refine rg_5 X w dX8_place_54 ?_
        refine lv_iconst (v := (nI 1)) hx hb dX8_place_57 (by decide) ?_
        refine rn_5 X w (by omega) dX8_place_58 ?_
        refine tp_i (show z.2.1 5 1 = (nI (S.1 4 - 1)) from rs_sdn hz (by assumption)) ?_
        exact re_p hx hb hr hk (by unfold sp_place; rw [if_neg (show ¬ f = 0 by omega), if_neg (show ¬ pc_td S = 0 by omega), if_pos (show S.2.1 5 f ≤ S.1 3 by omega)]) dX8_place_59
  · skip
    refine lv_aload_n hx hb dX8_place_11 rfl (lv_at hl 1 rfl) ?_
    refine rc_p (rest := []) X hml hl.1 (k_turnS l g z S hz ho) ok_isTurned wm_X8_80 ⟨Nat.le_of_ble_eq_true rfl, Nat.le_of_ble_eq_true rfl⟩ ⟨Nat.le_refl _, Nat.le_refl _⟩ w rfl (Nat.le_of_ble_eq_true rfl) dX8_place_12 (fun r_12 hr_12 => ?_)
    subst hr_12
    have d_12 := pc_td01 S
    refine jn (tgt := 32) (rest := []) (fun v9 => ∃ x9 : Nat, x9 = (if (pc_td S) = 0 then (sp_run S (S.1 3)) else (S.1 4 - 1)) ∧ v9 = nI x9) (fun v_ hv_ => ?_) (fun k_32 => ?_)
    · obtain ⟨x_32, ex_32, rfl⟩ := hv_
      exact re_p hx hb hr hk (by rw [ex_32]; unfold sp_place; rw [if_pos (show f = 0 by omega)]) dX8_place_32
    · skip
      refine n_if_eq (tgt := 27) hx hb dX8_place_15 (by decide) (by omega) (fun c_15_17 => ?_) (fun c_15_17 => ?_)
      · skip
        refine lv_aload_n hx hb dX8_place_27 rfl (lv_at hl 1 rfl) ?_
        refine lv_iload_n hx hb dX8_place_28 rfl (lv_at hl 0 rfl) ?_
        refine rc_p (rest := []) X hml hl.1 (k_runs l g z (S.1 3) S hz ho (by omega)) ok_runs wm_X8_120 ⟨Nat.le_of_ble_eq_true rfl, Nat.le_of_ble_eq_true rfl⟩ ⟨Nat.le_refl _, Nat.le_refl _⟩ w rfl (Nat.le_of_ble_eq_true rfl) dX8_place_29 (fun r_29 hr_29 => ?_)
        subst hr_29
        have d_29 := sp_run_lt S ho (S.1 3)
        exact k_32 _ ⟨_, by simp only [if_pos c_15_17], rfl⟩
      · skip
        refine lv_aload_n hx hb dX8_place_18 rfl (lv_at hl 1 rfl) ?_
        refine rg_5 X w dX8_place_19 ?_
        refine lv_iconst (v := (nI 1)) hx hb dX8_place_22 (by decide) ?_
        refine rn_5 X w (by omega) dX8_place_23 ?_
        refine tp_i (show z.2.1 5 1 = (nI (S.1 4 - 1)) from rs_sdn hz (by assumption)) ?_
        refine lv_goto (tgt := 32) hx hb dX8_place_24 (by decide) ?_
        exact k_32 _ ⟨_, by simp only [if_neg c_15_17], rfl⟩

theorem ok_down : rOk yX8_down cX8_down 3 (some .int) 0 := ⟨wc_X8_down, wi_X8_down, ws_X8_down, rfl, by decide, by decide, by decide +kernel⟩
set_option maxHeartbeats 4000000 in
set_option maxRecDepth 100000 in
theorem k_down (l : Launch) (g : RG) (z : RS)  (S : Sc) (hz : rSc z S) (ho : oSc S) : rMp g l yX8_down cX8_down 3 (some .int) 2 42 [] z (fun r => r = nI (sp_dnL S (S.1 1))) := by
  refine rMp_in (by decide) rfl (Nat.le_of_ble_eq_true rfl) ?_
  intro p e s m args below meth c ls X hml hr hk hl w
  have hx := X.1
  have hb := X.2.1
  have hts := X.2.2.1
  have hown := X.2.2.2.1
  have hl : lv_has ls 3 [(0, .ref g.2.2.2.1)] := hl
  obtain ⟨hz0, hz1, hz4, hm0, hm1, hm2, hso, hki, hsr, hpa, hhu, hco⟩ := id hz
  obtain ⟨o1, o2, o3, o4, o5, o6, oso, oki, osr, opa, ohu, oco⟩ := id ho
  refine lv_iconst (v := (nI 0)) hx hb dX8_down_0 (by decide) ?_
  refine lv_istore_n (lv' := [(1, .int (nI 0)), (0, .ref g.2.2.2.1)]) hx hb dX8_down_1 rfl hl (by decide) rfl (fun ls hl => ?_)
  refine lv_iconst (v := (nI 0)) hx hb dX8_down_2 (by decide) ?_
  refine lv_istore_n (lv' := [(2, .int (nI 0)), (1, .int (nI 0)), (0, .ref g.2.2.2.1)]) hx hb dX8_down_3 rfl hl (by decide) rfl (fun ls hl => ?_)
  have lp_4 : ∀ (n_4 : Nat) (i : Nat) (hi : i ≤ S.1 1) (hm_4 : S.1 1 - i < n_4) (ls : Array Slot), lv_has ls 3 [(0, .ref g.2.2.2.1), (1, .int (nI (sp_dnL S i))), (2, .int (nI i))] → W p l e (ro_m 2 42) s m args below meth c s.heap [] 0 0 (MQ below (vp_Si (fun r => r = nI (sp_dnL S (S.1 1)))) args s 0 0 (fun _ => False)) (F0 m 4 ls []) := by
    intro n_4
    induction n_4 with
    | zero => intro i hi hm; exact absurd hm (Nat.not_lt_zero _)
    | succ n_4 ih_4 =>
      intro i hi hm_4 ls hl
      refine lv_iload_n hx hb dX8_down_4 rfl (lv_at hl 2 rfl) ?_
      refine lv_aload_n hx hb dX8_down_5 rfl (lv_at hl 0 rfl) ?_
      refine rg_1 X w dX8_down_6 ?_
      refine tp_i (show z.1 1 = (nI (S.1 1)) from hz1) ?_
      refine n_icmp_ge (tgt := 36) hx hb dX8_down_9 (by decide) (by omega) (by omega) (fun c_9_1 => ?_) (fun c_9_1 => ?_)
      · skip
        refine lv_iload_n hx hb dX8_down_36 rfl (lv_at hl 1 rfl) ?_
        exact re_p hx hb hr hk (by rw [show i = S.1 1 by omega]) dX8_down_37
      · skip
        refine lv_iload_n hx hb dX8_down_12 rfl (lv_at hl 1 rfl) ?_
        refine lv_aload_n hx hb dX8_down_13 rfl (lv_at hl 0 rfl) ?_
        refine lv_iload_n hx hb dX8_down_14 rfl (lv_at hl 2 rfl) ?_
        refine rc_p (rest := [.int (nI (sp_dnL S i))]) X hml hl.1 (k_downS l g z i S hz ho (by omega)) ok_isDown wm_X8_103 ⟨Nat.le_of_ble_eq_true rfl, Nat.le_of_ble_eq_true rfl⟩ ⟨Nat.le_refl _, Nat.le_refl _⟩ w rfl (Nat.le_of_ble_eq_true rfl) dX8_down_15 (fun r_15 hr_15 => ?_)
        subst hr_15
        have d_15 := pc_dn01 S i
        refine jn (tgt := 28) (rest := [.int (nI (sp_dnL S i))]) (fun v9 => ∃ x9 : Nat, x9 = (if (pc_dn S i) = 0 then 0 else (2 ^ i)) ∧ v9 = nI x9) (fun v_ hv_ => ?_) (fun k_28 => ?_)
        · obtain ⟨x_28, ex_28, rfl⟩ := hv_
          refine lv_ior hx hb dX8_down_28 ?_
          refine tp_i (fa_or _ _) ?_
          refine lv_istore_n (lv' := [(1, .int (nI ((sp_dnL S i) ||| x_28))), (0, .ref g.2.2.2.1), (2, .int (nI i))]) hx hb dX8_down_29 rfl hl (by decide) rfl (fun ls hl => ?_)
          refine lv_iinc (v := (nI (i + 1))) (lv' := [(2, .int (nI (i + 1))), (1, .int (nI ((sp_dnL S i) ||| x_28))), (0, .ref g.2.2.2.1)]) hx hb dX8_down_30 hl (k := 2) rfl (by first | exact nI_1 _ | (rw [show Int32.ofInt 1 = nI 1 from by decide, nI_add])) (by decide) rfl (fun ls hl => ?_)
          refine lv_goto (tgt := 4) hx hb dX8_down_33 (by decide) ?_
          subst ex_28
          exact ih_4 (i + 1) (by omega) (by omega) ls (lv_sub hl [2, 1, 0] rfl)
        · skip
          refine n_if_eq (tgt := 27) hx hb dX8_down_18 (by decide) (by omega) (fun c_18_3 => ?_) (fun c_18_3 => ?_)
          · skip
            refine lv_iconst (v := (nI 0)) hx hb dX8_down_27 (by decide) ?_
            exact k_28 _ ⟨_, by simp only [if_pos c_18_3], rfl⟩
          · skip
            refine lv_iconst (v := (nI 1)) hx hb dX8_down_21 (by decide) ?_
            refine lv_iload_n hx hb dX8_down_22 rfl (lv_at hl 2 rfl) ?_
            refine lv_ishl hx hb dX8_down_23 ?_
            refine tp_i (sh_1 (by omega)) ?_
            refine lv_goto (tgt := 28) hx hb dX8_down_24 (by decide) ?_
            exact k_28 _ ⟨_, by simp only [if_neg c_18_3], rfl⟩
  exact lp_4 _ 0 (Nat.zero_le _) (Nat.lt_succ_self _) ls (lv_sub hl [2, 1, 0] rfl)

theorem ok_over : rOk yX8_over cX8_over 2 (some .int) 0 := ⟨wc_X8_over, wi_X8_over, ws_X8_over, rfl, by decide, by decide, by decide +kernel⟩
set_option maxHeartbeats 4000000 in
set_option maxRecDepth 100000 in
theorem k_over (l : Launch) (g : RG) (z : RS)  (S : Sc) (hz : rSc z S) (ho : oSc S) : rMp g l yX8_over cX8_over 2 (some .int) 3 64 [] z (fun r => r = nI (sp_over S)) := by
  refine rMp_in (by decide) rfl (Nat.le_of_ble_eq_true rfl) ?_
  intro p e s m args below meth c ls X hml hr hk hl w
  have hx := X.1
  have hb := X.2.1
  have hts := X.2.2.1
  have hown := X.2.2.2.1
  have hl : lv_has ls 2 [(0, .ref g.2.2.2.1)] := hl
  obtain ⟨hz0, hz1, hz4, hm0, hm1, hm2, hso, hki, hsr, hpa, hhu, hco⟩ := id hz
  obtain ⟨o1, o2, o3, o4, o5, o6, oso, oki, osr, opa, ohu, oco⟩ := id ho
  refine lv_aload_n hx hb dX8_over_0 rfl (lv_at hl 0 rfl) ?_
  refine rc_p (rest := []) X hml hl.1 (k_down l g z S hz ho) ok_down wm_X8_171 ⟨Nat.le_of_ble_eq_true rfl, Nat.le_of_ble_eq_true rfl⟩ ⟨Nat.le_refl _, Nat.le_refl _⟩ w rfl (Nat.le_of_ble_eq_true rfl) dX8_over_1 (fun r_1 hr_1 => ?_)
  subst hr_1
  have d_1 := sp_dnL_lt S (S.1 1)
  have b_1 := pw_32 o3
  refine lv_istore_n (lv' := [(1, .int (nI (sp_dnL S (S.1 1)))), (0, .ref g.2.2.2.1)]) hx hb dX8_over_4 rfl hl (by decide) rfl (fun ls hl => ?_)
  refine lv_aload_n hx hb dX8_over_5 rfl (lv_at hl 1 rfl) ?_
  refine rg_1 X w dX8_over_6 ?_
  refine tp_i (show z.1 1 = (nI (S.1 1)) from hz1) ?_
  refine lv_iconst (v := (nI 2)) hx hb dX8_over_9 (by decide) ?_
  refine jn (tgt := 45) (rest := []) (fun v9 => ∃ x9 : Nat, x9 = (if 2 ≤ (S.1 1) then (if ((sp_dnL S (S.1 1)) &&& 1) = 1 then 2 else (if (sp_dnL S (S.1 1)) = ((2 ^ (S.1 1)) - 2) then 1 else 0)) else 3) ∧ v9 = nI x9) (fun v_ hv_ => ?_) (fun k_45 => ?_)
  · obtain ⟨x_45, ex_45, rfl⟩ := hv_
    exact re_p hx hb hr hk (by rw [ex_45]; rfl) dX8_over_45
  · skip
    refine n_icmp_ge (tgt := 17) hx hb dX8_over_10 (by decide) (by omega) (by omega) (fun c_10_2 => ?_) (fun c_10_2 => ?_)
    · skip
      refine lv_iload_n hx hb dX8_over_17 rfl (lv_at hl 0 rfl) ?_
      refine lv_iconst (v := (nI 1)) hx hb dX8_over_18 (by decide) ?_
      refine lv_iand hx hb dX8_over_19 ?_
      refine tp_i (fa_and _ _) ?_
      refine lv_iconst (v := (nI 1)) hx hb dX8_over_20 (by decide) ?_
      have q8 : sp_dnL S (S.1 1) &&& 1 ≤ 1 := Nat.and_le_right
      refine n_icmp_ne (tgt := 28) hx hb dX8_over_21 (by decide) (by omega) (by omega) (fun c_21_3 => ?_) (fun c_21_3 => ?_)
      · skip
        refine lv_iload_n hx hb dX8_over_28 rfl (lv_at hl 0 rfl) ?_
        refine lv_iconst (v := (nI 1)) hx hb dX8_over_29 (by decide) ?_
        refine lv_aload_n hx hb dX8_over_30 rfl (lv_at hl 1 rfl) ?_
        refine rg_1 X w dX8_over_31 ?_
        refine tp_i (show z.1 1 = (nI (S.1 1)) from hz1) ?_
        refine lv_ishl hx hb dX8_over_34 ?_
        refine tp_i (sh_1 (by omega)) ?_
        refine lv_iconst (v := (nI 2)) hx hb dX8_over_35 (by decide) ?_
        refine n_isub hx hb dX8_over_36 (by have q9 : 2 ^ 1 ≤ 2 ^ (S.1 1) := Nat.pow_le_pow_right (by decide) (by omega); omega) ?_
        refine n_icmp_ne (tgt := 44) hx hb dX8_over_37 (by decide) (by omega) (by omega) (fun c_37_4 => ?_) (fun c_37_4 => ?_)
        · skip
          refine lv_iconst (v := (nI 0)) hx hb dX8_over_44 (by decide) ?_
          exact k_45 _ ⟨_, by simp only [if_pos c_10_2, if_neg c_21_3, if_neg c_37_4], rfl⟩
        · skip
          refine lv_iconst (v := (nI 1)) hx hb dX8_over_40 (by decide) ?_
          refine lv_goto (tgt := 45) hx hb dX8_over_41 (by decide) ?_
          exact k_45 _ ⟨_, by simp only [if_pos c_10_2, if_neg c_21_3, if_pos c_37_4], rfl⟩
      · skip
        refine lv_iconst (v := (nI 2)) hx hb dX8_over_24 (by decide) ?_
        refine lv_goto (tgt := 45) hx hb dX8_over_25 (by decide) ?_
        exact k_45 _ ⟨_, by simp only [if_pos c_10_2, if_pos c_21_3], rfl⟩
    · skip
      refine lv_iconst (v := (nI 3)) hx hb dX8_over_13 (by decide) ?_
      refine lv_goto (tgt := 45) hx hb dX8_over_14 (by decide) ?_
      exact k_45 _ ⟨_, by simp only [if_neg c_10_2], rfl⟩
end
section
/-! he TURNS; whom he meets; a fight -/
def sp_cm (S : Sc) (tg m f : Nat) : Nat := if f = 0 then 99999 else (if S.1 1 ≤ f then 99999 else (if pc_dn S f = 0 then sp_com S tg f (sp_run S m) else 99999))
def sp_tl (S : Sc) (tg m i : Nat) : Sc := (va_up (va_up S.1 3 m) 4 (sp_run S m + 1), va_up S.2.1 5 (fun f => if f < i then sp_cm S tg m f else S.2.1 5 f), S.2.2)
/-- the scene when he TURNS in m -/
def sp_turn (S : Sc) (tg m : Nat) : Sc := (va_up (va_up S.1 3 m) 4 (sp_run S m + 1), va_up S.2.1 5 (sp_cm S tg m), S.2.2)
theorem oSc_mo {S : Sc} (ho : oSc S) {m : Nat} (h : m ≤ 100000) : oSc (sN S 3 m) := by
  obtain ⟨o1, o2, o3, o4, o5, o6, o7⟩ := ho
  exact ⟨o1, o2, o3, o4, h, o6, o7⟩
theorem sp_cm_le (S : Sc) (ho : oSc S) (tg m f : Nat) : sp_cm S tg m f ≤ 99999 := by
  have h1 := sp_run_lt S ho m
  have h2 := ho.2.1
  have h3 := sp_com_le S ho tg f (sp_run S m) (by omega)
  unfold sp_cm
  split
  · omega
  · split
    · omega
    · split <;> omega
theorem oSc_tl {S : Sc} (ho : oSc S) {m : Nat} (tg i : Nat) (h : m ≤ 100000) : oSc (sp_tl S tg m i) := by
  have h1 := sp_run_lt S ho m
  obtain ⟨o1, o2, o3, o4, o5, o6, oso, oki, osr, opa, ohu, oco⟩ := id ho
  refine ⟨o1, o2, o3, o4, h, h1, oso, oki, osr, opa, ohu, fun f => ?_⟩
  show (if f < i then sp_cm S tg m f else S.2.1 5 f) ≤ 99999
  split
  · exact sp_cm_le S ho tg m f
  · exact oco f
theorem oSc_turn {S : Sc} (ho : oSc S) {m : Nat} (tg : Nat) (h : m ≤ 100000) : oSc (sp_turn S tg m) := by
  have h1 := sp_run_lt S ho m
  obtain ⟨o1, o2, o3, o4, o5, o6, oso, oki, osr, opa, ohu, oco⟩ := id ho
  exact ⟨o1, o2, o3, o4, h, h1, oso, oki, osr, opa, ohu, fun f => sp_cm_le S ho tg m f⟩
theorem tl_0 {z : RS} {S : Sc} {m : Nat} (tg : Nat) (h : rSc z (sN (sN S 3 m) 4 (sp_run S m + 1))) : rSc z (sp_tl S tg m 0) := by
  obtain ⟨h0, h1, h2, h3, h4, h5, h6, h7, h8, h9, h10, h11⟩ := h
  refine ⟨h0, h1, h2, h3, h4, h5, h6, h7, h8, h9, h10, fun f hf => ?_⟩
  show _ = nI (if f < 0 then sp_cm S tg m f else S.2.1 5 f)
  rw [if_neg (by omega)]
  exact h11 f hf
theorem tl_s {z : RS} {S : Sc} {tg m i : Nat} (h : rSc z (sp_tl S tg m i)) (hi : i < 5) : rSc (sA z 5 (8 + i) (nI (sp_cm S tg m i))) (sp_tl S tg m (i + 1)) := by
  have hw := rw_co h i hi (sp_cm S tg m i)
  obtain ⟨h0, h1, h2, h3, h4, h5, h6, h7, h8, h9, h10, h11⟩ := hw
  refine ⟨h0, h1, h2, h3, h4, h5, h6, h7, h8, h9, h10, fun f hf => ?_⟩
  rw [h11 f hf]
  show nI (va_up (fun f => if f < i then sp_cm S tg m f else S.2.1 5 f) i (sp_cm S tg m i) f) = nI (if f < i + 1 then sp_cm S tg m f else S.2.1 5 f)
  by_cases q : f = i
  · subst q
    rw [va_up_self, if_pos (by omega)]
  · rw [va_up_ne _ _ q]
    by_cases q2 : f < i
    · rw [if_pos q2, if_pos (show f < i + 1 by omega)]
    · rw [if_neg q2, if_neg (show ¬ f < i + 1 by omega)]
theorem tl_e {z : RS} {S : Sc} {tg m i : Nat} (h : rSc z (sp_tl S tg m i)) (hi : 5 ≤ i) : rSc z (sp_turn S tg m) := by
  obtain ⟨h0, h1, h2, h3, h4, h5, h6, h7, h8, h9, h10, h11⟩ := h
  refine ⟨h0, h1, h2, h3, h4, h5, h6, h7, h8, h9, h10, fun f hf => ?_⟩
  rw [h11 f hf]
  show nI (if f < i then sp_cm S tg m f else S.2.1 5 f) = nI (sp_cm S tg m f)
  rw [if_pos (by omega)]
theorem tl_sd {z : RS} {S : Sc} {tg m i : Nat} (h : rSc z (sp_tl S tg m i)) : z.2.1 5 1 = nI (sp_run S m) := by
  rw [rs_sd h]
  show pc_sd (sp_run S m + 1) = _
  unfold pc_sd
  rw [if_neg (by omega), Nat.add_sub_cancel]
/-- nobody, or a FIGHTER -/
def pc_fd (n : Nat) : Int32 := if n = 0 then iZ (-4) else nI n
theorem pc_fd_n {n : Nat} (h : ¬ pc_fd n = iZ (-4)) : pc_fd n = nI n := by
  unfold pc_fd at h ⊢
  by_cases q : n = 0
  · rw [if_pos q] at h
    exact absurd rfl h
  · rw [if_neg q]
theorem pc_fd_4 {n : Nat} (hn : n ≤ 1000) : pc_fd n = iZ (-4) ↔ n = 0 := by
  unfold pc_fd
  by_cases q : n = 0
  · rw [if_pos q]
    exact ⟨fun _ => q, fun _ => rfl⟩
  · rw [if_neg q, ← iZ_n, iZ_eq (by omega) (by omega) (by omega) (by omega)]
    omega
def sp_mtL (S : Sc) (en : Nat) : Nat → Nat
  | 0 => 0
  | i + 1 => if (if pc_dn S (i + 1) = 0 then (if en < S.2.1 5 (i + 1) then 0 else (if sp_mtL S en i = 0 then 1 else (if S.2.1 5 (sp_mtL S en i) ≤ S.2.1 5 (i + 1) then 0 else 1))) else 0) = 0 then sp_mtL S en i else i + 1
theorem it_le {q : Prop} [Decidable q] {a b n : Nat} (h1 : a ≤ n) (h2 : b ≤ n) : (if q then a else b) ≤ n := by
  split <;> assumption
theorem sp_mtL_le (S : Sc) (en : Nat) : ∀ i, sp_mtL S en i ≤ i
  | 0 => Nat.le_refl 0
  | i + 1 => by
    have h := sp_mtL_le S en i
    exact it_le (by omega) (Nat.le_refl _)
/-- the first of those that have come by en, 0: nobody -/
def sp_mt (S : Sc) (en : Nat) : Nat := sp_mtL S en (S.1 1 - 1)
theorem mt_s {S : Sc} {en i : Nat} (hi : i ≤ 5) {x : Nat} {y : Int32} (ex : x = if pc_dn S (i + 1) = 0 then (if en < S.2.1 5 (i + 1) then 0 else (if pc_fd (sp_mtL S en i) = iZ (-4) then 1 else (if S.2.1 5 (sp_mtL S en i) ≤ S.2.1 5 (i + 1) then 0 else 1))) else 0) (ey : y = if x = 0 then pc_fd (sp_mtL S en i) else nI (i + 1)) : y = pc_fd (sp_mtL S en (i + 1)) := by
  have h := sp_mtL_le S en i
  simp only [pc_fd_4 (show sp_mtL S en i ≤ 1000 by omega)] at ex
  rw [ey]
  show _ = pc_fd (if (if pc_dn S (i + 1) = 0 then (if en < S.2.1 5 (i + 1) then 0 else (if sp_mtL S en i = 0 then 1 else (if S.2.1 5 (sp_mtL S en i) ≤ S.2.1 5 (i + 1) then 0 else 1))) else 0) = 0 then sp_mtL S en i else i + 1)
  rw [← ex]
  by_cases q : x = 0
  · rw [if_pos q, if_pos q]
  · rw [if_neg q, if_neg q]
    unfold pc_fd
    rw [if_neg (by omega)]
def sp_otL (S : Sc) (en F : Nat) : Nat → Nat
  | 0 => 0
  | i + 1 => sp_otL S en F i + (if i + 1 = F then 0 else (if pc_dn S (i + 1) = 0 then (if en < S.2.1 5 (i + 1) then 0 else 1) else 0))
theorem sp_otL_le (S : Sc) (en F : Nat) : ∀ i, sp_otL S en F i ≤ i
  | 0 => Nat.le_refl 0
  | i + 1 => by
    have h := sp_otL_le S en F i
    show sp_otL S en F i + (if _ then _ else _) ≤ _
    split
    · omega
    · split
      · split <;> omega
      · omega
def pc_nx (d : Int32) : Int32 := (d * nI 1103515245 + nI 12345) &&& nI 2147483647
def pc_d16 (d : Int32) : Int32 := d / nI 65536 - d / nI 65536 / nI 16 * nI 16
def sp_frc (S : Sc) (f : Nat) : Nat := pc_force (S.2.1 1 f) (S.2.1 2 f) (S.2.1 4 f)
def sp_odds (S : Sc) (F : Nat) : Nat := pc_btw ((8 + (sp_frc S 0 : Int)) - (sp_frc S F : Int) - ((2 * sp_otL S (S.1 3 + 1) F (S.1 1 - 1) : Nat) : Int))
def sp_who (S : Sc) (F : Nat) : Nat := if nI (sp_odds S F) ≤ pc_d16 (pc_nx S.2.2) then 0 else F
/-- a MOMENT in which he stands: who is hurt (0 the RUNNER; nobody: -4), and the scene behind it -/
def sp_fgA (S : Sc) : Int32 := if sp_mt S (S.1 3 + 1) = 0 then iZ (-4) else nI (sp_who S (sp_mt S (S.1 3 + 1)))
def sp_fgS (S : Sc) : Sc := if sp_mt S (S.1 3 + 1) = 0 then sN S 3 (S.1 3 + 1) else sR (sD (sN S 3 (S.1 3 + 1)) (pc_nx S.2.2)) 4 (sp_who S (sp_mt S (S.1 3 + 1))) (S.2.1 4 (sp_who S (sp_mt S (S.1 3 + 1))) + 1)
theorem pc_force_le (k a h : Nat) (ha : a ≤ 9) : pc_force k a h ≤ 11 := by
  unfold pc_force
  split <;> split <;> omega
theorem sp_frc_le (S : Sc) (ho : oSc S) (f : Nat) : sp_frc S f ≤ 11 := pc_force_le _ _ _ (ho.2.2.2.2.2.2.2.2.1 f)
end
section
/-! what the running knows of a scene: not THE MOMENT, not where he stands, not when they come, not THE DRAW -/
def eqv (S' S : Sc) : Prop := S'.1 0 = S.1 0 ∧ S'.1 1 = S.1 1 ∧ S'.1 2 = S.1 2 ∧ ∀ j, j ≠ 5 → S'.2.1 j = S.2.1 j
section Cong
variable {S' S : Sc}
theorem ev_dn (h : eqv S' S) (f : Nat) : pc_dn S' f = pc_dn S f := by
  unfold pc_dn
  rw [h.2.2.2 4 (by decide)]
theorem ev_pts (h : eqv S' S) (f u t : Nat) : sp_pts S' f u t = sp_pts S f u t := by
  unfold sp_pts
  rw [h.2.2.2 1 (by decide), h.2.2.2 3 (by decide)]
theorem ev_purL (h : eqv S' S) (t a : Nat) : ∀ n, sp_purL S' t a n = sp_purL S t a n
  | 0 => rfl
  | n + 1 => by
    have ih := ev_purL h t a n
    show (if pc_dn S' (n + 1) = 0 then (if sp_purL S' t a n ≤ sp_pts S' (n + 1) (S'.2.1 4 (n + 1)) t then sp_purL S' t a n else sp_pts S' (n + 1) (S'.2.1 4 (n + 1)) t) else sp_purL S' t a n) = _
    rw [ih, ev_dn h, ev_pts h, h.2.2.2 4 (by decide)]
    rfl
theorem ev_pur (h : eqv S' S) (tg f t : Nat) : sp_pur S' tg f t = sp_pur S tg f t := by
  unfold sp_pur
  rw [ev_purL h, ev_pts h, h.2.1, h.2.2.2 4 (by decide)]
theorem ev_run (h : eqv S' S) (m : Nat) : sp_run S' m = sp_run S m := by
  unfold sp_run
  rw [ev_dn h, ev_pts h, h.1, h.2.2.2 0 (by decide), h.2.2.2 4 (by decide)]
theorem ev_com (h : eqv S' S) (tg f c : Nat) : sp_com S' tg f c = sp_com S tg f c := by
  unfold sp_com
  rw [h.2.2.1, h.2.2.2 0 (by decide), show sp_pur S' tg f = sp_pur S tg f from funext (ev_pur h tg f)]
theorem ev_ctL (h : eqv S' S) (tg cost m b : Nat) : ∀ n, sp_ctL S' tg cost m b n = sp_ctL S tg cost m b n
  | 0 => rfl
  | n + 1 => by
    have ih := ev_ctL h tg cost m b n
    show (if sp_ctL S' tg cost m b n = 0 then (if pc_dn S' (n + 1) = 0 then (if cost = 0 then 1 else (if m < S'.1 2 then 0 else (if sp_pur S' tg (n + 1) (m - S'.1 2) < cost then 0 else 1))) else 0) else 1) = _
    rw [ih, ev_dn h, ev_pur h, h.2.2.1]
    rfl
theorem ev_ct (h : eqv S' S) (tg m : Nat) : sp_ct S' tg m = sp_ct S tg m := by
  unfold sp_ct
  rw [ev_ctL h, ev_run h, h.1, h.2.1, h.2.2.2 0 (by decide)]
theorem ev_dnL (h : eqv S' S) : ∀ n, sp_dnL S' n = sp_dnL S n
  | 0 => rfl
  | n + 1 => by
    have ih := ev_dnL h n
    show sp_dnL S' n ||| (if pc_dn S' n = 0 then 0 else 2 ^ n) = _
    rw [ih, ev_dn h]
    rfl
theorem ev_over (h : eqv S' S) : sp_over S' = sp_over S := by
  unfold sp_over
  rw [ev_dnL h, h.2.1]
theorem eb_dn (h : S'.2.1 = S.2.1) (f : Nat) : pc_dn S' f = pc_dn S f := by
  unfold pc_dn
  rw [h]
theorem eb_mtL (h : S'.2.1 = S.2.1) (en : Nat) : ∀ n, sp_mtL S' en n = sp_mtL S en n
  | 0 => rfl
  | n + 1 => by
    have ih := eb_mtL h en n
    show (if (if pc_dn S' (n + 1) = 0 then (if en < S'.2.1 5 (n + 1) then 0 else (if sp_mtL S' en n = 0 then 1 else (if S'.2.1 5 (sp_mtL S' en n) ≤ S'.2.1 5 (n + 1) then 0 else 1))) else 0) = 0 then sp_mtL S' en n else n + 1) = _
    rw [ih, eb_dn h, h]
    rfl
end Cong
theorem ev_tl (S : Sc) (tg m i : Nat) : eqv (sp_tl S tg m i) S := ⟨rfl, rfl, rfl, fun _ hj => va_up_ne _ _ hj⟩
theorem ev_turn (S : Sc) (tg m : Nat) : eqv (sp_turn S tg m) S := ⟨rfl, rfl, rfl, fun _ hj => va_up_ne _ _ hj⟩
theorem ev_mo (S : Sc) (m : Nat) : eqv (sN S 3 m) S := ⟨rfl, rfl, rfl, fun _ _ => rfl⟩
end
section
theorem ok_turns : rOk yX8_turns cX8_turns 3 none 1 := ⟨wc_X8_turns, wi_X8_turns, ws_X8_turns, rfl, by decide, by decide, by decide +kernel⟩
set_option maxHeartbeats 4000000 in
set_option maxRecDepth 100000 in
theorem k_turns (l : Launch) (g : RG) (z : RS) (mo : Nat) (S : Sc) (hz : rSc z S) (ho : oSc S) (tg : Nat) (htg : z.1 6 = nI tg) (hg1 : tg ≤ 1) (hmo : mo ≤ 100000) : rMv g l yX8_turns cX8_turns 3 none 4 91 [.int (nI mo)] z (fun z' => rSc z' (sp_turn S tg mo) ∧ rFr [] [5] z z') := by
  refine rMv_in (by decide) rfl (Nat.le_of_ble_eq_true rfl) ?_
  intro p e s m args below meth c A ls X hml hr hk hl w
  have hx := X.1
  have hb := X.2.1
  have hts := X.2.2.1
  have hown := X.2.2.2.1
  have hl : lv_has ls 3 [(0, .ref g.2.2.2.1), (1, .int (nI mo))] := hl
  obtain ⟨hz0, hz1, hz4, hm0, hm1, hm2, hso, hki, hsr, hpa, hhu, hco⟩ := id hz
  obtain ⟨o1, o2, o3, o4, o5, o6, oso, oki, osr, opa, ohu, oco⟩ := id ho
  refine lv_aload_n hx hb dX8_turns_0 rfl (lv_at hl 0 rfl) ?_
  refine rg_5 X w.1 dX8_turns_1 ?_
  refine lv_iconst (v := (nI 0)) hx hb dX8_turns_4 (by decide) ?_
  refine lv_iload_n hx hb dX8_turns_5 rfl (lv_at hl 1 rfl) ?_
  refine ru_5 X w (by omega) dX8_turns_6 (fun z_6 H locs ez_6 w => ?_)
  have hz_6 : rSc z_6 (sN S 3 mo) := by rw [ez_6]; exact rw_mo hz mo
  refine lv_aload_n hx hb dX8_turns_7 rfl (lv_at hl 0 rfl) ?_
  refine rg_5 X w.1 dX8_turns_8 ?_
  refine lv_iconst (v := (nI 1)) hx hb dX8_turns_11 (by decide) ?_
  refine lv_aload_n hx hb dX8_turns_12 rfl (lv_at hl 0 rfl) ?_
  refine lv_iload_n hx hb dX8_turns_13 rfl (lv_at hl 1 rfl) ?_
  refine rc_p (rest := [.int (nI 1), .ref (g.2.2.2.2 5)]) X hml hl.1 (k_runs l g z_6 mo (sN S 3 mo) hz_6 (oSc_mo ho hmo) (by omega)) ok_runs wm_X8_120 ⟨Nat.le_of_ble_eq_true rfl, Nat.le_of_ble_eq_true rfl⟩ ⟨Nat.le_refl _, Nat.le_refl _⟩ w.1 rfl (Nat.le_of_ble_eq_true rfl) dX8_turns_14 (fun r_14 hr_14 => ?_)
  have h9 : r_14 = nI (sp_run S mo) := hr_14
  subst h9
  have d_14 := sp_run_lt S ho mo
  refine ru_5 X w (by omega) dX8_turns_17 (fun z_17 H locs ez_17 w => ?_)
  have hz_17 : rSc z_17 (sN (sN S 3 mo) 4 (sp_run S mo + 1)) := by rw [ez_17]; exact rw_sd hz_6 _
  have fz_17 : rFr [] [5] z z_17 := by rw [ez_17, ez_6]; exact rFr_tr (rFr_A _ (by decide)) (rFr_A _ (by decide))
  refine lv_iconst (v := (nI 0)) hx hb dX8_turns_18 (by decide) ?_
  refine lv_istore_n (lv' := [(2, .int (nI 0)), (0, .ref g.2.2.2.1), (1, .int (nI mo))]) hx hb dX8_turns_19 rfl hl (by decide) rfl (fun ls hl => ?_)
  have lp_20 : ∀ (n_20 : Nat) (i : Nat) (hi : i ≤ 5) (hm_20 : 5 - i < n_20) (ls : Array Slot) (zz : RS) (H : Heap) (locs : List Loc) (w : rW g A s zz H locs) (hzz : rSc zz (sp_tl S tg mo i)) (hfz : rFr [] [5] z zz), lv_has ls 3 [(0, .ref g.2.2.2.1), (1, .int (nI mo)), (2, .int (nI i))] → W p l e (ro_m 4 91) s m args below meth c H locs 0 0 (MQ below (va_Qv (fun z' => rSc z' (sp_turn S tg mo) ∧ rFr [] [5] z z') (rB g A) A) args s 0 0 A) (F0 m 20 ls []) := by
    intro n_20
    induction n_20 with
    | zero => intro i hi hm; exact absurd hm (Nat.not_lt_zero _)
    | succ n_20 ih_20 =>
      intro i hi hm_20 ls zz H locs w hzz hfz hl
      refine lv_iload_n hx hb dX8_turns_20 rfl (lv_at hl 2 rfl) ?_
      refine lv_iconst (v := (nI 5)) hx hb dX8_turns_21 (by decide) ?_
      refine n_icmp_ge (tgt := 76) hx hb dX8_turns_22 (by decide) (by omega) (by omega) (fun c_22_1 => ?_) (fun c_22_1 => ?_)
      · skip
        exact re_v X hr hk w (⟨tl_e hzz (by omega), hfz⟩) dX8_turns_76
      · skip
        refine lv_aload_n hx hb dX8_turns_25 rfl (lv_at hl 0 rfl) ?_
        refine rg_5 X w.1 dX8_turns_26 ?_
        refine lv_bipush (v := (nI 8)) hx hb dX8_turns_29 (by decide) ?_
        refine lv_iload_n hx hb dX8_turns_31 rfl (lv_at hl 2 rfl) ?_
        refine n_iadd hx hb dX8_turns_32 ?_
        refine lv_iload_n hx hb dX8_turns_33 rfl (lv_at hl 2 rfl) ?_
        refine jn (tgt := 69) (rest := [.int (nI (8 + i)), .ref (g.2.2.2.2 5)]) (fun v9 => ∃ x9 : Nat, x9 = (if i = 0 then 99999 else (if (S.1 1) ≤ i then 99999 else (if (pc_dn S i) = 0 then (sp_com S tg i (sp_run S mo)) else 99999))) ∧ v9 = nI x9) (fun v_ hv_ => ?_) (fun k_69 => ?_)
        · obtain ⟨x_69, ex_69, rfl⟩ := hv_
          refine ru_5 X w (by omega) dX8_turns_69 (fun z_69 H locs ez_69 w => ?_)
          refine lv_iinc (v := (nI (i + 1))) (lv' := [(2, .int (nI (i + 1))), (0, .ref g.2.2.2.1), (1, .int (nI mo))]) hx hb dX8_turns_70 hl (k := 2) rfl (by first | exact nI_1 _ | (rw [show Int32.ofInt 1 = nI 1 from by decide, nI_add])) (by decide) rfl (fun ls hl => ?_)
          refine lv_goto (tgt := 20) hx hb dX8_turns_73 (by decide) ?_
          exact ih_20 (i + 1) (by omega) (by omega) ls z_69 _ _ w (by rw [ez_69, ex_69]; exact tl_s hzz (by omega)) (by rw [ez_69]; exact rFr_tr hfz (rFr_A _ (by decide))) (lv_sub hl [1, 2, 0] rfl)
        · skip
          refine n_if_eq (tgt := 53) hx hb dX8_turns_34 (by decide) (by omega) (fun c_34_3 => ?_) (fun c_34_3 => ?_)
          · skip
            refine lv_ldc hx hb hown (hts _ wk_X8_73) dX8_turns_53 ?_
            refine tp_i (show (99999 : Int32) = (nI 99999) from by decide) ?_
            refine lv_goto (tgt := 69) hx hb dX8_turns_55 (by decide) ?_
            exact k_69 _ ⟨_, by simp only [if_pos c_34_3], rfl⟩
          · skip
            refine lv_iload_n hx hb dX8_turns_37 rfl (lv_at hl 2 rfl) ?_
            refine lv_aload_n hx hb dX8_turns_38 rfl (lv_at hl 0 rfl) ?_
            refine rg_1 X w.1 dX8_turns_39 ?_
            refine tp_i (show zz.1 1 = (nI (S.1 1)) from (rs_nf hzz :)) ?_
            refine n_icmp_ge (tgt := 53) hx hb dX8_turns_42 (by decide) (by omega) (by omega) (fun c_42_4 => ?_) (fun c_42_4 => ?_)
            · skip
              refine lv_ldc hx hb hown (hts _ wk_X8_73) dX8_turns_53 ?_
              refine tp_i (show (99999 : Int32) = (nI 99999) from by decide) ?_
              refine lv_goto (tgt := 69) hx hb dX8_turns_55 (by decide) ?_
              exact k_69 _ ⟨_, by simp only [if_neg c_34_3, if_pos c_42_4], rfl⟩
            · skip
              refine lv_aload_n hx hb dX8_turns_45 rfl (lv_at hl 0 rfl) ?_
              refine lv_iload_n hx hb dX8_turns_46 rfl (lv_at hl 2 rfl) ?_
              refine rc_p (rest := [.int (nI (8 + i)), .ref (g.2.2.2.2 5)]) X hml hl.1 (k_downS l g zz i (sp_tl S tg mo i) hzz (oSc_tl ho tg i hmo) (by omega)) ok_isDown wm_X8_103 ⟨Nat.le_of_ble_eq_true rfl, Nat.le_of_ble_eq_true rfl⟩ ⟨Nat.le_refl _, Nat.le_refl _⟩ w.1 rfl (Nat.le_of_ble_eq_true rfl) dX8_turns_47 (fun r_47 hr_47 => ?_)
              have h9 : r_47 = nI (pc_dn S i) := hr_47
              subst h9
              have d_47 := pc_dn01 S i
              refine n_if_eq (tgt := 58) hx hb dX8_turns_50 (by decide) (by omega) (fun c_50_5 => ?_) (fun c_50_5 => ?_)
              · skip
                refine lv_aload_n hx hb dX8_turns_58 rfl (lv_at hl 0 rfl) ?_
                refine lv_iload_n hx hb dX8_turns_59 rfl (lv_at hl 2 rfl) ?_
                refine lv_aload_n hx hb dX8_turns_60 rfl (lv_at hl 0 rfl) ?_
                refine rg_5 X w.1 dX8_turns_61 ?_
                refine lv_iconst (v := (nI 1)) hx hb dX8_turns_64 (by decide) ?_
                refine rn_5 X w.1 (by omega) dX8_turns_65 ?_
                refine tp_i (show zz.2.1 5 1 = (nI (sp_run S mo)) from tl_sd hzz) ?_
                refine rc_p (rest := [.int (nI (8 + i)), .ref (g.2.2.2.2 5)]) X hml hl.1 (k_comesTo l g zz i (sp_run S mo) (sp_tl S tg mo i) hzz (oSc_tl ho tg i hmo) tg ((hfz.1 6 (by decide)).trans htg) hg1 (by omega) (by omega)) ok_comesTo wm_X8_177 ⟨Nat.le_of_ble_eq_true rfl, Nat.le_of_ble_eq_true rfl⟩ ⟨Nat.le_refl _, Nat.le_refl _⟩ w.1 rfl (Nat.le_of_ble_eq_true rfl) dX8_turns_66 (fun r_66 hr_66 => ?_)
                have h9 : r_66 = nI (sp_com S tg i (sp_run S mo)) := by rw [hr_66, ev_com (ev_tl S tg mo i)]
                subst h9
                exact k_69 _ ⟨_, by simp only [if_neg c_34_3, if_neg c_42_4, if_pos c_50_5], rfl⟩
              · skip
                refine lv_ldc hx hb hown (hts _ wk_X8_73) dX8_turns_53 ?_
                refine tp_i (show (99999 : Int32) = (nI 99999) from by decide) ?_
                refine lv_goto (tgt := 69) hx hb dX8_turns_55 (by decide) ?_
                exact k_69 _ ⟨_, by simp only [if_neg c_34_3, if_neg c_42_4, if_neg c_50_5], rfl⟩
  exact lp_20 _ 0 (by omega) (Nat.lt_succ_self _) ls z_17 _ _ w (tl_0 tg hz_17) fz_17 (lv_sub hl [1, 2, 0] rfl)

theorem ok_meets : rOk yX8_meets cX8_meets 5 (some .int) 1 := ⟨wc_X8_meets, wi_X8_meets, ws_X8_meets, rfl, by decide, by decide, by decide +kernel⟩
set_option maxHeartbeats 4000000 in
set_option maxRecDepth 100000 in
theorem k_meets (l : Launch) (g : RG) (z : RS) (en : Nat) (S : Sc) (hz : rSc z S) (ho : oSc S) (hen : en ≤ 1000000) : rMp g l yX8_meets cX8_meets 5 (some .int) 2 42 [.int (nI en)] z (fun r => r = pc_fd (sp_mt S en)) := by
  refine rMp_in (by decide) rfl (Nat.le_of_ble_eq_true rfl) ?_
  intro p e s m args below meth c ls X hml hr hk hl w
  have hx := X.1
  have hb := X.2.1
  have hts := X.2.2.1
  have hown := X.2.2.2.1
  have hl : lv_has ls 5 [(0, .ref g.2.2.2.1), (1, .int (nI en))] := hl
  obtain ⟨hz0, hz1, hz4, hm0, hm1, hm2, hso, hki, hsr, hpa, hhu, hco⟩ := id hz
  obtain ⟨o1, o2, o3, o4, o5, o6, oso, oki, osr, opa, ohu, oco⟩ := id ho
  refine lv_bipush (v := (iZ (-4))) hx hb dX8_meets_0 (by decide) ?_
  refine lv_istore_n (lv' := [(2, .int (iZ (-4))), (0, .ref g.2.2.2.1), (1, .int (nI en))]) hx hb dX8_meets_2 rfl hl (by decide) rfl (fun ls hl => ?_)
  refine lv_iconst (v := (nI 1)) hx hb dX8_meets_3 (by decide) ?_
  refine lv_istore_n (lv' := [(3, .int (nI 1)), (2, .int (iZ (-4))), (0, .ref g.2.2.2.1), (1, .int (nI en))]) hx hb dX8_meets_4 rfl hl (by decide) rfl (fun ls hl => ?_)
  have lp_5 : ∀ (n_5 : Nat) (i : Nat) (hi : i ≤ S.1 1 - 1) (hm_5 : S.1 1 - i < n_5) (ls : Array Slot), lv_has ls 5 [(0, .ref g.2.2.2.1), (1, .int (nI en)), (2, .int (pc_fd (sp_mtL S en i))), (3, .int (nI (i + 1)))] → W p l e (ro_m 2 42) s m args below meth c s.heap [] 0 0 (MQ below (vp_Si (fun r => r = pc_fd (sp_mt S en))) args s 0 0 (fun _ => False)) (F0 m 5 ls []) := by
    intro n_5
    induction n_5 with
    | zero => intro i hi hm; exact absurd hm (Nat.not_lt_zero _)
    | succ n_5 ih_5 =>
      intro i hi hm_5 ls hl
      have q1 := sp_mtL_le S en i
      have q2 := oco (i + 1)
      have q3 := oco (sp_mtL S en i)
      refine lv_iload_n hx hb dX8_meets_5 rfl (lv_at hl 3 rfl) ?_
      refine lv_aload_n hx hb dX8_meets_6 rfl (lv_at hl 0 rfl) ?_
      refine rg_1 X w dX8_meets_7 ?_
      refine tp_i (show z.1 1 = (nI (S.1 1)) from hz1) ?_
      refine n_icmp_ge (tgt := 85) hx hb dX8_meets_10 (by decide) (by omega) (by omega) (fun c_10_1 => ?_) (fun c_10_1 => ?_)
      · skip
        refine lv_iload_n hx hb dX8_meets_85 rfl (lv_at hl 2 rfl) ?_
        exact re_p hx hb hr hk (by rw [show i = S.1 1 - 1 by omega]; rfl) dX8_meets_86
      · skip
        refine lv_aload_n hx hb dX8_meets_13 rfl (lv_at hl 0 rfl) ?_
        refine lv_iload_n hx hb dX8_meets_14 rfl (lv_at hl 3 rfl) ?_
        refine rc_p (rest := []) X hml hl.1 (k_downS l g z (i + 1) S hz ho (by omega)) ok_isDown wm_X8_103 ⟨Nat.le_of_ble_eq_true rfl, Nat.le_of_ble_eq_true rfl⟩ ⟨Nat.le_refl _, Nat.le_refl _⟩ w rfl (Nat.le_of_ble_eq_true rfl) dX8_meets_15 (fun r_15 hr_15 => ?_)
        subst hr_15
        have d_15 := pc_dn01 S (i + 1)
        refine jn (tgt := 66) (rest := []) (fun v9 => ∃ x9 : Nat, x9 = (if (pc_dn S (i + 1)) = 0 then (if en < (S.2.1 5 (i + 1)) then 0 else (if ((pc_fd (sp_mtL S en i))) = ((iZ (-4))) then 1 else (if (S.2.1 5 (sp_mtL S en i)) ≤ (S.2.1 5 (i + 1)) then 0 else 1))) else 0) ∧ v9 = nI x9) (fun v_ hv_ => ?_) (fun k_66 => ?_)
        · obtain ⟨x_66, ex_66, rfl⟩ := hv_
          have q9 : x_66 ≤ 1 := by rw [ex_66]; split; split; omega; split; omega; split <;> omega; omega
          refine lv_istore (lv' := [(4, .int (nI x_66)), (0, .ref g.2.2.2.1), (1, .int (nI en)), (2, .int (pc_fd (sp_mtL S en i))), (3, .int (nI (i + 1)))]) hx hb dX8_meets_66 hl (by decide) rfl (fun ls hl => ?_)
          refine lv_iload hx hb dX8_meets_68 (lv_at hl 0 rfl) ?_
          refine jn (tgt := 78) (rest := []) (fun v9 => v9 = (if x_66 = 0 then ((pc_fd (sp_mtL S en i))) else ((nI (i + 1))))) (fun x_78 ex_78 => ?_) (fun k_78 => ?_)
          · skip
            refine lv_istore_n (lv' := [(2, .int x_78), (4, .int (nI x_66)), (0, .ref g.2.2.2.1), (1, .int (nI en)), (3, .int (nI (i + 1)))]) hx hb dX8_meets_78 rfl hl (by decide) rfl (fun ls hl => ?_)
            refine lv_iinc (v := (nI (i + 1 + 1))) (lv' := [(3, .int (nI (i + 1 + 1))), (2, .int x_78), (4, .int (nI x_66)), (0, .ref g.2.2.2.1), (1, .int (nI en))]) hx hb dX8_meets_79 hl (k := 4) rfl (by first | exact nI_1 _ | (rw [show Int32.ofInt 1 = nI 1 from by decide, nI_add])) (by decide) rfl (fun ls hl => ?_)
            refine lv_goto (tgt := 5) hx hb dX8_meets_82 (by decide) ?_
            rw [mt_s (by omega) ex_66 ex_78] at hl
            exact ih_5 (i + 1) (by omega) (by omega) ls (lv_sub hl [3, 4, 1, 0] rfl)
          · skip
            refine n_if_eq (tgt := 77) hx hb dX8_meets_70 (by decide) (by omega) (fun c_70_4 => ?_) (fun c_70_4 => ?_)
            · skip
              refine lv_iload_n hx hb dX8_meets_77 rfl (lv_at hl 3 rfl) ?_
              exact k_78 _ (by simp only [if_pos c_70_4])
            · skip
              refine lv_iload_n hx hb dX8_meets_73 rfl (lv_at hl 4 rfl) ?_
              refine lv_goto (tgt := 78) hx hb dX8_meets_74 (by decide) ?_
              exact k_78 _ (by simp only [if_neg c_70_4])
        · skip
          refine n_if_ne (tgt := 65) hx hb dX8_meets_18 (by decide) (by omega) (fun c_18_5 => ?_) (fun c_18_5 => ?_)
          · skip
            refine lv_iconst (v := (nI 0)) hx hb dX8_meets_65 (by decide) ?_
            exact k_66 _ ⟨_, by simp only [if_neg c_18_5], rfl⟩
          · skip
            refine lv_aload_n hx hb dX8_meets_21 rfl (lv_at hl 0 rfl) ?_
            refine rg_5 X w dX8_meets_22 ?_
            refine lv_bipush (v := (nI 8)) hx hb dX8_meets_25 (by decide) ?_
            refine lv_iload_n hx hb dX8_meets_27 rfl (lv_at hl 3 rfl) ?_
            refine n_iadd hx hb dX8_meets_28 ?_
            refine rn_5 X w (by omega) dX8_meets_29 ?_
            refine tp_i (show z.2.1 5 (8 + (i + 1)) = (nI (S.2.1 5 (i + 1))) from hco (i + 1) (by omega)) ?_
            refine lv_iload_n hx hb dX8_meets_30 rfl (lv_at hl 1 rfl) ?_
            refine n_icmp_gt (tgt := 65) hx hb dX8_meets_31 (by decide) (by omega) (by omega) (fun c_31_6 => ?_) (fun c_31_6 => ?_)
            · skip
              refine lv_iconst (v := (nI 0)) hx hb dX8_meets_65 (by decide) ?_
              exact k_66 _ ⟨_, by simp only [if_pos c_18_5, if_pos c_31_6], rfl⟩
            · skip
              refine lv_iload_n hx hb dX8_meets_34 rfl (lv_at hl 2 rfl) ?_
              refine lv_bipush (v := (iZ (-4))) hx hb dX8_meets_35 (by decide) ?_
              refine lv_icmp_eq (tgt := 61) hx hb dX8_meets_37 (by decide) (fun c_37_7 => ?_) (fun c_37_7 => ?_)
              · skip
                refine lv_iconst (v := (nI 1)) hx hb dX8_meets_61 (by decide) ?_
                refine lv_goto (tgt := 66) hx hb dX8_meets_62 (by decide) ?_
                exact k_66 _ ⟨_, by simp only [if_pos c_18_5, if_neg c_31_6, if_pos c_37_7], rfl⟩
              · skip
                refine lv_aload_n hx hb dX8_meets_40 rfl (lv_at hl 0 rfl) ?_
                refine rg_5 X w dX8_meets_41 ?_
                refine lv_bipush (v := (nI 8)) hx hb dX8_meets_44 (by decide) ?_
                refine lv_iload_n hx hb dX8_meets_46 rfl (lv_at hl 3 rfl) ?_
                refine n_iadd hx hb dX8_meets_47 ?_
                refine rn_5 X w (by omega) dX8_meets_48 ?_
                refine tp_i (show z.2.1 5 (8 + (i + 1)) = (nI (S.2.1 5 (i + 1))) from hco (i + 1) (by omega)) ?_
                refine lv_aload_n hx hb dX8_meets_49 rfl (lv_at hl 0 rfl) ?_
                refine rg_5 X w dX8_meets_50 ?_
                refine lv_bipush (v := (nI 8)) hx hb dX8_meets_53 (by decide) ?_
                refine lv_iload_n hx hb dX8_meets_55 rfl (lv_at hl 2 rfl) ?_
                refine tp_i (pc_fd_n (by assumption) : (pc_fd (sp_mtL S en i)) = (nI (sp_mtL S en i))) ?_
                refine n_iadd hx hb dX8_meets_56 ?_
                refine rn_5 X w (by omega) dX8_meets_57 ?_
                refine tp_i (show z.2.1 5 (8 + (sp_mtL S en i)) = (nI (S.2.1 5 (sp_mtL S en i))) from hco (sp_mtL S en i) (by omega)) ?_
                refine n_icmp_ge (tgt := 65) hx hb dX8_meets_58 (by decide) (by omega) (by omega) (fun c_58_8 => ?_) (fun c_58_8 => ?_)
                · skip
                  refine lv_iconst (v := (nI 0)) hx hb dX8_meets_65 (by decide) ?_
                  exact k_66 _ ⟨_, by simp only [if_pos c_18_5, if_neg c_31_6, if_neg c_37_7, if_pos c_58_8], rfl⟩
                · skip
                  refine lv_iconst (v := (nI 1)) hx hb dX8_meets_61 (by decide) ?_
                  refine lv_goto (tgt := 66) hx hb dX8_meets_62 (by decide) ?_
                  exact k_66 _ ⟨_, by simp only [if_pos c_18_5, if_neg c_31_6, if_neg c_37_7, if_neg c_58_8], rfl⟩
  exact lp_5 _ 0 (Nat.zero_le _) (Nat.lt_succ_self _) ls (lv_sub hl [2, 3, 1, 0] rfl)

theorem ok_fights : rOk yX8_fights cX8_fights 5 (some .int) 0 := ⟨wc_X8_fights, wi_X8_fights, ws_X8_fights, rfl, by decide, by decide, by decide +kernel⟩
set_option maxHeartbeats 4000000 in
set_option maxRecDepth 100000 in
theorem k_fights (l : Launch) (g : RG) (z : RS)  (S : Sc) (hz : rSc z S) (ho : oSc S) (hmo : S.1 3 < 100000) : rMi g l yX8_fights cX8_fights 5 (some .int) 3 66 [] z (fun r z' => r = sp_fgA S ∧ rSc z' (sp_fgS S) ∧ rFr [] [5] z z') := by
  refine rMi_in (by decide) rfl (Nat.le_of_ble_eq_true rfl) ?_
  intro p e s m args below meth c A ls X hml hr hk hl w
  have hx := X.1
  have hb := X.2.1
  have hts := X.2.2.1
  have hown := X.2.2.2.1
  have hl : lv_has ls 5 [(0, .ref g.2.2.2.1)] := hl
  obtain ⟨hz0, hz1, hz4, hm0, hm1, hm2, hso, hki, hsr, hpa, hhu, hco⟩ := id hz
  obtain ⟨o1, o2, o3, o4, o5, o6, oso, oki, osr, opa, ohu, oco⟩ := id ho
  have q1 := ohu 0
  have u0 := sp_frc_le S ho 0
  refine lv_aload_n hx hb dX8_fights_0 rfl (lv_at hl 0 rfl) ?_
  refine rg_5 X w.1 dX8_fights_1 ?_
  refine lv_iconst (v := (nI 0)) hx hb dX8_fights_4 (by decide) ?_
  refine lv_dup2_11 hx hb dX8_fights_5 rfl rfl ?_
  refine rn_5 X w.1 (by omega) dX8_fights_6 ?_
  refine tp_i (show z.2.1 5 0 = (nI (S.1 3)) from hm0) ?_
  refine lv_iconst (v := (nI 1)) hx hb dX8_fights_7 (by decide) ?_
  refine n_iadd hx hb dX8_fights_8 ?_
  refine ru_5 X w (by omega) dX8_fights_9 (fun z_9 H locs ez_9 w => ?_)
  have hz_9 : rSc z_9 (sN S 3 (S.1 3 + 1)) := by rw [ez_9]; exact rw_mo hz _
  have ho_9 : oSc (sN S 3 (S.1 3 + 1)) := oSc_mo ho (by omega)
  refine lv_aload_n hx hb dX8_fights_10 rfl (lv_at hl 0 rfl) ?_
  refine lv_aload_n hx hb dX8_fights_11 rfl (lv_at hl 0 rfl) ?_
  refine rg_5 X w.1 dX8_fights_12 ?_
  refine lv_iconst (v := (nI 0)) hx hb dX8_fights_15 (by decide) ?_
  refine rn_5 X w.1 (by omega) dX8_fights_16 ?_
  refine tp_i (show z_9.2.1 5 0 = (nI (S.1 3 + 1)) from (rs_mo hz_9 :)) ?_
  refine rc_p (rest := []) X hml hl.1 (k_meets l g z_9 (S.1 3 + 1) (sN S 3 (S.1 3 + 1)) hz_9 ho_9 (by omega)) ok_meets wm_X8_180 ⟨Nat.le_of_ble_eq_true rfl, Nat.le_of_ble_eq_true rfl⟩ ⟨Nat.le_refl _, Nat.le_refl _⟩ w.1 rfl (Nat.le_of_ble_eq_true rfl) dX8_fights_17 (fun r_17 hr_17 => ?_)
  have h9 : r_17 = pc_fd (sp_mt S (S.1 3 + 1)) := by rw [hr_17]; exact congrArg pc_fd (eb_mtL (S' := sN S 3 (S.1 3 + 1)) (S := S) rfl _ _)
  subst h9
  refine lv_istore_n (lv' := [(1, .int (pc_fd (sp_mt S (S.1 3 + 1)))), (0, .ref g.2.2.2.1)]) hx hb dX8_fights_20 rfl hl (by decide) rfl (fun ls hl => ?_)
  refine lv_iload_n hx hb dX8_fights_21 rfl (lv_at hl 0 rfl) ?_
  refine lv_bipush (v := (iZ (-4))) hx hb dX8_fights_22 (by decide) ?_
  refine lv_icmp_ne (tgt := 30) hx hb dX8_fights_24 (by decide) (fun c_24_1 => ?_) (fun c_24_1 => ?_)
  · skip
    have hf9 := pc_fd_n (n := sp_mt S (S.1 3 + 1)) (by assumption)
    rw [hf9] at hl
    have qF : sp_mt S (S.1 3 + 1) ≤ S.1 1 - 1 := sp_mtL_le S (S.1 3 + 1) (S.1 1 - 1)
    have qF0 : ¬ sp_mt S (S.1 3 + 1) = 0 := fun q => (by assumption : ¬ pc_fd (sp_mt S (S.1 3 + 1)) = iZ (-4)) ((pc_fd_4 (by omega)).mpr q)
    obtain ⟨F, hF⟩ : ∃ F, F = sp_mt S (S.1 3 + 1) := ⟨_, rfl⟩
    rw [← hF] at hl qF qF0
    refine lv_iconst (v := (nI 0)) hx hb dX8_fights_30 (by decide) ?_
    refine lv_istore_n (lv' := [(2, .int (nI 0)), (1, .int (nI F)), (0, .ref g.2.2.2.1)]) hx hb dX8_fights_31 rfl hl (by decide) rfl (fun ls hl => ?_)
    refine lv_iconst (v := (nI 1)) hx hb dX8_fights_32 (by decide) ?_
    refine lv_istore_n (lv' := [(3, .int (nI 1)), (2, .int (nI 0)), (1, .int (nI F)), (0, .ref g.2.2.2.1)]) hx hb dX8_fights_33 rfl hl (by decide) rfl (fun ls hl => ?_)
    have lp_34 : ∀ (n_34 : Nat) (i : Nat) (hi : i ≤ S.1 1 - 1) (hm_34 : S.1 1 - i < n_34) (ls : Array Slot), lv_has ls 5 [(0, .ref g.2.2.2.1), (1, .int (nI F)), (2, .int (nI (sp_otL S (S.1 3 + 1) F i))), (3, .int (nI (i + 1)))] → W p l e (ro_m 3 66) s m args below meth c H locs 0 0 (MQ below (va_Qi (fun r z' => r = sp_fgA S ∧ rSc z' (sp_fgS S) ∧ rFr [] [5] z z') (rB g A) A) args s 0 0 A) (F0 m 34 ls []) := by
      intro n_34
      induction n_34 with
      | zero => intro i hi hm; exact absurd hm (Nat.not_lt_zero _)
      | succ n_34 ih_34 =>
        intro i hi hm_34 ls hl
        have q2 := oco (i + 1)
        have q3 := sp_otL_le S (S.1 3 + 1) F i
        refine lv_iload_n hx hb dX8_fights_34 rfl (lv_at hl 3 rfl) ?_
        refine lv_aload_n hx hb dX8_fights_35 rfl (lv_at hl 0 rfl) ?_
        refine rg_1 X w.1 dX8_fights_36 ?_
        refine tp_i (show z_9.1 1 = (nI (S.1 1)) from (rs_nf hz_9 :)) ?_
        refine n_icmp_ge (tgt := 87) hx hb dX8_fights_39 (by decide) (by omega) (by omega) (fun c_39_2 => ?_) (fun c_39_2 => ?_)
        · skip
          refine lv_bipush (v := (nI 8)) hx hb dX8_fights_87 (by decide) ?_
          refine lv_aload_n hx hb dX8_fights_89 rfl (lv_at hl 0 rfl) ?_
          refine lv_iconst (v := (nI 0)) hx hb dX8_fights_90 (by decide) ?_
          refine lv_aload_n hx hb dX8_fights_91 rfl (lv_at hl 0 rfl) ?_
          refine lv_iconst (v := (nI 0)) hx hb dX8_fights_92 (by decide) ?_
          refine rc_p (rest := [.int (nI 0), .ref g.2.2.2.1, .int (nI 8)]) X hml hl.1 (k_hurtS l g z_9 0 (sN S 3 (S.1 3 + 1)) hz_9 ho_9 (by omega)) ok_hurtOf wm_X8_91 ⟨Nat.le_of_ble_eq_true rfl, Nat.le_of_ble_eq_true rfl⟩ ⟨Nat.le_refl _, Nat.le_refl _⟩ w.1 rfl (Nat.le_of_ble_eq_true rfl) dX8_fights_93 (fun r_93 hr_93 => ?_)
          have h9 : r_93 = nI (S.2.1 4 0) := hr_93
          subst h9
          refine rc_p (rest := [.int (nI 8)]) X hml hl.1 (k_force l g z_9 0 (S.2.1 4 0) (sN S 3 (S.1 3 + 1)) hz_9 ho_9 (by omega) (ohu 0)) ok_force wm_X8_126 ⟨Nat.le_of_ble_eq_true rfl, Nat.le_of_ble_eq_true rfl⟩ ⟨Nat.le_refl _, Nat.le_refl _⟩ w.1 rfl (Nat.le_of_ble_eq_true rfl) dX8_fights_96 (fun r_96 hr_96 => ?_)
          have h9 : r_96 = nI (sp_frc S 0) := hr_96
          subst h9
          refine n_iadd hx hb dX8_fights_99 ?_
          refine lv_aload_n hx hb dX8_fights_100 rfl (lv_at hl 0 rfl) ?_
          refine lv_iload_n hx hb dX8_fights_101 rfl (lv_at hl 1 rfl) ?_
          refine lv_aload_n hx hb dX8_fights_102 rfl (lv_at hl 0 rfl) ?_
          refine lv_iload_n hx hb dX8_fights_103 rfl (lv_at hl 1 rfl) ?_
          refine rc_p (rest := [.int (nI F), .ref g.2.2.2.1, .int (nI (8 + (sp_frc S 0)))]) X hml hl.1 (k_hurtS l g z_9 F (sN S 3 (S.1 3 + 1)) hz_9 ho_9 (by omega)) ok_hurtOf wm_X8_91 ⟨Nat.le_of_ble_eq_true rfl, Nat.le_of_ble_eq_true rfl⟩ ⟨Nat.le_refl _, Nat.le_refl _⟩ w.1 rfl (Nat.le_of_ble_eq_true rfl) dX8_fights_104 (fun r_104 hr_104 => ?_)
          have h9 : r_104 = nI (S.2.1 4 F) := hr_104
          subst h9
          refine rc_p (rest := [.int (nI (8 + (sp_frc S 0)))]) X hml hl.1 (k_force l g z_9 F (S.2.1 4 F) (sN S 3 (S.1 3 + 1)) hz_9 ho_9 (by omega) (ohu F)) ok_force wm_X8_126 ⟨Nat.le_of_ble_eq_true rfl, Nat.le_of_ble_eq_true rfl⟩ ⟨Nat.le_refl _, Nat.le_refl _⟩ w.1 rfl (Nat.le_of_ble_eq_true rfl) dX8_fights_107 (fun r_107 hr_107 => ?_)
          have h9 : r_107 = nI (sp_frc S F) := hr_107
          subst h9
          have uF := sp_frc_le S ho F
          refine tp_i (iZ_n (sp_frc S F)).symm ?_
          refine tp_i2 (iZ_n (8 + (sp_frc S 0))).symm ?_
          refine z_isub hx hb dX8_fights_110 ?_
          refine lv_iconst (v := (nI 2)) hx hb dX8_fights_111 (by decide) ?_
          refine lv_iload_n hx hb dX8_fights_112 rfl (lv_at hl 2 rfl) ?_
          refine n_imul hx hb dX8_fights_113 ?_
          refine tp_i (iZ_n (2 * (sp_otL S (S.1 3 + 1) F i))).symm ?_
          refine z_isub hx hb dX8_fights_114 ?_
          refine rc_s (rest := []) ⟨X.1, X.2.1, X.2.2.1, X.2.2.2.1⟩ hml hl.1 (k_between l (((((8 + (sp_frc S 0) : Nat) : Int)) - (((sp_frc S F : Nat) : Int))) - (((2 * (sp_otL S (S.1 3 + 1) F i) : Nat) : Int))) (by omega) (by omega)) ok_between wm_X8_183 ⟨Nat.le_of_ble_eq_true rfl, Nat.le_of_ble_eq_true rfl⟩ ⟨Nat.le_refl _, Nat.le_refl _⟩ rfl (Nat.le_of_ble_eq_true rfl) dX8_fights_115 (fun r_115 hr_115 => ?_)
          have h9 : r_115 = nI (sp_odds S F) := by rw [hr_115]; unfold sp_odds; rw [show i = S.1 1 - 1 by omega]; rfl
          subst h9
          refine lv_istore_n (lv' := [(3, .int (nI (sp_odds S F))), (0, .ref g.2.2.2.1), (1, .int (nI F)), (2, .int (nI (sp_otL S (S.1 3 + 1) F i)))]) hx hb dX8_fights_118 rfl hl (by decide) rfl (fun ls hl => ?_)
          refine lv_aload_n hx hb dX8_fights_119 rfl (lv_at hl 1 rfl) ?_
          refine rg_5 X w.1 dX8_fights_120 ?_
          refine lv_iconst (v := (nI 2)) hx hb dX8_fights_123 (by decide) ?_
          refine lv_aload_n hx hb dX8_fights_124 rfl (lv_at hl 1 rfl) ?_
          refine rg_5 X w.1 dX8_fights_125 ?_
          refine lv_iconst (v := (nI 2)) hx hb dX8_fights_128 (by decide) ?_
          refine rn_5 X w.1 (by omega) dX8_fights_129 ?_
          refine tp_i (show z_9.2.1 5 2 = S.2.2 from (rs_dr hz_9 :)) ?_
          refine lv_ldc hx hb hown (hts _ wk_X8_186) dX8_fights_130 ?_
          refine tp_i (show (1103515245 : Int32) = (nI 1103515245) from by decide) ?_
          refine lv_imul hx hb dX8_fights_132 ?_
          refine lv_sipush (v := (nI 12345)) hx hb dX8_fights_133 (by decide) ?_
          refine lv_iadd hx hb dX8_fights_136 ?_
          refine lv_ldc hx hb hown (hts _ wk_X8_187) dX8_fights_137 ?_
          refine tp_i (show (2147483647 : Int32) = (nI 2147483647) from by decide) ?_
          refine lv_iand hx hb dX8_fights_139 ?_
          refine tp_i (rfl : (S.2.2 * (nI 1103515245)) + (nI 12345) &&& (nI 2147483647) = (pc_nx S.2.2)) ?_
          refine ru_5 X w (by omega) dX8_fights_140 (fun z_140 H locs ez_140 w => ?_)
          have hz_140 : rSc z_140 (sD (sN S 3 (S.1 3 + 1)) (pc_nx S.2.2)) := by rw [ez_140]; exact rw_dr hz_9 _
          refine lv_iload_n hx hb dX8_fights_141 rfl (lv_at hl 0 rfl) ?_
          refine lv_aload_n hx hb dX8_fights_142 rfl (lv_at hl 1 rfl) ?_
          refine rg_5 X w.1 dX8_fights_143 ?_
          refine lv_iconst (v := (nI 2)) hx hb dX8_fights_146 (by decide) ?_
          refine rn_5 X w.1 (by omega) dX8_fights_147 ?_
          refine tp_i (show z_140.2.1 5 2 = (pc_nx S.2.2) from (rs_dr hz_140 :)) ?_
          refine lv_ldc hx hb hown (hts _ wk_X8_188) dX8_fights_148 ?_
          refine tp_i (show (65536 : Int32) = (nI 65536) from by decide) ?_
          refine lv_idiv hx hb dX8_fights_150 (by decide) ?_
          refine lv_bipush (v := (nI 16)) hx hb dX8_fights_151 (by decide) ?_
          refine lv_irem hx hb dX8_fights_153 (by decide) ?_
          refine tp_i (rfl : (pc_nx S.2.2) / (nI 65536) - (pc_nx S.2.2) / (nI 65536) / (nI 16) * (nI 16) = (pc_d16 (pc_nx S.2.2))) ?_
          refine jn (tgt := 162) (rest := []) (fun v9 => ∃ x9 : Nat, x9 = (if ((nI (sp_odds S F))) ≤ ((pc_d16 (pc_nx S.2.2))) then 0 else F) ∧ v9 = nI x9) (fun v_ hv_ => ?_) (fun k_162 => ?_)
          · obtain ⟨x_162, ex_162, rfl⟩ := hv_
            have q9 : x_162 < 5 := by rw [ex_162]; split <;> omega
            have q8 : x_162 = sp_who S F := ex_162
            refine lv_istore (lv' := [(4, .int (nI x_162)), (3, .int (nI (sp_odds S F))), (0, .ref g.2.2.2.1), (1, .int (nI F)), (2, .int (nI (sp_otL S (S.1 3 + 1) F i)))]) hx hb dX8_fights_162 hl (by decide) rfl (fun ls hl => ?_)
            refine lv_aload_n hx hb dX8_fights_164 rfl (lv_at hl 2 rfl) ?_
            refine rg_5 X w.1 dX8_fights_165 ?_
            refine lv_iconst (v := (nI 3)) hx hb dX8_fights_168 (by decide) ?_
            refine lv_iload hx hb dX8_fights_169 (lv_at hl 0 rfl) ?_
            refine n_iadd hx hb dX8_fights_171 ?_
            refine lv_dup2_11 hx hb dX8_fights_172 rfl rfl ?_
            refine rn_5 X w.1 (by omega) dX8_fights_173 ?_
            refine tp_i (show z_140.2.1 5 (3 + x_162) = (nI (S.2.1 4 x_162)) from (rs_hu hz_140 x_162 (by omega) :)) ?_
            refine lv_iconst (v := (nI 1)) hx hb dX8_fights_174 (by decide) ?_
            refine n_iadd hx hb dX8_fights_175 ?_
            refine ru_5 X w (by omega) dX8_fights_176 (fun z_176 H locs ez_176 w => ?_)
            refine lv_iload hx hb dX8_fights_177 (lv_at hl 0 rfl) ?_
            exact re_i X hr hk w (⟨by unfold sp_fgA; rw [← hF, if_neg qF0, q8], by unfold sp_fgS; rw [← hF, if_neg qF0, ez_176, ← q8]; exact rw_hu hz_140 _ q9 _, by rw [ez_176, ez_140, ez_9]; exact rFr_tr (rFr_tr (rFr_A _ (by decide)) (rFr_A _ (by decide))) (rFr_A _ (by decide))⟩) dX8_fights_179
          · skip
            refine tp_i (rfl : (pc_d16 (pc_nx S.2.2)) = (pc_d16 (pc_nx S.2.2))) ?_
            refine lv_icmp_le (tgt := 161) hx hb dX8_fights_154 (by decide) (fun c_154_4 => ?_) (fun c_154_4 => ?_)
            · skip
              refine lv_iconst (v := (nI 0)) hx hb dX8_fights_161 (by decide) ?_
              exact k_162 _ ⟨_, by simp only [if_pos c_154_4], rfl⟩
            · skip
              refine lv_iload_n hx hb dX8_fights_157 rfl (lv_at hl 2 rfl) ?_
              refine lv_goto (tgt := 162) hx hb dX8_fights_158 (by decide) ?_
              exact k_162 _ ⟨_, by simp only [if_neg c_154_4], rfl⟩
        · skip
          refine lv_iload_n hx hb dX8_fights_42 rfl (lv_at hl 2 rfl) ?_
          refine lv_iload_n hx hb dX8_fights_43 rfl (lv_at hl 3 rfl) ?_
          refine lv_iload_n hx hb dX8_fights_44 rfl (lv_at hl 1 rfl) ?_
          refine jn (tgt := 79) (rest := [.int (nI (sp_otL S (S.1 3 + 1) F i))]) (fun v9 => ∃ x9 : Nat, x9 = (if (i + 1) = F then 0 else (if (pc_dn S (i + 1)) = 0 then (if (S.1 3 + 1) < (S.2.1 5 (i + 1)) then 0 else 1) else 0)) ∧ v9 = nI x9) (fun v_ hv_ => ?_) (fun k_79 => ?_)
          · obtain ⟨x_79, ex_79, rfl⟩ := hv_
            refine n_iadd hx hb dX8_fights_79 ?_
            refine lv_istore_n (lv' := [(2, .int (nI ((sp_otL S (S.1 3 + 1) F i) + x_79))), (0, .ref g.2.2.2.1), (1, .int (nI F)), (3, .int (nI (i + 1)))]) hx hb dX8_fights_80 rfl hl (by decide) rfl (fun ls hl => ?_)
            refine lv_iinc (v := (nI (i + 1 + 1))) (lv' := [(3, .int (nI (i + 1 + 1))), (2, .int (nI ((sp_otL S (S.1 3 + 1) F i) + x_79))), (0, .ref g.2.2.2.1), (1, .int (nI F))]) hx hb dX8_fights_81 hl (k := 3) rfl (by first | exact nI_1 _ | (rw [show Int32.ofInt 1 = nI 1 from by decide, nI_add])) (by decide) rfl (fun ls hl => ?_)
            refine lv_goto (tgt := 34) hx hb dX8_fights_84 (by decide) ?_
            subst ex_79
            exact ih_34 (i + 1) (by omega) (by omega) ls (lv_sub hl [2, 3, 1, 0] rfl)
          · skip
            refine n_icmp_eq (tgt := 78) hx hb dX8_fights_45 (by decide) (by omega) (by omega) (fun c_45_6 => ?_) (fun c_45_6 => ?_)
            · skip
              refine lv_iconst (v := (nI 0)) hx hb dX8_fights_78 (by decide) ?_
              exact k_79 _ ⟨_, by simp only [if_pos c_45_6], rfl⟩
            · skip
              refine lv_aload_n hx hb dX8_fights_48 rfl (lv_at hl 0 rfl) ?_
              refine lv_iload_n hx hb dX8_fights_49 rfl (lv_at hl 3 rfl) ?_
              refine rc_p (rest := [.int (nI (sp_otL S (S.1 3 + 1) F i))]) X hml hl.1 (k_downS l g z_9 (i + 1) (sN S 3 (S.1 3 + 1)) hz_9 ho_9 (by omega)) ok_isDown wm_X8_103 ⟨Nat.le_of_ble_eq_true rfl, Nat.le_of_ble_eq_true rfl⟩ ⟨Nat.le_refl _, Nat.le_refl _⟩ w.1 rfl (Nat.le_of_ble_eq_true rfl) dX8_fights_50 (fun r_50 hr_50 => ?_)
              have h9 : r_50 = nI (pc_dn S (i + 1)) := hr_50
              subst h9
              have d_50 := pc_dn01 S (i + 1)
              refine n_if_ne (tgt := 78) hx hb dX8_fights_53 (by decide) (by omega) (fun c_53_7 => ?_) (fun c_53_7 => ?_)
              · skip
                refine lv_iconst (v := (nI 0)) hx hb dX8_fights_78 (by decide) ?_
                exact k_79 _ ⟨_, by simp only [if_neg c_45_6, if_neg c_53_7], rfl⟩
              · skip
                refine lv_aload_n hx hb dX8_fights_56 rfl (lv_at hl 0 rfl) ?_
                refine rg_5 X w.1 dX8_fights_57 ?_
                refine lv_bipush (v := (nI 8)) hx hb dX8_fights_60 (by decide) ?_
                refine lv_iload_n hx hb dX8_fights_62 rfl (lv_at hl 3 rfl) ?_
                refine n_iadd hx hb dX8_fights_63 ?_
                refine rn_5 X w.1 (by omega) dX8_fights_64 ?_
                refine tp_i (show z_9.2.1 5 (8 + (i + 1)) = (nI (S.2.1 5 (i + 1))) from (rs_co hz_9 (i + 1) (by omega) :)) ?_
                refine lv_aload_n hx hb dX8_fights_65 rfl (lv_at hl 0 rfl) ?_
                refine rg_5 X w.1 dX8_fights_66 ?_
                refine lv_iconst (v := (nI 0)) hx hb dX8_fights_69 (by decide) ?_
                refine rn_5 X w.1 (by omega) dX8_fights_70 ?_
                refine tp_i (show z_9.2.1 5 0 = (nI (S.1 3 + 1)) from (rs_mo hz_9 :)) ?_
                refine n_icmp_gt (tgt := 78) hx hb dX8_fights_71 (by decide) (by omega) (by omega) (fun c_71_8 => ?_) (fun c_71_8 => ?_)
                · skip
                  refine lv_iconst (v := (nI 0)) hx hb dX8_fights_78 (by decide) ?_
                  exact k_79 _ ⟨_, by simp only [if_neg c_45_6, if_pos c_53_7, if_pos c_71_8], rfl⟩
                · skip
                  refine lv_iconst (v := (nI 1)) hx hb dX8_fights_74 (by decide) ?_
                  refine lv_goto (tgt := 79) hx hb dX8_fights_75 (by decide) ?_
                  exact k_79 _ ⟨_, by simp only [if_neg c_45_6, if_pos c_53_7, if_neg c_71_8], rfl⟩
    exact lp_34 _ 0 (Nat.zero_le _) (Nat.lt_succ_self _) ls (lv_sub hl [3, 2, 1, 0] rfl)
  · skip
    refine lv_bipush (v := (iZ (-4))) hx hb dX8_fights_27 (by decide) ?_
    exact re_i X hr hk w (⟨by unfold sp_fgA; rw [if_pos ((pc_fd_4 (by have := sp_mtL_le S (S.1 3 + 1) (S.1 1 - 1); unfold sp_mt; omega)).mp (by assumption))], by unfold sp_fgS; rw [if_pos ((pc_fd_4 (by have := sp_mtL_le S (S.1 3 + 1) (S.1 1 - 1); unfold sp_mt; omega)).mp (by assumption))]; exact hz_9, by rw [ez_9]; exact rFr_A _ (by decide)⟩) dX8_fights_29
end
section
/-! rows that are filled; he runs on until he TURNS; what is kept of the past -/
/-- f holds g from a on, i of them; else h -/
def fl (f g h : Nat → Int32) (a i : Nat) : Prop := ∀ q, f q = if a ≤ q ∧ q < a + i then g (q - a) else h q
theorem fl_0 (g h : Nat → Int32) (a : Nat) : fl h g h a 0 := fun q => by rw [if_neg (by omega)]
theorem fl_s {f g h : Nat → Int32} {a i : Nat} (w : fl f g h a i) {v : Int32} (hv : v = g i) : fl (upd f (a + i) v) g h a (i + 1) := by
  intro q
  by_cases e : q = a + i
  · subst e
    rw [pk_us, if_pos (by omega), hv, Nat.add_sub_cancel_left]
  · rw [pk_un e, w q]
    by_cases b : a ≤ q ∧ q < a + i
    · rw [if_pos b, if_pos (by omega)]
    · rw [if_neg b, if_neg (by omega)]
theorem fl_s0 {f g h : Nat → Int32} {i : Nat} (w : fl f g h 0 i) {v : Int32} (hv : v = g i) : fl (upd f i v) g h 0 (i + 1) := by
  have := fl_s w hv
  rw [Nat.zero_add] at this
  exact this
theorem fl_in {f g h : Nat → Int32} {a i : Nat} (w : fl f g h a i) {k : Nat} (hk : k < i) : f (a + k) = g k := by
  rw [w, if_pos (by omega), Nat.add_sub_cancel_left]
theorem fl_in0 {f g h : Nat → Int32} {i : Nat} (w : fl f g h 0 i) {k : Nat} (hk : k < i) : f k = g k := by
  rw [w, if_pos (by omega), Nat.sub_zero]
theorem fl_out {f g h : Nat → Int32} {a i : Nat} (w : fl f g h a i) {k : Nat} (hk : k < a ∨ a + i ≤ k) : f k = h k := by
  rw [w, if_neg (by omega)]
theorem rSc_fr {is ks : List Nat} {z z' : RS} {S : Sc} (h : rFr is ks z z') (h0 : 0 ∉ is) (h1 : 1 ∉ is) (h4 : 4 ∉ is) (a2 : 2 ∉ ks) (a3 : 3 ∉ ks) (a5 : 5 ∉ ks) (hz : rSc z S) : rSc z' S := by
  unfold rSc
  rw [h.1 0 h0, h.1 1 h1, h.1 4 h4, h.2.1 2 a2, h.2.1 3 a3, h.2.1 5 a5]
  exact hz
/-- the now-row of a scene -/
def rNw (r : Nat → Int32) (S : Sc) : Prop := r 0 = nI (S.1 3) ∧ r 1 = pc_sd (S.1 4) ∧ r 2 = S.2.2 ∧ (∀ f, f < 5 → r (3 + f) = nI (S.2.1 4 f)) ∧ (∀ f, f < 5 → r (8 + f) = nI (S.2.1 5 f))
theorem rSc_nw {z : RS} {S : Sc} (h : rSc z S) : rNw (z.2.1 5) S := ⟨h.2.2.2.1, h.2.2.2.2.1, h.2.2.2.2.2.1, h.2.2.2.2.2.2.2.2.2.2.1, h.2.2.2.2.2.2.2.2.2.2.2⟩
/-- the scene S with THE MOMENT, where he stands, THE DRAW, HURTS and when they come of P -/
def sc_at (S P : Sc) : Sc := (va_up (va_up S.1 3 (P.1 3)) 4 (P.1 4), va_up (va_up S.2.1 4 (P.2.1 4)) 5 (P.2.1 5), P.2.2)
theorem rSc_at {z z' : RS} {S P : Sc} (hz : rSc z S) {is ks : List Nat} (h : rFr is ks z z') (h0 : 0 ∉ is) (h1 : 1 ∉ is) (h4 : 4 ∉ is) (a2 : 2 ∉ ks) (a3 : 3 ∉ ks) (hn : rNw (z'.2.1 5) P) : rSc z' (sc_at S P) := by
  obtain ⟨z0, z1, z2, z3, z4, z5, z6, z7, z8, z9, z10, z11⟩ := hz
  obtain ⟨n0, n1, n2, n3, n4⟩ := hn
  exact ⟨(h.1 0 h0).trans z0, (h.1 1 h1).trans z1, (h.1 4 h4).trans z2, n0, n1, n2, fun c hc => (congrFun (h.2.1 2 a2) c).trans (z6 c hc), fun f hf => (congrFun (h.2.1 3 a3) _).trans (z7 f hf), fun f hf => (congrFun (h.2.1 3 a3) _).trans (z8 f hf), fun f hf => (congrFun (h.2.1 3 a3) _).trans (z9 f hf), n3, n4⟩
theorem rNw_of {r r' : Nat → Int32} {S : Sc} (h : rNw r S) (e : ∀ k, k < 13 → r' k = r k) : rNw r' S :=
  ⟨(e 0 (by omega)).trans h.1, (e 1 (by omega)).trans h.2.1, (e 2 (by omega)).trans h.2.2.1, fun f hf => (e _ (by omega)).trans (h.2.2.2.1 f hf), fun f hf => (e _ (by omega)).trans (h.2.2.2.2 f hf)⟩
/-- when he TURNS, who runs on from m: n MOMENTS more, or CAUGHT -/
def sp_tm (S : Sc) (tg : Nat) : Nat → Nat → Nat
  | 0, m => m
  | n + 1, m => if sp_ct S tg (m + 1) = 0 then sp_tm S tg n (m + 1) else m + 1
theorem sp_tm_le (S : Sc) (tg : Nat) : ∀ n m, sp_tm S tg n m ≤ m + n
  | 0, m => Nat.le_refl _
  | n + 1, m => by
    have h := sp_tm_le S tg n (m + 1)
    exact it_le (by omega) (by omega)
theorem sN_mo (S : Sc) (a b : Nat) : sN (sN S 3 a) 3 b = sN S 3 b := by
  show (va_up (va_up S.1 3 a) 3 b, S.2) = _
  rw [bx_uu]
theorem ev_cm {S' S : Sc} (h : eqv S' S) (tg m f : Nat) : sp_cm S' tg m f = sp_cm S tg m f := by
  unfold sp_cm
  rw [h.2.1, ev_dn h, ev_com h, ev_run h]
theorem turn_mo (S : Sc) (tg a m : Nat) : sp_turn (sN S 3 a) tg m = sp_turn S tg m := by
  show (va_up (va_up (va_up S.1 3 a) 3 m) 4 (sp_run (sN S 3 a) m + 1), va_up S.2.1 5 (sp_cm (sN S 3 a) tg m), S.2.2) = _
  rw [bx_uu, ev_run (ev_mo S a), show sp_cm (sN S 3 a) tg m = sp_cm S tg m from funext (ev_cm (ev_mo S a) tg m)]
  rfl
theorem td_n {S : Sc} (h : S.1 4 = 0) : pc_td S = 0 := by
  unfold pc_td
  rw [if_pos h]
theorem td_y {S : Sc} (h : ¬ S.1 4 = 0) : pc_td S = 1 := by
  unfold pc_td
  rw [if_neg h]
/-- u kept now-rows -/
def rPa (z : RS) (u : Nat) (P : Nat → Nat → Int32) : Prop := z.1 16 = nI u ∧ u ≤ 8 ∧ ∀ j, j < u → ∀ k, k < 13 → z.2.1 15 (13 * j + k) = P j k
/-- one more is kept; of eight the oldest goes -/
def pa_put (u : Nat) (P : Nat → Nat → Int32) (r : Nat → Int32) : Nat → Nat → Int32 := fun j => if u = 8 then (if j = 7 then r else P (j + 1)) else (if j = u then r else P j)
def pa_n (u : Nat) : Nat := if u = 8 then 8 else u + 1
theorem pa_8 {z z1 z2 : RS} {P : Nat → Nat → Int32} (h : rPa z 8 P) (h1 : fl (z1.2.1 15) (fun q => z.2.1 15 (q + 13)) (z.2.1 15) 0 91) (h2 : fl (z2.2.1 15) (z.2.1 5) (z1.2.1 15) (13 * 7) 13) (hu : z2.1 16 = nI 8) : rPa z2 (pa_n 8) (pa_put 8 P (z.2.1 5)) := by
  refine ⟨hu, by decide, fun j hj k hk => ?_⟩
  have hj : j < 8 := hj
  show _ = (if (8 : Nat) = 8 then (if j = 7 then z.2.1 5 else P (j + 1)) else (if j = 8 then z.2.1 5 else P j)) k
  rw [if_pos rfl]
  by_cases q : j = 7
  · subst q
    rw [if_pos rfl, fl_in h2 hk]
  · rw [if_neg q, fl_out h2 (by omega), fl_in0 h1 (by omega), show 13 * j + k + 13 = 13 * (j + 1) + k by omega]
    exact h.2.2 (j + 1) (by omega) k hk
theorem pa_u {z z2 : RS} {u : Nat} {P : Nat → Nat → Int32} (h : rPa z u P) (h8 : ¬ u = 8) (h2 : fl (z2.2.1 15) (z.2.1 5) (z.2.1 15) (13 * u) 13) (hu : z2.1 16 = nI (u + 1)) : rPa z2 (pa_n u) (pa_put u P (z.2.1 5)) := by
  have h3 := h.2.1
  have e : pa_n u = u + 1 := if_neg h8
  rw [e]
  refine ⟨hu, by omega, fun j hj k hk => ?_⟩
  show _ = (if u = 8 then (if j = 7 then z.2.1 5 else P (j + 1)) else (if j = u then z.2.1 5 else P j)) k
  rw [if_neg h8]
  by_cases q : j = u
  · subst q
    rw [if_pos rfl, fl_in h2 hk]
  · rw [if_neg q, fl_out h2 (by omega)]
    exact h.2.2 j (by omega) k hk
theorem sN_id (S : Sc) : sN S 3 (S.1 3) = S := by
  have h : va_up S.1 3 (S.1 3) = S.1 := by
    funext j
    unfold va_up
    split
    · next e => rw [e]
    · rfl
  show (va_up S.1 3 (S.1 3), S.2) = S
  rw [h]
end
section
theorem ok_asides : rOk yX8_asides cX8_asides 2 none 0 := ⟨wc_X8_asides, wi_X8_asides, ws_X8_asides, rfl, by decide, by decide, by decide +kernel⟩
set_option maxHeartbeats 4000000 in
set_option maxRecDepth 100000 in
theorem k_asides (l : Launch) (g : RG) (z : RS)   : rMv g l yX8_asides cX8_asides 2 none 0 0 [] z (fun z' => (∀ k, k < 13 → z'.2.1 17 k = z.2.1 5 k) ∧ rFr [] [17] z z') := by
  refine rMv_in (by decide) rfl (Nat.le_of_ble_eq_true rfl) ?_
  intro p e s m args below meth c A ls X hml hr hk hl w
  have hx := X.1
  have hb := X.2.1
  have hts := X.2.2.1
  have hown := X.2.2.2.1
  have hl : lv_has ls 2 [(0, .ref g.2.2.2.1)] := hl
  refine lv_iconst (v := (nI 0)) hx hb dX8_asides_0 (by decide) ?_
  refine lv_istore_n (lv' := [(1, .int (nI 0)), (0, .ref g.2.2.2.1)]) hx hb dX8_asides_1 rfl hl (by decide) rfl (fun ls hl => ?_)
  have lp_2 : ∀ (n_2 : Nat) (i : Nat) (hi : i ≤ 13) (hm_2 : 13 - i < n_2) (ls : Array Slot) (zz : RS) (H : Heap) (locs : List Loc) (w : rW g A s zz H locs) (hfl : fl (zz.2.1 17) (z.2.1 5) (z.2.1 17) 0 i) (hfz : rFr [] [17] z zz), lv_has ls 2 [(0, .ref g.2.2.2.1), (1, .int (nI i))] → W p l e (ro_m 0 0) s m args below meth c H locs 0 0 (MQ below (va_Qv (fun z' => (∀ k, k < 13 → z'.2.1 17 k = z.2.1 5 k) ∧ rFr [] [17] z z') (rB g A) A) args s 0 0 A) (F0 m 2 ls []) := by
    intro n_2
    induction n_2 with
    | zero => intro i hi hm; exact absurd hm (Nat.not_lt_zero _)
    | succ n_2 ih_2 =>
      intro i hi hm_2 ls zz H locs w hfl hfz hl
      refine lv_iload_n hx hb dX8_asides_2 rfl (lv_at hl 1 rfl) ?_
      refine lv_bipush (v := (nI 13)) hx hb dX8_asides_3 (by decide) ?_
      refine n_icmp_ge (tgt := 26) hx hb dX8_asides_5 (by decide) (by omega) (by omega) (fun c_5_1 => ?_) (fun c_5_1 => ?_)
      · skip
        exact re_v X hr hk w (⟨fun k hk => fl_in0 hfl (by omega), hfz⟩) dX8_asides_26
      · skip
        refine lv_aload_n hx hb dX8_asides_8 rfl (lv_at hl 0 rfl) ?_
        refine rg_17 X w.1 dX8_asides_9 ?_
        refine lv_iload_n hx hb dX8_asides_12 rfl (lv_at hl 1 rfl) ?_
        refine lv_aload_n hx hb dX8_asides_13 rfl (lv_at hl 0 rfl) ?_
        refine rg_5 X w.1 dX8_asides_14 ?_
        refine lv_iload_n hx hb dX8_asides_17 rfl (lv_at hl 1 rfl) ?_
        refine rn_5 X w.1 (by omega) dX8_asides_18 ?_
        refine ru_17 X w (by omega) dX8_asides_19 (fun z_19 H locs ez_19 w => ?_)
        refine lv_iinc (v := (nI (i + 1))) (lv' := [(1, .int (nI (i + 1))), (0, .ref g.2.2.2.1)]) hx hb dX8_asides_20 hl (k := 1) rfl (by first | exact nI_1 _ | (rw [show Int32.ofInt 1 = nI 1 from by decide, nI_add])) (by decide) rfl (fun ls hl => ?_)
        refine lv_goto (tgt := 2) hx hb dX8_asides_23 (by decide) ?_
        exact ih_2 (i + 1) (by omega) (by omega) ls z_19 _ _ w (by rw [ez_19]; exact fl_s0 hfl (congrFun (hfz.2.1 5 (by decide)) i)) (by rw [ez_19]; exact rFr_tr hfz (rFr_A _ (by decide))) (lv_sub hl [1, 0] rfl)
  exact lp_2 _ 0 (by omega) (Nat.lt_succ_self _) ls z _ _ w (fl_0 _ _ _) (rFr_rf _ _ _) (lv_sub hl [1, 0] rfl)

theorem ok_backs : rOk yX8_backs cX8_backs 2 none 0 := ⟨wc_X8_backs, wi_X8_backs, ws_X8_backs, rfl, by decide, by decide, by decide +kernel⟩
set_option maxHeartbeats 4000000 in
set_option maxRecDepth 100000 in
theorem k_backs (l : Launch) (g : RG) (z : RS)   : rMv g l yX8_backs cX8_backs 2 none 0 0 [] z (fun z' => (∀ k, k < 13 → z'.2.1 5 k = z.2.1 17 k) ∧ rFr [] [5] z z') := by
  refine rMv_in (by decide) rfl (Nat.le_of_ble_eq_true rfl) ?_
  intro p e s m args below meth c A ls X hml hr hk hl w
  have hx := X.1
  have hb := X.2.1
  have hts := X.2.2.1
  have hown := X.2.2.2.1
  have hl : lv_has ls 2 [(0, .ref g.2.2.2.1)] := hl
  refine lv_iconst (v := (nI 0)) hx hb dX8_backs_0 (by decide) ?_
  refine lv_istore_n (lv' := [(1, .int (nI 0)), (0, .ref g.2.2.2.1)]) hx hb dX8_backs_1 rfl hl (by decide) rfl (fun ls hl => ?_)
  have lp_2 : ∀ (n_2 : Nat) (i : Nat) (hi : i ≤ 13) (hm_2 : 13 - i < n_2) (ls : Array Slot) (zz : RS) (H : Heap) (locs : List Loc) (w : rW g A s zz H locs) (hfl : fl (zz.2.1 5) (z.2.1 17) (z.2.1 5) 0 i) (hfz : rFr [] [5] z zz), lv_has ls 2 [(0, .ref g.2.2.2.1), (1, .int (nI i))] → W p l e (ro_m 0 0) s m args below meth c H locs 0 0 (MQ below (va_Qv (fun z' => (∀ k, k < 13 → z'.2.1 5 k = z.2.1 17 k) ∧ rFr [] [5] z z') (rB g A) A) args s 0 0 A) (F0 m 2 ls []) := by
    intro n_2
    induction n_2 with
    | zero => intro i hi hm; exact absurd hm (Nat.not_lt_zero _)
    | succ n_2 ih_2 =>
      intro i hi hm_2 ls zz H locs w hfl hfz hl
      refine lv_iload_n hx hb dX8_backs_2 rfl (lv_at hl 1 rfl) ?_
      refine lv_bipush (v := (nI 13)) hx hb dX8_backs_3 (by decide) ?_
      refine n_icmp_ge (tgt := 26) hx hb dX8_backs_5 (by decide) (by omega) (by omega) (fun c_5_1 => ?_) (fun c_5_1 => ?_)
      · skip
        exact re_v X hr hk w (⟨fun k hk => fl_in0 hfl (by omega), hfz⟩) dX8_backs_26
      · skip
        refine lv_aload_n hx hb dX8_backs_8 rfl (lv_at hl 0 rfl) ?_
        refine rg_5 X w.1 dX8_backs_9 ?_
        refine lv_iload_n hx hb dX8_backs_12 rfl (lv_at hl 1 rfl) ?_
        refine lv_aload_n hx hb dX8_backs_13 rfl (lv_at hl 0 rfl) ?_
        refine rg_17 X w.1 dX8_backs_14 ?_
        refine lv_iload_n hx hb dX8_backs_17 rfl (lv_at hl 1 rfl) ?_
        refine rn_17 X w.1 (by omega) dX8_backs_18 ?_
        refine ru_5 X w (by omega) dX8_backs_19 (fun z_19 H locs ez_19 w => ?_)
        refine lv_iinc (v := (nI (i + 1))) (lv' := [(1, .int (nI (i + 1))), (0, .ref g.2.2.2.1)]) hx hb dX8_backs_20 hl (k := 1) rfl (by first | exact nI_1 _ | (rw [show Int32.ofInt 1 = nI 1 from by decide, nI_add])) (by decide) rfl (fun ls hl => ?_)
        refine lv_goto (tgt := 2) hx hb dX8_backs_23 (by decide) ?_
        exact ih_2 (i + 1) (by omega) (by omega) ls z_19 _ _ w (by rw [ez_19]; exact fl_s0 hfl (congrFun (hfz.2.1 17 (by decide)) i)) (by rw [ez_19]; exact rFr_tr hfz (rFr_A _ (by decide))) (lv_sub hl [1, 0] rfl)
  exact lp_2 _ 0 (by omega) (Nat.lt_succ_self _) ls z _ _ w (fl_0 _ _ _) (rFr_rf _ _ _) (lv_sub hl [1, 0] rfl)

theorem ok_reaches : rOk yX8_reaches cX8_reaches 2 none 1 := ⟨wc_X8_reaches, wi_X8_reaches, ws_X8_reaches, rfl, by decide, by decide, by decide +kernel⟩
set_option maxHeartbeats 4000000 in
set_option maxRecDepth 100000 in
theorem k_reaches (l : Launch) (g : RG) (z : RS) (t : Nat) (S : Sc) (hz : rSc z S) (ho : oSc S) (tg : Nat) (htg : z.1 6 = nI tg) (hg1 : tg ≤ 1) (hnt : S.1 4 = 0) (ht : t ≤ 10000) (hmo : S.1 3 ≤ 10000) : rMv g l yX8_reaches cX8_reaches 2 none 5 113 [.int (nI t)] z (fun z' => rSc z' (sp_turn S tg (sp_tm S tg (t - S.1 3) (S.1 3))) ∧ rFr [] [5] z z') := by
  refine rMv_in (by decide) rfl (Nat.le_of_ble_eq_true rfl) ?_
  intro p e s m args below meth c A ls X hml hr hk hl w
  have hx := X.1
  have hb := X.2.1
  have hts := X.2.2.1
  have hown := X.2.2.2.1
  have hl : lv_has ls 2 [(0, .ref g.2.2.2.1), (1, .int (nI t))] := hl
  obtain ⟨hz0, hz1, hz4, hm0, hm1, hm2, hso, hki, hsr, hpa, hhu, hco⟩ := id hz
  obtain ⟨o1, o2, o3, o4, o5, o6, oso, oki, osr, opa, ohu, oco⟩ := id ho
  have lp_0 : ∀ (n_0 : Nat) (j : Nat) (hj : S.1 3 ≤ j) (hj2 : j ≤ t ∨ j = S.1 3) (hj3 : sp_tm S tg (t - S.1 3) (S.1 3) = sp_tm S tg (t - j) j) (hm_0 : t - j < n_0) (ls : Array Slot) (zz : RS) (H : Heap) (locs : List Loc) (w : rW g A s zz H locs) (hzz : rSc zz (sN S 3 j)) (hfz : rFr [] [5] z zz), lv_has ls 2 [(0, .ref g.2.2.2.1), (1, .int (nI t))] → W p l e (ro_m 5 113) s m args below meth c H locs 0 0 (MQ below (va_Qv (fun z' => rSc z' (sp_turn S tg (sp_tm S tg (t - S.1 3) (S.1 3))) ∧ rFr [] [5] z z') (rB g A) A) args s 0 0 A) (F0 m 0 ls []) := by
    intro n_0
    induction n_0 with
    | zero => intro j hj hj2 hj3 hm; exact absurd hm (Nat.not_lt_zero _)
    | succ n_0 ih_0 =>
      intro j hj hj2 hj3 hm_0 ls zz H locs w hzz hfz hl
      refine lv_aload_n hx hb dX8_reaches_0 rfl (lv_at hl 0 rfl) ?_
      refine rc_p (rest := []) X hml hl.1 (k_turnS l g zz (sN S 3 j) hzz (oSc_mo ho (by omega))) ok_isTurned wm_X8_80 ⟨Nat.le_of_ble_eq_true rfl, Nat.le_of_ble_eq_true rfl⟩ ⟨Nat.le_refl _, Nat.le_refl _⟩ w.1 rfl (Nat.le_of_ble_eq_true rfl) dX8_reaches_1 (fun r_1 hr_1 => ?_)
      have h9 : r_1 = nI 0 := by rw [hr_1, td_n (S := sN S 3 j) hnt]
      subst h9
      refine n_if_ne (tgt := 53) hx hb dX8_reaches_4 (by decide) (by omega) (fun c_4_1 => ?_) (fun c_4_1 => ?_)
      · skip
        exact absurd rfl c_4_1
      · skip
        refine lv_aload_n hx hb dX8_reaches_7 rfl (lv_at hl 0 rfl) ?_
        refine rg_5 X w.1 dX8_reaches_8 ?_
        refine lv_iconst (v := (nI 0)) hx hb dX8_reaches_11 (by decide) ?_
        refine rn_5 X w.1 (by omega) dX8_reaches_12 ?_
        refine tp_i (show zz.2.1 5 0 = (nI j) from (rs_mo hzz :)) ?_
        refine lv_iload_n hx hb dX8_reaches_13 rfl (lv_at hl 1 rfl) ?_
        refine n_icmp_ge (tgt := 53) hx hb dX8_reaches_14 (by decide) (by omega) (by omega) (fun c_14_2 => ?_) (fun c_14_2 => ?_)
        · skip
          refine lv_aload_n hx hb dX8_reaches_53 rfl (lv_at hl 0 rfl) ?_
          refine rc_p (rest := []) X hml hl.1 (k_turnS l g zz (sN S 3 j) hzz (oSc_mo ho (by omega))) ok_isTurned wm_X8_80 ⟨Nat.le_of_ble_eq_true rfl, Nat.le_of_ble_eq_true rfl⟩ ⟨Nat.le_refl _, Nat.le_refl _⟩ w.1 rfl (Nat.le_of_ble_eq_true rfl) dX8_reaches_54 (fun r_54 hr_54 => ?_)
          have h9 : r_54 = nI 0 := by rw [hr_54, td_n (S := sN S 3 j) hnt]
          subst h9
          refine n_if_ne (tgt := 70) hx hb dX8_reaches_57 (by decide) (by omega) (fun c_57_3 => ?_) (fun c_57_3 => ?_)
          · skip
            exact absurd rfl c_57_3
          · skip
            refine lv_aload_n hx hb dX8_reaches_60 rfl (lv_at hl 0 rfl) ?_
            refine lv_aload_n hx hb dX8_reaches_61 rfl (lv_at hl 0 rfl) ?_
            refine rg_5 X w.1 dX8_reaches_62 ?_
            refine lv_iconst (v := (nI 0)) hx hb dX8_reaches_65 (by decide) ?_
            refine rn_5 X w.1 (by omega) dX8_reaches_66 ?_
            refine tp_i (show zz.2.1 5 0 = (nI j) from (rs_mo hzz :)) ?_
            refine rc_v (rest := []) X hml hl.1 (k_turns l g zz j (sN S 3 j) hzz (oSc_mo ho (by omega)) tg ((hfz.1 6 (by decide)).trans htg) hg1 (by omega)) ok_turns wm_X8_198 ⟨Nat.le_of_ble_eq_true rfl, Nat.le_of_ble_eq_true rfl⟩ ⟨Nat.le_refl _, Nat.le_refl _⟩ w rfl (Nat.le_of_ble_eq_true rfl) dX8_reaches_67 (fun z_67 H locs hr_67 w => ?_)
            skip
            exact re_v X hr hk w (by first | exact ⟨by rw [hj3, show t - j = (t - (j + 1)) + 1 by omega]; rw [show sp_tm S tg ((t - (j + 1)) + 1) j = j + 1 from if_neg (by omega), ← turn_mo S tg (j + 1) (j + 1)]; exact hr_47.1, rFr_tr (rFr_tr hfz (by rw [ez_26]; exact rFr_A _ (by decide))) hr_47.2⟩ | exact ⟨by rw [hj3, show t - j = 0 by omega, ← turn_mo S tg j (sp_tm S tg 0 j)]; exact hr_67.1, rFr_tr hfz hr_67.2⟩) dX8_reaches_70
        · skip
          refine lv_aload_n hx hb dX8_reaches_17 rfl (lv_at hl 0 rfl) ?_
          refine rg_5 X w.1 dX8_reaches_18 ?_
          refine lv_iconst (v := (nI 0)) hx hb dX8_reaches_21 (by decide) ?_
          refine lv_dup2_11 hx hb dX8_reaches_22 rfl rfl ?_
          refine rn_5 X w.1 (by omega) dX8_reaches_23 ?_
          refine tp_i (show zz.2.1 5 0 = (nI j) from (rs_mo hzz :)) ?_
          refine lv_iconst (v := (nI 1)) hx hb dX8_reaches_24 (by decide) ?_
          refine n_iadd hx hb dX8_reaches_25 ?_
          refine ru_5 X w (by omega) dX8_reaches_26 (fun z_26 H locs ez_26 w => ?_)
          have hz_26 : rSc z_26 (sN S 3 (j + 1)) := by rw [ez_26, ← sN_mo S j (j + 1)]; exact rw_mo hzz _
          refine lv_aload_n hx hb dX8_reaches_27 rfl (lv_at hl 0 rfl) ?_
          refine lv_aload_n hx hb dX8_reaches_28 rfl (lv_at hl 0 rfl) ?_
          refine rg_5 X w.1 dX8_reaches_29 ?_
          refine lv_iconst (v := (nI 0)) hx hb dX8_reaches_32 (by decide) ?_
          refine rn_5 X w.1 (by omega) dX8_reaches_33 ?_
          refine tp_i (show z_26.2.1 5 0 = (nI (j + 1)) from (rs_mo hz_26 :)) ?_
          refine rc_p (rest := []) X hml hl.1 (k_isCaught l g z_26 (j + 1) (sN S 3 (j + 1)) hz_26 (oSc_mo ho (by omega)) tg (by rw [ez_26]; exact (hfz.1 6 (by decide)).trans htg) hg1 (by omega)) ok_isCaught wm_X8_195 ⟨Nat.le_of_ble_eq_true rfl, Nat.le_of_ble_eq_true rfl⟩ ⟨Nat.le_refl _, Nat.le_refl _⟩ w.1 rfl (Nat.le_of_ble_eq_true rfl) dX8_reaches_34 (fun r_34 hr_34 => ?_)
          have h9 : r_34 = nI (sp_ct S tg (j + 1)) := by rw [hr_34, ev_ct (ev_mo S (j + 1))]
          subst h9
          have d_34 := sp_ct01 S tg (j + 1)
          refine n_if_eq (tgt := 0) hx hb dX8_reaches_37 (by decide) (by omega) (fun c_37_4 => ?_) (fun c_37_4 => ?_)
          · skip
            exact ih_0 (j + 1) (by omega) (by omega) (by rw [hj3, show t - j = (t - (j + 1)) + 1 by omega]; show (if sp_ct S tg (j + 1) = 0 then _ else _) = _; rw [if_pos (by omega)]) (by omega) ls z_26 _ _ w hz_26 (by rw [ez_26]; exact rFr_tr hfz (rFr_A _ (by decide))) (lv_sub hl [0, 1] rfl)
          · skip
            refine lv_aload_n hx hb dX8_reaches_40 rfl (lv_at hl 0 rfl) ?_
            refine lv_aload_n hx hb dX8_reaches_41 rfl (lv_at hl 0 rfl) ?_
            refine rg_5 X w.1 dX8_reaches_42 ?_
            refine lv_iconst (v := (nI 0)) hx hb dX8_reaches_45 (by decide) ?_
            refine rn_5 X w.1 (by omega) dX8_reaches_46 ?_
            refine tp_i (show z_26.2.1 5 0 = (nI (j + 1)) from (rs_mo hz_26 :)) ?_
            refine rc_v (rest := []) X hml hl.1 (k_turns l g z_26 (j + 1) (sN S 3 (j + 1)) hz_26 (oSc_mo ho (by omega)) tg (by rw [ez_26]; exact (hfz.1 6 (by decide)).trans htg) hg1 (by omega)) ok_turns wm_X8_198 ⟨Nat.le_of_ble_eq_true rfl, Nat.le_of_ble_eq_true rfl⟩ ⟨Nat.le_refl _, Nat.le_refl _⟩ w rfl (Nat.le_of_ble_eq_true rfl) dX8_reaches_47 (fun z_47 H locs hr_47 w => ?_)
            skip
            refine lv_goto (tgt := 0) hx hb dX8_reaches_50 (by decide) ?_
            refine lv_aload_n hx hb dX8_reaches_0 rfl (lv_at hl 0 rfl) ?_
            refine rc_p (rest := []) X hml hl.1 (k_turnS l g z_47 (sp_turn (sN S 3 (j + 1)) tg (j + 1)) hr_47.1 (oSc_turn (oSc_mo ho (by omega)) tg (by omega))) ok_isTurned wm_X8_80 ⟨Nat.le_of_ble_eq_true rfl, Nat.le_of_ble_eq_true rfl⟩ ⟨Nat.le_refl _, Nat.le_refl _⟩ w.1 rfl (Nat.le_of_ble_eq_true rfl) dX8_reaches_1 (fun r_1 hr_1 => ?_)
            have h9 : r_1 = nI 1 := by rw [hr_1, td_y (S := sp_turn (sN S 3 (j + 1)) tg (j + 1)) (show ¬ sp_run (sN S 3 (j + 1)) (j + 1) + 1 = 0 by omega)]
            subst h9
            refine n_if_ne (tgt := 53) hx hb dX8_reaches_4 (by decide) (by omega) (fun c_4_5 => ?_) (fun c_4_5 => ?_)
            · skip
              refine lv_aload_n hx hb dX8_reaches_53 rfl (lv_at hl 0 rfl) ?_
              refine rc_p (rest := []) X hml hl.1 (k_turnS l g z_47 (sp_turn (sN S 3 (j + 1)) tg (j + 1)) hr_47.1 (oSc_turn (oSc_mo ho (by omega)) tg (by omega))) ok_isTurned wm_X8_80 ⟨Nat.le_of_ble_eq_true rfl, Nat.le_of_ble_eq_true rfl⟩ ⟨Nat.le_refl _, Nat.le_refl _⟩ w.1 rfl (Nat.le_of_ble_eq_true rfl) dX8_reaches_54 (fun r_54 hr_54 => ?_)
              have h9 : r_54 = nI 1 := by rw [hr_54, td_y (S := sp_turn (sN S 3 (j + 1)) tg (j + 1)) (show ¬ sp_run (sN S 3 (j + 1)) (j + 1) + 1 = 0 by omega)]
              subst h9
              refine n_if_ne (tgt := 70) hx hb dX8_reaches_57 (by decide) (by omega) (fun c_57_6 => ?_) (fun c_57_6 => ?_)
              · skip
                exact re_v X hr hk w (by first | exact ⟨by rw [hj3, show t - j = (t - (j + 1)) + 1 by omega]; rw [show sp_tm S tg ((t - (j + 1)) + 1) j = j + 1 from if_neg (by omega), ← turn_mo S tg (j + 1) (j + 1)]; exact hr_47.1, rFr_tr (rFr_tr hfz (by rw [ez_26]; exact rFr_A _ (by decide))) hr_47.2⟩ | exact ⟨by rw [hj3, show t - j = 0 by omega, ← turn_mo S tg j (sp_tm S tg 0 j)]; exact hr_67.1, rFr_tr hfz hr_67.2⟩) dX8_reaches_70
              · skip
                exact absurd c_57_6 (by decide)
            · skip
              exact absurd c_4_5 (by decide)
  exact lp_0 _ (S.1 3) (Nat.le_refl _) (Or.inr rfl) rfl (Nat.lt_succ_self _) ls z _ _ w (by rw [show sN S 3 (S.1 3) = S from sN_id S]; exact hz) (rFr_rf _ _ _) (lv_sub hl [0, 1] rfl)

set_option maxHeartbeats 4000000 in
set_option maxRecDepth 100000 in
theorem k_reaches2 (l : Launch) (g : RG) (z : RS) (t : Int32) (S : Sc) (hz : rSc z S) (ho : oSc S) (htd : ¬ S.1 4 = 0) : rMv g l yX8_reaches cX8_reaches 2 none 1 20 [.int t] z (fun z' => z' = z) := by
  refine rMv_in (by decide) rfl (Nat.le_of_ble_eq_true rfl) ?_
  intro p e s m args below meth c A ls X hml hr hk hl w
  have hx := X.1
  have hb := X.2.1
  have hts := X.2.2.1
  have hown := X.2.2.2.1
  have hl : lv_has ls 2 [(0, .ref g.2.2.2.1), (1, .int t)] := hl
  obtain ⟨hz0, hz1, hz4, hm0, hm1, hm2, hso, hki, hsr, hpa, hhu, hco⟩ := id hz
  obtain ⟨o1, o2, o3, o4, o5, o6, oso, oki, osr, opa, ohu, oco⟩ := id ho
  refine lv_aload_n hx hb dX8_reaches_0 rfl (lv_at hl 0 rfl) ?_
  refine rc_p (rest := []) X hml hl.1 (k_turnS l g z S hz ho) ok_isTurned wm_X8_80 ⟨Nat.le_of_ble_eq_true rfl, Nat.le_of_ble_eq_true rfl⟩ ⟨Nat.le_refl _, Nat.le_refl _⟩ w.1 rfl (Nat.le_of_ble_eq_true rfl) dX8_reaches_1 (fun r_1 hr_1 => ?_)
  have h9 : r_1 = nI 1 := by rw [hr_1, td_y htd]
  subst h9
  refine n_if_ne (tgt := 53) hx hb dX8_reaches_4 (by decide) (by omega) (fun c_4_1 => ?_) (fun c_4_1 => ?_)
  · skip
    refine lv_aload_n hx hb dX8_reaches_53 rfl (lv_at hl 0 rfl) ?_
    refine rc_p (rest := []) X hml hl.1 (k_turnS l g z S hz ho) ok_isTurned wm_X8_80 ⟨Nat.le_of_ble_eq_true rfl, Nat.le_of_ble_eq_true rfl⟩ ⟨Nat.le_refl _, Nat.le_refl _⟩ w.1 rfl (Nat.le_of_ble_eq_true rfl) dX8_reaches_54 (fun r_54 hr_54 => ?_)
    have h9 : r_54 = nI 1 := by rw [hr_54, td_y htd]
    subst h9
    refine n_if_ne (tgt := 70) hx hb dX8_reaches_57 (by decide) (by omega) (fun c_57_2 => ?_) (fun c_57_2 => ?_)
    · skip
      exact re_v X hr hk w (rfl) dX8_reaches_70
    · skip
      exact absurd c_57_2 (by decide)
  · skip
    exact absurd c_4_1 (by decide)

theorem ok_isCaughtThen : rOk yX8_isCaughtThen cX8_isCaughtThen 2 (some .boolean) 1 := ⟨wc_X8_isCaughtThen, wi_X8_isCaughtThen, ws_X8_isCaughtThen, rfl, by decide, by decide, by decide +kernel⟩
set_option maxHeartbeats 4000000 in
set_option maxRecDepth 100000 in
theorem k_isCaughtThen (l : Launch) (g : RG) (z : RS) (t : Nat) (S P : Sc) (hz : rSc z S) (hpn : rNw (z.2.1 17) P) (ho : oSc (sc_at S P)) (tg : Nat) (htg : z.1 6 = nI tg) (hg1 : tg ≤ 1) (ht : t ≤ 100000) : rMi g l yX8_isCaughtThen cX8_isCaughtThen 2 (some .boolean) 4 92 [.int (nI t)] z (fun r z' => r = nI (sp_ct (sc_at S P) tg t) ∧ rSc z' (sc_at S P) ∧ rFr [] [5] z z') := by
  refine rMi_in (by decide) rfl (Nat.le_of_ble_eq_true rfl) ?_
  intro p e s m args below meth c A ls X hml hr hk hl w
  have hx := X.1
  have hb := X.2.1
  have hts := X.2.2.1
  have hown := X.2.2.2.1
  have hl : lv_has ls 2 [(0, .ref g.2.2.2.1), (1, .int (nI t))] := hl
  refine lv_aload_n hx hb dX8_isCaughtThen_0 rfl (lv_at hl 0 rfl) ?_
  refine rc_v (rest := []) X hml hl.1 (k_backs l g z) ok_backs wm_X8_229 ⟨Nat.le_of_ble_eq_true rfl, Nat.le_of_ble_eq_true rfl⟩ ⟨Nat.le_refl _, Nat.le_refl _⟩ w rfl (Nat.le_of_ble_eq_true rfl) dX8_isCaughtThen_1 (fun z_1 H locs hr_1 w => ?_)
  have hz_1 : rSc z_1 (sc_at S P) := rSc_at hz hr_1.2 (by decide) (by decide) (by decide) (by decide) (by decide) (rNw_of hpn hr_1.1)
  refine lv_aload_n hx hb dX8_isCaughtThen_4 rfl (lv_at hl 0 rfl) ?_
  refine lv_iload_n hx hb dX8_isCaughtThen_5 rfl (lv_at hl 1 rfl) ?_
  refine rc_p (rest := []) X hml hl.1 (k_isCaught l g z_1 t (sc_at S P) hz_1 ho tg ((hr_1.2.1 6 (by decide)).trans htg) hg1 (by omega)) ok_isCaught wm_X8_195 ⟨Nat.le_of_ble_eq_true rfl, Nat.le_of_ble_eq_true rfl⟩ ⟨Nat.le_refl _, Nat.le_refl _⟩ w.1 rfl (Nat.le_of_ble_eq_true rfl) dX8_isCaughtThen_6 (fun r_6 hr_6 => ?_)
  subst hr_6
  exact re_iz X hr hk w (by have q := sp_ct01 (sc_at S P) tg t; rcases (show sp_ct (sc_at S P) tg t = 0 ∨ sp_ct (sc_at S P) tg t = 1 by omega) with q | q <;> rw [q]; exact Or.inl rfl; exact Or.inr rfl) (⟨rfl, hz_1, hr_1.2⟩) dX8_isCaughtThen_9

theorem ok_isOff : rOk yX8_isOff cX8_isOff 1 (some .boolean) 0 := ⟨wc_X8_isOff, wi_X8_isOff, ws_X8_isOff, rfl, by decide, by decide, by decide +kernel⟩
set_option maxHeartbeats 4000000 in
set_option maxRecDepth 100000 in
theorem k_isOff (l : Launch) (g : RG) (z : RS)  (S : Sc) (hz : rSc z S) (ho : oSc S) : rMp g l yX8_isOff cX8_isOff 1 (some .boolean) 4 85 [] z (fun r => r = nI (if sp_over S = 0 then (if pc_td S = 0 then 0 else 1) else 1)) := by
  refine rMp_in (by decide) rfl (Nat.le_of_ble_eq_true rfl) ?_
  intro p e s m args below meth c ls X hml hr hk hl w
  have hx := X.1
  have hb := X.2.1
  have hts := X.2.2.1
  have hown := X.2.2.2.1
  have hl : lv_has ls 1 [(0, .ref g.2.2.2.1)] := hl
  obtain ⟨hz0, hz1, hz4, hm0, hm1, hm2, hso, hki, hsr, hpa, hhu, hco⟩ := id hz
  obtain ⟨o1, o2, o3, o4, o5, o6, oso, oki, osr, opa, ohu, oco⟩ := id ho
  refine lv_aload_n hx hb dX8_isOff_0 rfl (lv_at hl 0 rfl) ?_
  refine rc_p (rest := []) X hml hl.1 (k_over l g z S hz ho) ok_over wm_X8_174 ⟨Nat.le_of_ble_eq_true rfl, Nat.le_of_ble_eq_true rfl⟩ ⟨Nat.le_refl _, Nat.le_refl _⟩ w rfl (Nat.le_of_ble_eq_true rfl) dX8_isOff_1 (fun r_1 hr_1 => ?_)
  subst hr_1
  have d_1 := sp_over_le S
  refine jn (tgt := 19) (rest := []) (fun v9 => ∃ x9 : Nat, x9 = (if (sp_over S) = 0 then (if (pc_td S) = 0 then 0 else 1) else 1) ∧ v9 = nI x9) (fun v_ hv_ => ?_) (fun k_19 => ?_)
  · obtain ⟨x_19, ex_19, rfl⟩ := hv_
    exact re_pz hx hb hr hk (by rw [ex_19]; split; split; exact Or.inl rfl; exact Or.inr rfl; exact Or.inr rfl) (by rw [ex_19]) dX8_isOff_19
  · skip
    refine n_if_ne (tgt := 14) hx hb dX8_isOff_4 (by decide) (by omega) (fun c_4_2 => ?_) (fun c_4_2 => ?_)
    · skip
      refine lv_iconst (v := (nI 1)) hx hb dX8_isOff_14 (by decide) ?_
      refine lv_goto (tgt := 19) hx hb dX8_isOff_15 (by decide) ?_
      exact k_19 _ ⟨_, by simp only [if_neg c_4_2], rfl⟩
    · skip
      refine lv_aload_n hx hb dX8_isOff_7 rfl (lv_at hl 0 rfl) ?_
      refine rc_p (rest := []) X hml hl.1 (k_turnS l g z S hz ho) ok_isTurned wm_X8_80 ⟨Nat.le_of_ble_eq_true rfl, Nat.le_of_ble_eq_true rfl⟩ ⟨Nat.le_refl _, Nat.le_refl _⟩ w rfl (Nat.le_of_ble_eq_true rfl) dX8_isOff_8 (fun r_8 hr_8 => ?_)
      subst hr_8
      have d_8 := pc_td01 S
      refine n_if_eq (tgt := 18) hx hb dX8_isOff_11 (by decide) (by omega) (fun c_11_3 => ?_) (fun c_11_3 => ?_)
      · skip
        refine lv_iconst (v := (nI 0)) hx hb dX8_isOff_18 (by decide) ?_
        exact k_19 _ ⟨_, by simp only [if_pos c_4_2, if_pos c_11_3], rfl⟩
      · skip
        refine lv_iconst (v := (nI 1)) hx hb dX8_isOff_14 (by decide) ?_
        refine lv_goto (tgt := 19) hx hb dX8_isOff_15 (by decide) ?_
        exact k_19 _ ⟨_, by simp only [if_pos c_4_2, if_neg c_11_3], rfl⟩

theorem ok_notes : rOk yX8_notes cX8_notes 2 none 0 := ⟨wc_X8_notes, wi_X8_notes, ws_X8_notes, rfl, by decide, by decide, by decide +kernel⟩
set_option maxHeartbeats 4000000 in
set_option maxRecDepth 100000 in
theorem k_notes (l : Launch) (g : RG) (z : RS)  (u : Nat) (P : Nat → Nat → Int32) (hpa : rPa z u P) : rMv g l yX8_notes cX8_notes 2 none 0 0 [] z (fun z' => rPa z' (pa_n u) (pa_put u P (z.2.1 5)) ∧ rFr [16] [15] z z') := by
  refine rMv_in (by decide) rfl (Nat.le_of_ble_eq_true rfl) ?_
  intro p e s m args below meth c A ls X hml hr hk hl w
  have hx := X.1
  have hb := X.2.1
  have hts := X.2.2.1
  have hown := X.2.2.2.1
  have hl : lv_has ls 2 [(0, .ref g.2.2.2.1)] := hl
  have hu8 := hpa.2.1
  refine lv_aload_n hx hb dX8_notes_0 rfl (lv_at hl 0 rfl) ?_
  refine rg_16 X w.1 dX8_notes_1 ?_
  refine tp_i (show z.1 16 = (nI u) from hpa.1) ?_
  refine lv_bipush (v := (nI 8)) hx hb dX8_notes_4 (by decide) ?_
  refine n_icmp_ne (tgt := 45) hx hb dX8_notes_6 (by decide) (by omega) (by omega) (fun c_6_1 => ?_) (fun c_6_1 => ?_)
  · skip
    refine lv_iconst (v := (nI 0)) hx hb dX8_notes_45 (by decide) ?_
    refine lv_istore_n (lv' := [(1, .int (nI 0)), (0, .ref g.2.2.2.1)]) hx hb dX8_notes_46 rfl hl (by decide) rfl (fun ls hl => ?_)
    have lp_47 : ∀ (n_47 : Nat) (j : Nat) (hj : j ≤ 13) (hm_47 : 13 - j < n_47) (ls : Array Slot) (zz : RS) (H : Heap) (locs : List Loc) (w : rW g A s zz H locs) (hfl : fl (zz.2.1 15) (z.2.1 5) (z.2.1 15) (13 * u) j) (hfz : rFr [16] [15] z zz) (hu : zz.1 16 = nI u), lv_has ls 2 [(0, .ref g.2.2.2.1), (1, .int (nI j))] → W p l e (ro_m 0 0) s m args below meth c H locs 0 0 (MQ below (va_Qv (fun z' => rPa z' (pa_n u) (pa_put u P (z.2.1 5)) ∧ rFr [16] [15] z z') (rB g A) A) args s 0 0 A) (F0 m 47 ls []) := by
      intro n_47
      induction n_47 with
      | zero => intro j hj hm; exact absurd hm (Nat.not_lt_zero _)
      | succ n_47 ih_47 =>
        intro j hj hm_47 ls zz H locs w hfl hfz hu hl
        refine lv_iload_n hx hb dX8_notes_47 rfl (lv_at hl 1 rfl) ?_
        refine lv_bipush (v := (nI 13)) hx hb dX8_notes_48 (by decide) ?_
        refine n_icmp_ge (tgt := 79) hx hb dX8_notes_50 (by decide) (by omega) (by omega) (fun c_50_2 => ?_) (fun c_50_2 => ?_)
        · skip
          refine lv_aload_n hx hb dX8_notes_79 rfl (lv_at hl 0 rfl) ?_
          refine lv_dup hx hb dX8_notes_80 rfl ?_
          refine rg_16 X w.1 dX8_notes_81 ?_
          refine tp_i (show zz.1 16 = (nI u) from hu) ?_
          refine lv_iconst (v := (nI 1)) hx hb dX8_notes_84 (by decide) ?_
          refine n_iadd hx hb dX8_notes_85 ?_
          refine rp_16 X w dX8_notes_86 (fun z_86 H locs ez_86 w => ?_)
          exact re_v X hr hk w (⟨pa_u hpa (by assumption) (by have e7 : j = 13 := (by omega); subst e7; rw [ez_86]; exact hfl) (by first | (rw [ez_86]; done) | (rw [ez_86]; rfl)), by rw [ez_86]; exact rFr_tr hfz (rFr_I _ (by decide))⟩) dX8_notes_89
        · skip
          refine lv_aload_n hx hb dX8_notes_53 rfl (lv_at hl 0 rfl) ?_
          refine rg_15 X w.1 dX8_notes_54 ?_
          refine lv_bipush (v := (nI 13)) hx hb dX8_notes_57 (by decide) ?_
          refine lv_aload_n hx hb dX8_notes_59 rfl (lv_at hl 0 rfl) ?_
          refine rg_16 X w.1 dX8_notes_60 ?_
          refine tp_i (show zz.1 16 = (nI u) from hu) ?_
          refine n_imul hx hb dX8_notes_63 ?_
          refine lv_iload_n hx hb dX8_notes_64 rfl (lv_at hl 1 rfl) ?_
          refine n_iadd hx hb dX8_notes_65 ?_
          refine lv_aload_n hx hb dX8_notes_66 rfl (lv_at hl 0 rfl) ?_
          refine rg_5 X w.1 dX8_notes_67 ?_
          refine lv_iload_n hx hb dX8_notes_70 rfl (lv_at hl 1 rfl) ?_
          refine rn_5 X w.1 (by omega) dX8_notes_71 ?_
          refine ru_15 X w (by omega) dX8_notes_72 (fun z_72 H locs ez_72 w => ?_)
          refine lv_iinc (v := (nI (j + 1))) (lv' := [(1, .int (nI (j + 1))), (0, .ref g.2.2.2.1)]) hx hb dX8_notes_73 hl (k := 1) rfl (by first | exact nI_1 _ | (rw [show Int32.ofInt 1 = nI 1 from by decide, nI_add])) (by decide) rfl (fun ls hl => ?_)
          refine lv_goto (tgt := 47) hx hb dX8_notes_76 (by decide) ?_
          exact ih_47 (j + 1) (by omega) (by omega) ls z_72 _ _ w (by rw [ez_72]; exact fl_s hfl (congrFun (hfz.2.1 5 (by decide)) j)) (by rw [ez_72]; exact rFr_tr hfz (rFr_A _ (by decide))) (by rw [ez_72]; exact hu) (lv_sub hl [1, 0] rfl)
    exact lp_47 _ 0 (by omega) (Nat.lt_succ_self _) ls z _ _ w (fl_0 _ _ _) (rFr_rf _ _ _) hpa.1 (lv_sub hl [1, 0] rfl)
  · skip
    refine lv_bipush (v := (nI 13)) hx hb dX8_notes_9 (by decide) ?_
    refine lv_istore_n (lv' := [(1, .int (nI 13)), (0, .ref g.2.2.2.1)]) hx hb dX8_notes_11 rfl hl (by decide) rfl (fun ls hl => ?_)
    have lp_12 : ∀ (n_12 : Nat) (i : Nat) (hi : i ≤ 91) (hm_12 : 91 - i < n_12) (ls : Array Slot) (z1 : RS) (H : Heap) (locs : List Loc) (w : rW g A s z1 H locs) (hf1 : fl (z1.2.1 15) (fun q => z.2.1 15 (q + 13)) (z.2.1 15) 0 i) (hfz1 : rFr [16] [15] z z1), lv_has ls 2 [(0, .ref g.2.2.2.1), (1, .int (nI (i + 13)))] → W p l e (ro_m 0 0) s m args below meth c H locs 0 0 (MQ below (va_Qv (fun z' => rPa z' (pa_n u) (pa_put u P (z.2.1 5)) ∧ rFr [16] [15] z z') (rB g A) A) args s 0 0 A) (F0 m 12 ls []) := by
      intro n_12
      induction n_12 with
      | zero => intro i hi hm; exact absurd hm (Nat.not_lt_zero _)
      | succ n_12 ih_12 =>
        intro i hi hm_12 ls z1 H locs w hf1 hfz1 hl
        refine lv_iload_n hx hb dX8_notes_12 rfl (lv_at hl 1 rfl) ?_
        refine lv_bipush (v := (nI 104)) hx hb dX8_notes_13 (by decide) ?_
        refine n_icmp_ge (tgt := 39) hx hb dX8_notes_15 (by decide) (by omega) (by omega) (fun c_15_3 => ?_) (fun c_15_3 => ?_)
        · skip
          refine lv_aload_n hx hb dX8_notes_39 rfl (lv_at hl 0 rfl) ?_
          refine lv_bipush (v := (nI 7)) hx hb dX8_notes_40 (by decide) ?_
          refine rp_16 X w dX8_notes_42 (fun z_42 H locs ez_42 w => ?_)
          refine lv_iconst (v := (nI 0)) hx hb dX8_notes_45 (by decide) ?_
          refine lv_istore_n (lv' := [(1, .int (nI 0)), (0, .ref g.2.2.2.1)]) hx hb dX8_notes_46 rfl hl (by decide) rfl (fun ls hl => ?_)
          have lp_47 : ∀ (n_47 : Nat) (j : Nat) (hj : j ≤ 13) (hm_47 : 13 - j < n_47) (ls : Array Slot) (zy : RS) (H : Heap) (locs : List Loc) (w : rW g A s zy H locs) (hfl : fl (zy.2.1 15) (z.2.1 5) (z_42.2.1 15) (13 * 7) j) (hfz : rFr [16] [15] z zy) (hu : zy.1 16 = nI 7), lv_has ls 2 [(0, .ref g.2.2.2.1), (1, .int (nI j))] → W p l e (ro_m 0 0) s m args below meth c H locs 0 0 (MQ below (va_Qv (fun z' => rPa z' (pa_n u) (pa_put u P (z.2.1 5)) ∧ rFr [16] [15] z z') (rB g A) A) args s 0 0 A) (F0 m 47 ls []) := by
            intro n_47
            induction n_47 with
            | zero => intro j hj hm; exact absurd hm (Nat.not_lt_zero _)
            | succ n_47 ih_47 =>
              intro j hj hm_47 ls zy H locs w hfl hfz hu hl
              refine lv_iload_n hx hb dX8_notes_47 rfl (lv_at hl 1 rfl) ?_
              refine lv_bipush (v := (nI 13)) hx hb dX8_notes_48 (by decide) ?_
              refine n_icmp_ge (tgt := 79) hx hb dX8_notes_50 (by decide) (by omega) (by omega) (fun c_50_4 => ?_) (fun c_50_4 => ?_)
              · skip
                refine lv_aload_n hx hb dX8_notes_79 rfl (lv_at hl 0 rfl) ?_
                refine lv_dup hx hb dX8_notes_80 rfl ?_
                refine rg_16 X w.1 dX8_notes_81 ?_
                refine tp_i (show zy.1 16 = (nI 7) from hu) ?_
                refine lv_iconst (v := (nI 1)) hx hb dX8_notes_84 (by decide) ?_
                refine n_iadd hx hb dX8_notes_85 ?_
                refine rp_16 X w dX8_notes_86 (fun z_86 H locs ez_86 w => ?_)
                exact re_v X hr hk w (by subst c_6_1; exact ⟨pa_8 (z1 := z_42) hpa (by have e7 : i = 91 := (by omega); subst e7; rw [ez_42]; exact hf1) (by have e7 : j = 13 := (by omega); subst e7; rw [ez_86]; exact hfl) (by first | (rw [ez_86]; done) | (rw [ez_86]; rfl)), by rw [ez_86]; exact rFr_tr hfz (rFr_I _ (by decide))⟩) dX8_notes_89
              · skip
                refine lv_aload_n hx hb dX8_notes_53 rfl (lv_at hl 0 rfl) ?_
                refine rg_15 X w.1 dX8_notes_54 ?_
                refine lv_bipush (v := (nI 13)) hx hb dX8_notes_57 (by decide) ?_
                refine lv_aload_n hx hb dX8_notes_59 rfl (lv_at hl 0 rfl) ?_
                refine rg_16 X w.1 dX8_notes_60 ?_
                refine tp_i (show zy.1 16 = (nI 7) from hu) ?_
                refine n_imul hx hb dX8_notes_63 ?_
                refine lv_iload_n hx hb dX8_notes_64 rfl (lv_at hl 1 rfl) ?_
                refine n_iadd hx hb dX8_notes_65 ?_
                refine lv_aload_n hx hb dX8_notes_66 rfl (lv_at hl 0 rfl) ?_
                refine rg_5 X w.1 dX8_notes_67 ?_
                refine lv_iload_n hx hb dX8_notes_70 rfl (lv_at hl 1 rfl) ?_
                refine rn_5 X w.1 (by omega) dX8_notes_71 ?_
                refine ru_15 X w (by omega) dX8_notes_72 (fun z_72 H locs ez_72 w => ?_)
                refine lv_iinc (v := (nI (j + 1))) (lv' := [(1, .int (nI (j + 1))), (0, .ref g.2.2.2.1)]) hx hb dX8_notes_73 hl (k := 1) rfl (by first | exact nI_1 _ | (rw [show Int32.ofInt 1 = nI 1 from by decide, nI_add])) (by decide) rfl (fun ls hl => ?_)
                refine lv_goto (tgt := 47) hx hb dX8_notes_76 (by decide) ?_
                exact ih_47 (j + 1) (by omega) (by omega) ls z_72 _ _ w (by rw [ez_72]; exact fl_s hfl (congrFun (hfz.2.1 5 (by decide)) j)) (by rw [ez_72]; exact rFr_tr hfz (rFr_A _ (by decide))) (by rw [ez_72]; exact hu) (lv_sub hl [1, 0] rfl)
          exact lp_47 _ 0 (by omega) (Nat.lt_succ_self _) ls z_42 _ _ w (fl_0 _ _ _) (by rw [ez_42]; exact rFr_tr hfz1 (rFr_I _ (by decide))) (by rw [ez_42]; rfl) (lv_sub hl [1, 0] rfl)
        · skip
          refine lv_aload_n hx hb dX8_notes_18 rfl (lv_at hl 0 rfl) ?_
          refine rg_15 X w.1 dX8_notes_19 ?_
          refine lv_iload_n hx hb dX8_notes_22 rfl (lv_at hl 1 rfl) ?_
          refine lv_bipush (v := (nI 13)) hx hb dX8_notes_23 (by decide) ?_
          refine n_isub hx hb dX8_notes_25 (by omega) ?_
          refine lv_aload_n hx hb dX8_notes_26 rfl (lv_at hl 0 rfl) ?_
          refine rg_15 X w.1 dX8_notes_27 ?_
          refine lv_iload_n hx hb dX8_notes_30 rfl (lv_at hl 1 rfl) ?_
          refine rn_15 X w.1 (by omega) dX8_notes_31 ?_
          refine ru_15 X w (by omega) dX8_notes_32 (fun z_32 H locs ez_32 w => ?_)
          refine lv_iinc (v := (nI (i + 13 + 1))) (lv' := [(1, .int (nI (i + 13 + 1))), (0, .ref g.2.2.2.1)]) hx hb dX8_notes_33 hl (k := 1) rfl (by first | exact nI_1 _ | (rw [show Int32.ofInt 1 = nI 1 from by decide, nI_add])) (by decide) rfl (fun ls hl => ?_)
          refine lv_goto (tgt := 12) hx hb dX8_notes_36 (by decide) ?_
          have e9 : i + 13 - 13 = i := by omega
          rw [e9] at ez_32
          rw [show i + 13 + 1 = i + 1 + 13 by omega] at hl
          exact ih_12 (i + 1) (by omega) (by omega) ls z_32 _ _ w (by rw [ez_32]; exact fl_s0 hf1 (by rw [hf1 (i + 13), if_neg (by omega)])) (by rw [ez_32]; exact rFr_tr hfz1 (rFr_A _ (by decide))) (lv_sub hl [1, 0] rfl)
    exact lp_12 _ 0 (by omega) (Nat.lt_succ_self _) ls z _ _ w (fl_0 _ _ _) (rFr_rf _ _ _) (lv_sub hl [1, 0] rfl)
end
section
/-! arguments in their bounds; answers -/
def pc_inI (x lo hi : Int) : Nat := if lo ≤ x ∧ x ≤ hi then 1 else 0
theorem pc_inI_ok (x lo hi : Int) : (pc_inI x lo hi = 1 ∧ lo ≤ x ∧ x ≤ hi) ∨ (pc_inI x lo hi = 0 ∧ (x < lo ∨ hi < x)) := by
  unfold pc_inI
  by_cases h : lo ≤ x ∧ x ≤ hi
  · rw [if_pos h]
    exact Or.inl ⟨rfl, h⟩
  · rw [if_neg h]
    exact Or.inr ⟨rfl, by omega⟩
theorem pc_in_I {a b c : Int64} {x lo hi : Int} (ha : a.toInt = x) (hb : b.toInt = lo) (hc : c.toInt = hi) : pc_in a b c = pc_inI x lo hi := by
  subst ha hb hc
  unfold pc_in pc_inI
  simp only [Int64.lt_iff_toInt_lt]
  by_cases h : a.toInt < b.toInt
  · rw [if_pos h, if_neg (by omega)]
  · rw [if_neg h]
    by_cases h2 : c.toInt < a.toInt
    · rw [if_pos h2, if_neg (by omega)]
    · rw [if_neg h2, if_pos (by omega)]
theorem iv_n {x : Int32} (h : 0 ≤ x.toInt) : ∃ k : Nat, (k : Int) = x.toInt ∧ x = nI k := by
  refine ⟨x.toInt.toNat, by omega, ?_⟩
  rw [← iZ_n, show ((x.toInt.toNat : Nat) : Int) = x.toInt by omega]
  exact (Int32.ofInt_toInt x).symm
theorem in_toI (x : Int32) : x.toInt64.toInt = x.toInt := Int32.toInt_toInt64 x
theorem in_toN {n : Nat} (h : n < 2147483648) : (nI n).toInt64.toInt = (n : Int) := by rw [in_toI, nI_toInt h]
theorem in_toZ {i : Int} (h1 : -2147483648 ≤ i) (h2 : i < 2147483648) : (iZ i).toInt64.toInt = i := by rw [in_toI, iZ_toInt h1 h2]
theorem rw_st {z : RS} {S : Sc} (h : rSc z S) (v : Nat) : rSc (sI z 4 (nI v)) (sN S 2 v) := by
  obtain ⟨h0, h1, h2, h3, h4, h5, h6, h7, h8, h9, h10, h11⟩ := h
  exact ⟨h0, h1, rfl, h3, h4, h5, h6, h7, h8, h9, h10, h11⟩
def an_hurt (S : Sc) (f v : Int32) : Int32 := if (0 ≤ f.toInt ∧ f.toInt < S.1 1) ∧ 0 ≤ v.toInt ∧ v.toInt ≤ 6 then (if S.1 4 = 0 then nI (S.2.1 4 f.toInt.toNat) else iZ (-2)) else iZ (-1)
def nx_hurt (S : Sc) (f v : Int32) : Sc := if (0 ≤ f.toInt ∧ f.toInt < S.1 1) ∧ 0 ≤ v.toInt ∧ v.toInt ≤ 6 then (if S.1 4 = 0 then sR S 4 f.toInt.toNat v.toInt.toNat else S) else S
def an_start (S : Sc) (v : Int32) : Int32 := if 0 ≤ v.toInt ∧ v.toInt ≤ 20 then (if S.1 3 = 0 then nI (S.1 2) else iZ (-2)) else iZ (-1)
def nx_start (S : Sc) (v : Int32) : Sc := if 0 ≤ v.toInt ∧ v.toInt ≤ 20 then (if S.1 3 = 0 then sN S 2 v.toInt.toNat else S) else S
def an_sort (S : Sc) (x : Int32) : Int32 := if 0 ≤ x.toInt ∧ x.toInt < S.1 0 then nI (S.2.1 0 x.toInt.toNat) else iZ (-1)
def an_cost (S : Sc) (x : Int32) : Int32 := if 0 ≤ x.toInt ∧ x.toInt < S.1 0 then nI (pc_cost (S.2.1 0) x.toInt.toNat) else iZ (-1)
def an_points (S : Sc) (f t : Int32) : Int32 := if (0 ≤ f.toInt ∧ f.toInt < S.1 1) ∧ 0 ≤ t.toInt ∧ t.toInt ≤ 400 then nI (sp_pts S f.toInt.toNat (S.2.1 4 f.toInt.toNat) t.toInt.toNat) else iZ (-1)
def an_seed (S : Sc) (v : Int32) : Int32 := if v < 0 then iZ (-1) else S.2.2
def nx_seed (S : Sc) (v : Int32) : Sc := if v < 0 then S else sD S v
def an_turn (S : Sc) : Int32 := if sp_over S = 0 ∧ S.1 4 = 0 then nI (sp_run S (S.1 3)) else iZ (-2)
def nx_turn (S : Sc) : Sc := if sp_over S = 0 ∧ S.1 4 = 0 then sp_turn S 0 (S.1 3) else S
theorem pc_td_ok (S : Sc) : (pc_td S = 0 ∧ S.1 4 = 0) ∨ (pc_td S = 1 ∧ ¬ S.1 4 = 0) := by
  unfold pc_td
  by_cases h : S.1 4 = 0
  · rw [if_pos h]
    exact Or.inl ⟨rfl, h⟩
  · rw [if_neg h]
    exact Or.inr ⟨rfl, h⟩
theorem sd_turn {z : RS} {S : Sc} {tg m : Nat} (h : rSc z (sp_turn S tg m)) : z.2.1 5 1 = nI (sp_run S m) := by
  rw [rs_sd h]
  show pc_sd (sp_run S m + 1) = _
  unfold pc_sd
  rw [if_neg (by omega), Nat.add_sub_cancel]
end
section
set_option maxHeartbeats 4000000 in
set_option maxRecDepth 100000 in
theorem k_isF (l : Launch) (g : RG) (z : RS) (f : Int32) (S : Sc) (hz : rSc z S) (ho : oSc S) : rMp g l yX8_isFighter cX8_isFighter 2 (some .boolean) 1 25 [.int f] z (fun r => r = nI (pc_inI f.toInt 0 (((S.1 1 : Nat) : Int) - (1 : Int)))) := by
  refine rMp_in (by decide) rfl (Nat.le_of_ble_eq_true rfl) ?_
  intro p e s m args below meth c ls X hml hr hk hl w
  have hx := X.1
  have hb := X.2.1
  have hts := X.2.2.1
  have hown := X.2.2.2.1
  have hl : lv_has ls 2 [(0, .ref g.2.2.2.1), (1, .int f)] := hl
  obtain ⟨hz0, hz1, hz4, hm0, hm1, hm2, hso, hki, hsr, hpa, hhu, hco⟩ := id hz
  obtain ⟨o1, o2, o3, o4, o5, o6, oso, oki, osr, opa, ohu, oco⟩ := id ho
  refine lv_iload_n hx hb dX8_isFighter_0 rfl (lv_at hl 1 rfl) ?_
  refine lv_i2l (v := f.toInt64) hx hb dX8_isFighter_1 rfl ?_
  refine lv_lconst (v := 0) hx hb dX8_isFighter_2 (by decide) ?_
  refine lv_aload_n hx hb dX8_isFighter_3 rfl (lv_at hl 0 rfl) ?_
  refine rg_1 X w dX8_isFighter_4 ?_
  refine tp_i (show z.1 1 = (nI (S.1 1)) from hz1) ?_
  refine lv_iconst (v := (nI 1)) hx hb dX8_isFighter_7 (by decide) ?_
  refine tp_i (show nI 1 = iZ (1 : Int) from by decide) ?_
  refine tp_i2 (iZ_n (S.1 1)).symm ?_
  refine z_isub hx hb dX8_isFighter_8 ?_
  refine lv_i2l (v := (iZ ((((S.1 1 : Nat) : Int)) - ((1 : Int)))).toInt64) hx hb dX8_isFighter_9 rfl ?_
  refine rc_s (rest := []) ⟨X.1, X.2.1, X.2.2.1, X.2.2.2.1⟩ hml hl.1 (k_in l f.toInt64 0 ((iZ ((((S.1 1 : Nat) : Int)) - ((1 : Int)))).toInt64)) ok_in wm_X8_69 ⟨Nat.le_of_ble_eq_true rfl, Nat.le_of_ble_eq_true rfl⟩ ⟨Nat.le_refl _, Nat.le_refl _⟩ rfl (Nat.le_of_ble_eq_true rfl) dX8_isFighter_10 (fun r_10 hr_10 => ?_)
  have h9 : r_10 = nI (pc_inI f.toInt (0) ((((S.1 1 : Nat) : Int)) - ((1 : Int)))) := by rw [hr_10]; exact congrArg nI (pc_in_I (in_toI _) (by decide) (in_toZ (by omega) (by omega)))
  subst h9
  have i_10 := pc_inI_ok f.toInt (0) ((((S.1 1 : Nat) : Int)) - ((1 : Int)))
  exact re_pz hx hb hr hk (by rcases i_10 with q | q <;> rw [q.1]; exact Or.inr rfl; exact Or.inl rfl) (rfl) dX8_isFighter_13

theorem ok_hurt : rOk yX8_hurt cX8_hurt 4 (some .int) 2 := ⟨wc_X8_hurt, wi_X8_hurt, ws_X8_hurt, rfl, by decide, by decide, by decide +kernel⟩
set_option maxHeartbeats 4000000 in
set_option maxRecDepth 100000 in
theorem k_hurt (l : Launch) (g : RG) (z : RS) (f : Int32) (v : Int32) (S : Sc) (hz : rSc z S) (ho : oSc S) : rMi g l yX8_hurt cX8_hurt 4 (some .int) 2 46 [.int f, .int v] z (fun r z' => r = an_hurt S f v ∧ rSc z' (nx_hurt S f v) ∧ rFr [] [5] z z') := by
  refine rMi_in (by decide) rfl (Nat.le_of_ble_eq_true rfl) ?_
  intro p e s m args below meth c A ls X hml hr hk hl w
  have hx := X.1
  have hb := X.2.1
  have hts := X.2.2.1
  have hown := X.2.2.2.1
  have hl : lv_has ls 4 [(0, .ref g.2.2.2.1), (1, .int f), (2, .int v)] := hl
  obtain ⟨hz0, hz1, hz4, hm0, hm1, hm2, hso, hki, hsr, hpa, hhu, hco⟩ := id hz
  obtain ⟨o1, o2, o3, o4, o5, o6, oso, oki, osr, opa, ohu, oco⟩ := id ho
  refine lv_aload_n hx hb dX8_hurt_0 rfl (lv_at hl 0 rfl) ?_
  refine lv_iload_n hx hb dX8_hurt_1 rfl (lv_at hl 1 rfl) ?_
  refine rc_p (rest := []) X hml hl.1 (k_isF l g z f S hz ho) ok_isFighter wm_X8_123 ⟨Nat.le_of_ble_eq_true rfl, Nat.le_of_ble_eq_true rfl⟩ ⟨Nat.le_refl _, Nat.le_refl _⟩ w.1 rfl (Nat.le_of_ble_eq_true rfl) dX8_hurt_2 (fun r_2 hr_2 => ?_)
  subst hr_2
  have i_2 := pc_inI_ok f.toInt 0 (((S.1 1 : Nat) : Int) - (1 : Int))
  refine n_if_eq (tgt := 20) hx hb dX8_hurt_5 (by decide) (by omega) (fun c_5_1 => ?_) (fun c_5_1 => ?_)
  · skip
    refine lv_iconst (v := (iZ (-1))) hx hb dX8_hurt_20 (by decide) ?_
    exact re_i X hr hk w (⟨by unfold an_hurt; rw [if_neg (by omega)], by unfold nx_hurt; rw [if_neg (by omega)]; exact hz, rFr_rf _ _ _⟩) dX8_hurt_21
  · skip
    refine lv_iload_n hx hb dX8_hurt_8 rfl (lv_at hl 2 rfl) ?_
    refine lv_i2l (v := v.toInt64) hx hb dX8_hurt_9 rfl ?_
    refine lv_lconst (v := 0) hx hb dX8_hurt_10 (by decide) ?_
    refine lv_ldc2 hx hb hown (hts _ wk_X8_78) dX8_hurt_11 ?_
    refine rc_s (rest := []) ⟨X.1, X.2.1, X.2.2.1, X.2.2.2.1⟩ hml hl.1 (k_in l v.toInt64 0 6) ok_in wm_X8_69 ⟨Nat.le_of_ble_eq_true rfl, Nat.le_of_ble_eq_true rfl⟩ ⟨Nat.le_refl _, Nat.le_refl _⟩ rfl (Nat.le_of_ble_eq_true rfl) dX8_hurt_14 (fun r_14 hr_14 => ?_)
    have h9 : r_14 = nI (pc_inI v.toInt (0) (6)) := by rw [hr_14]; exact congrArg nI (pc_in_I (in_toI _) (by decide) (by decide))
    subst h9
    have i_14 := pc_inI_ok v.toInt (0) (6)
    refine n_if_ne (tgt := 22) hx hb dX8_hurt_17 (by decide) (by omega) (fun c_17_2 => ?_) (fun c_17_2 => ?_)
    · skip
      refine lv_aload_n hx hb dX8_hurt_22 rfl (lv_at hl 0 rfl) ?_
      refine rc_p (rest := []) X hml hl.1 (k_turnS l g z S hz ho) ok_isTurned wm_X8_80 ⟨Nat.le_of_ble_eq_true rfl, Nat.le_of_ble_eq_true rfl⟩ ⟨Nat.le_refl _, Nat.le_refl _⟩ w.1 rfl (Nat.le_of_ble_eq_true rfl) dX8_hurt_23 (fun r_23 hr_23 => ?_)
      subst hr_23
      have d_23 := pc_td_ok S
      refine n_if_eq (tgt := 32) hx hb dX8_hurt_26 (by decide) (by omega) (fun c_26_3 => ?_) (fun c_26_3 => ?_)
      · skip
        obtain ⟨k, hq_k, rfl⟩ := iv_n (x := f) (by omega)
        obtain ⟨j, hq_j, rfl⟩ := iv_n (x := v) (by omega)
        refine lv_aload_n hx hb dX8_hurt_32 rfl (lv_at hl 0 rfl) ?_
        refine lv_iload_n hx hb dX8_hurt_33 rfl (lv_at hl 1 rfl) ?_
        refine rc_p (rest := []) X hml hl.1 (k_hurtS l g z k S hz ho (by omega)) ok_hurtOf wm_X8_91 ⟨Nat.le_of_ble_eq_true rfl, Nat.le_of_ble_eq_true rfl⟩ ⟨Nat.le_refl _, Nat.le_refl _⟩ w.1 rfl (Nat.le_of_ble_eq_true rfl) dX8_hurt_34 (fun r_34 hr_34 => ?_)
        subst hr_34
        refine lv_istore_n (lv' := [(3, .int (nI (S.2.1 4 k))), (0, .ref g.2.2.2.1), (1, .int (nI k)), (2, .int (nI j))]) hx hb dX8_hurt_37 rfl hl (by decide) rfl (fun ls hl => ?_)
        refine lv_aload_n hx hb dX8_hurt_38 rfl (lv_at hl 1 rfl) ?_
        refine rg_5 X w.1 dX8_hurt_39 ?_
        refine lv_iconst (v := (nI 3)) hx hb dX8_hurt_42 (by decide) ?_
        refine lv_iload_n hx hb dX8_hurt_43 rfl (lv_at hl 2 rfl) ?_
        refine n_iadd hx hb dX8_hurt_44 ?_
        refine lv_iload_n hx hb dX8_hurt_45 rfl (lv_at hl 3 rfl) ?_
        refine ru_5 X w (by omega) dX8_hurt_46 (fun z_46 H locs ez_46 w => ?_)
        have hz_46 : rSc z_46 (sR S 4 k j) := by rw [ez_46]; exact rw_hu hz k (by omega) j
        refine lv_iload_n hx hb dX8_hurt_47 rfl (lv_at hl 0 rfl) ?_
        exact re_i X hr hk w (⟨by unfold an_hurt; rw [if_pos (by omega), if_pos (by omega), show (nI k).toInt.toNat = k by omega], by unfold nx_hurt; rw [if_pos (by omega), if_pos (by omega), show (nI k).toInt.toNat = k by omega, show (nI j).toInt.toNat = j by omega]; exact hz_46, by rw [ez_46]; exact rFr_A _ (by decide)⟩) dX8_hurt_48
      · skip
        refine lv_bipush (v := (iZ (-2))) hx hb dX8_hurt_29 (by decide) ?_
        exact re_i X hr hk w (⟨by unfold an_hurt; rw [if_pos (by omega), if_neg (by omega)], by unfold nx_hurt; rw [if_pos (by omega), if_neg (by omega)]; exact hz, rFr_rf _ _ _⟩) dX8_hurt_31
    · skip
      refine lv_iconst (v := (iZ (-1))) hx hb dX8_hurt_20 (by decide) ?_
      exact re_i X hr hk w (⟨by unfold an_hurt; rw [if_neg (by omega)], by unfold nx_hurt; rw [if_neg (by omega)]; exact hz, rFr_rf _ _ _⟩) dX8_hurt_21

theorem ok_start : rOk yX8_start cX8_start 3 (some .int) 1 := ⟨wc_X8_start, wi_X8_start, ws_X8_start, rfl, by decide, by decide, by decide +kernel⟩
set_option maxHeartbeats 4000000 in
set_option maxRecDepth 100000 in
theorem k_start (l : Launch) (g : RG) (z : RS) (v : Int32) (S : Sc) (hz : rSc z S) (ho : oSc S) : rMi g l yX8_start cX8_start 3 (some .int) 1 25 [.int v] z (fun r z' => r = an_start S v ∧ rSc z' (nx_start S v) ∧ rFr [4] [] z z') := by
  refine rMi_in (by decide) rfl (Nat.le_of_ble_eq_true rfl) ?_
  intro p e s m args below meth c A ls X hml hr hk hl w
  have hx := X.1
  have hb := X.2.1
  have hts := X.2.2.1
  have hown := X.2.2.2.1
  have hl : lv_has ls 3 [(0, .ref g.2.2.2.1), (1, .int v)] := hl
  obtain ⟨hz0, hz1, hz4, hm0, hm1, hm2, hso, hki, hsr, hpa, hhu, hco⟩ := id hz
  obtain ⟨o1, o2, o3, o4, o5, o6, oso, oki, osr, opa, ohu, oco⟩ := id ho
  refine lv_iload_n hx hb dX8_start_0 rfl (lv_at hl 1 rfl) ?_
  refine lv_i2l (v := v.toInt64) hx hb dX8_start_1 rfl ?_
  refine lv_lconst (v := 0) hx hb dX8_start_2 (by decide) ?_
  refine lv_ldc2 hx hb hown (hts _ wk_X8_132) dX8_start_3 ?_
  refine rc_s (rest := []) ⟨X.1, X.2.1, X.2.2.1, X.2.2.2.1⟩ hml hl.1 (k_in l v.toInt64 0 20) ok_in wm_X8_69 ⟨Nat.le_of_ble_eq_true rfl, Nat.le_of_ble_eq_true rfl⟩ ⟨Nat.le_refl _, Nat.le_refl _⟩ rfl (Nat.le_of_ble_eq_true rfl) dX8_start_6 (fun r_6 hr_6 => ?_)
  have h9 : r_6 = nI (pc_inI v.toInt (0) (20)) := by rw [hr_6]; exact congrArg nI (pc_in_I (in_toI _) (by decide) (by decide))
  subst h9
  have i_6 := pc_inI_ok v.toInt (0) (20)
  refine n_if_ne (tgt := 14) hx hb dX8_start_9 (by decide) (by omega) (fun c_9_1 => ?_) (fun c_9_1 => ?_)
  · skip
    refine lv_aload_n hx hb dX8_start_14 rfl (lv_at hl 0 rfl) ?_
    refine rg_5 X w.1 dX8_start_15 ?_
    refine lv_iconst (v := (nI 0)) hx hb dX8_start_18 (by decide) ?_
    refine rn_5 X w.1 (by omega) dX8_start_19 ?_
    refine tp_i (show z.2.1 5 0 = (nI (S.1 3)) from hm0) ?_
    refine n_if_eq (tgt := 26) hx hb dX8_start_20 (by decide) (by omega) (fun c_20_2 => ?_) (fun c_20_2 => ?_)
    · skip
      obtain ⟨j, hq_j, rfl⟩ := iv_n (x := v) (by omega)
      refine lv_aload_n hx hb dX8_start_26 rfl (lv_at hl 0 rfl) ?_
      refine rg_4 X w.1 dX8_start_27 ?_
      refine tp_i (show z.1 4 = (nI (S.1 2)) from hz4) ?_
      refine lv_istore_n (lv' := [(2, .int (nI (S.1 2))), (0, .ref g.2.2.2.1), (1, .int (nI j))]) hx hb dX8_start_30 rfl hl (by decide) rfl (fun ls hl => ?_)
      refine lv_aload_n hx hb dX8_start_31 rfl (lv_at hl 1 rfl) ?_
      refine lv_iload_n hx hb dX8_start_32 rfl (lv_at hl 2 rfl) ?_
      refine rp_4 X w dX8_start_33 (fun z_33 H locs ez_33 w => ?_)
      have hz_33 : rSc z_33 (sN S 2 j) := by rw [ez_33]; exact rw_st hz j
      refine lv_iload_n hx hb dX8_start_36 rfl (lv_at hl 0 rfl) ?_
      exact re_i X hr hk w (⟨by unfold an_start; rw [if_pos (by omega), if_pos (by omega)], by unfold nx_start; rw [if_pos (by omega), if_pos (by omega), show (nI j).toInt.toNat = j by omega]; exact hz_33, by rw [ez_33]; exact rFr_I _ (by decide)⟩) dX8_start_37
    · skip
      refine lv_bipush (v := (iZ (-2))) hx hb dX8_start_23 (by decide) ?_
      exact re_i X hr hk w (⟨by unfold an_start; rw [if_pos (by omega), if_neg (by omega)], by unfold nx_start; rw [if_pos (by omega), if_neg (by omega)]; exact hz, rFr_rf _ _ _⟩) dX8_start_25
  · skip
    refine lv_iconst (v := (iZ (-1))) hx hb dX8_start_12 (by decide) ?_
    exact re_i X hr hk w (⟨by unfold an_start; rw [if_neg (by omega)], by unfold nx_start; rw [if_neg (by omega)]; exact hz, rFr_rf _ _ _⟩) dX8_start_13

theorem ok_sort : rOk yX8_sort cX8_sort 2 (some .int) 1 := ⟨wc_X8_sort, wi_X8_sort, ws_X8_sort, rfl, by decide, by decide, by decide +kernel⟩
set_option maxHeartbeats 4000000 in
set_option maxRecDepth 100000 in
theorem k_sort (l : Launch) (g : RG) (z : RS) (x : Int32) (S : Sc) (hz : rSc z S) (ho : oSc S) : rMp g l yX8_sort cX8_sort 2 (some .int) 1 25 [.int x] z (fun r => r = an_sort S x) := by
  refine rMp_in (by decide) rfl (Nat.le_of_ble_eq_true rfl) ?_
  intro p e s m args below meth c ls X hml hr hk hl w
  have hx := X.1
  have hb := X.2.1
  have hts := X.2.2.1
  have hown := X.2.2.2.1
  have hl : lv_has ls 2 [(0, .ref g.2.2.2.1), (1, .int x)] := hl
  obtain ⟨hz0, hz1, hz4, hm0, hm1, hm2, hso, hki, hsr, hpa, hhu, hco⟩ := id hz
  obtain ⟨o1, o2, o3, o4, o5, o6, oso, oki, osr, opa, ohu, oco⟩ := id ho
  refine lv_iload_n hx hb dX8_sort_0 rfl (lv_at hl 1 rfl) ?_
  refine lv_i2l (v := x.toInt64) hx hb dX8_sort_1 rfl ?_
  refine lv_lconst (v := 0) hx hb dX8_sort_2 (by decide) ?_
  refine lv_aload_n hx hb dX8_sort_3 rfl (lv_at hl 0 rfl) ?_
  refine rg_0 X w dX8_sort_4 ?_
  refine tp_i (show z.1 0 = (nI (S.1 0)) from hz0) ?_
  refine lv_iconst (v := (nI 1)) hx hb dX8_sort_7 (by decide) ?_
  refine tp_i (show nI 1 = iZ (1 : Int) from by decide) ?_
  refine tp_i2 (iZ_n (S.1 0)).symm ?_
  refine z_isub hx hb dX8_sort_8 ?_
  refine lv_i2l (v := (iZ ((((S.1 0 : Nat) : Int)) - ((1 : Int)))).toInt64) hx hb dX8_sort_9 rfl ?_
  refine rc_s (rest := []) ⟨X.1, X.2.1, X.2.2.1, X.2.2.2.1⟩ hml hl.1 (k_in l x.toInt64 0 ((iZ ((((S.1 0 : Nat) : Int)) - ((1 : Int)))).toInt64)) ok_in wm_X8_69 ⟨Nat.le_of_ble_eq_true rfl, Nat.le_of_ble_eq_true rfl⟩ ⟨Nat.le_refl _, Nat.le_refl _⟩ rfl (Nat.le_of_ble_eq_true rfl) dX8_sort_10 (fun r_10 hr_10 => ?_)
  have h9 : r_10 = nI (pc_inI x.toInt (0) ((((S.1 0 : Nat) : Int)) - ((1 : Int)))) := by rw [hr_10]; exact congrArg nI (pc_in_I (in_toI _) (by decide) (in_toZ (by omega) (by omega)))
  subst h9
  have i_10 := pc_inI_ok x.toInt (0) ((((S.1 0 : Nat) : Int)) - ((1 : Int)))
  refine n_if_eq (tgt := 25) hx hb dX8_sort_13 (by decide) (by omega) (fun c_13_1 => ?_) (fun c_13_1 => ?_)
  · skip
    refine lv_iconst (v := (iZ (-1))) hx hb dX8_sort_25 (by decide) ?_
    exact re_p hx hb hr hk (by unfold an_sort; first | (rw [if_neg (by omega)]; done) | rw [if_pos (by omega), show (nI k).toInt.toNat = k by omega]) dX8_sort_26
  · skip
    obtain ⟨k, hq_k, rfl⟩ := iv_n (x := x) (by omega)
    refine lv_aload_n hx hb dX8_sort_16 rfl (lv_at hl 0 rfl) ?_
    refine rg_2 X w dX8_sort_17 ?_
    refine lv_iload_n hx hb dX8_sort_20 rfl (lv_at hl 1 rfl) ?_
    refine rn_2 X w (by omega) dX8_sort_21 ?_
    refine tp_i (show z.2.1 2 k = (nI (S.2.1 0 k)) from hso k (by omega)) ?_
    refine lv_goto (tgt := 26) hx hb dX8_sort_22 (by decide) ?_
    exact re_p hx hb hr hk (by unfold an_sort; first | (rw [if_neg (by omega)]; done) | rw [if_pos (by omega), show (nI k).toInt.toNat = k by omega]) dX8_sort_26

theorem ok_cost : rOk yX8_cost cX8_cost 2 (some .int) 1 := ⟨wc_X8_cost, wi_X8_cost, ws_X8_cost, rfl, by decide, by decide, by decide +kernel⟩
set_option maxHeartbeats 4000000 in
set_option maxRecDepth 100000 in
theorem k_cost (l : Launch) (g : RG) (z : RS) (x : Int32) (S : Sc) (hz : rSc z S) (ho : oSc S) : rMp g l yX8_cost cX8_cost 2 (some .int) 1 25 [.int x] z (fun r => r = an_cost S x) := by
  refine rMp_in (by decide) rfl (Nat.le_of_ble_eq_true rfl) ?_
  intro p e s m args below meth c ls X hml hr hk hl w
  have hx := X.1
  have hb := X.2.1
  have hts := X.2.2.1
  have hown := X.2.2.2.1
  have hl : lv_has ls 2 [(0, .ref g.2.2.2.1), (1, .int x)] := hl
  obtain ⟨hz0, hz1, hz4, hm0, hm1, hm2, hso, hki, hsr, hpa, hhu, hco⟩ := id hz
  obtain ⟨o1, o2, o3, o4, o5, o6, oso, oki, osr, opa, ohu, oco⟩ := id ho
  refine lv_iload_n hx hb dX8_cost_0 rfl (lv_at hl 1 rfl) ?_
  refine lv_i2l (v := x.toInt64) hx hb dX8_cost_1 rfl ?_
  refine lv_lconst (v := 0) hx hb dX8_cost_2 (by decide) ?_
  refine lv_aload_n hx hb dX8_cost_3 rfl (lv_at hl 0 rfl) ?_
  refine rg_0 X w dX8_cost_4 ?_
  refine tp_i (show z.1 0 = (nI (S.1 0)) from hz0) ?_
  refine lv_iconst (v := (nI 1)) hx hb dX8_cost_7 (by decide) ?_
  refine tp_i (show nI 1 = iZ (1 : Int) from by decide) ?_
  refine tp_i2 (iZ_n (S.1 0)).symm ?_
  refine z_isub hx hb dX8_cost_8 ?_
  refine lv_i2l (v := (iZ ((((S.1 0 : Nat) : Int)) - ((1 : Int)))).toInt64) hx hb dX8_cost_9 rfl ?_
  refine rc_s (rest := []) ⟨X.1, X.2.1, X.2.2.1, X.2.2.2.1⟩ hml hl.1 (k_in l x.toInt64 0 ((iZ ((((S.1 0 : Nat) : Int)) - ((1 : Int)))).toInt64)) ok_in wm_X8_69 ⟨Nat.le_of_ble_eq_true rfl, Nat.le_of_ble_eq_true rfl⟩ ⟨Nat.le_refl _, Nat.le_refl _⟩ rfl (Nat.le_of_ble_eq_true rfl) dX8_cost_10 (fun r_10 hr_10 => ?_)
  have h9 : r_10 = nI (pc_inI x.toInt (0) ((((S.1 0 : Nat) : Int)) - ((1 : Int)))) := by rw [hr_10]; exact congrArg nI (pc_in_I (in_toI _) (by decide) (in_toZ (by omega) (by omega)))
  subst h9
  have i_10 := pc_inI_ok x.toInt (0) ((((S.1 0 : Nat) : Int)) - ((1 : Int)))
  refine n_if_eq (tgt := 24) hx hb dX8_cost_13 (by decide) (by omega) (fun c_13_1 => ?_) (fun c_13_1 => ?_)
  · skip
    refine lv_iconst (v := (iZ (-1))) hx hb dX8_cost_24 (by decide) ?_
    exact re_p hx hb hr hk (by unfold an_cost; first | (rw [if_neg (by omega)]; done) | rw [if_pos (by omega), show (nI k).toInt.toNat = k by omega]) dX8_cost_25
  · skip
    obtain ⟨k, hq_k, rfl⟩ := iv_n (x := x) (by omega)
    refine lv_aload_n hx hb dX8_cost_16 rfl (lv_at hl 0 rfl) ?_
    refine lv_iload_n hx hb dX8_cost_17 rfl (lv_at hl 1 rfl) ?_
    refine rc_p (rest := []) X hml hl.1 (k_costOf l g z k (S.2.1 0) hso (by omega)) ok_costOf wm_X8_110 ⟨Nat.le_of_ble_eq_true rfl, Nat.le_of_ble_eq_true rfl⟩ ⟨Nat.le_refl _, Nat.le_refl _⟩ w rfl (Nat.le_of_ble_eq_true rfl) dX8_cost_18 (fun r_18 hr_18 => ?_)
    subst hr_18
    have d_18 := pc_cost_le oso k
    refine lv_goto (tgt := 25) hx hb dX8_cost_21 (by decide) ?_
    exact re_p hx hb hr hk (by unfold an_cost; first | (rw [if_neg (by omega)]; done) | rw [if_pos (by omega), show (nI k).toInt.toNat = k by omega]) dX8_cost_25

theorem ok_points : rOk yX8_points cX8_points 3 (some .int) 2 := ⟨wc_X8_points, wi_X8_points, ws_X8_points, rfl, by decide, by decide, by decide +kernel⟩
set_option maxHeartbeats 4000000 in
set_option maxRecDepth 100000 in
theorem k_points (l : Launch) (g : RG) (z : RS) (f : Int32) (t : Int32) (S : Sc) (hz : rSc z S) (ho : oSc S) : rMp g l yX8_points cX8_points 3 (some .int) 2 46 [.int f, .int t] z (fun r => r = an_points S f t) := by
  refine rMp_in (by decide) rfl (Nat.le_of_ble_eq_true rfl) ?_
  intro p e s m args below meth c ls X hml hr hk hl w
  have hx := X.1
  have hb := X.2.1
  have hts := X.2.2.1
  have hown := X.2.2.2.1
  have hl : lv_has ls 3 [(0, .ref g.2.2.2.1), (1, .int f), (2, .int t)] := hl
  obtain ⟨hz0, hz1, hz4, hm0, hm1, hm2, hso, hki, hsr, hpa, hhu, hco⟩ := id hz
  obtain ⟨o1, o2, o3, o4, o5, o6, oso, oki, osr, opa, ohu, oco⟩ := id ho
  refine lv_aload_n hx hb dX8_points_0 rfl (lv_at hl 0 rfl) ?_
  refine lv_iload_n hx hb dX8_points_1 rfl (lv_at hl 1 rfl) ?_
  refine rc_p (rest := []) X hml hl.1 (k_isF l g z f S hz ho) ok_isFighter wm_X8_123 ⟨Nat.le_of_ble_eq_true rfl, Nat.le_of_ble_eq_true rfl⟩ ⟨Nat.le_refl _, Nat.le_refl _⟩ w rfl (Nat.le_of_ble_eq_true rfl) dX8_points_2 (fun r_2 hr_2 => ?_)
  subst hr_2
  have i_2 := pc_inI_ok f.toInt 0 (((S.1 1 : Nat) : Int) - (1 : Int))
  refine n_if_eq (tgt := 34) hx hb dX8_points_5 (by decide) (by omega) (fun c_5_1 => ?_) (fun c_5_1 => ?_)
  · skip
    refine lv_iconst (v := (iZ (-1))) hx hb dX8_points_34 (by decide) ?_
    exact re_p hx hb hr hk (by unfold an_points; first | (rw [if_neg (by omega)]; done) | rw [if_pos (by omega), show (nI k).toInt.toNat = k by omega, show (nI j).toInt.toNat = j by omega]) dX8_points_35
  · skip
    refine lv_iload_n hx hb dX8_points_8 rfl (lv_at hl 2 rfl) ?_
    refine lv_i2l (v := t.toInt64) hx hb dX8_points_9 rfl ?_
    refine lv_lconst (v := 0) hx hb dX8_points_10 (by decide) ?_
    refine lv_ldc2 hx hb hown (hts _ wk_X8_134) dX8_points_11 ?_
    refine rc_s (rest := []) ⟨X.1, X.2.1, X.2.2.1, X.2.2.2.1⟩ hml hl.1 (k_in l t.toInt64 0 400) ok_in wm_X8_69 ⟨Nat.le_of_ble_eq_true rfl, Nat.le_of_ble_eq_true rfl⟩ ⟨Nat.le_refl _, Nat.le_refl _⟩ rfl (Nat.le_of_ble_eq_true rfl) dX8_points_14 (fun r_14 hr_14 => ?_)
    have h9 : r_14 = nI (pc_inI t.toInt (0) (400)) := by rw [hr_14]; exact congrArg nI (pc_in_I (in_toI _) (by decide) (by decide))
    subst h9
    have i_14 := pc_inI_ok t.toInt (0) (400)
    refine n_if_eq (tgt := 34) hx hb dX8_points_17 (by decide) (by omega) (fun c_17_2 => ?_) (fun c_17_2 => ?_)
    · skip
      refine lv_iconst (v := (iZ (-1))) hx hb dX8_points_34 (by decide) ?_
      exact re_p hx hb hr hk (by unfold an_points; first | (rw [if_neg (by omega)]; done) | rw [if_pos (by omega), show (nI k).toInt.toNat = k by omega, show (nI j).toInt.toNat = j by omega]) dX8_points_35
    · skip
      obtain ⟨k, hq_k, rfl⟩ := iv_n (x := f) (by omega)
      obtain ⟨j, hq_j, rfl⟩ := iv_n (x := t) (by omega)
      refine lv_aload_n hx hb dX8_points_20 rfl (lv_at hl 0 rfl) ?_
      refine lv_iload_n hx hb dX8_points_21 rfl (lv_at hl 1 rfl) ?_
      refine lv_aload_n hx hb dX8_points_22 rfl (lv_at hl 0 rfl) ?_
      refine lv_iload_n hx hb dX8_points_23 rfl (lv_at hl 1 rfl) ?_
      refine rc_p (rest := [.int (nI k), .ref g.2.2.2.1]) X hml hl.1 (k_hurtS l g z k S hz ho (by omega)) ok_hurtOf wm_X8_91 ⟨Nat.le_of_ble_eq_true rfl, Nat.le_of_ble_eq_true rfl⟩ ⟨Nat.le_refl _, Nat.le_refl _⟩ w rfl (Nat.le_of_ble_eq_true rfl) dX8_points_24 (fun r_24 hr_24 => ?_)
      subst hr_24
      refine lv_iload_n hx hb dX8_points_27 rfl (lv_at hl 2 rfl) ?_
      refine rc_p (rest := []) X hml hl.1 (k_pointsOf l g z k (S.2.1 4 k) j S hz ho (by omega) (by first | omega | exact ohu _) (by omega)) ok_pointsOf wm_X8_95 ⟨Nat.le_of_ble_eq_true rfl, Nat.le_of_ble_eq_true rfl⟩ ⟨Nat.le_refl _, Nat.le_refl _⟩ w rfl (Nat.le_of_ble_eq_true rfl) dX8_points_28 (fun r_28 hr_28 => ?_)
      subst hr_28
      have d_28 := sp_pts_le S ho k (S.2.1 4 k) j
      refine lv_goto (tgt := 35) hx hb dX8_points_31 (by decide) ?_
      exact re_p hx hb hr hk (by unfold an_points; first | (rw [if_neg (by omega)]; done) | rw [if_pos (by omega), show (nI k).toInt.toNat = k by omega, show (nI j).toInt.toNat = j by omega]) dX8_points_35

theorem ok_seed : rOk yX8_seed cX8_seed 3 (some .int) 1 := ⟨wc_X8_seed, wi_X8_seed, ws_X8_seed, rfl, by decide, by decide, by decide +kernel⟩
set_option maxHeartbeats 4000000 in
set_option maxRecDepth 100000 in
theorem k_seed (l : Launch) (g : RG) (z : RS) (v : Int32) (S : Sc) (hz : rSc z S) (ho : oSc S) : rMi g l yX8_seed cX8_seed 3 (some .int) 0 0 [.int v] z (fun r z' => r = an_seed S v ∧ rSc z' (nx_seed S v) ∧ rFr [] [5] z z') := by
  refine rMi_in (by decide) rfl (Nat.le_of_ble_eq_true rfl) ?_
  intro p e s m args below meth c A ls X hml hr hk hl w
  have hx := X.1
  have hb := X.2.1
  have hts := X.2.2.1
  have hown := X.2.2.2.1
  have hl : lv_has ls 3 [(0, .ref g.2.2.2.1), (1, .int v)] := hl
  obtain ⟨hz0, hz1, hz4, hm0, hm1, hm2, hso, hki, hsr, hpa, hhu, hco⟩ := id hz
  obtain ⟨o1, o2, o3, o4, o5, o6, oso, oki, osr, opa, ohu, oco⟩ := id ho
  refine lv_iload_n hx hb dX8_seed_0 rfl (lv_at hl 1 rfl) ?_
  refine lv_if_ge (tgt := 6) hx hb dX8_seed_1 (by decide) (fun c_1_1 => ?_) (fun c_1_1 => ?_)
  · skip
    refine lv_aload_n hx hb dX8_seed_6 rfl (lv_at hl 0 rfl) ?_
    refine rg_5 X w.1 dX8_seed_7 ?_
    refine lv_iconst (v := (nI 2)) hx hb dX8_seed_10 (by decide) ?_
    refine rn_5 X w.1 (by omega) dX8_seed_11 ?_
    refine tp_i (show z.2.1 5 2 = S.2.2 from hm2) ?_
    refine lv_istore_n (lv' := [(2, .int S.2.2), (0, .ref g.2.2.2.1), (1, .int v)]) hx hb dX8_seed_12 rfl hl (by decide) rfl (fun ls hl => ?_)
    refine lv_aload_n hx hb dX8_seed_13 rfl (lv_at hl 1 rfl) ?_
    refine rg_5 X w.1 dX8_seed_14 ?_
    refine lv_iconst (v := (nI 2)) hx hb dX8_seed_17 (by decide) ?_
    refine lv_iload_n hx hb dX8_seed_18 rfl (lv_at hl 2 rfl) ?_
    refine ru_5 X w (by omega) dX8_seed_19 (fun z_19 H locs ez_19 w => ?_)
    have hz_19 : rSc z_19 (sD S v) := by rw [ez_19]; exact rw_dr hz v
    refine lv_iload_n hx hb dX8_seed_20 rfl (lv_at hl 0 rfl) ?_
    exact re_i X hr hk w (⟨by unfold an_seed; rw [if_neg (Int32.not_lt.mpr (by assumption))], by unfold nx_seed; rw [if_neg (Int32.not_lt.mpr (by assumption))]; exact hz_19, by rw [ez_19]; exact rFr_A _ (by decide)⟩) dX8_seed_21
  · skip
    refine lv_iconst (v := (iZ (-1))) hx hb dX8_seed_4 (by decide) ?_
    exact re_i X hr hk w (⟨by unfold an_seed; rw [if_pos (Int32.not_le.mp (by assumption))], by unfold nx_seed; rw [if_pos (Int32.not_le.mp (by assumption))]; exact hz, rFr_rf _ _ _⟩) dX8_seed_5

theorem ok_turn : rOk yX8_turn cX8_turn 1 (some .int) 0 := ⟨wc_X8_turn, wi_X8_turn, ws_X8_turn, rfl, by decide, by decide, by decide +kernel⟩
set_option maxHeartbeats 4000000 in
set_option maxRecDepth 100000 in
theorem k_turn (l : Launch) (g : RG) (z : RS)  (S : Sc) (hz : rSc z S) (ho : oSc S) (htg : z.1 6 = nI 0) : rMi g l yX8_turn cX8_turn 1 (some .int) 5 113 [] z (fun r z' => r = an_turn S ∧ rSc z' (nx_turn S) ∧ rFr [] [5] z z') := by
  refine rMi_in (by decide) rfl (Nat.le_of_ble_eq_true rfl) ?_
  intro p e s m args below meth c A ls X hml hr hk hl w
  have hx := X.1
  have hb := X.2.1
  have hts := X.2.2.1
  have hown := X.2.2.2.1
  have hl : lv_has ls 1 [(0, .ref g.2.2.2.1)] := hl
  obtain ⟨hz0, hz1, hz4, hm0, hm1, hm2, hso, hki, hsr, hpa, hhu, hco⟩ := id hz
  obtain ⟨o1, o2, o3, o4, o5, o6, oso, oki, osr, opa, ohu, oco⟩ := id ho
  refine lv_aload_n hx hb dX8_turn_0 rfl (lv_at hl 0 rfl) ?_
  refine rc_p (rest := []) X hml hl.1 (k_over l g z S hz ho) ok_over wm_X8_174 ⟨Nat.le_of_ble_eq_true rfl, Nat.le_of_ble_eq_true rfl⟩ ⟨Nat.le_refl _, Nat.le_refl _⟩ w.1 rfl (Nat.le_of_ble_eq_true rfl) dX8_turn_1 (fun r_1 hr_1 => ?_)
  subst hr_1
  have d_1 := sp_over_le S
  refine n_if_ne (tgt := 14) hx hb dX8_turn_4 (by decide) (by omega) (fun c_4_1 => ?_) (fun c_4_1 => ?_)
  · skip
    refine lv_bipush (v := (iZ (-2))) hx hb dX8_turn_14 (by decide) ?_
    exact re_i X hr hk w (⟨by unfold an_turn; rw [if_neg (by omega)], by unfold nx_turn; rw [if_neg (by omega)]; exact hz, rFr_rf _ _ _⟩) dX8_turn_16
  · skip
    refine lv_aload_n hx hb dX8_turn_7 rfl (lv_at hl 0 rfl) ?_
    refine rc_p (rest := []) X hml hl.1 (k_turnS l g z S hz ho) ok_isTurned wm_X8_80 ⟨Nat.le_of_ble_eq_true rfl, Nat.le_of_ble_eq_true rfl⟩ ⟨Nat.le_refl _, Nat.le_refl _⟩ w.1 rfl (Nat.le_of_ble_eq_true rfl) dX8_turn_8 (fun r_8 hr_8 => ?_)
    subst hr_8
    have d_8 := pc_td_ok S
    refine n_if_eq (tgt := 17) hx hb dX8_turn_11 (by decide) (by omega) (fun c_11_2 => ?_) (fun c_11_2 => ?_)
    · skip
      refine lv_aload_n hx hb dX8_turn_17 rfl (lv_at hl 0 rfl) ?_
      refine lv_aload_n hx hb dX8_turn_18 rfl (lv_at hl 0 rfl) ?_
      refine rg_5 X w.1 dX8_turn_19 ?_
      refine lv_iconst (v := (nI 0)) hx hb dX8_turn_22 (by decide) ?_
      refine rn_5 X w.1 (by omega) dX8_turn_23 ?_
      refine tp_i (show z.2.1 5 0 = (nI (S.1 3)) from hm0) ?_
      refine rc_v (rest := []) X hml hl.1 (k_turns l g z (S.1 3) S hz ho 0 htg (by omega) (by omega)) ok_turns wm_X8_198 ⟨Nat.le_of_ble_eq_true rfl, Nat.le_of_ble_eq_true rfl⟩ ⟨Nat.le_refl _, Nat.le_refl _⟩ w rfl (Nat.le_of_ble_eq_true rfl) dX8_turn_24 (fun z_24 H locs hr_24 w => ?_)
      skip
      refine lv_aload_n hx hb dX8_turn_27 rfl (lv_at hl 0 rfl) ?_
      refine rg_5 X w.1 dX8_turn_28 ?_
      refine lv_iconst (v := (nI 1)) hx hb dX8_turn_31 (by decide) ?_
      refine rn_5 X w.1 (by omega) dX8_turn_32 ?_
      refine tp_i (show z_24.2.1 5 1 = (nI (sp_run S (S.1 3))) from sd_turn hr_24.1) ?_
      exact re_i X hr hk w (⟨by unfold an_turn; rw [if_pos (by omega)], by unfold nx_turn; rw [if_pos (by omega)]; exact hr_24.1, hr_24.2⟩) dX8_turn_33
    · skip
      refine lv_bipush (v := (iZ (-2))) hx hb dX8_turn_14 (by decide) ?_
      exact re_i X hr hk w (⟨by unfold an_turn; rw [if_neg (by omega)], by unfold nx_turn; rw [if_neg (by omega)]; exact hz, rFr_rf _ _ _⟩) dX8_turn_16
end
section
theorem rPa_fr {is ks : List Nat} {z z' : RS} {u : Nat} {P : Nat → Nat → Int32} (h : rFr is ks z z') (h1 : 16 ∉ is) (h2 : 15 ∉ ks) (hp : rPa z u P) : rPa z' u P :=
  ⟨(h.1 16 h1).trans hp.1, hp.2.1, fun j hj k hk => (congrFun (h.2.1 15 h2) _).trans (hp.2.2 j hj k hk)⟩
def an_mom (S : Sc) : Int32 := if sp_over S = 0 then (if S.1 3 = 400 then iZ (-3) else (if S.1 4 = 0 then iZ (-4) else sp_fgA S)) else iZ (-2)
def nx_mom (S : Sc) : Sc := if sp_over S = 0 ∧ ¬ S.1 3 = 400 then (if S.1 4 = 0 then (if sp_ct S 0 (S.1 3 + 1) = 0 then sN S 3 (S.1 3 + 1) else sp_turn S 0 (S.1 3 + 1)) else sp_fgS S) else S
def np_mom (S : Sc) (u : Nat) (P : Nat → Nat → Int32) (r : Nat → Int32) (z' : RS) : Prop := if sp_over S = 0 ∧ ¬ S.1 3 = 400 then rPa z' (pa_n u) (pa_put u P r) else rPa z' u P
/-- one more FIGHTER -/
def sc_add (S : Sc) (k a p h : Nat) : Sc := (va_up S.1 1 (S.1 1 + 1), va_up (va_up (va_up (va_up (va_up S.2.1 1 (va_up (S.2.1 1) (S.1 1) k)) 2 (va_up (S.2.1 2) (S.1 1) a)) 3 (va_up (S.2.1 3) (S.1 1) p)) 4 (va_up (S.2.1 4) (S.1 1) h)) 5 (va_up (S.2.1 5) (S.1 1) 99999), S.2.2)
theorem up_ix {f : Nat → Int32} {b : Nat → Nat} {i : Nat → Nat} {n k v : Nat} (hi : ∀ a c, a < 5 → c < 5 → i a = i c → a = c) (hk : k < 5) (h : ∀ q, q < 5 → f (i q) = nI (b q)) : ∀ q, q < 5 → upd f (i k) (nI v) (i q) = nI (va_up b k v q) := by
  intro q hq
  by_cases e : q = k
  · subst e
    rw [pk_us, va_up_self]
  · rw [pk_un (fun x => e (hi q k hq hk x)), va_up_ne _ _ e]
    exact h q hq
theorem up_no {f : Nat → Int32} {b : Nat → Nat} {i : Nat → Nat} {j : Nat} {v : Int32} (hi : ∀ q, q < 5 → i q ≠ j) (h : ∀ q, q < 5 → f (i q) = nI (b q)) : ∀ q, q < 5 → upd f j v (i q) = nI (b q) := fun q hq => by
  rw [pk_un (hi q hq)]
  exact h q hq
theorem rw_add {z : RS} {S : Sc} (h : rSc z S) (hn : S.1 1 < 5) (k a p u : Nat) : rSc (sI (sA (sA (sA (sA (sA z 3 (3 * S.1 1) (nI k)) 3 (3 * S.1 1 + 1) (nI a)) 3 (3 * S.1 1 + 2) (nI p)) 5 (3 + S.1 1) (nI u)) 5 (8 + S.1 1) (nI 99999)) 1 (nI (S.1 1 + 1))) (sc_add S k a p u) := by
  obtain ⟨h0, h1, h2, h3, h4, h5, h6, h7, h8, h9, h10, h11⟩ := h
  refine ⟨h0, rfl, h2, ?_, ?_, ?_, h6, ?_, ?_, ?_, ?_, ?_⟩
  · show upd (upd (z.2.1 5) (3 + S.1 1) (nI u)) (8 + S.1 1) (nI 99999) 0 = _
    rw [pk_un (by omega), pk_un (by omega)]; exact h3
  · show upd (upd (z.2.1 5) (3 + S.1 1) (nI u)) (8 + S.1 1) (nI 99999) 1 = _
    rw [pk_un (by omega), pk_un (by omega)]; exact h4
  · show upd (upd (z.2.1 5) (3 + S.1 1) (nI u)) (8 + S.1 1) (nI 99999) 2 = _
    rw [pk_un (by omega), pk_un (by omega)]; exact h5
  · exact up_no (f := upd (upd (z.2.1 3) (3 * S.1 1) (nI k)) (3 * S.1 1 + 1) (nI a)) (i := fun q => 3 * q) (fun q _ => by show 3 * q ≠ _; omega) (up_no (f := upd (z.2.1 3) (3 * S.1 1) (nI k)) (i := fun q => 3 * q) (fun q _ => by show 3 * q ≠ _; omega) (up_ix (f := z.2.1 3) (i := fun q => 3 * q) (n := 0) (fun a c _ _ e => by have e : 3 * a = 3 * c := e; omega) hn h7))
  · exact up_no (f := upd (upd (z.2.1 3) (3 * S.1 1) (nI k)) (3 * S.1 1 + 1) (nI a)) (i := fun q => 3 * q + 1) (fun q _ => by show 3 * q + 1 ≠ _; omega) (up_ix (f := upd (z.2.1 3) (3 * S.1 1) (nI k)) (i := fun q => 3 * q + 1) (n := 0) (fun a c _ _ e => by have e : 3 * a + 1 = 3 * c + 1 := e; omega) hn (up_no (f := z.2.1 3) (i := fun q => 3 * q + 1) (fun q _ => by show 3 * q + 1 ≠ _; omega) h8))
  · exact up_ix (f := upd (upd (z.2.1 3) (3 * S.1 1) (nI k)) (3 * S.1 1 + 1) (nI a)) (i := fun q => 3 * q + 2) (n := 0) (fun a c _ _ e => by have e : 3 * a + 2 = 3 * c + 2 := e; omega) hn (up_no (f := upd (z.2.1 3) (3 * S.1 1) (nI k)) (i := fun q => 3 * q + 2) (fun q _ => by show 3 * q + 2 ≠ _; omega) (up_no (f := z.2.1 3) (i := fun q => 3 * q + 2) (fun q _ => by show 3 * q + 2 ≠ _; omega) h9))
  · exact up_no (f := upd (z.2.1 5) (3 + S.1 1) (nI u)) (i := fun q => 3 + q) (fun q _ => by show 3 + q ≠ _; omega) (up_ix (f := z.2.1 5) (i := fun q => 3 + q) (n := 0) (fun a c _ _ e => by have e : 3 + a = 3 + c := e; omega) hn h10)
  · exact up_ix (f := upd (z.2.1 5) (3 + S.1 1) (nI u)) (i := fun q => 8 + q) (n := 0) (fun a c _ _ e => by have e : 8 + a = 8 + c := e; omega) hn (up_no (f := z.2.1 5) (i := fun q => 8 + q) (fun q _ => by show 8 + q ≠ _; omega) h11)
def an_fig (S : Sc) (k a p : Int32) : Int32 := if (0 ≤ k.toInt ∧ k.toInt ≤ 3) ∧ (1 ≤ a.toInt ∧ a.toInt ≤ 9) ∧ 1 ≤ p.toInt ∧ p.toInt ≤ 6 then (if S.1 4 = 0 then (if S.1 1 = 5 then iZ (-3) else nI (S.1 1)) else iZ (-2)) else iZ (-1)
def nx_fig (S : Sc) (k a p : Int32) : Sc := if ((0 ≤ k.toInt ∧ k.toInt ≤ 3) ∧ (1 ≤ a.toInt ∧ a.toInt ≤ 9) ∧ 1 ≤ p.toInt ∧ p.toInt ≤ 6) ∧ S.1 4 = 0 ∧ ¬ S.1 1 = 5 then sc_add S k.toInt.toNat a.toInt.toNat p.toInt.toNat 0 else S
/-- behind it nothing may be UNDONE -/
def nu_fig (S : Sc) (u : Nat) (k a p : Int32) : Nat := if ((0 ≤ k.toInt ∧ k.toInt ≤ 3) ∧ (1 ≤ a.toInt ∧ a.toInt ≤ 9) ∧ 1 ≤ p.toInt ∧ p.toInt ≤ 6) ∧ S.1 4 = 0 ∧ ¬ S.1 1 = 5 then 0 else u
/-- THE TAPE: n letters -/
def rTp (z : RS) (n : Nat) (T : Nat → Nat) : Prop := z.1 8 = nI n ∧ n ≤ 100 ∧ (∀ j, j < 100 → z.2.1 7 j = nI (T j)) ∧ ∀ j, T j ≤ 126
def an_type (n : Nat) (x : Int32) : Int32 := if 32 ≤ x.toInt ∧ x.toInt ≤ 126 then (if n = 100 then iZ (-3) else nI (n + 1)) else iZ (-1)
def nn_type (n : Nat) (x : Int32) : Nat := if (32 ≤ x.toInt ∧ x.toInt ≤ 126) ∧ ¬ n = 100 then n + 1 else n
def nt_type (n : Nat) (T : Nat → Nat) (x : Int32) : Nat → Nat := if (32 ≤ x.toInt ∧ x.toInt ≤ 126) ∧ ¬ n = 100 then va_up T n x.toInt.toNat else T
theorem rw_tp {z : RS} {n k : Nat} {T : Nat → Nat} (h : rTp z n T) (hn : n < 100) (hk : k ≤ 126) : rTp (sI (sA z 7 n (nI k)) 8 (nI (n + 1))) (n + 1) (va_up T n k) := by
  refine ⟨rfl, by omega, fun j hj => ?_, fun j => ?_⟩
  · show upd (z.2.1 7) n (nI k) j = _
    by_cases e : j = n
    · subst e
      rw [pk_us, va_up_self]
    · rw [pk_un e, va_up_ne _ _ e]
      exact h.2.2.1 j hj
  · unfold va_up
    split
    · exact hk
    · exact h.2.2.2 j
end
section
theorem ok_undo : rOk yX8_undo cX8_undo 2 (some .int) 0 := ⟨wc_X8_undo, wi_X8_undo, ws_X8_undo, rfl, by decide, by decide, by decide +kernel⟩
set_option maxHeartbeats 4000000 in
set_option maxRecDepth 100000 in
theorem k_undo (l : Launch) (g : RG) (z : RS)  (S Q : Sc) (hz : rSc z S) (u : Nat) (P : Nat → Nat → Int32) (hpa : rPa z u P) (hQ : ¬ u = 0 → rNw (P (u - 1)) Q) : rMi g l yX8_undo cX8_undo 2 (some .int) 0 0 [] z (fun r z' => r = (if u = 0 then iZ (-4) else nI (u - 1)) ∧ rSc z' (if u = 0 then S else sc_at S Q) ∧ rPa z' (u - 1) P ∧ rFr [16] [5] z z') := by
  refine rMi_in (by decide) rfl (Nat.le_of_ble_eq_true rfl) ?_
  intro p e s m args below meth c A ls X hml hr hk hl w
  have hx := X.1
  have hb := X.2.1
  have hts := X.2.2.1
  have hown := X.2.2.2.1
  have hl : lv_has ls 2 [(0, .ref g.2.2.2.1)] := hl
  have hu8 := hpa.2.1
  refine lv_aload_n hx hb dX8_undo_0 rfl (lv_at hl 0 rfl) ?_
  refine rg_16 X w.1 dX8_undo_1 ?_
  refine tp_i (show z.1 16 = (nI u) from hpa.1) ?_
  refine n_if_ne (tgt := 10) hx hb dX8_undo_4 (by decide) (by omega) (fun c_4_1 => ?_) (fun c_4_1 => ?_)
  · skip
    refine lv_aload_n hx hb dX8_undo_10 rfl (lv_at hl 0 rfl) ?_
    refine lv_dup hx hb dX8_undo_11 rfl ?_
    refine rg_16 X w.1 dX8_undo_12 ?_
    refine tp_i (show z.1 16 = (nI u) from hpa.1) ?_
    refine lv_iconst (v := (nI 1)) hx hb dX8_undo_15 (by decide) ?_
    refine n_isub hx hb dX8_undo_16 (by omega) ?_
    refine rp_16 X w dX8_undo_17 (fun z_17 H locs ez_17 w => ?_)
    refine lv_iconst (v := (nI 0)) hx hb dX8_undo_20 (by decide) ?_
    refine lv_istore_n (lv' := [(1, .int (nI 0)), (0, .ref g.2.2.2.1)]) hx hb dX8_undo_21 rfl hl (by decide) rfl (fun ls hl => ?_)
    have lp_22 : ∀ (n_22 : Nat) (i : Nat) (hi : i ≤ 13) (hm_22 : 13 - i < n_22) (ls : Array Slot) (zz : RS) (H : Heap) (locs : List Loc) (w : rW g A s zz H locs) (hfl : fl (zz.2.1 5) (fun k => z.2.1 15 (13 * (u - 1) + k)) (z.2.1 5) 0 i) (hfz : rFr [16] [5] z zz) (hu : zz.1 16 = nI (u - 1)), lv_has ls 2 [(0, .ref g.2.2.2.1), (1, .int (nI i))] → W p l e (ro_m 0 0) s m args below meth c H locs 0 0 (MQ below (va_Qi (fun r z' => r = (if u = 0 then iZ (-4) else nI (u - 1)) ∧ rSc z' (if u = 0 then S else sc_at S Q) ∧ rPa z' (u - 1) P ∧ rFr [16] [5] z z') (rB g A) A) args s 0 0 A) (F0 m 22 ls []) := by
      intro n_22
      induction n_22 with
      | zero => intro i hi hm; exact absurd hm (Nat.not_lt_zero _)
      | succ n_22 ih_22 =>
        intro i hi hm_22 ls zz H locs w hfl hfz hu hl
        refine lv_iload_n hx hb dX8_undo_22 rfl (lv_at hl 1 rfl) ?_
        refine lv_bipush (v := (nI 13)) hx hb dX8_undo_23 (by decide) ?_
        refine n_icmp_ge (tgt := 54) hx hb dX8_undo_25 (by decide) (by omega) (by omega) (fun c_25_2 => ?_) (fun c_25_2 => ?_)
        · skip
          refine lv_aload_n hx hb dX8_undo_54 rfl (lv_at hl 0 rfl) ?_
          refine rg_16 X w.1 dX8_undo_55 ?_
          refine tp_i (show zz.1 16 = (nI (u - 1)) from hu) ?_
          exact re_i X hr hk w (by have e9 : i = 13 := (by omega); have u0 : ¬ u = 0 := (by omega); subst e9; exact ⟨by rw [if_neg u0], by rw [if_neg u0]; exact rSc_at hz hfz (by decide) (by decide) (by decide) (by decide) (by decide) (rNw_of (hQ u0) (fun k hk => (fl_in0 hfl hk).trans (hpa.2.2 (u - 1) (by omega) k hk))), ⟨hu, by omega, fun j hj k hk => (congrFun (hfz.2.1 15 (by decide)) _).trans (hpa.2.2 j (by omega) k hk)⟩, hfz⟩) dX8_undo_58
        · skip
          refine lv_aload_n hx hb dX8_undo_28 rfl (lv_at hl 0 rfl) ?_
          refine rg_5 X w.1 dX8_undo_29 ?_
          refine lv_iload_n hx hb dX8_undo_32 rfl (lv_at hl 1 rfl) ?_
          refine lv_aload_n hx hb dX8_undo_33 rfl (lv_at hl 0 rfl) ?_
          refine rg_15 X w.1 dX8_undo_34 ?_
          refine lv_bipush (v := (nI 13)) hx hb dX8_undo_37 (by decide) ?_
          refine lv_aload_n hx hb dX8_undo_39 rfl (lv_at hl 0 rfl) ?_
          refine rg_16 X w.1 dX8_undo_40 ?_
          refine tp_i (show zz.1 16 = (nI (u - 1)) from hu) ?_
          refine n_imul hx hb dX8_undo_43 ?_
          refine lv_iload_n hx hb dX8_undo_44 rfl (lv_at hl 1 rfl) ?_
          refine n_iadd hx hb dX8_undo_45 ?_
          refine rn_15 X w.1 (by omega) dX8_undo_46 ?_
          refine ru_5 X w (by omega) dX8_undo_47 (fun z_47 H locs ez_47 w => ?_)
          refine lv_iinc (v := (nI (i + 1))) (lv' := [(1, .int (nI (i + 1))), (0, .ref g.2.2.2.1)]) hx hb dX8_undo_48 hl (k := 1) rfl (by first | exact nI_1 _ | (rw [show Int32.ofInt 1 = nI 1 from by decide, nI_add])) (by decide) rfl (fun ls hl => ?_)
          refine lv_goto (tgt := 22) hx hb dX8_undo_51 (by decide) ?_
          exact ih_22 (i + 1) (by omega) (by omega) ls z_47 _ _ w (by rw [ez_47]; exact fl_s0 hfl (congrFun (hfz.2.1 15 (by decide)) _)) (by rw [ez_47]; exact rFr_tr hfz (rFr_A _ (by decide))) (by rw [ez_47]; exact hu) (lv_sub hl [1, 0] rfl)
    exact lp_22 _ 0 (by omega) (Nat.lt_succ_self _) ls z_17 _ _ w (by rw [ez_17]; exact fl_0 _ _ _) (by rw [ez_17]; exact rFr_I _ (by decide)) (by first | (rw [ez_17]; done) | (rw [ez_17]; rfl)) (lv_sub hl [1, 0] rfl)
  · skip
    refine lv_bipush (v := (iZ (-4))) hx hb dX8_undo_7 (by decide) ?_
    exact re_i X hr hk w (by subst_vars; exact ⟨rfl, hz, hpa, rFr_rf _ _ _⟩) dX8_undo_9

theorem ok_moment : rOk yX8_moment cX8_moment 1 (some .int) 0 := ⟨wc_X8_moment, wi_X8_moment, ws_X8_moment, rfl, by decide, by decide, by decide +kernel⟩
set_option maxHeartbeats 4000000 in
set_option maxRecDepth 100000 in
theorem k_moment (l : Launch) (g : RG) (z : RS)  (S : Sc) (hz : rSc z S) (ho : oSc S) (htg : z.1 6 = nI 0) (hmo : S.1 3 ≤ 400) (u : Nat) (P : Nat → Nat → Int32) (hps : rPa z u P) : rMi g l yX8_moment cX8_moment 1 (some .int) 5 113 [] z (fun r z' => r = an_mom S ∧ rSc z' (nx_mom S) ∧ np_mom S u P (z.2.1 5) z' ∧ rFr [16] [5, 15] z z') := by
  refine rMi_in (by decide) rfl (Nat.le_of_ble_eq_true rfl) ?_
  intro p e s m args below meth c A ls X hml hr hk hl w
  have hx := X.1
  have hb := X.2.1
  have hts := X.2.2.1
  have hown := X.2.2.2.1
  have hl : lv_has ls 1 [(0, .ref g.2.2.2.1)] := hl
  obtain ⟨hz0, hz1, hz4, hm0, hm1, hm2, hso, hki, hsr, hpa, hhu, hco⟩ := id hz
  obtain ⟨o1, o2, o3, o4, o5, o6, oso, oki, osr, opa, ohu, oco⟩ := id ho
  refine lv_aload_n hx hb dX8_moment_0 rfl (lv_at hl 0 rfl) ?_
  refine rc_p (rest := []) X hml hl.1 (k_over l g z S hz ho) ok_over wm_X8_174 ⟨Nat.le_of_ble_eq_true rfl, Nat.le_of_ble_eq_true rfl⟩ ⟨Nat.le_refl _, Nat.le_refl _⟩ w.1 rfl (Nat.le_of_ble_eq_true rfl) dX8_moment_1 (fun r_1 hr_1 => ?_)
  subst hr_1
  have d_1 := sp_over_le S
  refine n_if_eq (tgt := 10) hx hb dX8_moment_4 (by decide) (by omega) (fun c_4_1 => ?_) (fun c_4_1 => ?_)
  · skip
    refine lv_aload_n hx hb dX8_moment_10 rfl (lv_at hl 0 rfl) ?_
    refine rg_5 X w.1 dX8_moment_11 ?_
    refine lv_iconst (v := (nI 0)) hx hb dX8_moment_14 (by decide) ?_
    refine rn_5 X w.1 (by omega) dX8_moment_15 ?_
    refine tp_i (show z.2.1 5 0 = (nI (S.1 3)) from hm0) ?_
    refine lv_sipush (v := (nI 400)) hx hb dX8_moment_16 (by decide) ?_
    refine n_icmp_ne (tgt := 25) hx hb dX8_moment_19 (by decide) (by omega) (by omega) (fun c_19_2 => ?_) (fun c_19_2 => ?_)
    · skip
      refine lv_aload_n hx hb dX8_moment_25 rfl (lv_at hl 0 rfl) ?_
      refine rc_v (rest := []) X hml hl.1 (k_notes l g z u P hps) ok_notes wm_X8_189 ⟨Nat.le_of_ble_eq_true rfl, Nat.le_of_ble_eq_true rfl⟩ ⟨Nat.le_refl _, Nat.le_refl _⟩ w rfl (Nat.le_of_ble_eq_true rfl) dX8_moment_26 (fun z_26 H locs hr_26 w => ?_)
      have hz_26 : rSc z_26 S := rSc_fr hr_26.2 (by decide) (by decide) (by decide) (by decide) (by decide) (by decide) hz
      have fz_26 := rFr_w (is' := [16]) (ks' := [5, 15]) hr_26.2 (by simp) (by simp)
      refine lv_aload_n hx hb dX8_moment_29 rfl (lv_at hl 0 rfl) ?_
      refine rc_p (rest := []) X hml hl.1 (k_turnS l g z_26 S hz_26 ho) ok_isTurned wm_X8_80 ⟨Nat.le_of_ble_eq_true rfl, Nat.le_of_ble_eq_true rfl⟩ ⟨Nat.le_refl _, Nat.le_refl _⟩ w.1 rfl (Nat.le_of_ble_eq_true rfl) dX8_moment_30 (fun r_30 hr_30 => ?_)
      subst hr_30
      have d_30 := pc_td_ok S
      refine n_if_eq (tgt := 41) hx hb dX8_moment_33 (by decide) (by omega) (fun c_33_3 => ?_) (fun c_33_3 => ?_)
      · skip
        refine lv_aload_n hx hb dX8_moment_41 rfl (lv_at hl 0 rfl) ?_
        refine rg_5 X w.1 dX8_moment_42 ?_
        refine lv_iconst (v := (nI 0)) hx hb dX8_moment_45 (by decide) ?_
        refine lv_dup2_11 hx hb dX8_moment_46 rfl rfl ?_
        refine rn_5 X w.1 (by omega) dX8_moment_47 ?_
        refine tp_i (show z_26.2.1 5 0 = (nI (S.1 3)) from (rs_mo hz_26 :)) ?_
        refine lv_iconst (v := (nI 1)) hx hb dX8_moment_48 (by decide) ?_
        refine n_iadd hx hb dX8_moment_49 ?_
        refine ru_5 X w (by omega) dX8_moment_50 (fun z_50 H locs ez_50 w => ?_)
        have hz_50 : rSc z_50 (sN S 3 (S.1 3 + 1)) := by rw [ez_50]; exact rw_mo hz_26 _
        have fz_50 : rFr [16] [5, 15] z_26 z_50 := by rw [ez_50]; exact rFr_A _ (by decide)
        have pz_50 : rPa z_50 (pa_n u) (pa_put u P (z.2.1 5)) := by rw [ez_50]; exact rPa_fr (is := []) (ks := [5]) (rFr_A _ (by decide)) (by decide) (by decide) hr_26.1
        refine lv_aload_n hx hb dX8_moment_51 rfl (lv_at hl 0 rfl) ?_
        refine lv_aload_n hx hb dX8_moment_52 rfl (lv_at hl 0 rfl) ?_
        refine rg_5 X w.1 dX8_moment_53 ?_
        refine lv_iconst (v := (nI 0)) hx hb dX8_moment_56 (by decide) ?_
        refine rn_5 X w.1 (by omega) dX8_moment_57 ?_
        refine tp_i (show z_50.2.1 5 0 = (nI (S.1 3 + 1)) from (rs_mo hz_50 :)) ?_
        refine rc_p (rest := []) X hml hl.1 (k_isCaught l g z_50 (S.1 3 + 1) (sN S 3 (S.1 3 + 1)) hz_50 (oSc_mo ho (by omega)) 0 (by rw [ez_50]; exact (hr_26.2.1 6 (by decide)).trans htg) (by omega) (by omega)) ok_isCaught wm_X8_195 ⟨Nat.le_of_ble_eq_true rfl, Nat.le_of_ble_eq_true rfl⟩ ⟨Nat.le_refl _, Nat.le_refl _⟩ w.1 rfl (Nat.le_of_ble_eq_true rfl) dX8_moment_58 (fun r_58 hr_58 => ?_)
        have h9 : r_58 = nI (sp_ct S 0 (S.1 3 + 1)) := by rw [hr_58, ev_ct (ev_mo S _)]
        subst h9
        have d_58 := sp_ct01 S 0 (S.1 3 + 1)
        refine n_if_eq (tgt := 74) hx hb dX8_moment_61 (by decide) (by omega) (fun c_61_4 => ?_) (fun c_61_4 => ?_)
        · skip
          refine lv_bipush (v := (iZ (-4))) hx hb dX8_moment_74 (by decide) ?_
          exact re_i X hr hk w (⟨by unfold an_mom; rw [if_pos (by omega), if_neg (by omega), if_pos (by omega)], by unfold nx_mom; rw [if_pos (by omega), if_pos (by omega), if_pos (by omega)]; exact hz_50, by unfold np_mom; rw [if_pos (by omega)]; exact pz_50, rFr_tr fz_26 fz_50⟩) dX8_moment_76
        · skip
          refine lv_aload_n hx hb dX8_moment_64 rfl (lv_at hl 0 rfl) ?_
          refine lv_aload_n hx hb dX8_moment_65 rfl (lv_at hl 0 rfl) ?_
          refine rg_5 X w.1 dX8_moment_66 ?_
          refine lv_iconst (v := (nI 0)) hx hb dX8_moment_69 (by decide) ?_
          refine rn_5 X w.1 (by omega) dX8_moment_70 ?_
          refine tp_i (show z_50.2.1 5 0 = (nI (S.1 3 + 1)) from (rs_mo hz_50 :)) ?_
          refine rc_v (rest := []) X hml hl.1 (k_turns l g z_50 (S.1 3 + 1) (sN S 3 (S.1 3 + 1)) hz_50 (oSc_mo ho (by omega)) 0 (by rw [ez_50]; exact (hr_26.2.1 6 (by decide)).trans htg) (by omega) (by omega)) ok_turns wm_X8_198 ⟨Nat.le_of_ble_eq_true rfl, Nat.le_of_ble_eq_true rfl⟩ ⟨Nat.le_refl _, Nat.le_refl _⟩ w rfl (Nat.le_of_ble_eq_true rfl) dX8_moment_71 (fun z_71 H locs hr_71 w => ?_)
          have fz_71 := rFr_w (is' := [16]) (ks' := [5, 15]) hr_71.2 (by simp) (by simp)
          rw [turn_mo] at hr_71
          refine lv_bipush (v := (iZ (-4))) hx hb dX8_moment_74 (by decide) ?_
          exact re_i X hr hk w (⟨by unfold an_mom; rw [if_pos (by omega), if_neg (by omega), if_pos (by omega)], by unfold nx_mom; rw [if_pos (by omega), if_pos (by omega), if_neg (by omega)]; exact hr_71.1, by unfold np_mom; rw [if_pos (by omega)]; exact rPa_fr hr_71.2 (by decide) (by decide) pz_50, rFr_tr (rFr_tr fz_26 fz_50) fz_71⟩) dX8_moment_76
      · skip
        refine lv_aload_n hx hb dX8_moment_36 rfl (lv_at hl 0 rfl) ?_
        refine rc_i (rest := []) X hml hl.1 (k_fights l g z_26 S hz_26 ho (by omega)) ok_fights wm_X8_192 ⟨Nat.le_of_ble_eq_true rfl, Nat.le_of_ble_eq_true rfl⟩ ⟨Nat.le_refl _, Nat.le_refl _⟩ w rfl (Nat.le_of_ble_eq_true rfl) dX8_moment_37 (fun r_37 z_37 H locs hr_37 w => ?_)
        have fz_37 := rFr_w (is' := [16]) (ks' := [5, 15]) hr_37.2.2 (by simp) (by simp)
        exact re_i X hr hk w (⟨by rw [hr_37.1]; unfold an_mom; rw [if_pos (by omega), if_neg (by omega), if_neg (by omega)], by unfold nx_mom; rw [if_pos (by omega), if_neg (by omega)]; exact hr_37.2.1, by unfold np_mom; rw [if_pos (by omega)]; exact rPa_fr hr_37.2.2 (by decide) (by decide) hr_26.1, rFr_tr fz_26 fz_37⟩) dX8_moment_40
    · skip
      refine lv_bipush (v := (iZ (-3))) hx hb dX8_moment_22 (by decide) ?_
      exact re_i X hr hk w (⟨by unfold an_mom; rw [if_pos (by omega), if_pos (by omega)], by unfold nx_mom; rw [if_neg (by omega)]; exact hz, by unfold np_mom; rw [if_neg (by omega)]; exact hps, rFr_rf _ _ _⟩) dX8_moment_24
  · skip
    refine lv_bipush (v := (iZ (-2))) hx hb dX8_moment_7 (by decide) ?_
    exact re_i X hr hk w (⟨by unfold an_mom; rw [if_neg (by omega)], by unfold nx_mom; rw [if_neg (by omega)]; exact hz, by unfold np_mom; rw [if_neg (by omega)]; exact hps, rFr_rf _ _ _⟩) dX8_moment_9

theorem ok_fighterComes : rOk yX8_fighterComes cX8_fighterComes 5 none 4 := ⟨wc_X8_fighterComes, wi_X8_fighterComes, ws_X8_fighterComes, rfl, by decide, by decide, by decide +kernel⟩
set_option maxHeartbeats 4000000 in
set_option maxRecDepth 100000 in
theorem k_fighterComes (l : Launch) (g : RG) (z : RS) (ki : Nat) (st : Nat) (pa : Nat) (hu : Nat) (S : Sc) (hz : rSc z S) (hn : S.1 1 < 5) : rMv g l yX8_fighterComes cX8_fighterComes 5 none 0 0 [.int (nI ki), .int (nI st), .int (nI pa), .int (nI hu)] z (fun z' => rSc z' (sc_add S ki st pa hu) ∧ rFr [1] [3, 5] z z') := by
  refine rMv_in (by decide) rfl (Nat.le_of_ble_eq_true rfl) ?_
  intro p e s m args below meth c A ls X hml hr hk hl w
  have hx := X.1
  have hb := X.2.1
  have hts := X.2.2.1
  have hown := X.2.2.2.1
  have hl : lv_has ls 5 [(0, .ref g.2.2.2.1), (1, .int (nI ki)), (2, .int (nI st)), (3, .int (nI pa)), (4, .int (nI hu))] := hl
  have hz1 := rs_nf hz
  refine lv_aload_n hx hb dX8_fighterComes_0 rfl (lv_at hl 0 rfl) ?_
  refine rg_3 X w.1 dX8_fighterComes_1 ?_
  refine lv_iconst (v := (nI 3)) hx hb dX8_fighterComes_4 (by decide) ?_
  refine lv_aload_n hx hb dX8_fighterComes_5 rfl (lv_at hl 0 rfl) ?_
  refine rg_1 X w.1 dX8_fighterComes_6 ?_
  refine tp_i (show z.1 1 = (nI (S.1 1)) from hz1) ?_
  refine n_imul hx hb dX8_fighterComes_9 ?_
  refine lv_iload_n hx hb dX8_fighterComes_10 rfl (lv_at hl 1 rfl) ?_
  refine ru_3 X w (by omega) dX8_fighterComes_11 (fun z_11 H locs ez_11 w => ?_)
  refine lv_aload_n hx hb dX8_fighterComes_12 rfl (lv_at hl 0 rfl) ?_
  refine rg_3 X w.1 dX8_fighterComes_13 ?_
  refine lv_iconst (v := (nI 3)) hx hb dX8_fighterComes_16 (by decide) ?_
  refine lv_aload_n hx hb dX8_fighterComes_17 rfl (lv_at hl 0 rfl) ?_
  refine rg_1 X w.1 dX8_fighterComes_18 ?_
  refine tp_i (show z_11.1 1 = (nI (S.1 1)) from by rw [ez_11]; exact hz1) ?_
  refine n_imul hx hb dX8_fighterComes_21 ?_
  refine lv_iconst (v := (nI 1)) hx hb dX8_fighterComes_22 (by decide) ?_
  refine n_iadd hx hb dX8_fighterComes_23 ?_
  refine lv_iload_n hx hb dX8_fighterComes_24 rfl (lv_at hl 2 rfl) ?_
  refine ru_3 X w (by omega) dX8_fighterComes_25 (fun z_25 H locs ez_25 w => ?_)
  refine lv_aload_n hx hb dX8_fighterComes_26 rfl (lv_at hl 0 rfl) ?_
  refine rg_3 X w.1 dX8_fighterComes_27 ?_
  refine lv_iconst (v := (nI 3)) hx hb dX8_fighterComes_30 (by decide) ?_
  refine lv_aload_n hx hb dX8_fighterComes_31 rfl (lv_at hl 0 rfl) ?_
  refine rg_1 X w.1 dX8_fighterComes_32 ?_
  refine tp_i (show z_25.1 1 = (nI (S.1 1)) from by rw [ez_25]; rw [ez_11]; exact hz1) ?_
  refine n_imul hx hb dX8_fighterComes_35 ?_
  refine lv_iconst (v := (nI 2)) hx hb dX8_fighterComes_36 (by decide) ?_
  refine n_iadd hx hb dX8_fighterComes_37 ?_
  refine lv_iload_n hx hb dX8_fighterComes_38 rfl (lv_at hl 3 rfl) ?_
  refine ru_3 X w (by omega) dX8_fighterComes_39 (fun z_39 H locs ez_39 w => ?_)
  refine lv_aload_n hx hb dX8_fighterComes_40 rfl (lv_at hl 0 rfl) ?_
  refine rg_5 X w.1 dX8_fighterComes_41 ?_
  refine lv_iconst (v := (nI 3)) hx hb dX8_fighterComes_44 (by decide) ?_
  refine lv_aload_n hx hb dX8_fighterComes_45 rfl (lv_at hl 0 rfl) ?_
  refine rg_1 X w.1 dX8_fighterComes_46 ?_
  refine tp_i (show z_39.1 1 = (nI (S.1 1)) from by rw [ez_39]; rw [ez_25]; rw [ez_11]; exact hz1) ?_
  refine n_iadd hx hb dX8_fighterComes_49 ?_
  refine lv_iload hx hb dX8_fighterComes_50 (lv_at hl 4 rfl) ?_
  refine ru_5 X w (by omega) dX8_fighterComes_52 (fun z_52 H locs ez_52 w => ?_)
  refine lv_aload_n hx hb dX8_fighterComes_53 rfl (lv_at hl 0 rfl) ?_
  refine rg_5 X w.1 dX8_fighterComes_54 ?_
  refine lv_bipush (v := (nI 8)) hx hb dX8_fighterComes_57 (by decide) ?_
  refine lv_aload_n hx hb dX8_fighterComes_59 rfl (lv_at hl 0 rfl) ?_
  refine rg_1 X w.1 dX8_fighterComes_60 ?_
  refine tp_i (show z_52.1 1 = (nI (S.1 1)) from by rw [ez_52]; rw [ez_39]; rw [ez_25]; rw [ez_11]; exact hz1) ?_
  refine n_iadd hx hb dX8_fighterComes_63 ?_
  refine lv_ldc hx hb hown (hts _ wk_X8_73) dX8_fighterComes_64 ?_
  refine tp_i (show (99999 : Int32) = (nI 99999) from by decide) ?_
  refine ru_5 X w (by omega) dX8_fighterComes_66 (fun z_66 H locs ez_66 w => ?_)
  refine lv_aload_n hx hb dX8_fighterComes_67 rfl (lv_at hl 0 rfl) ?_
  refine lv_dup hx hb dX8_fighterComes_68 rfl ?_
  refine rg_1 X w.1 dX8_fighterComes_69 ?_
  refine tp_i (show z_66.1 1 = (nI (S.1 1)) from by rw [ez_66]; rw [ez_52]; rw [ez_39]; rw [ez_25]; rw [ez_11]; exact hz1) ?_
  refine lv_iconst (v := (nI 1)) hx hb dX8_fighterComes_72 (by decide) ?_
  refine n_iadd hx hb dX8_fighterComes_73 ?_
  refine rp_1 X w dX8_fighterComes_74 (fun z_74 H locs ez_74 w => ?_)
  exact re_v X hr hk w (⟨by rw [ez_74, ez_66, ez_52, ez_39, ez_25, ez_11]; exact rw_add hz hn _ _ _ _, by rw [ez_74, ez_66, ez_52, ez_39, ez_25, ez_11]; exact rFr_tr (rFr_tr (rFr_tr (rFr_tr (rFr_tr (rFr_A _ (by decide)) (rFr_A _ (by decide))) (rFr_A _ (by decide))) (rFr_A _ (by decide))) (rFr_A _ (by decide))) (rFr_I _ (by decide))⟩) dX8_fighterComes_77

theorem ok_fighter : rOk yX8_fighter cX8_fighter 4 (some .int) 3 := ⟨wc_X8_fighter, wi_X8_fighter, ws_X8_fighter, rfl, by decide, by decide, by decide +kernel⟩
set_option maxHeartbeats 4000000 in
set_option maxRecDepth 100000 in
theorem k_fighter (l : Launch) (g : RG) (z : RS) (x1 : Int32) (x2 : Int32) (x3 : Int32) (S : Sc) (hz : rSc z S) (ho : oSc S) (u : Nat) (P : Nat → Nat → Int32) (hps : rPa z u P) : rMi g l yX8_fighter cX8_fighter 4 (some .int) 1 25 [.int x1, .int x2, .int x3] z (fun r z' => r = an_fig S x1 x2 x3 ∧ rSc z' (nx_fig S x1 x2 x3) ∧ rPa z' (nu_fig S u x1 x2 x3) P ∧ rFr [1, 16] [3, 5] z z') := by
  refine rMi_in (by decide) rfl (Nat.le_of_ble_eq_true rfl) ?_
  intro p e s m args below meth c A ls X hml hr hk hl w
  have hx := X.1
  have hb := X.2.1
  have hts := X.2.2.1
  have hown := X.2.2.2.1
  have hl : lv_has ls 4 [(0, .ref g.2.2.2.1), (1, .int x1), (2, .int x2), (3, .int x3)] := hl
  obtain ⟨hz0, hz1, hz4, hm0, hm1, hm2, hso, hki, hsr, hpa, hhu, hco⟩ := id hz
  obtain ⟨o1, o2, o3, o4, o5, o6, oso, oki, osr, opa, ohu, oco⟩ := id ho
  refine lv_iload_n hx hb dX8_fighter_0 rfl (lv_at hl 1 rfl) ?_
  refine lv_i2l (v := x1.toInt64) hx hb dX8_fighter_1 rfl ?_
  refine lv_lconst (v := 0) hx hb dX8_fighter_2 (by decide) ?_
  refine lv_ldc2 hx hb hown (hts _ wk_X8_74) dX8_fighter_3 ?_
  refine rc_s (rest := []) ⟨X.1, X.2.1, X.2.2.1, X.2.2.2.1⟩ hml hl.1 (k_in l x1.toInt64 0 3) ok_in wm_X8_69 ⟨Nat.le_of_ble_eq_true rfl, Nat.le_of_ble_eq_true rfl⟩ ⟨Nat.le_refl _, Nat.le_refl _⟩ rfl (Nat.le_of_ble_eq_true rfl) dX8_fighter_6 (fun r_6 hr_6 => ?_)
  have h9 : r_6 = nI (pc_inI x1.toInt (0) (3)) := by rw [hr_6]; exact congrArg nI (pc_in_I (in_toI _) (by decide) (by decide))
  subst h9
  have i_6 := pc_inI_ok x1.toInt (0) (3)
  refine n_if_eq (tgt := 36) hx hb dX8_fighter_9 (by decide) (by omega) (fun c_9_1 => ?_) (fun c_9_1 => ?_)
  · skip
    refine lv_iconst (v := (iZ (-1))) hx hb dX8_fighter_36 (by decide) ?_
    exact re_i X hr hk w (⟨by unfold an_fig; rw [if_neg (by omega)], by unfold nx_fig; rw [if_neg (by omega)]; exact hz, by unfold nu_fig; rw [if_neg (by omega)]; exact hps, rFr_rf _ _ _⟩) dX8_fighter_37
  · skip
    refine lv_iload_n hx hb dX8_fighter_12 rfl (lv_at hl 2 rfl) ?_
    refine lv_i2l (v := x2.toInt64) hx hb dX8_fighter_13 rfl ?_
    refine lv_lconst (v := 1) hx hb dX8_fighter_14 (by decide) ?_
    refine lv_ldc2 hx hb hown (hts _ wk_X8_76) dX8_fighter_15 ?_
    refine rc_s (rest := []) ⟨X.1, X.2.1, X.2.2.1, X.2.2.2.1⟩ hml hl.1 (k_in l x2.toInt64 1 9) ok_in wm_X8_69 ⟨Nat.le_of_ble_eq_true rfl, Nat.le_of_ble_eq_true rfl⟩ ⟨Nat.le_refl _, Nat.le_refl _⟩ rfl (Nat.le_of_ble_eq_true rfl) dX8_fighter_18 (fun r_18 hr_18 => ?_)
    have h9 : r_18 = nI (pc_inI x2.toInt (1) (9)) := by rw [hr_18]; exact congrArg nI (pc_in_I (in_toI _) (by decide) (by decide))
    subst h9
    have i_18 := pc_inI_ok x2.toInt (1) (9)
    refine n_if_eq (tgt := 36) hx hb dX8_fighter_21 (by decide) (by omega) (fun c_21_2 => ?_) (fun c_21_2 => ?_)
    · skip
      refine lv_iconst (v := (iZ (-1))) hx hb dX8_fighter_36 (by decide) ?_
      exact re_i X hr hk w (⟨by unfold an_fig; rw [if_neg (by omega)], by unfold nx_fig; rw [if_neg (by omega)]; exact hz, by unfold nu_fig; rw [if_neg (by omega)]; exact hps, rFr_rf _ _ _⟩) dX8_fighter_37
    · skip
      refine lv_iload_n hx hb dX8_fighter_24 rfl (lv_at hl 3 rfl) ?_
      refine lv_i2l (v := x3.toInt64) hx hb dX8_fighter_25 rfl ?_
      refine lv_lconst (v := 1) hx hb dX8_fighter_26 (by decide) ?_
      refine lv_ldc2 hx hb hown (hts _ wk_X8_78) dX8_fighter_27 ?_
      refine rc_s (rest := []) ⟨X.1, X.2.1, X.2.2.1, X.2.2.2.1⟩ hml hl.1 (k_in l x3.toInt64 1 6) ok_in wm_X8_69 ⟨Nat.le_of_ble_eq_true rfl, Nat.le_of_ble_eq_true rfl⟩ ⟨Nat.le_refl _, Nat.le_refl _⟩ rfl (Nat.le_of_ble_eq_true rfl) dX8_fighter_30 (fun r_30 hr_30 => ?_)
      have h9 : r_30 = nI (pc_inI x3.toInt (1) (6)) := by rw [hr_30]; exact congrArg nI (pc_in_I (in_toI _) (by decide) (by decide))
      subst h9
      have i_30 := pc_inI_ok x3.toInt (1) (6)
      refine n_if_ne (tgt := 38) hx hb dX8_fighter_33 (by decide) (by omega) (fun c_33_3 => ?_) (fun c_33_3 => ?_)
      · skip
        refine lv_aload_n hx hb dX8_fighter_38 rfl (lv_at hl 0 rfl) ?_
        refine rc_p (rest := []) X hml hl.1 (k_turnS l g z S hz ho) ok_isTurned wm_X8_80 ⟨Nat.le_of_ble_eq_true rfl, Nat.le_of_ble_eq_true rfl⟩ ⟨Nat.le_refl _, Nat.le_refl _⟩ w.1 rfl (Nat.le_of_ble_eq_true rfl) dX8_fighter_39 (fun r_39 hr_39 => ?_)
        subst hr_39
        have d_39 := pc_td_ok S
        refine n_if_eq (tgt := 48) hx hb dX8_fighter_42 (by decide) (by omega) (fun c_42_4 => ?_) (fun c_42_4 => ?_)
        · skip
          refine lv_aload_n hx hb dX8_fighter_48 rfl (lv_at hl 0 rfl) ?_
          refine rg_1 X w.1 dX8_fighter_49 ?_
          refine tp_i (show z.1 1 = (nI (S.1 1)) from hz1) ?_
          refine lv_iconst (v := (nI 5)) hx hb dX8_fighter_52 (by decide) ?_
          refine n_icmp_ne (tgt := 59) hx hb dX8_fighter_53 (by decide) (by omega) (by omega) (fun c_53_5 => ?_) (fun c_53_5 => ?_)
          · skip
            obtain ⟨k1, hq_k1, rfl⟩ := iv_n (x := x1) (by omega)
            obtain ⟨k2, hq_k2, rfl⟩ := iv_n (x := x2) (by omega)
            obtain ⟨k3, hq_k3, rfl⟩ := iv_n (x := x3) (by omega)
            refine lv_aload_n hx hb dX8_fighter_59 rfl (lv_at hl 0 rfl) ?_
            refine lv_iload_n hx hb dX8_fighter_60 rfl (lv_at hl 1 rfl) ?_
            refine lv_iload_n hx hb dX8_fighter_61 rfl (lv_at hl 2 rfl) ?_
            refine lv_iload_n hx hb dX8_fighter_62 rfl (lv_at hl 3 rfl) ?_
            refine lv_iconst (v := (nI 0)) hx hb dX8_fighter_63 (by decide) ?_
            refine rc_v (rest := []) X hml hl.1 (k_fighterComes l g z k1 k2 k3 0 S hz (by omega)) ok_fighterComes wm_X8_84 ⟨Nat.le_of_ble_eq_true rfl, Nat.le_of_ble_eq_true rfl⟩ ⟨Nat.le_refl _, Nat.le_refl _⟩ w rfl (Nat.le_of_ble_eq_true rfl) dX8_fighter_64 (fun z_64 H locs hr_64 w => ?_)
            have fz_64 := rFr_w (is' := [1, 16]) (ks' := [3, 5]) hr_64.2 (by simp) (by simp)
            refine lv_aload_n hx hb dX8_fighter_67 rfl (lv_at hl 0 rfl) ?_
            refine lv_iconst (v := (nI 0)) hx hb dX8_fighter_68 (by decide) ?_
            refine rp_16 X w dX8_fighter_69 (fun z_69 H locs ez_69 w => ?_)
            refine lv_aload_n hx hb dX8_fighter_72 rfl (lv_at hl 0 rfl) ?_
            refine rg_1 X w.1 dX8_fighter_73 ?_
            refine tp_i (show z_69.1 1 = (nI (S.1 1 + 1)) from by rw [ez_69]; exact rs_nf hr_64.1) ?_
            refine lv_iconst (v := (nI 1)) hx hb dX8_fighter_76 (by decide) ?_
            refine n_isub hx hb dX8_fighter_77 (by omega) ?_
            exact re_i X hr hk w (⟨by unfold an_fig; rw [if_pos (by omega), if_pos (by omega), if_neg (by omega), Nat.add_sub_cancel], by unfold nx_fig; rw [if_pos (by omega), show (nI k1).toInt.toNat = k1 by omega, show (nI k2).toInt.toNat = k2 by omega, show (nI k3).toInt.toNat = k3 by omega, ez_69]; exact rSc_fr (is := [16]) (ks := []) (rFr_I _ (by decide)) (by decide) (by decide) (by decide) (by decide) (by decide) (by decide) hr_64.1, by unfold nu_fig; rw [if_pos (by omega)]; exact ⟨by first | (rw [ez_69]; done) | (rw [ez_69]; rfl), by omega, fun j hj => absurd hj (Nat.not_lt_zero j)⟩, by rw [ez_69]; exact rFr_tr fz_64 (rFr_I _ (by decide))⟩) dX8_fighter_78
          · skip
            refine lv_bipush (v := (iZ (-3))) hx hb dX8_fighter_56 (by decide) ?_
            exact re_i X hr hk w (⟨by unfold an_fig; rw [if_pos (by omega), if_pos (by omega), if_pos (by omega)], by unfold nx_fig; rw [if_neg (by omega)]; exact hz, by unfold nu_fig; rw [if_neg (by omega)]; exact hps, rFr_rf _ _ _⟩) dX8_fighter_58
        · skip
          refine lv_bipush (v := (iZ (-2))) hx hb dX8_fighter_45 (by decide) ?_
          exact re_i X hr hk w (⟨by unfold an_fig; rw [if_pos (by omega), if_neg (by omega)], by unfold nx_fig; rw [if_neg (by omega)]; exact hz, by unfold nu_fig; rw [if_neg (by omega)]; exact hps, rFr_rf _ _ _⟩) dX8_fighter_47
      · skip
        refine lv_iconst (v := (iZ (-1))) hx hb dX8_fighter_36 (by decide) ?_
        exact re_i X hr hk w (⟨by unfold an_fig; rw [if_neg (by omega)], by unfold nx_fig; rw [if_neg (by omega)]; exact hz, by unfold nu_fig; rw [if_neg (by omega)]; exact hps, rFr_rf _ _ _⟩) dX8_fighter_37

theorem ok_type : rOk yX8_type cX8_type 2 (some .int) 1 := ⟨wc_X8_type, wi_X8_type, ws_X8_type, rfl, by decide, by decide, by decide +kernel⟩
set_option maxHeartbeats 4000000 in
set_option maxRecDepth 100000 in
theorem k_type (l : Launch) (g : RG) (z : RS) (x : Int32) (n9 : Nat) (T : Nat → Nat) (htp : rTp z n9 T) : rMi g l yX8_type cX8_type 2 (some .int) 1 25 [.int x] z (fun r z' => r = an_type n9 x ∧ rTp z' (nn_type n9 x) (nt_type n9 T x) ∧ rFr [8] [7] z z') := by
  refine rMi_in (by decide) rfl (Nat.le_of_ble_eq_true rfl) ?_
  intro p e s m args below meth c A ls X hml hr hk hl w
  have hx := X.1
  have hb := X.2.1
  have hts := X.2.2.1
  have hown := X.2.2.2.1
  have hl : lv_has ls 2 [(0, .ref g.2.2.2.1), (1, .int x)] := hl
  have hn9 := htp.2.1
  refine lv_iload_n hx hb dX8_type_0 rfl (lv_at hl 1 rfl) ?_
  refine lv_i2l (v := x.toInt64) hx hb dX8_type_1 rfl ?_
  refine lv_ldc2 hx hb hown (hts _ wk_X8_136) dX8_type_2 ?_
  refine lv_ldc2 hx hb hown (hts _ wk_X8_138) dX8_type_5 ?_
  refine rc_s (rest := []) ⟨X.1, X.2.1, X.2.2.1, X.2.2.2.1⟩ hml hl.1 (k_in l x.toInt64 32 126) ok_in wm_X8_69 ⟨Nat.le_of_ble_eq_true rfl, Nat.le_of_ble_eq_true rfl⟩ ⟨Nat.le_refl _, Nat.le_refl _⟩ rfl (Nat.le_of_ble_eq_true rfl) dX8_type_8 (fun r_8 hr_8 => ?_)
  have h9 : r_8 = nI (pc_inI x.toInt (32) (126)) := by rw [hr_8]; exact congrArg nI (pc_in_I (in_toI _) (by decide) (by decide))
  subst h9
  have i_8 := pc_inI_ok x.toInt (32) (126)
  refine n_if_ne (tgt := 16) hx hb dX8_type_11 (by decide) (by omega) (fun c_11_1 => ?_) (fun c_11_1 => ?_)
  · skip
    refine lv_aload_n hx hb dX8_type_16 rfl (lv_at hl 0 rfl) ?_
    refine rg_8 X w.1 dX8_type_17 ?_
    refine tp_i (show z.1 8 = (nI n9) from htp.1) ?_
    refine lv_bipush (v := (nI 100)) hx hb dX8_type_20 (by decide) ?_
    refine n_icmp_ne (tgt := 28) hx hb dX8_type_22 (by decide) (by omega) (by omega) (fun c_22_2 => ?_) (fun c_22_2 => ?_)
    · skip
      obtain ⟨k, hq_k, rfl⟩ := iv_n (x := x) (by omega)
      refine lv_aload_n hx hb dX8_type_28 rfl (lv_at hl 0 rfl) ?_
      refine rg_7 X w.1 dX8_type_29 ?_
      refine lv_aload_n hx hb dX8_type_32 rfl (lv_at hl 0 rfl) ?_
      refine rg_8 X w.1 dX8_type_33 ?_
      refine tp_i (show z.1 8 = (nI n9) from htp.1) ?_
      refine lv_iload_n hx hb dX8_type_36 rfl (lv_at hl 1 rfl) ?_
      refine ru_7 X w (by omega) dX8_type_37 (fun z_37 H locs ez_37 w => ?_)
      refine lv_aload_n hx hb dX8_type_38 rfl (lv_at hl 0 rfl) ?_
      refine lv_dup hx hb dX8_type_39 rfl ?_
      refine rg_8 X w.1 dX8_type_40 ?_
      refine tp_i (show z_37.1 8 = (nI n9) from by rw [ez_37]; exact htp.1) ?_
      refine lv_iconst (v := (nI 1)) hx hb dX8_type_43 (by decide) ?_
      refine n_iadd hx hb dX8_type_44 ?_
      refine rp_8 X w dX8_type_45 (fun z_45 H locs ez_45 w => ?_)
      refine lv_aload_n hx hb dX8_type_48 rfl (lv_at hl 0 rfl) ?_
      refine rg_8 X w.1 dX8_type_49 ?_
      refine tp_i (show z_45.1 8 = (nI (n9 + 1)) from by first | (rw [ez_45]; done) | (rw [ez_45]; rfl)) ?_
      exact re_i X hr hk w (⟨by unfold an_type; rw [if_pos (by omega), if_neg (by omega)], by unfold nn_type nt_type; rw [if_pos (by omega), if_pos (by omega), show (nI k).toInt.toNat = k by omega, ez_45, ez_37]; exact rw_tp htp (by omega) (by omega), by rw [ez_45, ez_37]; exact rFr_tr (rFr_A _ (by decide)) (rFr_I _ (by decide))⟩) dX8_type_52
    · skip
      refine lv_bipush (v := (iZ (-3))) hx hb dX8_type_25 (by decide) ?_
      exact re_i X hr hk w (⟨by unfold an_type; rw [if_pos (by omega), if_pos (by omega)], by unfold nn_type nt_type; rw [if_neg (by omega), if_neg (by omega)]; exact htp, rFr_rf _ _ _⟩) dX8_type_27
  · skip
    refine lv_iconst (v := (iZ (-1))) hx hb dX8_type_14 (by decide) ?_
    exact re_i X hr hk w (⟨by unfold an_type; rw [if_neg (by omega)], by unfold nn_type nt_type; rw [if_neg (by omega), if_neg (by omega)]; exact htp, rFr_rf _ _ _⟩) dX8_type_15
end
section
/-! the sheets -/
section Len
variable {p : Program} {l : Launch} {e : Env} {R : Room} {s : State} {m : MethodId} {args : Array Value} {below : List Frame} {meth : Method} {c : Code} {H : Heap} {locs : List Loc} {cells slots : Nat} {Q : State → Prop}
variable {cc : ByteArray} {pc : Nat} {ls : Array Slot} {rest : List Value} {g : RG} {A : Nat → Prop} {z : RS}
theorem rl_2 (X : rX g A p c cc s args m) (w : rP g z H) (hdg : decode cc pc = .ok (.arraylength, 1)) (kk : W p l e R s m args below meth c H locs cells slots Q (F0 m (pc + 1) ls (.int (nI 40) :: rest))) : W p l e R s m args below meth c H locs cells slots Q (F0 m pc ls (.ref (g.2.2.2.2 2) :: rest)) :=
  va_alen X.1 X.2.1 X.2.2.2.2.1 w 1 0 rfl rfl (v := nI 40) rfl hdg kk
theorem rl_3 (X : rX g A p c cc s args m) (w : rP g z H) (hdg : decode cc pc = .ok (.arraylength, 1)) (kk : W p l e R s m args below meth c H locs cells slots Q (F0 m (pc + 1) ls (.int (nI 15) :: rest))) : W p l e R s m args below meth c H locs cells slots Q (F0 m pc ls (.ref (g.2.2.2.2 3) :: rest)) :=
  va_alen X.1 X.2.1 X.2.2.2.2.1 w 2 0 rfl rfl (v := nI 15) rfl hdg kk
theorem rl_5 (X : rX g A p c cc s args m) (w : rP g z H) (hdg : decode cc pc = .ok (.arraylength, 1)) (kk : W p l e R s m args below meth c H locs cells slots Q (F0 m (pc + 1) ls (.int (nI 13) :: rest))) : W p l e R s m args below meth c H locs cells slots Q (F0 m pc ls (.ref (g.2.2.2.2 5) :: rest)) :=
  va_alen X.1 X.2.1 X.2.2.2.2.1 w 3 0 rfl rfl (v := nI 13) rfl hdg kk
theorem rl_7 (X : rX g A p c cc s args m) (w : rP g z H) (hdg : decode cc pc = .ok (.arraylength, 1)) (kk : W p l e R s m args below meth c H locs cells slots Q (F0 m (pc + 1) ls (.int (nI 100) :: rest))) : W p l e R s m args below meth c H locs cells slots Q (F0 m pc ls (.ref (g.2.2.2.2 7) :: rest)) :=
  va_alen X.1 X.2.1 X.2.2.2.2.1 w 4 0 rfl rfl (v := nI 100) rfl hdg kk
theorem rl_13 (X : rX g A p c cc s args m) (w : rP g z H) (hdg : decode cc pc = .ok (.arraylength, 1)) (kk : W p l e R s m args below meth c H locs cells slots Q (F0 m (pc + 1) ls (.int (nI 40) :: rest))) : W p l e R s m args below meth c H locs cells slots Q (F0 m pc ls (.ref (g.2.2.2.2 13) :: rest)) :=
  va_alen X.1 X.2.1 X.2.2.2.2.1 w 5 0 rfl rfl (v := nI 40) rfl hdg kk
theorem rl_14 (X : rX g A p c cc s args m) (w : rP g z H) (hdg : decode cc pc = .ok (.arraylength, 1)) (kk : W p l e R s m args below meth c H locs cells slots Q (F0 m (pc + 1) ls (.int (nI 20) :: rest))) : W p l e R s m args below meth c H locs cells slots Q (F0 m pc ls (.ref (g.2.2.2.2 14) :: rest)) :=
  va_alen X.1 X.2.1 X.2.2.2.2.1 w 6 0 rfl rfl (v := nI 20) rfl hdg kk
theorem rl_15 (X : rX g A p c cc s args m) (w : rP g z H) (hdg : decode cc pc = .ok (.arraylength, 1)) (kk : W p l e R s m args below meth c H locs cells slots Q (F0 m (pc + 1) ls (.int (nI 104) :: rest))) : W p l e R s m args below meth c H locs cells slots Q (F0 m pc ls (.ref (g.2.2.2.2 15) :: rest)) :=
  va_alen X.1 X.2.1 X.2.2.2.2.1 w 7 0 rfl rfl (v := nI 104) rfl hdg kk
theorem rl_17 (X : rX g A p c cc s args m) (w : rP g z H) (hdg : decode cc pc = .ok (.arraylength, 1)) (kk : W p l e R s m args below meth c H locs cells slots Q (F0 m (pc + 1) ls (.int (nI 13) :: rest))) : W p l e R s m args below meth c H locs cells slots Q (F0 m pc ls (.ref (g.2.2.2.2 17) :: rest)) :=
  va_alen X.1 X.2.1 X.2.2.2.2.1 w 8 0 rfl rfl (v := nI 13) rfl hdg kk
theorem rl_18 (X : rX g A p c cc s args m) (w : rP g z H) (hdg : decode cc pc = .ok (.arraylength, 1)) (kk : W p l e R s m args below meth c H locs cells slots Q (F0 m (pc + 1) ls (.int (nI 4) :: rest))) : W p l e R s m args below meth c H locs cells slots Q (F0 m pc ls (.ref (g.2.2.2.2 18) :: rest)) :=
  va_alen X.1 X.2.1 X.2.2.2.2.1 w 9 0 rfl rfl (v := nI 4) rfl hdg kk
theorem rl_19 (X : rX g A p c cc s args m) (w : rP g z H) (hdg : decode cc pc = .ok (.arraylength, 1)) (kk : W p l e R s m args below meth c H locs cells slots Q (F0 m (pc + 1) ls (.int (nI 180) :: rest))) : W p l e R s m args below meth c H locs cells slots Q (F0 m pc ls (.ref (g.2.2.2.2 19) :: rest)) :=
  va_alen X.1 X.2.1 X.2.2.2.2.1 w 10 0 rfl rfl (v := nI 180) rfl hdg kk
theorem rl_20 (X : rX g A p c cc s args m) (w : rP g z H) (hdg : decode cc pc = .ok (.arraylength, 1)) (kk : W p l e R s m args below meth c H locs cells slots Q (F0 m (pc + 1) ls (.int (nI 180) :: rest))) : W p l e R s m args below meth c H locs cells slots Q (F0 m pc ls (.ref (g.2.2.2.2 20) :: rest)) :=
  va_alen X.1 X.2.1 X.2.2.2.2.1 w 11 0 rfl rfl (v := nI 180) rfl hdg kk
theorem rl_21 (X : rX g A p c cc s args m) (w : rP g z H) (hdg : decode cc pc = .ok (.arraylength, 1)) (kk : W p l e R s m args below meth c H locs cells slots Q (F0 m (pc + 1) ls (.int (nI 61) :: rest))) : W p l e R s m args below meth c H locs cells slots Q (F0 m pc ls (.ref (g.2.2.2.2 21) :: rest)) :=
  va_alen X.1 X.2.1 X.2.2.2.2.1 w 12 0 rfl rfl (v := nI 61) rfl hdg kk
theorem rl_24 (X : rX g A p c cc s args m) (w : rP g z H) (hdg : decode cc pc = .ok (.arraylength, 1)) (kk : W p l e R s m args below meth c H locs cells slots Q (F0 m (pc + 1) ls (.int (nI 177) :: rest))) : W p l e R s m args below meth c H locs cells slots Q (F0 m pc ls (.ref (g.2.2.2.2 24) :: rest)) :=
  va_alen X.1 X.2.1 X.2.2.2.2.1 w 13 0 rfl rfl (v := nI 177) rfl hdg kk
theorem rl_26 (X : rX g A p c cc s args m) (w : rP g z H) (hdg : decode cc pc = .ok (.arraylength, 1)) (kk : W p l e R s m args below meth c H locs cells slots Q (F0 m (pc + 1) ls (.int (nI 4) :: rest))) : W p l e R s m args below meth c H locs cells slots Q (F0 m pc ls (.ref (g.2.2.2.2 26) :: rest)) :=
  va_alen X.1 X.2.1 X.2.2.2.2.1 w 14 0 rfl rfl (v := nI 4) rfl hdg kk
theorem rl_27 (X : rX g A p c cc s args m) (w : rP g z H) (hdg : decode cc pc = .ok (.arraylength, 1)) (kk : W p l e R s m args below meth c H locs cells slots Q (F0 m (pc + 1) ls (.int (nI 4) :: rest))) : W p l e R s m args below meth c H locs cells slots Q (F0 m pc ls (.ref (g.2.2.2.2 27) :: rest)) :=
  va_alen X.1 X.2.1 X.2.2.2.2.1 w 15 0 rfl rfl (v := nI 4) rfl hdg kk
end Len
def rFx (is ks js : List Nat) (z z' : RS) : Prop := (∀ i, i ∉ is → z'.1 i = z.1 i) ∧ (∀ k, k ∉ ks → z'.2.1 k = z.2.1 k) ∧ ∀ j, j ∉ js → z'.2.2 j = z.2.2 j
theorem rFx_rf (is ks js : List Nat) (z : RS) : rFx is ks js z z := ⟨fun _ _ => rfl, fun _ _ => rfl, fun _ _ => rfl⟩
theorem rFx_tr {is ks js : List Nat} {z z1 z2 : RS} (h : rFx is ks js z z1) (h2 : rFx is ks js z1 z2) : rFx is ks js z z2 := ⟨fun i q => (h2.1 i q).trans (h.1 i q), fun k q => (h2.2.1 k q).trans (h.2.1 k q), fun k q => (h2.2.2 k q).trans (h.2.2 k q)⟩
theorem rFx_A {is ks js : List Nat} (z : RS) {k i : Nat} {v : Int32} (hk : k ∈ ks) : rFx is ks js z (sA z k i v) := ⟨fun _ _ => rfl, fun j q => va_up_ne _ _ (fun e => q (e ▸ hk)), fun _ _ => rfl⟩
theorem rFx_L {is ks js : List Nat} (z : RS) {k i : Nat} {v : Int64} (hk : k ∈ js) : rFx is ks js z (sL z k i v) := ⟨fun _ _ => rfl, fun _ _ => rfl, fun j q => va_up_ne _ _ (fun e => q (e ▸ hk))⟩
/-- sheet t: its LANE and one more (0: none), its size, its items -/
def rSh (z : RS) (L N9 : Nat → Nat) (I9 : Nat → Nat → Int64) : Prop := ∀ t, t < 4 → z.2.1 26 t = iZ (((L t : Nat) : Int) - (1 : Int)) ∧ z.2.1 27 t = nI (N9 t) ∧ L t ≤ 4 ∧ N9 t ≤ 24 ∧ ∀ i, i < 24 → z.2.2 28 (24 * t + i) = I9 t i
def pw_why (L N9 : Nat → Nat) (t la : Nat) (i : Int) (n : Nat) : Int := if L t = 0 then -11 else (if ((L t : Nat) : Int) - 1 = la then (if i < 0 then -13 else (if (N9 t : Int) < i + n then -13 else 0)) else -12)
def pw_low (L : Nat) (v : Int64) : Int64 := if ((L : Nat) : Int) - (1 : Int) = 0 then ((v.toInt32).toInt8.toInt32).toInt64 else (if ((L : Nat) : Int) - (1 : Int) = 1 then ((v.toInt32).toInt16.toInt32).toInt64 else (if ((L : Nat) : Int) - (1 : Int) = 2 then (v.toInt32).toInt64 else v))
theorem rw_ln {z : RS} {L N9 : Nat → Nat} {I9 : Nat → Nat → Int64} (h : rSh z L N9 I9) {t v : Nat} (ht : t < 4) (hv : v ≤ 4) {x : Int32} (hx : x = iZ (((v : Nat) : Int) - (1 : Int))) : rSh (sA z 26 t x) (va_up L t v) N9 I9 := by
  intro q hq
  obtain ⟨h1, h2, h3, h4, h5⟩ := h q hq
  refine ⟨?_, h2, ?_, h4, h5⟩
  · show upd (z.2.1 26) t x q = _
    by_cases e : q = t
    · subst e
      rw [pk_us, va_up_self, hx]
    · rw [pk_un e, va_up_ne _ _ e]; exact h1
  · by_cases e : q = t
    · subst e
      rw [va_up_self]; exact hv
    · rw [va_up_ne _ _ e]; exact h3
theorem rw_sz {z : RS} {L N9 : Nat → Nat} {I9 : Nat → Nat → Int64} (h : rSh z L N9 I9) {t v : Nat} (ht : t < 4) (hv : v ≤ 24) : rSh (sA z 27 t (nI v)) L (va_up N9 t v) I9 := by
  intro q hq
  obtain ⟨h1, h2, h3, h4, h5⟩ := h q hq
  refine ⟨h1, ?_, h3, ?_, h5⟩
  · show upd (z.2.1 27) t (nI v) q = _
    by_cases e : q = t
    · subst e
      rw [pk_us, va_up_self]
    · rw [pk_un e, va_up_ne _ _ e]; exact h2
  · by_cases e : q = t
    · subst e
      rw [va_up_self]; exact hv
    · rw [va_up_ne _ _ e]; exact h4
theorem rw_it {z : RS} {L N9 : Nat → Nat} {I9 : Nat → Nat → Int64} (h : rSh z L N9 I9) {t i : Nat} (ht : t < 4) (hi : i < 24) (v : Int64) : rSh (sL z 28 (24 * t + i) v) L N9 (va_up I9 t (va_up (I9 t) i v)) := by
  intro q hq
  obtain ⟨h1, h2, h3, h4, h5⟩ := h q hq
  refine ⟨h1, h2, h3, h4, fun j hj => ?_⟩
  show vp_updL (z.2.2 28) (24 * t + i) v (24 * q + j) = _
  by_cases e : q = t
  · subst e
    rw [va_up_self]
    by_cases e2 : j = i
    · subst e2
      rw [pk_uLs, va_up_self]
    · rw [pk_uLn (by omega), va_up_ne _ _ e2]; exact h5 j hj
  · rw [pk_uLn (by omega), va_up_ne _ _ e]; exact h5 j hj
def an_sheet (t la n : Int32) : Int32 := if ((0 ≤ t.toInt ∧ t.toInt ≤ 3) ∧ 0 ≤ la.toInt ∧ la.toInt ≤ 3) ∧ n.toInt ≤ 24 then (if n.toInt < 0 then iZ (-14) else n) else iZ (-1)
def od_sheet (t la n : Int32) : Prop := ((0 ≤ t.toInt ∧ t.toInt ≤ 3) ∧ 0 ≤ la.toInt ∧ la.toInt ≤ 3) ∧ n.toInt ≤ 24 ∧ 0 ≤ n.toInt
def an_drop (L N9 : Nat → Nat) (t : Int32) : Int32 := if 0 ≤ t.toInt ∧ t.toInt ≤ 3 then (if L t.toInt.toNat = 0 then iZ (-11) else nI (N9 t.toInt.toNat)) else iZ (-1)
def nl_drop (L : Nat → Nat) (t : Int32) : Nat → Nat := if 0 ≤ t.toInt ∧ t.toInt ≤ 3 then va_up L t.toInt.toNat 0 else L
def an_item (L N9 : Nat → Nat) (t la i : Int32) : Int32 := if (0 ≤ t.toInt ∧ t.toInt ≤ 3) ∧ 0 ≤ la.toInt ∧ la.toInt ≤ 3 then (if pw_why L N9 t.toInt.toNat la.toInt.toNat i.toInt 1 < 0 then iZ (pw_why L N9 t.toInt.toNat la.toInt.toNat i.toInt 1) else nI 1) else iZ (-1)
def ni_item (L N9 : Nat → Nat) (I9 : Nat → Nat → Int64) (t la i : Int32) (v : Int64) : Nat → Nat → Int64 := if ((0 ≤ t.toInt ∧ t.toInt ≤ 3) ∧ 0 ≤ la.toInt ∧ la.toInt ≤ 3) ∧ ¬ pw_why L N9 t.toInt.toNat la.toInt.toNat i.toInt 1 < 0 then va_up I9 t.toInt.toNat (va_up (I9 t.toInt.toNat) i.toInt.toNat (pw_low (L t.toInt.toNat) v)) else I9
theorem pw_why_ok (L N9 : Nat → Nat) (t la : Nat) (i : Int) (n : Nat) : (pw_why L N9 t la i n = -11 ∧ L t = 0) ∨ (pw_why L N9 t la i n = -12 ∧ ¬ L t = 0 ∧ ¬ ((L t : Nat) : Int) - 1 = la) ∨ (pw_why L N9 t la i n = -13 ∧ ¬ L t = 0 ∧ ((L t : Nat) : Int) - 1 = la ∧ (i < 0 ∨ (N9 t : Int) < i + n)) ∨ (pw_why L N9 t la i n = 0 ∧ ¬ L t = 0 ∧ ((L t : Nat) : Int) - 1 = la ∧ 0 ≤ i ∧ i + n ≤ (N9 t : Int)) := by
  unfold pw_why
  split
  · next h => exact Or.inl ⟨rfl, h⟩
  · next h =>
    split
    · next h2 =>
      split
      · next h3 => exact Or.inr (Or.inr (Or.inl ⟨rfl, h, h2, Or.inl h3⟩))
      · next h3 =>
        split
        · next h4 => exact Or.inr (Or.inr (Or.inl ⟨rfl, h, h2, Or.inr h4⟩))
        · next h4 => exact Or.inr (Or.inr (Or.inr ⟨rfl, h, h2, by omega, by omega⟩))
    · next h2 => exact Or.inr (Or.inl ⟨rfl, h, h2⟩)
theorem i_lt0 {x : Int32} : x < 0 ↔ x.toInt < 0 := by
  rw [Int32.lt_iff_toInt_lt]
  rfl
theorem add_l (x : Int32) {n : Nat} (h : n < 2147483648) : (x.toInt64 + (nI n).toInt64).toInt = x.toInt + n := by
  have h1 := x.toInt_lt
  have h2 := x.le_toInt
  rw [Int64.toInt_add, in_toI, in_toN h]
  simp only [Int.bmod]
  omega
theorem cmp_l {x : Int32} {n k : Nat} (h : n < 2147483648) (hk : k < 2147483648) : (lg_cmp (x.toInt64 + (nI n).toInt64) (nI k).toInt64 ≤ 0) ↔ x.toInt + n ≤ k := by
  rw [lg_cmp_le, Int64.le_iff_toInt_le, add_l x h, in_toN hk]
theorem sh_of {z : RS} {L N9 L' N' : Nat → Nat} {I9 I' : Nat → Nat → Int64} (h : rSh z L N9 I9) (h1 : ∀ t, t < 4 → L' t = L t) (h2 : ∀ t, t < 4 → N' t = N9 t) (h3 : ∀ t i, t < 4 → i < 24 → I' t i = I9 t i) : rSh z L' N' I' := by
  intro t ht
  rw [h1 t ht, h2 t ht]
  obtain ⟨a1, a2, a3, a4, a5⟩ := h t ht
  exact ⟨a1, a2, a3, a4, fun i hi => (a5 i hi).trans (h3 t i ht hi).symm⟩
theorem sh_0 {z : RS} {L N9 : Nat → Nat} {I9 : Nat → Nat → Int64} {k : Nat} (h : rSh z L N9 I9) : rSh z L N9 (va_up I9 k (fun j => if j < 0 then 0 else I9 k j)) :=
  sh_of h (fun _ _ => rfl) (fun _ _ => rfl) (fun t i _ _ => by
    by_cases e : t = k
    · subst e
      rw [va_up_self, if_neg (by omega)]
    · rw [va_up_ne _ _ e])
theorem sh_s {z : RS} {L N9 : Nat → Nat} {I9 : Nat → Nat → Int64} {k i : Nat} (h : rSh z L N9 (va_up I9 k (fun j => if j < i then 0 else I9 k j))) (hk : k < 4) (hi : i < 24) : rSh (sL z 28 (24 * k + i) 0) L N9 (va_up I9 k (fun j => if j < i + 1 then 0 else I9 k j)) :=
  sh_of (rw_it h hk hi 0) (fun _ _ => rfl) (fun _ _ => rfl) (fun t j _ _ => by
    by_cases e : t = k
    · subst e
      rw [va_up_self, va_up_self, va_up_self]
      by_cases e2 : j = i
      · subst e2
        rw [va_up_self, if_pos (by omega)]
      · rw [va_up_ne _ _ e2]
        by_cases e3 : j < i
        · rw [if_pos e3, if_pos (by omega)]
        · rw [if_neg e3, if_neg (by omega)]
    · rw [va_up_ne _ _ e, va_up_ne _ _ e, va_up_ne _ _ e])
theorem sh_e {z : RS} {L N9 : Nat → Nat} {I9 : Nat → Nat → Int64} {k i : Nat} (h : rSh z L N9 (va_up I9 k (fun j => if j < i then 0 else I9 k j))) (hi : 24 ≤ i) : rSh z L N9 (va_up I9 k (fun _ => 0)) :=
  sh_of h (fun _ _ => rfl) (fun _ _ => rfl) (fun t j _ _ => by
    by_cases e : t = k
    · subst e
      rw [va_up_self, va_up_self, if_pos (by omega)]
    · rw [va_up_ne _ _ e, va_up_ne _ _ e])
theorem sh_id {z : RS} {L N9 : Nat → Nat} {I9 : Nat → Nat → Int64} {k : Nat} (h : rSh z L N9 I9) (hk : L k = 0) : rSh z (va_up L k 0) N9 I9 :=
  sh_of h (fun t _ => by
    by_cases e : t = k
    · subst e
      rw [va_up_self, hk]
    · rw [va_up_ne _ _ e]) (fun _ _ => rfl) (fun _ _ _ _ => rfl)
end
section
theorem ok_isSheet : rOkS yX8_isSheet cX8_isSheet 1 (some .boolean) 1 := ⟨wc_X8_isSheet, wt_X8_isSheet, rfl, by decide, by decide, by decide +kernel⟩
set_option maxHeartbeats 4000000 in
set_option maxRecDepth 100000 in
theorem k_isSheet (l : Launch) (x : Int32)  : rMs l yX8_isSheet cX8_isSheet 1 (some .boolean) 1 25 [.int x] (fun r => r = nI (pc_inI x.toInt 0 3)) := by
  refine rMs_in (by decide) rfl (Nat.le_of_ble_eq_true rfl) ?_
  intro p e s m args below meth c ls X hml hr hk hl
  have hx := X.1
  have hb := X.2.1
  have hts := X.2.2.1
  have hown := X.2.2.2
  have hl : lv_has ls 1 [(0, .int x)] := hl
  refine lv_iload_n hx hb dX8_isSheet_0 rfl (lv_at hl 0 rfl) ?_
  refine lv_i2l (v := x.toInt64) hx hb dX8_isSheet_1 rfl ?_
  refine lv_lconst (v := 0) hx hb dX8_isSheet_2 (by decide) ?_
  refine lv_ldc2 hx hb hown (hts _ wk_X8_74) dX8_isSheet_3 ?_
  refine rc_s (rest := []) X hml hl.1 (k_in l x.toInt64 0 3) ok_in wm_X8_69 ⟨Nat.le_of_ble_eq_true rfl, Nat.le_of_ble_eq_true rfl⟩ ⟨Nat.le_refl _, Nat.le_refl _⟩ rfl (Nat.le_of_ble_eq_true rfl) dX8_isSheet_6 (fun r_6 hr_6 => ?_)
  have h9 : r_6 = nI (pc_inI x.toInt (0) (3)) := by rw [hr_6]; exact congrArg nI (pc_in_I (in_toI _) (by decide) (by decide))
  subst h9
  have i_6 := pc_inI_ok x.toInt (0) (3)
  exact re_pz hx hb hr hk (by rcases i_6 with q | q <;> rw [q.1]; exact Or.inr rfl; exact Or.inl rfl) (rfl) dX8_isSheet_9

theorem ok_isLane : rOkS yX8_isLane cX8_isLane 1 (some .boolean) 1 := ⟨wc_X8_isLane, wt_X8_isLane, rfl, by decide, by decide, by decide +kernel⟩
set_option maxHeartbeats 4000000 in
set_option maxRecDepth 100000 in
theorem k_isLane (l : Launch) (x : Int32)  : rMs l yX8_isLane cX8_isLane 1 (some .boolean) 1 25 [.int x] (fun r => r = nI (pc_inI x.toInt 0 3)) := by
  refine rMs_in (by decide) rfl (Nat.le_of_ble_eq_true rfl) ?_
  intro p e s m args below meth c ls X hml hr hk hl
  have hx := X.1
  have hb := X.2.1
  have hts := X.2.2.1
  have hown := X.2.2.2
  have hl : lv_has ls 1 [(0, .int x)] := hl
  refine lv_iload_n hx hb dX8_isLane_0 rfl (lv_at hl 0 rfl) ?_
  refine lv_i2l (v := x.toInt64) hx hb dX8_isLane_1 rfl ?_
  refine lv_lconst (v := 0) hx hb dX8_isLane_2 (by decide) ?_
  refine lv_ldc2 hx hb hown (hts _ wk_X8_74) dX8_isLane_3 ?_
  refine rc_s (rest := []) X hml hl.1 (k_in l x.toInt64 0 3) ok_in wm_X8_69 ⟨Nat.le_of_ble_eq_true rfl, Nat.le_of_ble_eq_true rfl⟩ ⟨Nat.le_refl _, Nat.le_refl _⟩ rfl (Nat.le_of_ble_eq_true rfl) dX8_isLane_6 (fun r_6 hr_6 => ?_)
  have h9 : r_6 = nI (pc_inI x.toInt (0) (3)) := by rw [hr_6]; exact congrArg nI (pc_in_I (in_toI _) (by decide) (by decide))
  subst h9
  have i_6 := pc_inI_ok x.toInt (0) (3)
  exact re_pz hx hb hr hk (by rcases i_6 with q | q <;> rw [q.1]; exact Or.inr rfl; exact Or.inl rfl) (rfl) dX8_isLane_9

theorem ok_why : rOk yX8_why cX8_why 5 (some .int) 4 := ⟨wc_X8_why, wi_X8_why, ws_X8_why, rfl, by decide, by decide, by decide +kernel⟩
set_option maxHeartbeats 4000000 in
set_option maxRecDepth 100000 in
theorem k_why (l : Launch) (g : RG) (z : RS) (ta9 : Nat) (la : Nat) (ia9 : Int32) (na9 : Nat) (L N9 : Nat → Nat) (I9 : Nat → Nat → Int64) (hsh : rSh z L N9 I9) (ht : ta9 < 4) (hla : la < 4) (hn : na9 < 2147483648) : rMp g l yX8_why cX8_why 5 (some .int) 0 0 [.int (nI ta9), .int (nI la), .int ia9, .int (nI na9)] z (fun r => r = iZ (pw_why L N9 ta9 la ia9.toInt na9)) := by
  refine rMp_in (by decide) rfl (Nat.le_of_ble_eq_true rfl) ?_
  intro p e s m args below meth c ls X hml hr hk hl w
  have hx := X.1
  have hb := X.2.1
  have hts := X.2.2.1
  have hown := X.2.2.2.1
  have hl : lv_has ls 5 [(0, .ref g.2.2.2.1), (1, .int (nI ta9)), (2, .int (nI la)), (3, .int ia9), (4, .int (nI na9))] := hl
  have q1 := (hsh ta9 ht).2.2.1
  have q2 := (hsh ta9 ht).2.2.2.1
  refine lv_aload_n hx hb dX8_why_0 rfl (lv_at hl 0 rfl) ?_
  refine rg_26 X w dX8_why_1 ?_
  refine lv_iload_n hx hb dX8_why_4 rfl (lv_at hl 1 rfl) ?_
  refine rn_26 X w (by omega) dX8_why_5 ?_
  refine tp_i (show z.2.1 26 ta9 = (iZ (((L ta9 : Nat) : Int) - (1 : Int))) from (hsh ta9 (by omega)).1) ?_
  refine z_if_ge (tgt := 12) hx hb dX8_why_6 (by decide) (by omega) (by omega) (fun c_6_1 => ?_) (fun c_6_1 => ?_)
  · skip
    refine lv_aload_n hx hb dX8_why_12 rfl (lv_at hl 0 rfl) ?_
    refine rg_26 X w dX8_why_13 ?_
    refine lv_iload_n hx hb dX8_why_16 rfl (lv_at hl 1 rfl) ?_
    refine rn_26 X w (by omega) dX8_why_17 ?_
    refine tp_i (show z.2.1 26 ta9 = (iZ (((L ta9 : Nat) : Int) - (1 : Int))) from (hsh ta9 (by omega)).1) ?_
    refine lv_iload_n hx hb dX8_why_18 rfl (lv_at hl 2 rfl) ?_
    refine tp_i (iZ_n la).symm ?_
    refine z_icmp_eq (tgt := 25) hx hb dX8_why_19 (by decide) (by omega) (by omega) (by omega) (by omega) (fun c_19_2 => ?_) (fun c_19_2 => ?_)
    · skip
      refine lv_iload_n hx hb dX8_why_25 rfl (lv_at hl 3 rfl) ?_
      refine lv_if_lt (tgt := 46) hx hb dX8_why_26 (by decide) (fun c_26_3 => ?_) (fun c_26_3 => ?_)
      · skip
        refine lv_bipush (v := (iZ (-13))) hx hb dX8_why_46 (by decide) ?_
        refine lv_goto (tgt := 52) hx hb dX8_why_48 (by decide) ?_
        exact re_p hx hb hr hk (by unfold pw_why; rw [if_neg (by omega), if_pos (by omega), if_pos (i_lt0.mp c_26_3)] <;> rfl) dX8_why_52
      · skip
        refine lv_iload_n hx hb dX8_why_29 rfl (lv_at hl 3 rfl) ?_
        refine lv_i2l (v := ia9.toInt64) hx hb dX8_why_30 rfl ?_
        refine lv_iload hx hb dX8_why_31 (lv_at hl 4 rfl) ?_
        refine lv_i2l (v := (nI na9).toInt64) hx hb dX8_why_33 rfl ?_
        refine lv_ladd hx hb dX8_why_34 ?_
        refine lv_aload_n hx hb dX8_why_35 rfl (lv_at hl 0 rfl) ?_
        refine rg_27 X w dX8_why_36 ?_
        refine lv_iload_n hx hb dX8_why_39 rfl (lv_at hl 1 rfl) ?_
        refine rn_27 X w (by omega) dX8_why_40 ?_
        refine tp_i (show z.2.1 27 ta9 = (nI (N9 ta9)) from (hsh ta9 (by omega)).2.1) ?_
        refine lv_i2l (v := (nI (N9 ta9)).toInt64) hx hb dX8_why_41 rfl ?_
        refine W.lcmp hx hb dX8_why_42 ?_
        refine lv_if_le (tgt := 51) hx hb dX8_why_43 (by decide) (fun c_43_4 => ?_) (fun c_43_4 => ?_)
        · skip
          refine lv_iconst (v := (nI 0)) hx hb dX8_why_51 (by decide) ?_
          exact re_p hx hb hr hk (by have q3 := mt i_lt0.mpr c_26_3; have q4 := c_43_4; rw [cmp_l hn (by omega)] at q4; unfold pw_why; rw [if_neg (by omega), if_pos (by omega), if_neg (by omega), if_neg (by omega)] <;> rfl) dX8_why_52
        · skip
          refine lv_bipush (v := (iZ (-13))) hx hb dX8_why_46 (by decide) ?_
          refine lv_goto (tgt := 52) hx hb dX8_why_48 (by decide) ?_
          exact re_p hx hb hr hk (by have q3 := mt i_lt0.mpr c_26_3; have q4 := c_43_4; rw [cmp_l hn (by omega)] at q4; unfold pw_why; rw [if_neg (by omega), if_pos (by omega), if_neg (by omega), if_pos (by omega)] <;> rfl) dX8_why_52
    · skip
      refine lv_bipush (v := (iZ (-12))) hx hb dX8_why_22 (by decide) ?_
      exact re_p hx hb hr hk (by unfold pw_why; rw [if_neg (by omega), if_neg (by omega)] <;> rfl) dX8_why_24
  · skip
    refine lv_bipush (v := (iZ (-11))) hx hb dX8_why_9 (by decide) ?_
    exact re_p hx hb hr hk (by unfold pw_why; rw [if_pos (by omega)] <;> rfl) dX8_why_11

theorem ok_puts : rOk yX8_puts cX8_puts 6 none 3 := ⟨wc_X8_puts, wi_X8_puts, ws_X8_puts, rfl, by decide, by decide, by decide +kernel⟩
set_option maxHeartbeats 4000000 in
set_option maxRecDepth 100000 in
theorem k_puts (l : Launch) (g : RG) (z : RS) (ta9 : Nat) (ia9 : Nat) (va9 : Int64) (L N9 : Nat → Nat) (I9 : Nat → Nat → Int64) (hsh : rSh z L N9 I9) (ht : ta9 < 4) (hi : ia9 < 24) : rMv g l yX8_puts cX8_puts 6 none 0 0 [.int (nI ta9), .int (nI ia9), .long (va9)] z (fun z' => rSh z' L N9 (va_up I9 ta9 (va_up (I9 ta9) ia9 (pw_low (L ta9) va9))) ∧ rFx [] [] [28] z z') := by
  refine rMv_in (by decide) rfl (Nat.le_of_ble_eq_true rfl) ?_
  intro p e s m args below meth c A ls X hml hr hk hl w
  have hx := X.1
  have hb := X.2.1
  have hts := X.2.2.1
  have hown := X.2.2.2.1
  have hl : lv_has ls 6 [(0, .ref g.2.2.2.1), (1, .int (nI ta9)), (2, .int (nI ia9)), (3, .long (va9))] := hl
  have q1 := (hsh ta9 ht).2.2.1
  refine lv_aload_n hx hb dX8_puts_0 rfl (lv_at hl 0 rfl) ?_
  refine rg_26 X w.1 dX8_puts_1 ?_
  refine lv_iload_n hx hb dX8_puts_4 rfl (lv_at hl 1 rfl) ?_
  refine rn_26 X w.1 (by omega) dX8_puts_5 ?_
  refine tp_i (show z.2.1 26 ta9 = (iZ (((L ta9 : Nat) : Int) - (1 : Int))) from (hsh ta9 (by omega)).1) ?_
  refine lv_istore (lv' := [(5, .int (iZ (((L ta9 : Nat) : Int) - (1 : Int)))), (0, .ref g.2.2.2.1), (1, .int (nI ta9)), (2, .int (nI ia9)), (3, .long (va9))]) hx hb dX8_puts_6 hl (by decide) rfl (fun ls hl => ?_)
  refine lv_aload_n hx hb dX8_puts_8 rfl (lv_at hl 1 rfl) ?_
  refine rg_28 X w.1 dX8_puts_9 ?_
  refine lv_bipush (v := (nI 24)) hx hb dX8_puts_12 (by decide) ?_
  refine lv_iload_n hx hb dX8_puts_14 rfl (lv_at hl 2 rfl) ?_
  refine n_imul hx hb dX8_puts_15 ?_
  refine lv_iload_n hx hb dX8_puts_16 rfl (lv_at hl 3 rfl) ?_
  refine n_iadd hx hb dX8_puts_17 ?_
  refine lv_iload hx hb dX8_puts_18 (lv_at hl 0 rfl) ?_
  refine z_if_ne (tgt := 30) hx hb dX8_puts_20 (by decide) (by omega) (by omega) (fun c_20_1 => ?_) (fun c_20_1 => ?_)
  · skip
    refine lv_iload hx hb dX8_puts_30 (lv_at hl 0 rfl) ?_
    refine lv_iconst (v := (nI 1)) hx hb dX8_puts_32 (by decide) ?_
    refine tp_i (show nI 1 = iZ (1 : Int) from by decide) ?_
    refine z_icmp_ne (tgt := 43) hx hb dX8_puts_33 (by decide) (by omega) (by omega) (by omega) (by omega) (fun c_33_2 => ?_) (fun c_33_2 => ?_)
    · skip
      refine lv_iload hx hb dX8_puts_43 (lv_at hl 0 rfl) ?_
      refine lv_iconst (v := (nI 2)) hx hb dX8_puts_45 (by decide) ?_
      refine tp_i (show nI 2 = iZ (2 : Int) from by decide) ?_
      refine z_icmp_ne (tgt := 55) hx hb dX8_puts_46 (by decide) (by omega) (by omega) (by omega) (by omega) (fun c_46_3 => ?_) (fun c_46_3 => ?_)
      · skip
        refine lv_lload_n hx hb dX8_puts_55 rfl (lv_at hl 4 rfl) ?_
        refine ru_28 X w (by omega) dX8_puts_56 (fun z_56 H locs ez_56 w => ?_)
        exact re_v X hr hk w (⟨by rw [ez_56]; unfold pw_low; simp only [if_neg c_20_1, if_neg c_33_2, if_neg c_46_3]; exact rw_it hsh ht hi _, by rw [ez_56]; exact rFx_L _ (by decide)⟩) dX8_puts_57
      · skip
        refine lv_lload_n hx hb dX8_puts_49 rfl (lv_at hl 4 rfl) ?_
        refine lv_l2i (v := (va9).toInt32) hx hb dX8_puts_50 rfl ?_
        refine lv_i2l (v := (va9).toInt32.toInt64) hx hb dX8_puts_51 rfl ?_
        refine lv_goto (tgt := 56) hx hb dX8_puts_52 (by decide) ?_
        refine ru_28 X w (by omega) dX8_puts_56 (fun z_56 H locs ez_56 w => ?_)
        exact re_v X hr hk w (⟨by rw [ez_56]; unfold pw_low; simp only [if_neg c_20_1, if_neg c_33_2, if_pos c_46_3]; exact rw_it hsh ht hi _, by rw [ez_56]; exact rFx_L _ (by decide)⟩) dX8_puts_57
    · skip
      refine lv_lload_n hx hb dX8_puts_36 rfl (lv_at hl 4 rfl) ?_
      refine lv_l2i (v := (va9).toInt32) hx hb dX8_puts_37 rfl ?_
      refine lv_i2s (v := ((va9).toInt32).toInt16.toInt32) hx hb dX8_puts_38 rfl ?_
      refine lv_i2l (v := ((va9).toInt32).toInt16.toInt32.toInt64) hx hb dX8_puts_39 rfl ?_
      refine lv_goto (tgt := 56) hx hb dX8_puts_40 (by decide) ?_
      refine ru_28 X w (by omega) dX8_puts_56 (fun z_56 H locs ez_56 w => ?_)
      exact re_v X hr hk w (⟨by rw [ez_56]; unfold pw_low; simp only [if_neg c_20_1, if_pos c_33_2]; exact rw_it hsh ht hi _, by rw [ez_56]; exact rFx_L _ (by decide)⟩) dX8_puts_57
  · skip
    refine lv_lload_n hx hb dX8_puts_23 rfl (lv_at hl 4 rfl) ?_
    refine lv_l2i (v := (va9).toInt32) hx hb dX8_puts_24 rfl ?_
    refine lv_i2b (v := ((va9).toInt32).toInt8.toInt32) hx hb dX8_puts_25 rfl ?_
    refine lv_i2l (v := ((va9).toInt32).toInt8.toInt32.toInt64) hx hb dX8_puts_26 rfl ?_
    refine lv_goto (tgt := 56) hx hb dX8_puts_27 (by decide) ?_
    refine ru_28 X w (by omega) dX8_puts_56 (fun z_56 H locs ez_56 w => ?_)
    exact re_v X hr hk w (⟨by rw [ez_56]; unfold pw_low; simp only [if_pos c_20_1]; exact rw_it hsh ht hi _, by rw [ez_56]; exact rFx_L _ (by decide)⟩) dX8_puts_57

theorem ok_sheet : rOk yX8_sheet cX8_sheet 5 (some .int) 3 := ⟨wc_X8_sheet, wi_X8_sheet, ws_X8_sheet, rfl, by decide, by decide, by decide +kernel⟩
set_option maxHeartbeats 4000000 in
set_option maxRecDepth 100000 in
theorem k_sheet (l : Launch) (g : RG) (z : RS) (xa9 : Int32) (xb9 : Int32) (xc9 : Int32) (L N9 : Nat → Nat) (I9 : Nat → Nat → Int64) (hsh : rSh z L N9 I9) : rMi g l yX8_sheet cX8_sheet 5 (some .int) 2 45 [.int xa9, .int xb9, .int xc9] z (fun r z' => r = an_sheet xa9 xb9 xc9 ∧ (od_sheet xa9 xb9 xc9 → rSh z' (va_up L xa9.toInt.toNat (xb9.toInt.toNat + 1)) (va_up N9 xa9.toInt.toNat xc9.toInt.toNat) (va_up I9 xa9.toInt.toNat (fun _ => 0))) ∧ (¬ od_sheet xa9 xb9 xc9 → z' = z) ∧ rFx [] [26, 27] [28] z z') := by
  refine rMi_in (by decide) rfl (Nat.le_of_ble_eq_true rfl) ?_
  intro p e s m args below meth c A ls X hml hr hk hl w
  have hx := X.1
  have hb := X.2.1
  have hts := X.2.2.1
  have hown := X.2.2.2.1
  have hl : lv_has ls 5 [(0, .ref g.2.2.2.1), (1, .int xa9), (2, .int xb9), (3, .int xc9)] := hl
  refine lv_iload_n hx hb dX8_sheet_0 rfl (lv_at hl 1 rfl) ?_
  refine rc_s (rest := []) ⟨X.1, X.2.1, X.2.2.1, X.2.2.2.1⟩ hml hl.1 (k_isSheet l xa9) ok_isSheet wm_X8_264 ⟨Nat.le_of_ble_eq_true rfl, Nat.le_of_ble_eq_true rfl⟩ ⟨Nat.le_refl _, Nat.le_refl _⟩ rfl (Nat.le_of_ble_eq_true rfl) dX8_sheet_1 (fun r_1 hr_1 => ?_)
  subst hr_1
  have i_1 := pc_inI_ok xa9.toInt 0 3
  refine n_if_eq (tgt := 20) hx hb dX8_sheet_4 (by decide) (by omega) (fun c_4_1 => ?_) (fun c_4_1 => ?_)
  · skip
    refine lv_iconst (v := (iZ (-1))) hx hb dX8_sheet_20 (by decide) ?_
    exact re_i X hr hk w (⟨by unfold an_sheet; rw [if_neg (by omega)], fun q => absurd q (by unfold od_sheet; omega), fun _ => rfl, rFx_rf _ _ _ _⟩) dX8_sheet_21
  · skip
    refine lv_iload_n hx hb dX8_sheet_7 rfl (lv_at hl 2 rfl) ?_
    refine rc_s (rest := []) ⟨X.1, X.2.1, X.2.2.1, X.2.2.2.1⟩ hml hl.1 (k_isLane l xb9) ok_isLane wm_X8_267 ⟨Nat.le_of_ble_eq_true rfl, Nat.le_of_ble_eq_true rfl⟩ ⟨Nat.le_refl _, Nat.le_refl _⟩ rfl (Nat.le_of_ble_eq_true rfl) dX8_sheet_8 (fun r_8 hr_8 => ?_)
    subst hr_8
    have i_8 := pc_inI_ok xb9.toInt 0 3
    refine n_if_eq (tgt := 20) hx hb dX8_sheet_11 (by decide) (by omega) (fun c_11_2 => ?_) (fun c_11_2 => ?_)
    · skip
      refine lv_iconst (v := (iZ (-1))) hx hb dX8_sheet_20 (by decide) ?_
      exact re_i X hr hk w (⟨by unfold an_sheet; rw [if_neg (by omega)], fun q => absurd q (by unfold od_sheet; omega), fun _ => rfl, rFx_rf _ _ _ _⟩) dX8_sheet_21
    · skip
      refine lv_iload_n hx hb dX8_sheet_14 rfl (lv_at hl 3 rfl) ?_
      refine lv_bipush (v := (nI 24)) hx hb dX8_sheet_15 (by decide) ?_
      refine lv_icmp_le (tgt := 22) hx hb dX8_sheet_17 (by decide) (fun c_17_3 => ?_) (fun c_17_3 => ?_)
      · skip
        have q3 : xc9.toInt ≤ 24 := by have q4 := Int32.le_iff_toInt_le.mp c_17_3; rw [nI_toInt (by decide)] at q4; exact q4
        refine lv_iload_n hx hb dX8_sheet_22 rfl (lv_at hl 3 rfl) ?_
        refine lv_if_ge (tgt := 29) hx hb dX8_sheet_23 (by decide) (fun c_23_4 => ?_) (fun c_23_4 => ?_)
        · skip
          have q5 : 0 ≤ xc9.toInt := Int32.le_iff_toInt_le.mp c_23_4
          obtain ⟨ka9, hq_ka9, rfl⟩ := iv_n (x := xa9) (by omega)
          obtain ⟨kb9, hq_kb9, rfl⟩ := iv_n (x := xb9) (by omega)
          obtain ⟨kc9, hq_kc9, rfl⟩ := iv_n (x := xc9) (by omega)
          refine lv_aload_n hx hb dX8_sheet_29 rfl (lv_at hl 0 rfl) ?_
          refine rg_26 X w.1 dX8_sheet_30 ?_
          refine lv_iload_n hx hb dX8_sheet_33 rfl (lv_at hl 1 rfl) ?_
          refine lv_iload_n hx hb dX8_sheet_34 rfl (lv_at hl 2 rfl) ?_
          refine ru_26 X w (by omega) dX8_sheet_35 (fun z_35 H locs ez_35 w => ?_)
          refine lv_aload_n hx hb dX8_sheet_36 rfl (lv_at hl 0 rfl) ?_
          refine rg_27 X w.1 dX8_sheet_37 ?_
          refine lv_iload_n hx hb dX8_sheet_40 rfl (lv_at hl 1 rfl) ?_
          refine lv_iload_n hx hb dX8_sheet_41 rfl (lv_at hl 3 rfl) ?_
          refine ru_27 X w (by omega) dX8_sheet_42 (fun z_42 H locs ez_42 w => ?_)
          refine lv_iconst (v := (nI 0)) hx hb dX8_sheet_43 (by decide) ?_
          refine lv_istore (lv' := [(4, .int (nI 0)), (0, .ref g.2.2.2.1), (1, .int (nI ka9)), (2, .int (nI kb9)), (3, .int (nI kc9))]) hx hb dX8_sheet_44 hl (by decide) rfl (fun ls hl => ?_)
          have lp_46 : ∀ (n_46 : Nat) (i : Nat) (hi : i ≤ 24) (hm_46 : 24 - i < n_46) (ls : Array Slot) (zz : RS) (H : Heap) (locs : List Loc) (w : rW g A s zz H locs) (hss : rSh zz (va_up L ka9 (kb9 + 1)) (va_up N9 ka9 kc9) (va_up I9 ka9 (fun j => if j < i then 0 else I9 ka9 j))) (hfz : rFx [] [26, 27] [28] z zz), lv_has ls 5 [(0, .ref g.2.2.2.1), (1, .int (nI ka9)), (2, .int (nI kb9)), (3, .int (nI kc9)), (4, .int (nI i))] → W p l e (ro_m 2 45) s m args below meth c H locs 0 0 (MQ below (va_Qi (fun r z' => r = an_sheet (nI ka9) (nI kb9) (nI kc9) ∧ (od_sheet (nI ka9) (nI kb9) (nI kc9) → rSh z' (va_up L (nI ka9).toInt.toNat ((nI kb9).toInt.toNat + 1)) (va_up N9 (nI ka9).toInt.toNat (nI kc9).toInt.toNat) (va_up I9 (nI ka9).toInt.toNat (fun _ => 0))) ∧ (¬ od_sheet (nI ka9) (nI kb9) (nI kc9) → z' = z) ∧ rFx [] [26, 27] [28] z z') (rB g A) A) args s 0 0 A) (F0 m 46 ls []) := by
            intro n_46
            induction n_46 with
            | zero => intro i hi hm; exact absurd hm (Nat.not_lt_zero _)
            | succ n_46 ih_46 =>
              intro i hi hm_46 ls zz H locs w hss hfz hl
              refine lv_iload hx hb dX8_sheet_46 (lv_at hl 4 rfl) ?_
              refine lv_bipush (v := (nI 24)) hx hb dX8_sheet_48 (by decide) ?_
              refine n_icmp_ge (tgt := 72) hx hb dX8_sheet_50 (by decide) (by omega) (by omega) (fun c_50_5 => ?_) (fun c_50_5 => ?_)
              · skip
                refine lv_iload_n hx hb dX8_sheet_72 rfl (lv_at hl 3 rfl) ?_
                exact re_i X hr hk w (⟨by unfold an_sheet; rw [if_pos (by omega), if_neg (by omega)], fun _ => by rw [show (nI ka9).toInt.toNat = ka9 by omega, show (nI kb9).toInt.toNat = kb9 by omega, show (nI kc9).toInt.toNat = kc9 by omega]; exact sh_e hss (by omega), fun q => absurd (show od_sheet _ _ _ by unfold od_sheet; omega) q, hfz⟩) dX8_sheet_73
              · skip
                refine lv_aload_n hx hb dX8_sheet_53 rfl (lv_at hl 0 rfl) ?_
                refine rg_28 X w.1 dX8_sheet_54 ?_
                refine lv_bipush (v := (nI 24)) hx hb dX8_sheet_57 (by decide) ?_
                refine lv_iload_n hx hb dX8_sheet_59 rfl (lv_at hl 1 rfl) ?_
                refine n_imul hx hb dX8_sheet_60 ?_
                refine lv_iload hx hb dX8_sheet_61 (lv_at hl 4 rfl) ?_
                refine n_iadd hx hb dX8_sheet_63 ?_
                refine lv_lconst (v := 0) hx hb dX8_sheet_64 (by decide) ?_
                refine ru_28 X w (by omega) dX8_sheet_65 (fun z_65 H locs ez_65 w => ?_)
                refine lv_iinc (v := (nI (i + 1))) (lv' := [(4, .int (nI (i + 1))), (0, .ref g.2.2.2.1), (1, .int (nI ka9)), (2, .int (nI kb9)), (3, .int (nI kc9))]) hx hb dX8_sheet_66 hl (k := 4) rfl (by first | exact nI_1 _ | (rw [show Int32.ofInt 1 = nI 1 from by decide, nI_add])) (by decide) rfl (fun ls hl => ?_)
                refine lv_goto (tgt := 46) hx hb dX8_sheet_69 (by decide) ?_
                exact ih_46 (i + 1) (by omega) (by omega) ls z_65 _ _ w (by rw [ez_65]; exact sh_s hss (by omega) (by omega)) (by rw [ez_65]; exact rFx_tr hfz (rFx_L _ (by decide))) (lv_sub hl [1, 2, 3, 4, 0] rfl)
          exact lp_46 _ 0 (by omega) (Nat.lt_succ_self _) ls z_42 _ _ w (by rw [ez_42, ez_35]; exact sh_0 (rw_sz (rw_ln hsh (by omega) (by omega) (by rw [← iZ_n]; congr 1; omega)) (by omega) (by omega))) (by rw [ez_42, ez_35]; exact rFx_tr (rFx_A _ (by decide)) (rFx_A _ (by decide))) (lv_sub hl [1, 2, 3, 4, 0] rfl)
        · skip
          have q5 : ¬ 0 ≤ xc9.toInt := fun q => c_23_4 (Int32.le_iff_toInt_le.mpr q)
          refine lv_bipush (v := (iZ (-14))) hx hb dX8_sheet_26 (by decide) ?_
          exact re_i X hr hk w (⟨by unfold an_sheet; rw [if_pos (by omega), if_pos (by omega)], fun q => absurd q (by unfold od_sheet; omega), fun _ => rfl, rFx_rf _ _ _ _⟩) dX8_sheet_28
      · skip
        have q3 : ¬ xc9.toInt ≤ 24 := fun q => c_17_3 (Int32.le_iff_toInt_le.mpr (by rw [nI_toInt (by decide)]; exact q))
        refine lv_iconst (v := (iZ (-1))) hx hb dX8_sheet_20 (by decide) ?_
        exact re_i X hr hk w (⟨by unfold an_sheet; rw [if_neg (by omega)], fun q => absurd q (by unfold od_sheet; omega), fun _ => rfl, rFx_rf _ _ _ _⟩) dX8_sheet_21

theorem ok_drop : rOk yX8_drop cX8_drop 2 (some .int) 1 := ⟨wc_X8_drop, wi_X8_drop, ws_X8_drop, rfl, by decide, by decide, by decide +kernel⟩
set_option maxHeartbeats 4000000 in
set_option maxRecDepth 100000 in
theorem k_drop (l : Launch) (g : RG) (z : RS) (xa9 : Int32) (L N9 : Nat → Nat) (I9 : Nat → Nat → Int64) (hsh : rSh z L N9 I9) : rMi g l yX8_drop cX8_drop 2 (some .int) 2 45 [.int xa9] z (fun r z' => r = an_drop L N9 xa9 ∧ rSh z' (nl_drop L xa9) N9 I9 ∧ rFx [] [26] [] z z') := by
  refine rMi_in (by decide) rfl (Nat.le_of_ble_eq_true rfl) ?_
  intro p e s m args below meth c A ls X hml hr hk hl w
  have hx := X.1
  have hb := X.2.1
  have hts := X.2.2.1
  have hown := X.2.2.2.1
  have hl : lv_has ls 2 [(0, .ref g.2.2.2.1), (1, .int xa9)] := hl
  refine lv_iload_n hx hb dX8_drop_0 rfl (lv_at hl 1 rfl) ?_
  refine rc_s (rest := []) ⟨X.1, X.2.1, X.2.2.1, X.2.2.2.1⟩ hml hl.1 (k_isSheet l xa9) ok_isSheet wm_X8_264 ⟨Nat.le_of_ble_eq_true rfl, Nat.le_of_ble_eq_true rfl⟩ ⟨Nat.le_refl _, Nat.le_refl _⟩ rfl (Nat.le_of_ble_eq_true rfl) dX8_drop_1 (fun r_1 hr_1 => ?_)
  subst hr_1
  have i_1 := pc_inI_ok xa9.toInt 0 3
  refine n_if_ne (tgt := 9) hx hb dX8_drop_4 (by decide) (by omega) (fun c_4_1 => ?_) (fun c_4_1 => ?_)
  · skip
    obtain ⟨ka9, hq_ka9, rfl⟩ := iv_n (x := xa9) (by omega)
    have q1 := (hsh ka9 (by omega)).2.2.1
    refine lv_aload_n hx hb dX8_drop_9 rfl (lv_at hl 0 rfl) ?_
    refine rg_26 X w.1 dX8_drop_10 ?_
    refine lv_iload_n hx hb dX8_drop_13 rfl (lv_at hl 1 rfl) ?_
    refine rn_26 X w.1 (by omega) dX8_drop_14 ?_
    refine tp_i (show z.2.1 26 ka9 = (iZ (((L ka9 : Nat) : Int) - (1 : Int))) from (hsh ka9 (by omega)).1) ?_
    refine z_if_ge (tgt := 21) hx hb dX8_drop_15 (by decide) (by omega) (by omega) (fun c_15_2 => ?_) (fun c_15_2 => ?_)
    · skip
      refine lv_aload_n hx hb dX8_drop_21 rfl (lv_at hl 0 rfl) ?_
      refine rg_26 X w.1 dX8_drop_22 ?_
      refine lv_iload_n hx hb dX8_drop_25 rfl (lv_at hl 1 rfl) ?_
      refine lv_iconst (v := (iZ (-1))) hx hb dX8_drop_26 (by decide) ?_
      refine ru_26 X w (by omega) dX8_drop_27 (fun z_27 H locs ez_27 w => ?_)
      refine lv_aload_n hx hb dX8_drop_28 rfl (lv_at hl 0 rfl) ?_
      refine rg_27 X w.1 dX8_drop_29 ?_
      refine lv_iload_n hx hb dX8_drop_32 rfl (lv_at hl 1 rfl) ?_
      refine rn_27 X w.1 (by omega) dX8_drop_33 ?_
      refine tp_i (show z_27.2.1 27 ka9 = (nI (N9 ka9)) from by rw [ez_27]; exact (hsh ka9 (by omega)).2.1) ?_
      exact re_i X hr hk w (⟨by unfold an_drop; rw [if_pos (by omega), show (nI ka9).toInt.toNat = ka9 by omega, if_neg (by omega)], by unfold nl_drop; rw [if_pos (by omega), show (nI ka9).toInt.toNat = ka9 by omega, ez_27]; exact rw_ln hsh (by omega) (by omega) (by decide), by rw [ez_27]; exact rFx_A _ (by decide)⟩) dX8_drop_34
    · skip
      refine lv_bipush (v := (iZ (-11))) hx hb dX8_drop_18 (by decide) ?_
      exact re_i X hr hk w (⟨by unfold an_drop; rw [if_pos (by omega), show (nI ka9).toInt.toNat = ka9 by omega, if_pos (by omega)], by unfold nl_drop; rw [if_pos (by omega), show (nI ka9).toInt.toNat = ka9 by omega]; exact sh_id hsh (by omega), rFx_rf _ _ _ _⟩) dX8_drop_20
  · skip
    refine lv_iconst (v := (iZ (-1))) hx hb dX8_drop_7 (by decide) ?_
    exact re_i X hr hk w (⟨by unfold an_drop; rw [if_neg (by omega)], by unfold nl_drop; rw [if_neg (by omega)]; exact hsh, rFx_rf _ _ _ _⟩) dX8_drop_8

theorem ok_item : rOk yX8_item cX8_item 7 (some .int) 4 := ⟨wc_X8_item, wi_X8_item, ws_X8_item, rfl, by decide, by decide, by decide +kernel⟩
set_option maxHeartbeats 4000000 in
set_option maxRecDepth 100000 in
theorem k_item (l : Launch) (g : RG) (z : RS) (xa9 : Int32) (xb9 : Int32) (xc9 : Int32) (va9 : Int64) (L N9 : Nat → Nat) (I9 : Nat → Nat → Int64) (hsh : rSh z L N9 I9) : rMi g l yX8_item cX8_item 7 (some .int) 2 45 [.int xa9, .int xb9, .int xc9, .long (va9)] z (fun r z' => r = an_item L N9 xa9 xb9 xc9 ∧ rSh z' L N9 (ni_item L N9 I9 xa9 xb9 xc9 va9) ∧ rFx [] [] [28] z z') := by
  refine rMi_in (by decide) rfl (Nat.le_of_ble_eq_true rfl) ?_
  intro p e s m args below meth c A ls X hml hr hk hl w
  have hx := X.1
  have hb := X.2.1
  have hts := X.2.2.1
  have hown := X.2.2.2.1
  have hl : lv_has ls 7 [(0, .ref g.2.2.2.1), (1, .int xa9), (2, .int xb9), (3, .int xc9), (4, .long (va9))] := hl
  refine lv_iload_n hx hb dX8_item_0 rfl (lv_at hl 1 rfl) ?_
  refine rc_s (rest := []) ⟨X.1, X.2.1, X.2.2.1, X.2.2.2.1⟩ hml hl.1 (k_isSheet l xa9) ok_isSheet wm_X8_264 ⟨Nat.le_of_ble_eq_true rfl, Nat.le_of_ble_eq_true rfl⟩ ⟨Nat.le_refl _, Nat.le_refl _⟩ rfl (Nat.le_of_ble_eq_true rfl) dX8_item_1 (fun r_1 hr_1 => ?_)
  subst hr_1
  have i_1 := pc_inI_ok xa9.toInt 0 3
  refine n_if_eq (tgt := 14) hx hb dX8_item_4 (by decide) (by omega) (fun c_4_1 => ?_) (fun c_4_1 => ?_)
  · skip
    refine lv_iconst (v := (iZ (-1))) hx hb dX8_item_14 (by decide) ?_
    exact re_i X hr hk w (⟨by unfold an_item; rw [if_neg (by omega)], by unfold ni_item; rw [if_neg (by omega)]; exact hsh, rFx_rf _ _ _ _⟩) dX8_item_15
  · skip
    refine lv_iload_n hx hb dX8_item_7 rfl (lv_at hl 2 rfl) ?_
    refine rc_s (rest := []) ⟨X.1, X.2.1, X.2.2.1, X.2.2.2.1⟩ hml hl.1 (k_isLane l xb9) ok_isLane wm_X8_267 ⟨Nat.le_of_ble_eq_true rfl, Nat.le_of_ble_eq_true rfl⟩ ⟨Nat.le_refl _, Nat.le_refl _⟩ rfl (Nat.le_of_ble_eq_true rfl) dX8_item_8 (fun r_8 hr_8 => ?_)
    subst hr_8
    have i_8 := pc_inI_ok xb9.toInt 0 3
    refine n_if_ne (tgt := 16) hx hb dX8_item_11 (by decide) (by omega) (fun c_11_2 => ?_) (fun c_11_2 => ?_)
    · skip
      obtain ⟨ka9, hq_ka9, rfl⟩ := iv_n (x := xa9) (by omega)
      obtain ⟨kb9, hq_kb9, rfl⟩ := iv_n (x := xb9) (by omega)
      have q2 := (hsh ka9 (by omega)).2.2.2.1
      refine lv_aload_n hx hb dX8_item_16 rfl (lv_at hl 0 rfl) ?_
      refine lv_iload_n hx hb dX8_item_17 rfl (lv_at hl 1 rfl) ?_
      refine lv_iload_n hx hb dX8_item_18 rfl (lv_at hl 2 rfl) ?_
      refine lv_iload_n hx hb dX8_item_19 rfl (lv_at hl 3 rfl) ?_
      refine lv_iconst (v := (nI 1)) hx hb dX8_item_20 (by decide) ?_
      refine rc_p (rest := []) X hml hl.1 (k_why l g z ka9 kb9 xc9 1 L N9 I9 hsh (by omega) (by omega) (by omega)) ok_why wm_X8_272 ⟨Nat.le_of_ble_eq_true rfl, Nat.le_of_ble_eq_true rfl⟩ ⟨Nat.le_refl _, Nat.le_refl _⟩ w.1 rfl (Nat.le_of_ble_eq_true rfl) dX8_item_21 (fun r_21 hr_21 => ?_)
      subst hr_21
      have y_21 := pw_why_ok L N9 ka9 kb9 xc9.toInt 1
      refine lv_istore (lv' := [(6, .int (iZ (pw_why L N9 ka9 kb9 xc9.toInt 1))), (0, .ref g.2.2.2.1), (1, .int (nI ka9)), (2, .int (nI kb9)), (3, .int xc9), (4, .long (va9))]) hx hb dX8_item_24 hl (by decide) rfl (fun ls hl => ?_)
      refine lv_iload hx hb dX8_item_26 (lv_at hl 0 rfl) ?_
      refine z_if_ge (tgt := 34) hx hb dX8_item_28 (by decide) (by omega) (by omega) (fun c_28_3 => ?_) (fun c_28_3 => ?_)
      · skip
        obtain ⟨kc9, hq_kc9, rfl⟩ := iv_n (x := xc9) (by omega)
        refine lv_aload_n hx hb dX8_item_34 rfl (lv_at hl 1 rfl) ?_
        refine lv_iload_n hx hb dX8_item_35 rfl (lv_at hl 2 rfl) ?_
        refine lv_iload_n hx hb dX8_item_36 rfl (lv_at hl 4 rfl) ?_
        refine lv_lload hx hb dX8_item_37 (lv_at hl 5 rfl) ?_
        refine rc_v (rest := []) X hml hl.1 (k_puts l g z ka9 kc9 va9 L N9 I9 hsh (by omega) (by omega)) ok_puts wm_X8_278 ⟨Nat.le_of_ble_eq_true rfl, Nat.le_of_ble_eq_true rfl⟩ ⟨Nat.le_refl _, Nat.le_refl _⟩ w rfl (Nat.le_of_ble_eq_true rfl) dX8_item_39 (fun z_39 H locs hr_39 w => ?_)
        skip
        refine lv_iconst (v := (nI 1)) hx hb dX8_item_42 (by decide) ?_
        exact re_i X hr hk w (⟨by unfold an_item; rw [if_pos (by omega), show (nI ka9).toInt.toNat = ka9 by omega, show (nI kb9).toInt.toNat = kb9 by omega, if_neg (by omega)], by unfold ni_item; rw [show (nI ka9).toInt.toNat = ka9 by omega, show (nI kb9).toInt.toNat = kb9 by omega, show (nI kc9).toInt.toNat = kc9 by omega, if_pos (by omega)]; exact hr_39.1, hr_39.2⟩) dX8_item_43
      · skip
        refine lv_iload hx hb dX8_item_31 (lv_at hl 0 rfl) ?_
        exact re_i X hr hk w (⟨by unfold an_item; rw [if_pos (by omega), show (nI ka9).toInt.toNat = ka9 by omega, show (nI kb9).toInt.toNat = kb9 by omega, if_pos (by omega)], by unfold ni_item; rw [show (nI ka9).toInt.toNat = ka9 by omega, show (nI kb9).toInt.toNat = kb9 by omega, if_neg (by omega)]; exact hsh, rFx_rf _ _ _ _⟩) dX8_item_33
    · skip
      refine lv_iconst (v := (iZ (-1))) hx hb dX8_item_14 (by decide) ?_
      exact re_i X hr hk w (⟨by unfold an_item; rw [if_neg (by omega)], by unfold ni_item; rw [if_neg (by omega)]; exact hsh, rFx_rf _ _ _ _⟩) dX8_item_15
end
section
theorem rs_row {z : RS} {S : Sc} (h : rSc z S) (k j : Nat) (hk : k < 5) (hj : j < 3) : z.2.1 3 (3 * k + j) = nI (S.2.1 (j + 1) k) := by
  rcases (show j = 0 ∨ j = 1 ∨ j = 2 by omega) with rfl | rfl | rfl
  · exact rs_ki h k hk
  · exact rs_sr h k hk
  · exact rs_pa h k hk
def sp_of6 (S : Sc) (f : Nat) : Int32 := if f = 0 then iZ (-4) else (if S.1 4 = 0 then iZ (-4) else (if pc_dn S f = 0 then nI (S.2.1 5 f) else iZ (-4)))
def an_of (S : Sc) (f w : Int32) : Int32 := if (0 ≤ f.toInt ∧ f.toInt < S.1 1) ∧ 0 ≤ w.toInt ∧ w.toInt ≤ 6 then (if w.toInt = 3 then nI (S.2.1 4 f.toInt.toNat) else (if w.toInt = 4 then nI (sp_frc S f.toInt.toNat) else (if w.toInt = 5 then nI (sp_place S f.toInt.toNat) else (if w.toInt = 6 then sp_of6 S f.toInt.toNat else nI (S.2.1 (w.toInt.toNat + 1) f.toInt.toNat))))) else iZ (-1)
def an_cnt (S : Sc) (u : Nat) (w : Int32) : Int32 := if w.toInt = 0 then nI (S.1 0) else (if w.toInt = 1 then nI (S.1 1) else (if w.toInt = 2 then nI (S.1 3) else (if w.toInt = 3 then nI (pc_td S) else (if w.toInt = 4 then pc_sd (S.1 4) else (if w.toInt = 5 then nI u else (if w.toInt = 6 then nI (sp_dnL S (S.1 1)) else (if w.toInt = 7 then nI (sp_over S) else iZ (-1))))))))
end
section
theorem ok_of : rOk yX8_of cX8_of 3 (some .int) 2 := ⟨wc_X8_of, wi_X8_of, ws_X8_of, rfl, by decide, by decide, by decide +kernel⟩
set_option maxHeartbeats 4000000 in
set_option maxRecDepth 100000 in
theorem k_of (l : Launch) (g : RG) (z : RS) (xa9 : Int32) (xb9 : Int32) (S : Sc) (hz : rSc z S) (ho : oSc S) : rMp g l yX8_of cX8_of 3 (some .int) 4 86 [.int xa9, .int xb9] z (fun r => r = an_of S xa9 xb9) := by
  refine rMp_in (by decide) rfl (Nat.le_of_ble_eq_true rfl) ?_
  intro p e s m args below meth c ls X hml hr hk hl w
  have hx := X.1
  have hb := X.2.1
  have hts := X.2.2.1
  have hown := X.2.2.2.1
  have hl : lv_has ls 3 [(0, .ref g.2.2.2.1), (1, .int xa9), (2, .int xb9)] := hl
  obtain ⟨hz0, hz1, hz4, hm0, hm1, hm2, hso, hki, hsr, hpa, hhu, hco⟩ := id hz
  obtain ⟨o1, o2, o3, o4, o5, o6, oso, oki, osr, opa, ohu, oco⟩ := id ho
  refine lv_aload_n hx hb dX8_of_0 rfl (lv_at hl 0 rfl) ?_
  refine lv_iload_n hx hb dX8_of_1 rfl (lv_at hl 1 rfl) ?_
  refine rc_p (rest := []) X hml hl.1 (k_isF l g z xa9 S hz ho) ok_isFighter wm_X8_123 ⟨Nat.le_of_ble_eq_true rfl, Nat.le_of_ble_eq_true rfl⟩ ⟨Nat.le_refl _, Nat.le_refl _⟩ w rfl (Nat.le_of_ble_eq_true rfl) dX8_of_2 (fun r_2 hr_2 => ?_)
  subst hr_2
  have i_2 := pc_inI_ok xa9.toInt 0 (((S.1 1 : Nat) : Int) - (1 : Int))
  refine n_if_eq (tgt := 20) hx hb dX8_of_5 (by decide) (by omega) (fun c_5_1 => ?_) (fun c_5_1 => ?_)
  · skip
    refine lv_iconst (v := (iZ (-1))) hx hb dX8_of_20 (by decide) ?_
    exact re_p hx hb hr hk (by unfold an_of; rw [if_neg (by omega)]) dX8_of_21
  · skip
    refine lv_iload_n hx hb dX8_of_8 rfl (lv_at hl 2 rfl) ?_
    refine lv_i2l (v := xb9.toInt64) hx hb dX8_of_9 rfl ?_
    refine lv_lconst (v := 0) hx hb dX8_of_10 (by decide) ?_
    refine lv_ldc2 hx hb hown (hts _ wk_X8_78) dX8_of_11 ?_
    refine rc_s (rest := []) ⟨X.1, X.2.1, X.2.2.1, X.2.2.2.1⟩ hml hl.1 (k_in l xb9.toInt64 0 6) ok_in wm_X8_69 ⟨Nat.le_of_ble_eq_true rfl, Nat.le_of_ble_eq_true rfl⟩ ⟨Nat.le_refl _, Nat.le_refl _⟩ rfl (Nat.le_of_ble_eq_true rfl) dX8_of_14 (fun r_14 hr_14 => ?_)
    have h9 : r_14 = nI (pc_inI xb9.toInt (0) (6)) := by rw [hr_14]; exact congrArg nI (pc_in_I (in_toI _) (by decide) (by decide))
    subst h9
    have i_14 := pc_inI_ok xb9.toInt (0) (6)
    refine n_if_ne (tgt := 22) hx hb dX8_of_17 (by decide) (by omega) (fun c_17_2 => ?_) (fun c_17_2 => ?_)
    · skip
      obtain ⟨ka9, hq_ka9, rfl⟩ := iv_n (x := xa9) (by omega)
      obtain ⟨kb9, hq_kb9, rfl⟩ := iv_n (x := xb9) (by omega)
      have q1 := ohu ka9
      refine lv_iload_n hx hb dX8_of_22 rfl (lv_at hl 2 rfl) ?_
      by_cases qlo : (nI kb9).toInt < 3
      · skip
        refine lv_tableOut (tgt := 109) hx hb dX8_of_23 (Or.inl qlo) (by decide) ?_
        refine lv_aload_n hx hb dX8_of_109 rfl (lv_at hl 0 rfl) ?_
        refine rg_3 X w dX8_of_110 ?_
        refine lv_iconst (v := (nI 3)) hx hb dX8_of_113 (by decide) ?_
        refine lv_iload_n hx hb dX8_of_114 rfl (lv_at hl 1 rfl) ?_
        refine n_imul hx hb dX8_of_115 ?_
        refine lv_iload_n hx hb dX8_of_116 rfl (lv_at hl 2 rfl) ?_
        refine n_iadd hx hb dX8_of_117 ?_
        refine rn_3 X w (by omega) dX8_of_118 ?_
        refine tp_i (show z.2.1 3 ((3 * ka9) + kb9) = (nI (S.2.1 (kb9 + 1) ka9)) from (rs_row hz ka9 kb9 (by omega) (by omega) :)) ?_
        exact re_p hx hb hr hk (by unfold an_of; rw [if_pos (by omega), if_neg (by omega), if_neg (by omega), if_neg (by omega), if_neg (by omega), show (nI ka9).toInt.toNat = ka9 by omega, show (nI kb9).toInt.toNat = kb9 by omega]) dX8_of_119
      by_cases qhi : (6 : Int) < (nI kb9).toInt
      · skip
        refine lv_tableOut (tgt := 109) hx hb dX8_of_23 (Or.inr qhi) (by decide) ?_
        refine lv_aload_n hx hb dX8_of_109 rfl (lv_at hl 0 rfl) ?_
        refine rg_3 X w dX8_of_110 ?_
        refine lv_iconst (v := (nI 3)) hx hb dX8_of_113 (by decide) ?_
        refine lv_iload_n hx hb dX8_of_114 rfl (lv_at hl 1 rfl) ?_
        refine n_imul hx hb dX8_of_115 ?_
        refine lv_iload_n hx hb dX8_of_116 rfl (lv_at hl 2 rfl) ?_
        refine n_iadd hx hb dX8_of_117 ?_
        refine rn_3 X w (by omega) dX8_of_118 ?_
        refine tp_i (show z.2.1 3 ((3 * ka9) + kb9) = (nI (S.2.1 (kb9 + 1) ka9)) from (rs_row hz ka9 kb9 (by omega) (by omega) :)) ?_
        exact re_p hx hb hr hk (by unfold an_of; rw [if_pos (by omega), if_neg (by omega), if_neg (by omega), if_neg (by omega), if_neg (by omega), show (nI ka9).toInt.toNat = ka9 by omega, show (nI kb9).toInt.toNat = kb9 by omega]) dX8_of_119
      rcases (show (nI kb9).toInt = 3 ∨ (nI kb9).toInt = 4 ∨ (nI kb9).toInt = 5 ∨ (nI kb9).toInt = 6 by omega) with qsw | qsw | qsw | qsw
      · skip
        refine lv_tableIn (off := 29) (tgt := 52) hx hb dX8_of_23 qlo qhi (by rw [qsw]; rfl) (by decide) ?_
        refine lv_aload_n hx hb dX8_of_52 rfl (lv_at hl 0 rfl) ?_
        refine lv_iload_n hx hb dX8_of_53 rfl (lv_at hl 1 rfl) ?_
        refine rc_p (rest := []) X hml hl.1 (k_hurtS l g z ka9 S hz ho (by omega)) ok_hurtOf wm_X8_91 ⟨Nat.le_of_ble_eq_true rfl, Nat.le_of_ble_eq_true rfl⟩ ⟨Nat.le_refl _, Nat.le_refl _⟩ w rfl (Nat.le_of_ble_eq_true rfl) dX8_of_54 (fun r_54 hr_54 => ?_)
        subst hr_54
        exact re_p hx hb hr hk (by unfold an_of; rw [if_pos (by omega), if_pos (by omega), show (nI ka9).toInt.toNat = ka9 by omega]) dX8_of_57
      · skip
        refine lv_tableIn (off := 35) (tgt := 58) hx hb dX8_of_23 qlo qhi (by rw [qsw]; rfl) (by decide) ?_
        refine lv_aload_n hx hb dX8_of_58 rfl (lv_at hl 0 rfl) ?_
        refine lv_iload_n hx hb dX8_of_59 rfl (lv_at hl 1 rfl) ?_
        refine lv_aload_n hx hb dX8_of_60 rfl (lv_at hl 0 rfl) ?_
        refine lv_iload_n hx hb dX8_of_61 rfl (lv_at hl 1 rfl) ?_
        refine rc_p (rest := [.int (nI ka9), .ref g.2.2.2.1]) X hml hl.1 (k_hurtS l g z ka9 S hz ho (by omega)) ok_hurtOf wm_X8_91 ⟨Nat.le_of_ble_eq_true rfl, Nat.le_of_ble_eq_true rfl⟩ ⟨Nat.le_refl _, Nat.le_refl _⟩ w rfl (Nat.le_of_ble_eq_true rfl) dX8_of_62 (fun r_62 hr_62 => ?_)
        subst hr_62
        refine rc_p (rest := []) X hml hl.1 (k_force l g z ka9 (S.2.1 4 ka9) S hz ho (by omega) (by omega)) ok_force wm_X8_126 ⟨Nat.le_of_ble_eq_true rfl, Nat.le_of_ble_eq_true rfl⟩ ⟨Nat.le_refl _, Nat.le_refl _⟩ w rfl (Nat.le_of_ble_eq_true rfl) dX8_of_65 (fun r_65 hr_65 => ?_)
        subst hr_65
        exact re_p hx hb hr hk (by unfold an_of; rw [if_pos (by omega), if_neg (by omega), if_pos (by omega), show (nI ka9).toInt.toNat = ka9 by omega] <;> rfl) dX8_of_68
      · skip
        refine lv_tableIn (off := 46) (tgt := 69) hx hb dX8_of_23 qlo qhi (by rw [qsw]; rfl) (by decide) ?_
        refine lv_aload_n hx hb dX8_of_69 rfl (lv_at hl 0 rfl) ?_
        refine lv_iload_n hx hb dX8_of_70 rfl (lv_at hl 1 rfl) ?_
        refine rc_p (rest := []) X hml hl.1 (k_place l g z ka9 S hz ho (by omega)) ok_place wm_X8_129 ⟨Nat.le_of_ble_eq_true rfl, Nat.le_of_ble_eq_true rfl⟩ ⟨Nat.le_refl _, Nat.le_refl _⟩ w rfl (Nat.le_of_ble_eq_true rfl) dX8_of_71 (fun r_71 hr_71 => ?_)
        subst hr_71
        exact re_p hx hb hr hk (by unfold an_of; rw [if_pos (by omega), if_neg (by omega), if_neg (by omega), if_pos (by omega), show (nI ka9).toInt.toNat = ka9 by omega]) dX8_of_74
      · skip
        refine lv_tableIn (off := 52) (tgt := 75) hx hb dX8_of_23 qlo qhi (by rw [qsw]; rfl) (by decide) ?_
        refine lv_iload_n hx hb dX8_of_75 rfl (lv_at hl 1 rfl) ?_
        refine n_if_eq (tgt := 94) hx hb dX8_of_76 (by decide) (by omega) (fun c_76_3 => ?_) (fun c_76_3 => ?_)
        · skip
          refine lv_bipush (v := (iZ (-4))) hx hb dX8_of_94 (by decide) ?_
          refine lv_goto (tgt := 108) hx hb dX8_of_96 (by decide) ?_
          exact re_p hx hb hr hk (by unfold an_of sp_of6; rw [if_pos (by omega), if_neg (by omega), if_neg (by omega), if_neg (by omega), if_pos (by omega), show (nI ka9).toInt.toNat = ka9 by omega]; first | (rw [if_pos (by omega)]; done) | (rw [if_neg (by omega), if_pos (by omega)]; done) | (rw [if_neg (by omega), if_neg (by omega), if_neg (by omega)]; done) | (rw [if_neg (by omega), if_neg (by omega), if_pos (by omega)]; done)) dX8_of_108
        · skip
          refine lv_aload_n hx hb dX8_of_79 rfl (lv_at hl 0 rfl) ?_
          refine rc_p (rest := []) X hml hl.1 (k_turnS l g z S hz ho) ok_isTurned wm_X8_80 ⟨Nat.le_of_ble_eq_true rfl, Nat.le_of_ble_eq_true rfl⟩ ⟨Nat.le_refl _, Nat.le_refl _⟩ w rfl (Nat.le_of_ble_eq_true rfl) dX8_of_80 (fun r_80 hr_80 => ?_)
          subst hr_80
          have d_80 := pc_td_ok S
          refine n_if_eq (tgt := 94) hx hb dX8_of_83 (by decide) (by omega) (fun c_83_4 => ?_) (fun c_83_4 => ?_)
          · skip
            refine lv_bipush (v := (iZ (-4))) hx hb dX8_of_94 (by decide) ?_
            refine lv_goto (tgt := 108) hx hb dX8_of_96 (by decide) ?_
            exact re_p hx hb hr hk (by unfold an_of sp_of6; rw [if_pos (by omega), if_neg (by omega), if_neg (by omega), if_neg (by omega), if_pos (by omega), show (nI ka9).toInt.toNat = ka9 by omega]; first | (rw [if_pos (by omega)]; done) | (rw [if_neg (by omega), if_pos (by omega)]; done) | (rw [if_neg (by omega), if_neg (by omega), if_neg (by omega)]; done) | (rw [if_neg (by omega), if_neg (by omega), if_pos (by omega)]; done)) dX8_of_108
          · skip
            refine lv_aload_n hx hb dX8_of_86 rfl (lv_at hl 0 rfl) ?_
            refine lv_iload_n hx hb dX8_of_87 rfl (lv_at hl 1 rfl) ?_
            refine rc_p (rest := []) X hml hl.1 (k_downS l g z ka9 S hz ho (by omega)) ok_isDown wm_X8_103 ⟨Nat.le_of_ble_eq_true rfl, Nat.le_of_ble_eq_true rfl⟩ ⟨Nat.le_refl _, Nat.le_refl _⟩ w rfl (Nat.le_of_ble_eq_true rfl) dX8_of_88 (fun r_88 hr_88 => ?_)
            subst hr_88
            have d_88 := pc_dn01 S ka9
            refine n_if_eq (tgt := 99) hx hb dX8_of_91 (by decide) (by omega) (fun c_91_5 => ?_) (fun c_91_5 => ?_)
            · skip
              refine lv_aload_n hx hb dX8_of_99 rfl (lv_at hl 0 rfl) ?_
              refine rg_5 X w dX8_of_100 ?_
              refine lv_bipush (v := (nI 8)) hx hb dX8_of_103 (by decide) ?_
              refine lv_iload_n hx hb dX8_of_105 rfl (lv_at hl 1 rfl) ?_
              refine n_iadd hx hb dX8_of_106 ?_
              refine rn_5 X w (by omega) dX8_of_107 ?_
              refine tp_i (show z.2.1 5 (8 + ka9) = (nI (S.2.1 5 ka9)) from hco ka9 (by omega)) ?_
              exact re_p hx hb hr hk (by unfold an_of sp_of6; rw [if_pos (by omega), if_neg (by omega), if_neg (by omega), if_neg (by omega), if_pos (by omega), show (nI ka9).toInt.toNat = ka9 by omega]; first | (rw [if_pos (by omega)]; done) | (rw [if_neg (by omega), if_pos (by omega)]; done) | (rw [if_neg (by omega), if_neg (by omega), if_neg (by omega)]; done) | (rw [if_neg (by omega), if_neg (by omega), if_pos (by omega)]; done)) dX8_of_108
            · skip
              refine lv_bipush (v := (iZ (-4))) hx hb dX8_of_94 (by decide) ?_
              refine lv_goto (tgt := 108) hx hb dX8_of_96 (by decide) ?_
              exact re_p hx hb hr hk (by unfold an_of sp_of6; rw [if_pos (by omega), if_neg (by omega), if_neg (by omega), if_neg (by omega), if_pos (by omega), show (nI ka9).toInt.toNat = ka9 by omega]; first | (rw [if_pos (by omega)]; done) | (rw [if_neg (by omega), if_pos (by omega)]; done) | (rw [if_neg (by omega), if_neg (by omega), if_neg (by omega)]; done) | (rw [if_neg (by omega), if_neg (by omega), if_pos (by omega)]; done)) dX8_of_108
    · skip
      refine lv_iconst (v := (iZ (-1))) hx hb dX8_of_20 (by decide) ?_
      exact re_p hx hb hr hk (by unfold an_of; rw [if_neg (by omega)]) dX8_of_21

theorem ok_count : rOk yX8_count cX8_count 2 (some .int) 1 := ⟨wc_X8_count, wi_X8_count, ws_X8_count, rfl, by decide, by decide, by decide +kernel⟩
set_option maxHeartbeats 4000000 in
set_option maxRecDepth 100000 in
theorem k_count (l : Launch) (g : RG) (z : RS) (xa9 : Int32) (S : Sc) (hz : rSc z S) (ho : oSc S) (u : Nat) (hps : z.1 16 = nI u) : rMp g l yX8_count cX8_count 2 (some .int) 4 85 [.int xa9] z (fun r => r = an_cnt S u xa9) := by
  refine rMp_in (by decide) rfl (Nat.le_of_ble_eq_true rfl) ?_
  intro p e s m args below meth c ls X hml hr hk hl w
  have hx := X.1
  have hb := X.2.1
  have hts := X.2.2.1
  have hown := X.2.2.2.1
  have hl : lv_has ls 2 [(0, .ref g.2.2.2.1), (1, .int xa9)] := hl
  obtain ⟨hz0, hz1, hz4, hm0, hm1, hm2, hso, hki, hsr, hpa, hhu, hco⟩ := id hz
  obtain ⟨o1, o2, o3, o4, o5, o6, oso, oki, osr, opa, ohu, oco⟩ := id ho
  refine lv_iload_n hx hb dX8_count_0 rfl (lv_at hl 1 rfl) ?_
  by_cases qlo : xa9.toInt < 0
  · skip
    refine lv_tableOut (tgt := 100) hx hb dX8_count_1 (Or.inl qlo) (by decide) ?_
    refine lv_iconst (v := (iZ (-1))) hx hb dX8_count_100 (by decide) ?_
    exact re_p hx hb hr hk (by unfold an_cnt; rw [if_neg (by omega), if_neg (by omega), if_neg (by omega), if_neg (by omega), if_neg (by omega), if_neg (by omega), if_neg (by omega), if_neg (by omega)]) dX8_count_101
  by_cases qhi : (7 : Int) < xa9.toInt
  · skip
    refine lv_tableOut (tgt := 100) hx hb dX8_count_1 (Or.inr qhi) (by decide) ?_
    refine lv_iconst (v := (iZ (-1))) hx hb dX8_count_100 (by decide) ?_
    exact re_p hx hb hr hk (by unfold an_cnt; rw [if_neg (by omega), if_neg (by omega), if_neg (by omega), if_neg (by omega), if_neg (by omega), if_neg (by omega), if_neg (by omega), if_neg (by omega)]) dX8_count_101
  rcases (show xa9.toInt = 0 ∨ xa9.toInt = 1 ∨ xa9.toInt = 2 ∨ xa9.toInt = 3 ∨ xa9.toInt = 4 ∨ xa9.toInt = 5 ∨ xa9.toInt = 6 ∨ xa9.toInt = 7 by omega) with qsw | qsw | qsw | qsw | qsw | qsw | qsw | qsw
  · skip
    refine lv_tableIn (off := 47) (tgt := 48) hx hb dX8_count_1 qlo qhi (by rw [qsw]; rfl) (by decide) ?_
    refine lv_aload_n hx hb dX8_count_48 rfl (lv_at hl 0 rfl) ?_
    refine rg_0 X w dX8_count_49 ?_
    refine tp_i (show z.1 0 = (nI (S.1 0)) from hz0) ?_
    exact re_p hx hb hr hk (by unfold an_cnt; rw [if_pos (by omega)]) dX8_count_52
  · skip
    refine lv_tableIn (off := 52) (tgt := 53) hx hb dX8_count_1 qlo qhi (by rw [qsw]; rfl) (by decide) ?_
    refine lv_aload_n hx hb dX8_count_53 rfl (lv_at hl 0 rfl) ?_
    refine rg_1 X w dX8_count_54 ?_
    refine tp_i (show z.1 1 = (nI (S.1 1)) from hz1) ?_
    exact re_p hx hb hr hk (by unfold an_cnt; rw [if_neg (by omega), if_pos (by omega)]) dX8_count_57
  · skip
    refine lv_tableIn (off := 57) (tgt := 58) hx hb dX8_count_1 qlo qhi (by rw [qsw]; rfl) (by decide) ?_
    refine lv_aload_n hx hb dX8_count_58 rfl (lv_at hl 0 rfl) ?_
    refine rg_5 X w dX8_count_59 ?_
    refine lv_iconst (v := (nI 0)) hx hb dX8_count_62 (by decide) ?_
    refine rn_5 X w (by omega) dX8_count_63 ?_
    refine tp_i (show z.2.1 5 0 = (nI (S.1 3)) from hm0) ?_
    exact re_p hx hb hr hk (by unfold an_cnt; rw [if_neg (by omega), if_neg (by omega), if_pos (by omega)]) dX8_count_64
  · skip
    refine lv_tableIn (off := 64) (tgt := 65) hx hb dX8_count_1 qlo qhi (by rw [qsw]; rfl) (by decide) ?_
    refine lv_aload_n hx hb dX8_count_65 rfl (lv_at hl 0 rfl) ?_
    refine rc_p (rest := []) X hml hl.1 (k_turnS l g z S hz ho) ok_isTurned wm_X8_80 ⟨Nat.le_of_ble_eq_true rfl, Nat.le_of_ble_eq_true rfl⟩ ⟨Nat.le_refl _, Nat.le_refl _⟩ w rfl (Nat.le_of_ble_eq_true rfl) dX8_count_66 (fun r_66 hr_66 => ?_)
    subst hr_66
    have d_66 := pc_td_ok S
    refine jn (tgt := 77) (rest := []) (fun v9 => ∃ x9 : Nat, x9 = (if (pc_td S) = 0 then 0 else 1) ∧ v9 = nI x9) (fun v_ hv_ => ?_) (fun k_77 => ?_)
    · obtain ⟨x_77, ex_77, rfl⟩ := hv_
      exact re_p hx hb hr hk (by have q7 : x_77 = pc_td S := (by rw [ex_77]; rcases d_66 with q | q <;> rw [q.1] <;> rfl); rw [q7]; unfold an_cnt; rw [if_neg (by omega), if_neg (by omega), if_neg (by omega), if_pos (by omega)]) dX8_count_77
    · skip
      refine n_if_eq (tgt := 76) hx hb dX8_count_69 (by decide) (by omega) (fun c_69_2 => ?_) (fun c_69_2 => ?_)
      · skip
        refine lv_iconst (v := (nI 0)) hx hb dX8_count_76 (by decide) ?_
        exact k_77 _ ⟨_, by simp only [if_pos c_69_2], rfl⟩
      · skip
        refine lv_iconst (v := (nI 1)) hx hb dX8_count_72 (by decide) ?_
        refine lv_goto (tgt := 77) hx hb dX8_count_73 (by decide) ?_
        exact k_77 _ ⟨_, by simp only [if_neg c_69_2], rfl⟩
  · skip
    refine lv_tableIn (off := 77) (tgt := 78) hx hb dX8_count_1 qlo qhi (by rw [qsw]; rfl) (by decide) ?_
    refine lv_aload_n hx hb dX8_count_78 rfl (lv_at hl 0 rfl) ?_
    refine rg_5 X w dX8_count_79 ?_
    refine lv_iconst (v := (nI 1)) hx hb dX8_count_82 (by decide) ?_
    refine rn_5 X w (by omega) dX8_count_83 ?_
    refine tp_i (show z.2.1 5 1 = (pc_sd (S.1 4)) from hm1) ?_
    exact re_p hx hb hr hk (by unfold an_cnt; rw [if_neg (by omega), if_neg (by omega), if_neg (by omega), if_neg (by omega), if_pos (by omega)]) dX8_count_84
  · skip
    refine lv_tableIn (off := 84) (tgt := 85) hx hb dX8_count_1 qlo qhi (by rw [qsw]; rfl) (by decide) ?_
    refine lv_aload_n hx hb dX8_count_85 rfl (lv_at hl 0 rfl) ?_
    refine rg_16 X w dX8_count_86 ?_
    refine tp_i (show z.1 16 = (nI u) from hps) ?_
    exact re_p hx hb hr hk (by unfold an_cnt; rw [if_neg (by omega), if_neg (by omega), if_neg (by omega), if_neg (by omega), if_neg (by omega), if_pos (by omega)]) dX8_count_89
  · skip
    refine lv_tableIn (off := 89) (tgt := 90) hx hb dX8_count_1 qlo qhi (by rw [qsw]; rfl) (by decide) ?_
    refine lv_aload_n hx hb dX8_count_90 rfl (lv_at hl 0 rfl) ?_
    refine rc_p (rest := []) X hml hl.1 (k_down l g z S hz ho) ok_down wm_X8_171 ⟨Nat.le_of_ble_eq_true rfl, Nat.le_of_ble_eq_true rfl⟩ ⟨Nat.le_refl _, Nat.le_refl _⟩ w rfl (Nat.le_of_ble_eq_true rfl) dX8_count_91 (fun r_91 hr_91 => ?_)
    subst hr_91
    have d_91 := sp_dnL_lt S (S.1 1)
    have b_91 := pw_32 o3
    exact re_p hx hb hr hk (by unfold an_cnt; rw [if_neg (by omega), if_neg (by omega), if_neg (by omega), if_neg (by omega), if_neg (by omega), if_neg (by omega), if_pos (by omega)]) dX8_count_94
  · skip
    refine lv_tableIn (off := 94) (tgt := 95) hx hb dX8_count_1 qlo qhi (by rw [qsw]; rfl) (by decide) ?_
    refine lv_aload_n hx hb dX8_count_95 rfl (lv_at hl 0 rfl) ?_
    refine rc_p (rest := []) X hml hl.1 (k_over l g z S hz ho) ok_over wm_X8_174 ⟨Nat.le_of_ble_eq_true rfl, Nat.le_of_ble_eq_true rfl⟩ ⟨Nat.le_refl _, Nat.le_refl _⟩ w rfl (Nat.le_of_ble_eq_true rfl) dX8_count_96 (fun r_96 hr_96 => ?_)
    subst hr_96
    have d_96 := sp_over_le S
    exact re_p hx hb hr hk (by unfold an_cnt; rw [if_neg (by omega), if_neg (by omega), if_neg (by omega), if_neg (by omega), if_neg (by omega), if_neg (by omega), if_neg (by omega), if_pos (by omega)]) dX8_count_99
end
section
/-! how likely he wins: the tables -/
/-- ODDS in the fight with f, when they are HURT so, with others there -/
def sp_od (S : Sc) (f his own others : Nat) : Nat := pc_btw ((8 + (pc_force (S.2.1 1 0) (S.2.1 2 0) his : Int)) - (pc_force (S.2.1 1 f) (S.2.1 2 f) own : Int) - ((2 * others : Nat) : Int))
def sp_wl (S : Sc) (ro V9 : Nat → Nat) (k n his own : Nat) : Nat := if 5 ≤ own then (if k + 1 = n then 1000000 else V9 (36 * (k + 1) + 6 * S.2.1 4 (ro (k + 1)) + his)) else V9 (36 * k + 6 * (own + 1) + his)
def sp_il (V9 : Nat → Nat) (k his own : Nat) : Nat := if 5 ≤ his then 0 else V9 (36 * k + 6 * own + his + 1)
def sp_ft (S : Sc) (ro V9 : Nat → Nat) (k n his own others : Nat) : Nat := (sp_od S (ro k) his own others * sp_wl S ro V9 k n his own + (16 - sp_od S (ro k) his own others) * sp_il V9 k his own) / 16
theorem pc_btw_le (x : Int) : 1 ≤ pc_btw x ∧ pc_btw x ≤ 15 := by
  unfold pc_btw
  split
  · split <;> omega
  · omega
theorem ft_le {o w i : Nat} (ho : o ≤ 15) (hw : w ≤ 1000000) (hi : i ≤ 1000000) : o * w ≤ 15000000 ∧ (16 - o) * i ≤ 16000000 ∧ (o * w + (16 - o) * i) / 16 ≤ 1000000 := by
  have h1 : o * w ≤ o * 1000000 := Nat.mul_le_mul_left _ hw
  have h2 : (16 - o) * i ≤ (16 - o) * 1000000 := Nat.mul_le_mul_left _ hi
  omega
theorem sp_ft_le (S : Sc) (ro V9 : Nat → Nat) (hV : ∀ j, V9 j ≤ 1000000) (k n his own others : Nat) : sp_ft S ro V9 k n his own others ≤ 1000000 := by
  unfold sp_ft
  refine (ft_le (pc_btw_le _).2 ?_ ?_).2.2
  · unfold sp_wl
    split
    · split
      · omega
      · exact hV _
    · exact hV _
  · unfold sp_il
    split
    · omega
    · exact hV _
/-- how many behind the k-th have come by en -/
def sp_beh (S : Sc) (ro : Nat → Nat) (k en : Nat) : Nat → Nat
  | 0 => 0
  | i + 1 => sp_beh S ro k en i + (if en < S.2.1 5 (ro (k + 1 + i)) then 0 else 1)
theorem sp_beh_le (S : Sc) (ro : Nat → Nat) (k en : Nat) : ∀ i, sp_beh S ro k en i ≤ i
  | 0 => Nat.le_refl 0
  | i + 1 => by
    have h := sp_beh_le S ro k en i
    show sp_beh S ro k en i + (if _ then _ else _) ≤ _
    split <;> omega
/-- one MOMENT sooner -/
def sp_ah (S : Sc) (ro : Nat → Nat) (n en : Nat) (V9 : Nat → Nat) (q : Nat) : Nat := if q < 36 * n then (if S.2.1 5 (ro (q / 36)) ≤ en then sp_ft S ro V9 (q / 36) n (q % 6) (q / 6 % 6) (sp_beh S ro (q / 36) en (n - 1 - q / 36)) else V9 q) else V9 q
theorem sp_ah_le (S : Sc) (ro V9 : Nat → Nat) (n en : Nat) (hV : ∀ j, V9 j ≤ 1000000) (q : Nat) : sp_ah S ro n en V9 q ≤ 1000000 := by
  unfold sp_ah
  split
  · split
    · exact sp_ft_le S ro V9 hV _ _ _ _ _
    · exact hV _
  · exact hV _
/-- the row of those that come, and a table of chances -/
def rRo (z : RS) (n : Nat) (ro : Nat → Nat) : Prop := n ≤ 4 ∧ ∀ j, j < n → z.2.1 18 j = nI (ro j) ∧ 1 ≤ ro j ∧ ro j < 5
def rLt (z : RS) (V9 : Nat → Nat) : Prop := (∀ j, j < 180 → z.2.1 19 j = nI (V9 j)) ∧ ∀ j, V9 j ≤ 1000000
theorem ah_s {S : Sc} {ro V9 : Nat → Nat} {n en k ow hi : Nat} {zz : RS} (hA : ∀ q, q < 36 * k + 6 * ow + hi → zz.2.1 20 q = nI (sp_ah S ro n en V9 q)) (hk : k < n) (how : ow < 6) (hhi : hi < 6) : ∀ q, q < 36 * k + 6 * ow + (hi + 1) → (sA zz 20 (36 * k + 6 * ow + hi) (nI (if S.2.1 5 (ro k) ≤ en then sp_ft S ro V9 k n hi ow (sp_beh S ro k en (n - 1 - k)) else V9 (36 * k + 6 * ow + hi)))).2.1 20 q = nI (sp_ah S ro n en V9 q) := by
  intro q hq
  show upd (zz.2.1 20) (36 * k + 6 * ow + hi) _ q = _
  by_cases e : q = 36 * k + 6 * ow + hi
  · rw [e, pk_us]
    unfold sp_ah
    rw [if_pos (show 36 * k + 6 * ow + hi < 36 * n by omega), show (36 * k + 6 * ow + hi) / 36 = k by omega, show (36 * k + 6 * ow + hi) % 6 = hi by omega, show (36 * k + 6 * ow + hi) / 6 % 6 = ow by omega]
  · rw [pk_un e]
    exact hA q (by omega)
theorem ah_c {f : Nat → Nat} {V9 : Nat → Nat} {j : Nat} {zy : RS} (hC : ∀ q, q < 180 → zy.2.1 19 q = nI (if q < j then f q else V9 q)) {v : Int32} (hv : v = nI (f j)) : ∀ q, q < 180 → (sA zy 19 j v).2.1 19 q = nI (if q < j + 1 then f q else V9 q) := by
  intro q hq
  show upd (zy.2.1 19) j v q = _
  by_cases e : q = j
  · rw [e, pk_us, if_pos (by omega), hv]
  · rw [pk_un e, hC q hq]
    by_cases e2 : q < j
    · rw [if_pos e2, if_pos (by omega)]
    · rw [if_neg e2, if_neg (by omega)]
end
section
theorem ok_fought : rOk yX8_fought cX8_fought 11 (some .int) 6 := ⟨wc_X8_fought, wi_X8_fought, ws_X8_fought, rfl, by decide, by decide, by decide +kernel⟩
set_option maxHeartbeats 4000000 in
set_option maxRecDepth 100000 in
theorem k_fought (l : Launch) (g : RG) (z : RS) (ka9 : Nat) (na9 : Nat) (hi9 : Nat) (ow9 : Nat) (ot9 : Nat) (S : Sc) (hz : rSc z S) (ho : oSc S) (nr : Nat) (ro V9 : Nat → Nat) (hro : rRo z nr ro) (hlt : rLt z V9) (hna : na9 = nr) (hka : ka9 < na9) (hhi : hi9 < 6) (how : ow9 < 6) (hot : ot9 ≤ 4) : rMp g l yX8_fought cX8_fought 11 (some .int) 1 23 [.int (nI ka9), .int (nI na9), .int (nI hi9), .int (nI ow9), .int (nI ot9), .ref (g.2.2.2.2 19)] z (fun r => r = nI (sp_ft S ro V9 ka9 na9 hi9 ow9 ot9)) := by
  refine rMp_in (by decide) rfl (Nat.le_of_ble_eq_true rfl) ?_
  intro p e s m args below meth c ls X hml hr hk hl w
  have hx := X.1
  have hb := X.2.1
  have hts := X.2.2.1
  have hown := X.2.2.2.1
  have hl : lv_has ls 11 [(0, .ref g.2.2.2.1), (1, .int (nI ka9)), (2, .int (nI na9)), (3, .int (nI hi9)), (4, .int (nI ow9)), (5, .int (nI ot9)), (6, .ref (g.2.2.2.2 19))] := hl
  obtain ⟨hz0, hz1, hz4, hm0, hm1, hm2, hso, hki, hsr, hpa, hhu, hco⟩ := id hz
  obtain ⟨o1, o2, o3, o4, o5, o6, oso, oki, osr, opa, ohu, oco⟩ := id ho
  subst hna
  have hn4 := hro.1
  have hr0 := (hro.2 ka9 hka).2
  have hV := hlt.2
  refine lv_aload_n hx hb dX8_fought_0 rfl (lv_at hl 0 rfl) ?_
  refine rg_18 X w dX8_fought_1 ?_
  refine lv_iload_n hx hb dX8_fought_4 rfl (lv_at hl 1 rfl) ?_
  refine rn_18 X w (by omega) dX8_fought_5 ?_
  refine tp_i (show z.2.1 18 ka9 = (nI (ro ka9)) from (hro.2 ka9 (by omega)).1) ?_
  refine lv_istore (lv' := [(7, .int (nI (ro ka9))), (0, .ref g.2.2.2.1), (1, .int (nI ka9)), (2, .int (nI na9)), (3, .int (nI hi9)), (4, .int (nI ow9)), (5, .int (nI ot9)), (6, .ref (g.2.2.2.2 19))]) hx hb dX8_fought_6 hl (by decide) rfl (fun ls hl => ?_)
  refine lv_bipush (v := (nI 8)) hx hb dX8_fought_8 (by decide) ?_
  refine lv_aload_n hx hb dX8_fought_10 rfl (lv_at hl 1 rfl) ?_
  refine lv_iconst (v := (nI 0)) hx hb dX8_fought_11 (by decide) ?_
  refine lv_iload_n hx hb dX8_fought_12 rfl (lv_at hl 4 rfl) ?_
  refine rc_p (rest := [.int (nI 8)]) X hml hl.1 (k_force l g z 0 hi9 S hz ho (by omega) (by omega)) ok_force wm_X8_126 ⟨Nat.le_of_ble_eq_true rfl, Nat.le_of_ble_eq_true rfl⟩ ⟨Nat.le_refl _, Nat.le_refl _⟩ w rfl (Nat.le_of_ble_eq_true rfl) dX8_fought_13 (fun r_13 hr_13 => ?_)
  subst hr_13
  have d_13 := pc_force_le (S.2.1 1 0) (S.2.1 2 0) hi9 (osr _)
  refine n_iadd hx hb dX8_fought_16 ?_
  refine lv_aload_n hx hb dX8_fought_17 rfl (lv_at hl 1 rfl) ?_
  refine lv_iload hx hb dX8_fought_18 (lv_at hl 0 rfl) ?_
  refine lv_iload hx hb dX8_fought_20 (lv_at hl 5 rfl) ?_
  refine rc_p (rest := [.int (nI (8 + (pc_force (S.2.1 1 0) (S.2.1 2 0) hi9)))]) X hml hl.1 (k_force l g z (ro ka9) ow9 S hz ho (by omega) (by omega)) ok_force wm_X8_126 ⟨Nat.le_of_ble_eq_true rfl, Nat.le_of_ble_eq_true rfl⟩ ⟨Nat.le_refl _, Nat.le_refl _⟩ w rfl (Nat.le_of_ble_eq_true rfl) dX8_fought_22 (fun r_22 hr_22 => ?_)
  subst hr_22
  have d_22 := pc_force_le (S.2.1 1 (ro ka9)) (S.2.1 2 (ro ka9)) ow9 (osr _)
  refine tp_i (iZ_n (pc_force (S.2.1 1 (ro ka9)) (S.2.1 2 (ro ka9)) ow9)).symm ?_
  refine tp_i2 (iZ_n (8 + (pc_force (S.2.1 1 0) (S.2.1 2 0) hi9))).symm ?_
  refine z_isub hx hb dX8_fought_25 ?_
  refine lv_iconst (v := (nI 2)) hx hb dX8_fought_26 (by decide) ?_
  refine lv_iload hx hb dX8_fought_27 (lv_at hl 6 rfl) ?_
  refine n_imul hx hb dX8_fought_29 ?_
  refine tp_i (iZ_n (2 * ot9)).symm ?_
  refine z_isub hx hb dX8_fought_30 ?_
  refine rc_s (rest := []) ⟨X.1, X.2.1, X.2.2.1, X.2.2.2.1⟩ hml hl.1 (k_between l (((((8 + (pc_force (S.2.1 1 0) (S.2.1 2 0) hi9) : Nat) : Int)) - (((pc_force (S.2.1 1 (ro ka9)) (S.2.1 2 (ro ka9)) ow9 : Nat) : Int))) - (((2 * ot9 : Nat) : Int))) (by omega) (by omega)) ok_between wm_X8_183 ⟨Nat.le_of_ble_eq_true rfl, Nat.le_of_ble_eq_true rfl⟩ ⟨Nat.le_refl _, Nat.le_refl _⟩ rfl (Nat.le_of_ble_eq_true rfl) dX8_fought_31 (fun r_31 hr_31 => ?_)
  have h9 : r_31 = nI (sp_od S (ro ka9) hi9 ow9 ot9) := hr_31
  have q7 : sp_od S (ro ka9) hi9 ow9 ot9 ≤ 15 := (pc_btw_le _).2
  obtain ⟨od9, hod⟩ : ∃ od9, od9 = sp_od S (ro ka9) hi9 ow9 ot9 := ⟨_, rfl⟩
  rw [← hod] at h9 q7
  subst h9
  refine lv_istore (lv' := [(8, .int (nI od9)), (7, .int (nI (ro ka9))), (0, .ref g.2.2.2.1), (1, .int (nI ka9)), (2, .int (nI na9)), (3, .int (nI hi9)), (4, .int (nI ow9)), (5, .int (nI ot9)), (6, .ref (g.2.2.2.2 19))]) hx hb dX8_fought_34 hl (by decide) rfl (fun ls hl => ?_)
  refine lv_iload hx hb dX8_fought_36 (lv_at hl 6 rfl) ?_
  refine lv_iconst (v := (nI 5)) hx hb dX8_fought_38 (by decide) ?_
  refine jn (tgt := 101) (rest := []) (fun v9 => ∃ x9 : Nat, x9 = (if 5 ≤ ow9 then (if (ka9 + 1) = na9 then 1000000 else (V9 (((36 * (ka9 + 1)) + (6 * (S.2.1 4 (ro (ka9 + 1))))) + hi9))) else (V9 (((36 * ka9) + (6 * (ow9 + 1))) + hi9))) ∧ v9 = nI x9) (fun v_ hv_ => ?_) (fun k_101 => ?_)
  · obtain ⟨x_101, ex_101, rfl⟩ := hv_
    have q5 : x_101 ≤ 1000000 := by rw [ex_101]; split; split; omega; exact hV _; exact hV _
    have q51 : x_101 = sp_wl S ro V9 ka9 na9 hi9 ow9 := ex_101
    refine lv_istore (lv' := [(9, .int (nI x_101)), (8, .int (nI od9)), (7, .int (nI (ro ka9))), (0, .ref g.2.2.2.1), (1, .int (nI ka9)), (2, .int (nI na9)), (3, .int (nI hi9)), (4, .int (nI ow9)), (5, .int (nI ot9)), (6, .ref (g.2.2.2.2 19))]) hx hb dX8_fought_101 hl (by decide) rfl (fun ls hl => ?_)
    refine lv_iload_n hx hb dX8_fought_103 rfl (lv_at hl 6 rfl) ?_
    refine lv_iconst (v := (nI 5)) hx hb dX8_fought_104 (by decide) ?_
    refine jn (tgt := 129) (rest := []) (fun v9 => ∃ x9 : Nat, x9 = (if 5 ≤ hi9 then 0 else (V9 ((((36 * ka9) + (6 * ow9)) + hi9) + 1))) ∧ v9 = nI x9) (fun v_ hv_ => ?_) (fun k_129 => ?_)
    · obtain ⟨x_129, ex_129, rfl⟩ := hv_
      have q4 : x_129 ≤ 1000000 := by rw [ex_129]; split; omega; exact hV _
      have q41 : x_129 = sp_il V9 ka9 hi9 ow9 := ex_129
      have q3 := ft_le q7 q5 q4
      refine lv_istore (lv' := [(10, .int (nI x_129)), (9, .int (nI x_101)), (8, .int (nI od9)), (7, .int (nI (ro ka9))), (0, .ref g.2.2.2.1), (1, .int (nI ka9)), (2, .int (nI na9)), (3, .int (nI hi9)), (4, .int (nI ow9)), (5, .int (nI ot9)), (6, .ref (g.2.2.2.2 19))]) hx hb dX8_fought_129 hl (by decide) rfl (fun ls hl => ?_)
      refine lv_iload hx hb dX8_fought_131 (lv_at hl 2 rfl) ?_
      refine lv_iload hx hb dX8_fought_133 (lv_at hl 1 rfl) ?_
      refine n_imul hx hb dX8_fought_135 ?_
      refine lv_bipush (v := (nI 16)) hx hb dX8_fought_136 (by decide) ?_
      refine lv_iload hx hb dX8_fought_138 (lv_at hl 2 rfl) ?_
      refine n_isub hx hb dX8_fought_140 (by omega) ?_
      refine lv_iload hx hb dX8_fought_141 (lv_at hl 0 rfl) ?_
      refine n_imul hx hb dX8_fought_143 ?_
      refine n_iadd hx hb dX8_fought_144 ?_
      refine lv_bipush (v := (nI 16)) hx hb dX8_fought_145 (by decide) ?_
      refine n_idiv hx hb dX8_fought_147 (by omega) (by omega) (by omega) ?_
      exact re_p hx hb hr hk (by unfold sp_ft; rw [← hod, ← q51, ← q41]) dX8_fought_148
    · skip
      refine n_icmp_ge (tgt := 128) hx hb dX8_fought_105 (by decide) (by omega) (by omega) (fun c_105_3 => ?_) (fun c_105_3 => ?_)
      · skip
        refine lv_iconst (v := (nI 0)) hx hb dX8_fought_128 (by decide) ?_
        exact k_129 _ ⟨_, by simp only [if_pos c_105_3], rfl⟩
      · skip
        refine lv_aload hx hb dX8_fought_108 (lv_at hl 9 rfl) ?_
        refine lv_bipush (v := (nI 36)) hx hb dX8_fought_110 (by decide) ?_
        refine lv_iload_n hx hb dX8_fought_112 rfl (lv_at hl 4 rfl) ?_
        refine n_imul hx hb dX8_fought_113 ?_
        refine lv_bipush (v := (nI 6)) hx hb dX8_fought_114 (by decide) ?_
        refine lv_iload hx hb dX8_fought_116 (lv_at hl 7 rfl) ?_
        refine n_imul hx hb dX8_fought_118 ?_
        refine n_iadd hx hb dX8_fought_119 ?_
        refine lv_iload_n hx hb dX8_fought_120 rfl (lv_at hl 6 rfl) ?_
        refine n_iadd hx hb dX8_fought_121 ?_
        refine lv_iconst (v := (nI 1)) hx hb dX8_fought_122 (by decide) ?_
        refine n_iadd hx hb dX8_fought_123 ?_
        refine rn_19 X w (by omega) dX8_fought_124 ?_
        refine tp_i (show z.2.1 19 ((((36 * ka9) + (6 * ow9)) + hi9) + 1) = (nI (V9 ((((36 * ka9) + (6 * ow9)) + hi9) + 1))) from hlt.1 ((((36 * ka9) + (6 * ow9)) + hi9) + 1) (by omega)) ?_
        refine lv_goto (tgt := 129) hx hb dX8_fought_125 (by decide) ?_
        exact k_129 _ ⟨_, by simp only [if_neg c_105_3], rfl⟩
  · skip
    refine n_icmp_ge (tgt := 62) hx hb dX8_fought_39 (by decide) (by omega) (by omega) (fun c_39_4 => ?_) (fun c_39_4 => ?_)
    · skip
      refine lv_iload_n hx hb dX8_fought_62 rfl (lv_at hl 3 rfl) ?_
      refine lv_iconst (v := (nI 1)) hx hb dX8_fought_63 (by decide) ?_
      refine n_iadd hx hb dX8_fought_64 ?_
      refine lv_iload_n hx hb dX8_fought_65 rfl (lv_at hl 4 rfl) ?_
      refine n_icmp_ne (tgt := 74) hx hb dX8_fought_66 (by decide) (by omega) (by omega) (fun c_66_5 => ?_) (fun c_66_5 => ?_)
      · skip
        refine lv_aload hx hb dX8_fought_74 (lv_at hl 8 rfl) ?_
        refine lv_bipush (v := (nI 36)) hx hb dX8_fought_76 (by decide) ?_
        refine lv_iload_n hx hb dX8_fought_78 rfl (lv_at hl 3 rfl) ?_
        refine lv_iconst (v := (nI 1)) hx hb dX8_fought_79 (by decide) ?_
        refine n_iadd hx hb dX8_fought_80 ?_
        refine n_imul hx hb dX8_fought_81 ?_
        refine lv_bipush (v := (nI 6)) hx hb dX8_fought_82 (by decide) ?_
        refine lv_aload_n hx hb dX8_fought_84 rfl (lv_at hl 2 rfl) ?_
        refine lv_aload_n hx hb dX8_fought_85 rfl (lv_at hl 2 rfl) ?_
        refine rg_18 X w dX8_fought_86 ?_
        refine lv_iload_n hx hb dX8_fought_89 rfl (lv_at hl 3 rfl) ?_
        refine lv_iconst (v := (nI 1)) hx hb dX8_fought_90 (by decide) ?_
        refine n_iadd hx hb dX8_fought_91 ?_
        refine rn_18 X w (by omega) dX8_fought_92 ?_
        refine tp_i (show z.2.1 18 (ka9 + 1) = (nI (ro (ka9 + 1))) from (hro.2 (ka9 + 1) (by omega)).1) ?_
        refine rc_p (rest := [.int (nI 6), .int (nI (36 * (ka9 + 1))), .ref (g.2.2.2.2 19)]) X hml hl.1 (k_hurtS l g z (ro (ka9 + 1)) S hz ho (hro.2 (ka9 + 1) (by omega)).2.2) ok_hurtOf wm_X8_91 ⟨Nat.le_of_ble_eq_true rfl, Nat.le_of_ble_eq_true rfl⟩ ⟨Nat.le_refl _, Nat.le_refl _⟩ w rfl (Nat.le_of_ble_eq_true rfl) dX8_fought_93 (fun r_93 hr_93 => ?_)
        subst hr_93
        have q6 := ohu (ro (ka9 + 1))
        refine n_imul hx hb dX8_fought_96 ?_
        refine n_iadd hx hb dX8_fought_97 ?_
        refine lv_iload_n hx hb dX8_fought_98 rfl (lv_at hl 5 rfl) ?_
        refine n_iadd hx hb dX8_fought_99 ?_
        refine rn_19 X w (by omega) dX8_fought_100 ?_
        refine tp_i (show z.2.1 19 (((36 * (ka9 + 1)) + (6 * (S.2.1 4 (ro (ka9 + 1))))) + hi9) = (nI (V9 (((36 * (ka9 + 1)) + (6 * (S.2.1 4 (ro (ka9 + 1))))) + hi9))) from hlt.1 (((36 * (ka9 + 1)) + (6 * (S.2.1 4 (ro (ka9 + 1))))) + hi9) (by omega)) ?_
        exact k_101 _ ⟨_, by simp only [if_pos c_39_4, if_neg c_66_5], rfl⟩
      · skip
        refine lv_ldc hx hb hown (hts _ wk_X8_202) dX8_fought_69 ?_
        refine tp_i (show (1000000 : Int32) = (nI 1000000) from by decide) ?_
        refine lv_goto (tgt := 101) hx hb dX8_fought_71 (by decide) ?_
        exact k_101 _ ⟨_, by simp only [if_pos c_39_4, if_pos c_66_5], rfl⟩
    · skip
      refine lv_aload hx hb dX8_fought_42 (lv_at hl 8 rfl) ?_
      refine lv_bipush (v := (nI 36)) hx hb dX8_fought_44 (by decide) ?_
      refine lv_iload_n hx hb dX8_fought_46 rfl (lv_at hl 3 rfl) ?_
      refine n_imul hx hb dX8_fought_47 ?_
      refine lv_bipush (v := (nI 6)) hx hb dX8_fought_48 (by decide) ?_
      refine lv_iload hx hb dX8_fought_50 (lv_at hl 6 rfl) ?_
      refine lv_iconst (v := (nI 1)) hx hb dX8_fought_52 (by decide) ?_
      refine n_iadd hx hb dX8_fought_53 ?_
      refine n_imul hx hb dX8_fought_54 ?_
      refine n_iadd hx hb dX8_fought_55 ?_
      refine lv_iload_n hx hb dX8_fought_56 rfl (lv_at hl 5 rfl) ?_
      refine n_iadd hx hb dX8_fought_57 ?_
      refine rn_19 X w (by omega) dX8_fought_58 ?_
      refine tp_i (show z.2.1 19 (((36 * ka9) + (6 * (ow9 + 1))) + hi9) = (nI (V9 (((36 * ka9) + (6 * (ow9 + 1))) + hi9))) from hlt.1 (((36 * ka9) + (6 * (ow9 + 1))) + hi9) (by omega)) ?_
      refine lv_goto (tgt := 101) hx hb dX8_fought_59 (by decide) ?_
      exact k_101 _ ⟨_, by simp only [if_neg c_39_4], rfl⟩

theorem ok_aheadOf : rOk yX8_aheadOf cX8_aheadOf 8 none 2 := ⟨wc_X8_aheadOf, wi_X8_aheadOf, ws_X8_aheadOf, rfl, by decide, by decide, by decide +kernel⟩
set_option maxHeartbeats 4000000 in
set_option maxRecDepth 100000 in
theorem k_aheadOf (l : Launch) (g : RG) (z : RS) (na9 : Nat) (en9 : Nat) (S : Sc) (hz : rSc z S) (ho : oSc S) (nr : Nat) (ro V9 : Nat → Nat) (hro : rRo z nr ro) (hlt : rLt z V9) (hna : na9 = nr) (hen : en9 ≤ 1000000) : rMv g l yX8_aheadOf cX8_aheadOf 8 none 2 53 [.int (nI na9), .int (nI en9)] z (fun z' => rLt z' (sp_ah S ro na9 en9 V9) ∧ rFr [] [19, 20] z z') := by
  refine rMv_in (by decide) rfl (Nat.le_of_ble_eq_true rfl) ?_
  intro p e s m args below meth c A ls X hml hr hk hl w
  have hx := X.1
  have hb := X.2.1
  have hts := X.2.2.1
  have hown := X.2.2.2.1
  have hl : lv_has ls 8 [(0, .ref g.2.2.2.1), (1, .int (nI na9)), (2, .int (nI en9))] := hl
  obtain ⟨hz0, hz1, hz4, hm0, hm1, hm2, hso, hki, hsr, hpa, hhu, hco⟩ := id hz
  obtain ⟨o1, o2, o3, o4, o5, o6, oso, oki, osr, opa, ohu, oco⟩ := id ho
  subst hna
  have hn4 := hro.1
  have hV := hlt.2
  refine lv_iconst (v := (nI 0)) hx hb dX8_aheadOf_0 (by decide) ?_
  refine lv_istore_n (lv' := [(3, .int (nI 0)), (0, .ref g.2.2.2.1), (1, .int (nI na9)), (2, .int (nI en9))]) hx hb dX8_aheadOf_1 rfl hl (by decide) rfl (fun ls hl => ?_)
  have lp_2 : ∀ (n_2 : Nat) (ka9 : Nat) (hka : ka9 ≤ na9) (hm_2 : na9 - ka9 < n_2) (ls : Array Slot) (zz : RS) (H : Heap) (locs : List Loc) (w : rW g A s zz H locs) (hfz : rFr [] [20] z zz) (hA : ∀ q, q < 36 * ka9 → zz.2.1 20 q = nI (sp_ah S ro na9 en9 V9 q)), lv_has ls 8 [(0, .ref g.2.2.2.1), (1, .int (nI na9)), (2, .int (nI en9)), (3, .int (nI ka9))] → W p l e (ro_m 2 53) s m args below meth c H locs 0 0 (MQ below (va_Qv (fun z' => rLt z' (sp_ah S ro na9 en9 V9) ∧ rFr [] [19, 20] z z') (rB g A) A) args s 0 0 A) (F0 m 2 ls []) := by
    intro n_2
    induction n_2 with
    | zero => intro ka9 hka hm; exact absurd hm (Nat.not_lt_zero _)
    | succ n_2 ih_2 =>
      intro ka9 hka hm_2 ls zz H locs w hfz hA hl
      refine lv_iload_n hx hb dX8_aheadOf_2 rfl (lv_at hl 3 rfl) ?_
      refine lv_iload_n hx hb dX8_aheadOf_3 rfl (lv_at hl 1 rfl) ?_
      refine n_icmp_ge (tgt := 160) hx hb dX8_aheadOf_4 (by decide) (by omega) (by omega) (fun c_4_1 => ?_) (fun c_4_1 => ?_)
      · skip
        refine lv_iconst (v := (nI 0)) hx hb dX8_aheadOf_160 (by decide) ?_
        refine lv_istore_n (lv' := [(3, .int (nI 0)), (0, .ref g.2.2.2.1), (1, .int (nI na9)), (2, .int (nI en9))]) hx hb dX8_aheadOf_161 rfl hl (by decide) rfl (fun ls hl => ?_)
        have lp_162 : ∀ (n_162 : Nat) (j9 : Nat) (hj9 : j9 ≤ 36 * na9) (hm_162 : 36 * na9 - j9 < n_162) (ls : Array Slot) (zy : RS) (H : Heap) (locs : List Loc) (w : rW g A s zy H locs) (hfy : rFr [] [19, 20] z zy) (hB : ∀ q, q < 36 * na9 → zy.2.1 20 q = nI (sp_ah S ro na9 en9 V9 q)) (hC : ∀ q, q < 180 → zy.2.1 19 q = nI (if q < j9 then sp_ah S ro na9 en9 V9 q else V9 q)), lv_has ls 8 [(0, .ref g.2.2.2.1), (1, .int (nI na9)), (2, .int (nI en9)), (3, .int (nI j9))] → W p l e (ro_m 2 53) s m args below meth c H locs 0 0 (MQ below (va_Qv (fun z' => rLt z' (sp_ah S ro na9 en9 V9) ∧ rFr [] [19, 20] z z') (rB g A) A) args s 0 0 A) (F0 m 162 ls []) := by
          intro n_162
          induction n_162 with
          | zero => intro j9 hj9 hm; exact absurd hm (Nat.not_lt_zero _)
          | succ n_162 ih_162 =>
            intro j9 hj9 hm_162 ls zy H locs w hfy hB hC hl
            refine lv_iload_n hx hb dX8_aheadOf_162 rfl (lv_at hl 3 rfl) ?_
            refine lv_bipush (v := (nI 36)) hx hb dX8_aheadOf_163 (by decide) ?_
            refine lv_iload_n hx hb dX8_aheadOf_165 rfl (lv_at hl 1 rfl) ?_
            refine n_imul hx hb dX8_aheadOf_166 ?_
            refine n_icmp_ge (tgt := 188) hx hb dX8_aheadOf_167 (by decide) (by omega) (by omega) (fun c_167_2 => ?_) (fun c_167_2 => ?_)
            · skip
              exact re_v X hr hk w (⟨⟨fun q hq => by rw [hC q hq]; split; rfl; unfold sp_ah; rw [if_neg (by omega)], sp_ah_le S ro V9 na9 en9 hV⟩, hfy⟩) dX8_aheadOf_188
            · skip
              refine lv_aload_n hx hb dX8_aheadOf_170 rfl (lv_at hl 0 rfl) ?_
              refine rg_19 X w.1 dX8_aheadOf_171 ?_
              refine lv_iload_n hx hb dX8_aheadOf_174 rfl (lv_at hl 3 rfl) ?_
              refine lv_aload_n hx hb dX8_aheadOf_175 rfl (lv_at hl 0 rfl) ?_
              refine rg_20 X w.1 dX8_aheadOf_176 ?_
              refine lv_iload_n hx hb dX8_aheadOf_179 rfl (lv_at hl 3 rfl) ?_
              refine rn_20 X w.1 (by omega) dX8_aheadOf_180 ?_
              refine ru_19 X w (by omega) dX8_aheadOf_181 (fun z_181 H locs ez_181 w => ?_)
              refine lv_iinc (v := (nI (j9 + 1))) (lv' := [(3, .int (nI (j9 + 1))), (0, .ref g.2.2.2.1), (1, .int (nI na9)), (2, .int (nI en9))]) hx hb dX8_aheadOf_182 hl (k := 3) rfl (by first | exact nI_1 _ | (rw [show Int32.ofInt 1 = nI 1 from by decide, nI_add])) (by decide) rfl (fun ls hl => ?_)
              refine lv_goto (tgt := 162) hx hb dX8_aheadOf_185 (by decide) ?_
              exact ih_162 (j9 + 1) (by omega) (by omega) ls z_181 _ _ w (by rw [ez_181]; exact rFr_tr hfy (rFr_A _ (by decide))) (by rw [ez_181]; exact hB) (by rw [ez_181]; exact ah_c hC (hB j9 (by omega))) (lv_sub hl [1, 2, 3, 0] rfl)
        exact lp_162 _ 0 (Nat.zero_le _) (Nat.lt_succ_self _) ls zz _ _ w (rFr_w hfz (by simp) (by simp)) (fun q hq => hA q (by omega)) (fun q hq => by rw [if_neg (by omega)]; exact (congrFun (hfz.2.1 19 (by decide)) _).trans (hlt.1 q hq)) (lv_sub hl [1, 2, 3, 0] rfl)
      · skip
        have rk := (hro.2 ka9 (by omega)).2
        have ck := oco (ro ka9)
        refine lv_iconst (v := (nI 0)) hx hb dX8_aheadOf_7 (by decide) ?_
        refine lv_istore (lv' := [(4, .int (nI 0)), (0, .ref g.2.2.2.1), (1, .int (nI na9)), (2, .int (nI en9)), (3, .int (nI ka9))]) hx hb dX8_aheadOf_8 hl (by decide) rfl (fun ls hl => ?_)
        refine lv_iload_n hx hb dX8_aheadOf_10 rfl (lv_at hl 4 rfl) ?_
        refine lv_iconst (v := (nI 1)) hx hb dX8_aheadOf_11 (by decide) ?_
        refine n_iadd hx hb dX8_aheadOf_12 ?_
        refine lv_istore (lv' := [(5, .int (nI (ka9 + 1))), (4, .int (nI 0)), (0, .ref g.2.2.2.1), (1, .int (nI na9)), (2, .int (nI en9)), (3, .int (nI ka9))]) hx hb dX8_aheadOf_13 hl (by decide) rfl (fun ls hl => ?_)
        have lp_15 : ∀ (n_15 : Nat) (j9 : Nat) (hj9 : j9 ≤ na9 - 1 - ka9) (hm_15 : na9 - j9 < n_15) (ls : Array Slot), lv_has ls 8 [(0, .ref g.2.2.2.1), (1, .int (nI na9)), (2, .int (nI en9)), (3, .int (nI ka9)), (4, .int (nI (sp_beh S ro ka9 en9 j9))), (5, .int (nI (ka9 + 1 + j9)))] → W p l e (ro_m 2 53) s m args below meth c H locs 0 0 (MQ below (va_Qv (fun z' => rLt z' (sp_ah S ro na9 en9 V9) ∧ rFr [] [19, 20] z z') (rB g A) A) args s 0 0 A) (F0 m 15 ls []) := by
          intro n_15
          induction n_15 with
          | zero => intro j9 hj9 hm; exact absurd hm (Nat.not_lt_zero _)
          | succ n_15 ih_15 =>
            intro j9 hj9 hm_15 ls hl
            have q2 := sp_beh_le S ro ka9 en9 j9
            have q21 := oco (ro (ka9 + 1 + j9))
            refine lv_iload hx hb dX8_aheadOf_15 (lv_at hl 5 rfl) ?_
            refine lv_iload_n hx hb dX8_aheadOf_17 rfl (lv_at hl 1 rfl) ?_
            refine n_icmp_ge (tgt := 56) hx hb dX8_aheadOf_18 (by decide) (by omega) (by omega) (fun c_18_3 => ?_) (fun c_18_3 => ?_)
            · skip
              have ej : j9 = na9 - 1 - ka9 := by omega
              subst ej
              have bh := sp_beh_le S ro ka9 en9 (na9 - 1 - ka9)
              refine lv_iconst (v := (nI 0)) hx hb dX8_aheadOf_56 (by decide) ?_
              refine lv_istore (lv' := [(5, .int (nI 0)), (0, .ref g.2.2.2.1), (1, .int (nI na9)), (2, .int (nI en9)), (3, .int (nI ka9)), (4, .int (nI (sp_beh S ro ka9 en9 (na9 - 1 - ka9))))]) hx hb dX8_aheadOf_57 hl (by decide) rfl (fun ls hl => ?_)
              have lp_59 : ∀ (n_59 : Nat) (ow9 : Nat) (how : ow9 ≤ 6) (hm_59 : 6 - ow9 < n_59) (ls : Array Slot) (zz : RS) (H : Heap) (locs : List Loc) (w : rW g A s zz H locs) (hfz : rFr [] [20] z zz) (hA : ∀ q, q < 36 * ka9 + 6 * ow9 → zz.2.1 20 q = nI (sp_ah S ro na9 en9 V9 q)), lv_has ls 8 [(0, .ref g.2.2.2.1), (1, .int (nI na9)), (2, .int (nI en9)), (3, .int (nI ka9)), (4, .int (nI (sp_beh S ro ka9 en9 (na9 - 1 - ka9)))), (5, .int (nI ow9))] → W p l e (ro_m 2 53) s m args below meth c H locs 0 0 (MQ below (va_Qv (fun z' => rLt z' (sp_ah S ro na9 en9 V9) ∧ rFr [] [19, 20] z z') (rB g A) A) args s 0 0 A) (F0 m 59 ls []) := by
                intro n_59
                induction n_59 with
                | zero => intro ow9 how hm; exact absurd hm (Nat.not_lt_zero _)
                | succ n_59 ih_59 =>
                  intro ow9 how hm_59 ls zz H locs w hfz hA hl
                  refine lv_iload hx hb dX8_aheadOf_59 (lv_at hl 5 rfl) ?_
                  refine lv_bipush (v := (nI 6)) hx hb dX8_aheadOf_61 (by decide) ?_
                  refine n_icmp_ge (tgt := 154) hx hb dX8_aheadOf_63 (by decide) (by omega) (by omega) (fun c_63_4 => ?_) (fun c_63_4 => ?_)
                  · skip
                    refine lv_iinc (v := (nI (ka9 + 1))) (lv' := [(3, .int (nI (ka9 + 1))), (0, .ref g.2.2.2.1), (1, .int (nI na9)), (2, .int (nI en9)), (4, .int (nI (sp_beh S ro ka9 en9 (na9 - 1 - ka9)))), (5, .int (nI ow9))]) hx hb dX8_aheadOf_154 hl (k := 3) rfl (by first | exact nI_1 _ | (rw [show Int32.ofInt 1 = nI 1 from by decide, nI_add])) (by decide) rfl (fun ls hl => ?_)
                    refine lv_goto (tgt := 2) hx hb dX8_aheadOf_157 (by decide) ?_
                    exact ih_2 (ka9 + 1) (by omega) (by omega) ls zz _ _ w hfz (fun q hq => hA q (by omega)) (lv_sub hl [1, 2, 3, 0] rfl)
                  · skip
                    refine lv_iconst (v := (nI 0)) hx hb dX8_aheadOf_66 (by decide) ?_
                    refine lv_istore (lv' := [(6, .int (nI 0)), (0, .ref g.2.2.2.1), (1, .int (nI na9)), (2, .int (nI en9)), (3, .int (nI ka9)), (4, .int (nI (sp_beh S ro ka9 en9 (na9 - 1 - ka9)))), (5, .int (nI ow9))]) hx hb dX8_aheadOf_67 hl (by decide) rfl (fun ls hl => ?_)
                    have lp_69 : ∀ (n_69 : Nat) (hi9 : Nat) (hhi : hi9 ≤ 6) (hm_69 : 6 - hi9 < n_69) (ls : Array Slot) (zz : RS) (H : Heap) (locs : List Loc) (w : rW g A s zz H locs) (hfz : rFr [] [20] z zz) (hA : ∀ q, q < 36 * ka9 + 6 * ow9 + hi9 → zz.2.1 20 q = nI (sp_ah S ro na9 en9 V9 q)), lv_has ls 8 [(0, .ref g.2.2.2.1), (1, .int (nI na9)), (2, .int (nI en9)), (3, .int (nI ka9)), (4, .int (nI (sp_beh S ro ka9 en9 (na9 - 1 - ka9)))), (5, .int (nI ow9)), (6, .int (nI hi9))] → W p l e (ro_m 2 53) s m args below meth c H locs 0 0 (MQ below (va_Qv (fun z' => rLt z' (sp_ah S ro na9 en9 V9) ∧ rFr [] [19, 20] z z') (rB g A) A) args s 0 0 A) (F0 m 69 ls []) := by
                      intro n_69
                      induction n_69 with
                      | zero => intro hi9 hhi hm; exact absurd hm (Nat.not_lt_zero _)
                      | succ n_69 ih_69 =>
                        intro hi9 hhi hm_69 ls zz H locs w hfz hA hl
                        refine lv_iload hx hb dX8_aheadOf_69 (lv_at hl 6 rfl) ?_
                        refine lv_bipush (v := (nI 6)) hx hb dX8_aheadOf_71 (by decide) ?_
                        refine n_icmp_ge (tgt := 148) hx hb dX8_aheadOf_73 (by decide) (by omega) (by omega) (fun c_73_5 => ?_) (fun c_73_5 => ?_)
                        · skip
                          refine lv_iinc (v := (nI (ow9 + 1))) (lv' := [(5, .int (nI (ow9 + 1))), (0, .ref g.2.2.2.1), (1, .int (nI na9)), (2, .int (nI en9)), (3, .int (nI ka9)), (4, .int (nI (sp_beh S ro ka9 en9 (na9 - 1 - ka9)))), (6, .int (nI hi9))]) hx hb dX8_aheadOf_148 hl (k := 5) rfl (by first | exact nI_1 _ | (rw [show Int32.ofInt 1 = nI 1 from by decide, nI_add])) (by decide) rfl (fun ls hl => ?_)
                          refine lv_goto (tgt := 59) hx hb dX8_aheadOf_151 (by decide) ?_
                          exact ih_59 (ow9 + 1) (by omega) (by omega) ls zz _ _ w hfz (fun q hq => hA q (by omega)) (lv_sub hl [1, 2, 3, 4, 5, 0] rfl)
                        · skip
                          refine lv_bipush (v := (nI 36)) hx hb dX8_aheadOf_76 (by decide) ?_
                          refine lv_iload_n hx hb dX8_aheadOf_78 rfl (lv_at hl 3 rfl) ?_
                          refine n_imul hx hb dX8_aheadOf_79 ?_
                          refine lv_bipush (v := (nI 6)) hx hb dX8_aheadOf_80 (by decide) ?_
                          refine lv_iload hx hb dX8_aheadOf_82 (lv_at hl 5 rfl) ?_
                          refine n_imul hx hb dX8_aheadOf_84 ?_
                          refine n_iadd hx hb dX8_aheadOf_85 ?_
                          refine lv_iload hx hb dX8_aheadOf_86 (lv_at hl 6 rfl) ?_
                          refine n_iadd hx hb dX8_aheadOf_88 ?_
                          refine lv_istore (lv' := [(7, .int (nI (((36 * ka9) + (6 * ow9)) + hi9))), (0, .ref g.2.2.2.1), (1, .int (nI na9)), (2, .int (nI en9)), (3, .int (nI ka9)), (4, .int (nI (sp_beh S ro ka9 en9 (na9 - 1 - ka9)))), (5, .int (nI ow9)), (6, .int (nI hi9))]) hx hb dX8_aheadOf_89 hl (by decide) rfl (fun ls hl => ?_)
                          refine lv_aload_n hx hb dX8_aheadOf_91 rfl (lv_at hl 1 rfl) ?_
                          refine rg_20 X w.1 dX8_aheadOf_92 ?_
                          refine lv_iload hx hb dX8_aheadOf_95 (lv_at hl 0 rfl) ?_
                          refine lv_aload_n hx hb dX8_aheadOf_97 rfl (lv_at hl 1 rfl) ?_
                          refine rg_5 X w.1 dX8_aheadOf_98 ?_
                          refine lv_bipush (v := (nI 8)) hx hb dX8_aheadOf_101 (by decide) ?_
                          refine lv_aload_n hx hb dX8_aheadOf_103 rfl (lv_at hl 1 rfl) ?_
                          refine rg_18 X w.1 dX8_aheadOf_104 ?_
                          refine lv_iload_n hx hb dX8_aheadOf_107 rfl (lv_at hl 4 rfl) ?_
                          refine rn_18 X w.1 (by omega) dX8_aheadOf_108 ?_
                          refine tp_i (show zz.2.1 18 ka9 = (nI (ro ka9)) from (congrFun (hfz.2.1 18 (by decide)) _).trans (hro.2 ka9 (by omega)).1) ?_
                          refine n_iadd hx hb dX8_aheadOf_109 ?_
                          refine rn_5 X w.1 (by omega) dX8_aheadOf_110 ?_
                          refine tp_i (show zz.2.1 5 (8 + (ro ka9)) = (nI (S.2.1 5 (ro ka9))) from (congrFun (hfz.2.1 5 (by decide)) _).trans (hco (ro ka9) (by omega))) ?_
                          refine lv_iload_n hx hb dX8_aheadOf_111 rfl (lv_at hl 3 rfl) ?_
                          refine jn (tgt := 141) (rest := [.int (nI (((36 * ka9) + (6 * ow9)) + hi9)), .ref (g.2.2.2.2 20)]) (fun v9 => ∃ x9 : Nat, x9 = (if (S.2.1 5 (ro ka9)) ≤ en9 then (sp_ft S ro V9 ka9 na9 hi9 ow9 (sp_beh S ro ka9 en9 (na9 - 1 - ka9))) else (V9 (((36 * ka9) + (6 * ow9)) + hi9))) ∧ v9 = nI x9) (fun v_ hv_ => ?_) (fun k_141 => ?_)
                          · obtain ⟨x_141, ex_141, rfl⟩ := hv_
                            refine ru_20 X w (by omega) dX8_aheadOf_141 (fun z_141 H locs ez_141 w => ?_)
                            refine lv_iinc (v := (nI (hi9 + 1))) (lv' := [(6, .int (nI (hi9 + 1))), (7, .int (nI (((36 * ka9) + (6 * ow9)) + hi9))), (0, .ref g.2.2.2.1), (1, .int (nI na9)), (2, .int (nI en9)), (3, .int (nI ka9)), (4, .int (nI (sp_beh S ro ka9 en9 (na9 - 1 - ka9)))), (5, .int (nI ow9))]) hx hb dX8_aheadOf_142 hl (k := 7) rfl (by first | exact nI_1 _ | (rw [show Int32.ofInt 1 = nI 1 from by decide, nI_add])) (by decide) rfl (fun ls hl => ?_)
                            refine lv_goto (tgt := 69) hx hb dX8_aheadOf_145 (by decide) ?_
                            exact ih_69 (hi9 + 1) (by omega) (by omega) ls z_141 _ _ w (by rw [ez_141]; exact rFr_tr hfz (rFr_A _ (by decide))) (by rw [ez_141, ex_141]; exact ah_s hA (by omega) (by omega) (by omega)) (lv_sub hl [2, 3, 4, 5, 6, 7, 0] rfl)
                          · skip
                            refine n_icmp_le (tgt := 125) hx hb dX8_aheadOf_112 (by decide) (by omega) (by omega) (fun c_112_7 => ?_) (fun c_112_7 => ?_)
                            · skip
                              refine lv_aload_n hx hb dX8_aheadOf_125 rfl (lv_at hl 1 rfl) ?_
                              refine lv_iload_n hx hb dX8_aheadOf_126 rfl (lv_at hl 4 rfl) ?_
                              refine lv_iload_n hx hb dX8_aheadOf_127 rfl (lv_at hl 2 rfl) ?_
                              refine lv_iload hx hb dX8_aheadOf_128 (lv_at hl 7 rfl) ?_
                              refine lv_iload hx hb dX8_aheadOf_130 (lv_at hl 6 rfl) ?_
                              refine lv_iload hx hb dX8_aheadOf_132 (lv_at hl 5 rfl) ?_
                              refine lv_aload_n hx hb dX8_aheadOf_134 rfl (lv_at hl 1 rfl) ?_
                              refine rg_19 X w.1 dX8_aheadOf_135 ?_
                              refine rc_p (rest := [.int (nI (((36 * ka9) + (6 * ow9)) + hi9)), .ref (g.2.2.2.2 20)]) X hml hl.1 (k_fought l g zz ka9 na9 hi9 ow9 (sp_beh S ro ka9 en9 (na9 - 1 - ka9)) S (rSc_fr hfz (by decide) (by decide) (by decide) (by decide) (by decide) (by decide) hz) ho na9 ro V9 ⟨hro.1, fun j hj => ⟨(congrFun (hfz.2.1 18 (by decide)) _).trans (hro.2 j hj).1, (hro.2 j hj).2⟩⟩ ⟨fun j hj => (congrFun (hfz.2.1 19 (by decide)) _).trans (hlt.1 j hj), hlt.2⟩ rfl (by omega) (by omega) (by omega) (by omega)) ok_fought wm_X8_206 ⟨Nat.le_of_ble_eq_true rfl, Nat.le_of_ble_eq_true rfl⟩ ⟨Nat.le_refl _, Nat.le_refl _⟩ w.1 rfl (Nat.le_of_ble_eq_true rfl) dX8_aheadOf_138 (fun r_138 hr_138 => ?_)
                              subst hr_138
                              exact k_141 _ ⟨_, by simp only [if_pos c_112_7], rfl⟩
                            · skip
                              refine lv_aload_n hx hb dX8_aheadOf_115 rfl (lv_at hl 1 rfl) ?_
                              refine rg_19 X w.1 dX8_aheadOf_116 ?_
                              refine lv_iload hx hb dX8_aheadOf_119 (lv_at hl 0 rfl) ?_
                              refine rn_19 X w.1 (by omega) dX8_aheadOf_121 ?_
                              refine tp_i (show zz.2.1 19 (((36 * ka9) + (6 * ow9)) + hi9) = (nI (V9 (((36 * ka9) + (6 * ow9)) + hi9))) from (congrFun (hfz.2.1 19 (by decide)) _).trans (hlt.1 (((36 * ka9) + (6 * ow9)) + hi9) (by omega))) ?_
                              refine lv_goto (tgt := 141) hx hb dX8_aheadOf_122 (by decide) ?_
                              exact k_141 _ ⟨_, by simp only [if_neg c_112_7], rfl⟩
                    exact lp_69 _ 0 (Nat.zero_le _) (Nat.lt_succ_self _) ls zz _ _ w hfz (fun q hq => hA q (by omega)) (lv_sub hl [1, 2, 3, 4, 5, 6, 0] rfl)
              exact lp_59 _ 0 (Nat.zero_le _) (Nat.lt_succ_self _) ls zz _ _ w hfz (fun q hq => hA q (by omega)) (lv_sub hl [1, 2, 3, 4, 5, 0] rfl)
            · skip
              have rj := (hro.2 (ka9 + 1 + j9) (by omega)).2
              refine lv_iload hx hb dX8_aheadOf_21 (lv_at hl 4 rfl) ?_
              refine lv_aload_n hx hb dX8_aheadOf_23 rfl (lv_at hl 0 rfl) ?_
              refine rg_5 X w.1 dX8_aheadOf_24 ?_
              refine lv_bipush (v := (nI 8)) hx hb dX8_aheadOf_27 (by decide) ?_
              refine lv_aload_n hx hb dX8_aheadOf_29 rfl (lv_at hl 0 rfl) ?_
              refine rg_18 X w.1 dX8_aheadOf_30 ?_
              refine lv_iload hx hb dX8_aheadOf_33 (lv_at hl 5 rfl) ?_
              refine rn_18 X w.1 (by omega) dX8_aheadOf_35 ?_
              refine tp_i (show zz.2.1 18 (ka9 + 1 + j9) = (nI (ro (ka9 + 1 + j9))) from (congrFun (hfz.2.1 18 (by decide)) _).trans (hro.2 (ka9 + 1 + j9) (by omega)).1) ?_
              refine n_iadd hx hb dX8_aheadOf_36 ?_
              refine rn_5 X w.1 (by omega) dX8_aheadOf_37 ?_
              refine tp_i (show zz.2.1 5 (8 + (ro (ka9 + 1 + j9))) = (nI (S.2.1 5 (ro (ka9 + 1 + j9)))) from (congrFun (hfz.2.1 5 (by decide)) _).trans (hco (ro (ka9 + 1 + j9)) (by omega))) ?_
              refine lv_iload_n hx hb dX8_aheadOf_38 rfl (lv_at hl 2 rfl) ?_
              refine jn (tgt := 47) (rest := [.int (nI (sp_beh S ro ka9 en9 j9))]) (fun v9 => ∃ x9 : Nat, x9 = (if en9 < (S.2.1 5 (ro (ka9 + 1 + j9))) then 0 else 1) ∧ v9 = nI x9) (fun v_ hv_ => ?_) (fun k_47 => ?_)
              · obtain ⟨x_47, ex_47, rfl⟩ := hv_
                refine n_iadd hx hb dX8_aheadOf_47 ?_
                refine lv_istore (lv' := [(4, .int (nI ((sp_beh S ro ka9 en9 j9) + x_47))), (0, .ref g.2.2.2.1), (1, .int (nI na9)), (2, .int (nI en9)), (3, .int (nI ka9)), (5, .int (nI (ka9 + 1 + j9)))]) hx hb dX8_aheadOf_48 hl (by decide) rfl (fun ls hl => ?_)
                refine lv_iinc (v := (nI (ka9 + 1 + j9 + 1))) (lv' := [(5, .int (nI (ka9 + 1 + j9 + 1))), (4, .int (nI ((sp_beh S ro ka9 en9 j9) + x_47))), (0, .ref g.2.2.2.1), (1, .int (nI na9)), (2, .int (nI en9)), (3, .int (nI ka9))]) hx hb dX8_aheadOf_50 hl (k := 5) rfl (by first | exact nI_1 _ | (rw [show Int32.ofInt 1 = nI 1 from by decide, nI_add])) (by decide) rfl (fun ls hl => ?_)
                refine lv_goto (tgt := 15) hx hb dX8_aheadOf_53 (by decide) ?_
                subst ex_47
                exact ih_15 (j9 + 1) (by omega) (by omega) ls (lv_sub hl [2, 3, 4, 5, 1, 0] rfl)
              · skip
                refine n_icmp_gt (tgt := 46) hx hb dX8_aheadOf_39 (by decide) (by omega) (by omega) (fun c_39_9 => ?_) (fun c_39_9 => ?_)
                · skip
                  refine lv_iconst (v := (nI 0)) hx hb dX8_aheadOf_46 (by decide) ?_
                  exact k_47 _ ⟨_, by simp only [if_pos c_39_9], rfl⟩
                · skip
                  refine lv_iconst (v := (nI 1)) hx hb dX8_aheadOf_42 (by decide) ?_
                  refine lv_goto (tgt := 47) hx hb dX8_aheadOf_43 (by decide) ?_
                  exact k_47 _ ⟨_, by simp only [if_neg c_39_9], rfl⟩
        exact lp_15 _ 0 (Nat.zero_le _) (Nat.lt_succ_self _) ls (lv_sub hl [2, 3, 4, 5, 1, 0] rfl)
  exact lp_2 _ 0 (Nat.zero_le _) (Nat.lt_succ_self _) ls z _ _ w (rFr_rf _ _ _) (fun q hq => absurd hq (by omega)) (lv_sub hl [1, 2, 3, 0] rfl)
end
section
theorem fb_holes : ∀ (m n : Nat) (f : Nat → Nat), (∀ i, i < n → f i < m) → (∀ i j, i < j → j < n → f i ≠ f j) → n ≤ m := by
  intro m
  induction m with
  | zero =>
    intro n f h1 _
    rcases Nat.eq_zero_or_pos n with h | h
    · omega
    · exact absurd (h1 0 h) (Nat.not_lt_zero _)
  | succ m ih =>
    intro n f h1 h2
    by_cases hx : ∃ i, i < n ∧ f i = m
    · obtain ⟨a, ha, hfa⟩ := hx
      have hg := ih (n - 1) (fun i => if i < a then f i else f (i + 1)) (by
        intro i hi
        by_cases q : i < a
        · simp only [if_pos q]
          have b1 := h1 i (by omega)
          have b2 := h2 i a q ha
          omega
        · simp only [if_neg q]
          have b1 := h1 (i + 1) (by omega)
          have b2 := h2 a (i + 1) (by omega) (by omega)
          omega) (by
        intro i j hij hj
        by_cases q : i < a
        · by_cases r : j < a
          · simp only [if_pos q, if_pos r]
            exact h2 i j hij (by omega)
          · simp only [if_pos q, if_neg r]
            exact h2 i (j + 1) (by omega) (by omega)
        · have r : ¬ j < a := by omega
          simp only [if_neg q, if_neg r]
          exact h2 (i + 1) (j + 1) (by omega) (by omega))
      omega
    · have hg := ih n f (fun i hi => by
        have b1 := h1 i hi
        have b2 : f i ≠ m := fun e => hx ⟨i, hi, e⟩
        omega) h2
      omega
/-! those that come, one behind the other: by when they come, then by their numbers -/
def sp_is (S : Sc) (pa la f : Nat) : Nat := if pc_dn S f = 0 then (if pa ≤ S.2.1 5 f then 1 else (if S.2.1 5 f + 1 = pa then (if f < la then 0 else 1) else 0)) else 0
def sp_sl (S : Sc) (pa la : Nat) : Nat → Nat
  | 0 => 0
  | i + 1 => if sp_is S pa la (i + 1) = 0 then sp_sl S pa la i else (if sp_sl S pa la i = 0 then i + 1 else (if S.2.1 5 (sp_sl S pa la i) ≤ S.2.1 5 (i + 1) then sp_sl S pa la i else i + 1))
theorem sp_sl_le (S : Sc) (pa la : Nat) : ∀ i, sp_sl S pa la i ≤ i
  | 0 => Nat.le_refl 0
  | i + 1 => by
    have h := sp_sl_le S pa la i
    exact it_le (by omega) (it_le (Nat.le_refl _) (it_le (by omega) (Nat.le_refl _)))
theorem sp_sl_is (S : Sc) (pa la : Nat) : ∀ i, ¬ sp_sl S pa la i = 0 → ¬ sp_is S pa la (sp_sl S pa la i) = 0
  | 0, h => absurd rfl h
  | i + 1, h => by
    have ih := sp_sl_is S pa la i
    have e : sp_sl S pa la (i + 1) = if sp_is S pa la (i + 1) = 0 then sp_sl S pa la i else (if sp_sl S pa la i = 0 then i + 1 else (if S.2.1 5 (sp_sl S pa la i) ≤ S.2.1 5 (i + 1) then sp_sl S pa la i else i + 1)) := rfl
    by_cases q : sp_is S pa la (i + 1) = 0
    · rw [if_pos q] at e
      rw [e] at h ⊢
      exact ih h
    · rw [if_neg q] at e
      by_cases q2 : sp_sl S pa la i = 0
      · rw [if_pos q2] at e
        rw [e]
        exact q
      · rw [if_neg q2] at e
        by_cases q3 : S.2.1 5 (sp_sl S pa la i) ≤ S.2.1 5 (i + 1)
        · rw [if_pos q3] at e
          rw [e]
          exact ih q2
        · rw [if_neg q3] at e
          rw [e]
          exact q
theorem sp_is_ok {S : Sc} {pa la f : Nat} (h : ¬ sp_is S pa la f = 0) : pc_dn S f = 0 ∧ (pa ≤ S.2.1 5 f ∨ (S.2.1 5 f + 1 = pa ∧ la ≤ f)) := by
  unfold sp_is at h
  by_cases q : pc_dn S f = 0
  · rw [if_pos q] at h
    refine ⟨q, ?_⟩
    by_cases q2 : pa ≤ S.2.1 5 f
    · exact Or.inl q2
    · rw [if_neg q2] at h
      by_cases q3 : S.2.1 5 f + 1 = pa
      · rw [if_pos q3] at h
        by_cases q4 : f < la
        · rw [if_pos q4] at h
          exact absurd rfl h
        · exact Or.inr ⟨q3, by omega⟩
      · rw [if_neg q3] at h
        exact absurd rfl h
  · rw [if_neg q] at h
    exact absurd rfl h
/-- behind k of them: past and last, and one more -/
def sp_sq (S : Sc) : Nat → Nat × Nat
  | 0 => (0, 0)
  | k + 1 => (S.2.1 5 (sp_sl S (sp_sq S k).1 (sp_sq S k).2 (S.1 1 - 1)) + 1, sp_sl S (sp_sq S k).1 (sp_sq S k).2 (S.1 1 - 1) + 1)
def sp_ro (S : Sc) (k : Nat) : Nat := sp_sl S (sp_sq S k).1 (sp_sq S k).2 (S.1 1 - 1)
theorem ro_up {S : Sc} {k : Nat} (h : ¬ sp_ro S (k + 1) = 0) : S.2.1 5 (sp_ro S k) < S.2.1 5 (sp_ro S (k + 1)) ∨ (S.2.1 5 (sp_ro S k) = S.2.1 5 (sp_ro S (k + 1)) ∧ sp_ro S k < sp_ro S (k + 1)) := by
  have h1 := (sp_is_ok (sp_sl_is S _ _ _ h)).2
  have h2 : S.2.1 5 (sp_ro S k) + 1 ≤ S.2.1 5 (sp_ro S (k + 1)) ∨ (S.2.1 5 (sp_ro S (k + 1)) + 1 = S.2.1 5 (sp_ro S k) + 1 ∧ sp_ro S k + 1 ≤ sp_ro S (k + 1)) := h1
  omega
theorem ro_lt {S : Sc} {k : Nat} (h : ∀ j, j ≤ k → ¬ sp_ro S j = 0) : ∀ d i, i + d + 1 ≤ k → S.2.1 5 (sp_ro S i) < S.2.1 5 (sp_ro S (i + d + 1)) ∨ (S.2.1 5 (sp_ro S i) = S.2.1 5 (sp_ro S (i + d + 1)) ∧ sp_ro S i < sp_ro S (i + d + 1))
  | 0, i, hi => ro_up (h (i + 1) hi)
  | d + 1, i, hi => by
    have h1 := ro_lt h d i (by omega)
    have h2 := ro_up (k := i + d + 1) (h (i + d + 1 + 1) (by omega))
    show S.2.1 5 (sp_ro S i) < S.2.1 5 (sp_ro S (i + d + 1 + 1)) ∨ (S.2.1 5 (sp_ro S i) = S.2.1 5 (sp_ro S (i + d + 1 + 1)) ∧ sp_ro S i < sp_ro S (i + d + 1 + 1))
    omega
theorem ro_le (S : Sc) (k : Nat) : sp_ro S k ≤ S.1 1 - 1 := sp_sl_le S _ _ _
theorem ro_k {S : Sc} {k : Nat} (h : ∀ j, j ≤ k → ¬ sp_ro S j = 0) : k + 1 ≤ S.1 1 - 1 := by
  refine fb_holes (S.1 1 - 1) (k + 1) (fun j => sp_ro S j - 1) (fun i hi => ?_) (fun i j hij hj => ?_)
  · have h1 := ro_le S i
    have h2 := h i (by omega)
    show sp_ro S i - 1 < _
    omega
  · have h1 := ro_lt h (j - i - 1) i (by omega)
    rw [show i + (j - i - 1) + 1 = j by omega] at h1
    have h2 := h i (by omega)
    have h3 := h j (by omega)
    show sp_ro S i - 1 ≠ sp_ro S j - 1
    intro q
    have q2 : sp_ro S i = sp_ro S j := by omega
    rw [q2] at h1
    omega
/-- how many come -/
def sp_rn (S : Sc) : Nat := if sp_ro S 0 = 0 then 0 else (if sp_ro S 1 = 0 then 1 else (if sp_ro S 2 = 0 then 2 else (if sp_ro S 3 = 0 then 3 else 4)))
theorem rn_eq {S : Sc} {n : Nat} (hn : n ≤ 4) (h : ∀ j, j < n → ¬ sp_ro S j = 0) (h2 : sp_ro S n = 0 ∨ n = 4) : n = sp_rn S := by
  unfold sp_rn
  rcases (show n = 0 ∨ n = 1 ∨ n = 2 ∨ n = 3 ∨ n = 4 by omega) with rfl | rfl | rfl | rfl | rfl
  · rw [if_pos (by omega)]
  · rw [if_neg (h 0 (by omega)), if_pos (by omega)]
  · rw [if_neg (h 0 (by omega)), if_neg (h 1 (by omega)), if_pos (by omega)]
  · rw [if_neg (h 0 (by omega)), if_neg (h 1 (by omega)), if_neg (h 2 (by omega)), if_pos (by omega)]
  · rw [if_neg (h 0 (by omega)), if_neg (h 1 (by omega)), if_neg (h 2 (by omega)), if_neg (h 3 (by omega))]
theorem sl_s {S : Sc} {pa la i : Nat} (hi : i ≤ 5) {x : Nat} {y : Int32} (ex : x = if pc_dn S (i + 1) = 0 then (if ((pa : Nat) : Int) - (1 : Int) < ((S.2.1 5 (i + 1) : Nat) : Int) then 1 else (if ((S.2.1 5 (i + 1) : Nat) : Int) = ((pa : Nat) : Int) - (1 : Int) then (if ((i + 1 : Nat) : Int) ≤ ((la : Nat) : Int) - (1 : Int) then 0 else 1) else 0)) else 0) (ey : y = if x = 0 then pc_fd (sp_sl S pa la i) else (if pc_fd (sp_sl S pa la i) = iZ (-4) then nI (i + 1) else (if S.2.1 5 (sp_sl S pa la i) ≤ S.2.1 5 (i + 1) then pc_fd (sp_sl S pa la i) else nI (i + 1)))) : y = pc_fd (sp_sl S pa la (i + 1)) := by
  have h := sp_sl_le S pa la i
  have hx : x = sp_is S pa la (i + 1) := by
    rw [ex]
    unfold sp_is
    by_cases q : pc_dn S (i + 1) = 0
    · rw [if_pos q, if_pos q]
      by_cases q2 : pa ≤ S.2.1 5 (i + 1)
      · rw [if_pos q2, if_pos (by omega)]
      · rw [if_neg q2, if_neg (by omega)]
        by_cases q3 : S.2.1 5 (i + 1) + 1 = pa
        · rw [if_pos q3, if_pos (by omega)]
          by_cases q4 : i + 1 < la
          · rw [if_pos q4, if_pos (by omega)]
          · rw [if_neg q4, if_neg (by omega)]
        · rw [if_neg q3, if_neg (by omega)]
    · rw [if_neg q, if_neg q]
  simp only [pc_fd_4 (show sp_sl S pa la i ≤ 1000 by omega)] at ey
  rw [ey, hx]
  show _ = pc_fd (if sp_is S pa la (i + 1) = 0 then sp_sl S pa la i else (if sp_sl S pa la i = 0 then i + 1 else (if S.2.1 5 (sp_sl S pa la i) ≤ S.2.1 5 (i + 1) then sp_sl S pa la i else i + 1)))
  have hd : nI (i + 1) = pc_fd (i + 1) := by
    unfold pc_fd
    rw [if_neg (by omega)]
  rw [hd]
  by_cases q : sp_is S pa la (i + 1) = 0
  · rw [if_pos q, if_pos q]
  · rw [if_neg q, if_neg q]
    by_cases q2 : sp_sl S pa la i = 0
    · rw [if_pos q2, if_pos q2]
    · rw [if_neg q2, if_neg q2]
      by_cases q3 : S.2.1 5 (sp_sl S pa la i) ≤ S.2.1 5 (i + 1)
      · rw [if_pos q3, if_pos q3]
      · rw [if_neg q3, if_neg q3]
theorem zn1 (a : Nat) : nI a = iZ (((a + 1 : Nat) : Int) - (1 : Int)) := by
  rw [← iZ_n]
  congr 1
  omega
theorem sq_le1 (S : Sc) (h : ∀ f, S.2.1 5 f ≤ 99999) : ∀ k, (sp_sq S k).1 ≤ 100000
  | 0 => Nat.zero_le _
  | k + 1 => by
    have h1 := h (sp_sl S (sp_sq S k).1 (sp_sq S k).2 (S.1 1 - 1))
    show S.2.1 5 (sp_sl S (sp_sq S k).1 (sp_sq S k).2 (S.1 1 - 1)) + 1 ≤ 100000
    omega
theorem sq_le2 (S : Sc) (h : S.1 1 ≤ 5) : ∀ k, (sp_sq S k).2 ≤ 100
  | 0 => Nat.zero_le _
  | k + 1 => by
    have h1 := sp_sl_le S (sp_sq S k).1 (sp_sq S k).2 (S.1 1 - 1)
    show sp_sl S (sp_sq S k).1 (sp_sq S k).2 (S.1 1 - 1) + 1 ≤ 100
    omega
theorem ro_put {S : Sc} {zz : RS} {k : Nat} (h : ∀ j, j < k → zz.2.1 18 j = nI (sp_ro S j) ∧ ¬ sp_ro S j = 0) (hk : ¬ sp_ro S k = 0) : ∀ j, j < k + 1 → (sA zz 18 k (nI (sp_ro S k))).2.1 18 j = nI (sp_ro S j) ∧ ¬ sp_ro S j = 0 := by
  intro j hj
  by_cases e : j = k
  · rw [e]
    exact ⟨pk_us, hk⟩
  · have h1 := h j (by omega)
    refine ⟨?_, h1.2⟩
    show upd (zz.2.1 18) k (nI (sp_ro S k)) j = _
    rw [pk_un e]
    exact h1.1
end
section
theorem ok_lines : rOk yX8_lines cX8_lines 8 (some .int) 0 := ⟨wc_X8_lines, wi_X8_lines, ws_X8_lines, rfl, by decide, by decide, by decide +kernel⟩
set_option maxHeartbeats 4000000 in
set_option maxRecDepth 100000 in
theorem k_lines (l : Launch) (g : RG) (z : RS)  (S : Sc) (hz : rSc z S) (ho : oSc S) : rMi g l yX8_lines cX8_lines 8 (some .int) 2 42 [] z (fun r z' => r = nI (sp_rn S) ∧ rRo z' (sp_rn S) (sp_ro S) ∧ rFr [] [18] z z') := by
  refine rMi_in (by decide) rfl (Nat.le_of_ble_eq_true rfl) ?_
  intro p e s m args below meth c A ls X hml hr hk hl w
  have hx := X.1
  have hb := X.2.1
  have hts := X.2.2.1
  have hown := X.2.2.2.1
  have hl : lv_has ls 8 [(0, .ref g.2.2.2.1)] := hl
  obtain ⟨hz0, hz1, hz4, hm0, hm1, hm2, hso, hki, hsr, hpa, hhu, hco⟩ := id hz
  obtain ⟨o1, o2, o3, o4, o5, o6, oso, oki, osr, opa, ohu, oco⟩ := id ho
  refine lv_iconst (v := (nI 0)) hx hb dX8_lines_0 (by decide) ?_
  refine lv_istore_n (lv' := [(1, .int (nI 0)), (0, .ref g.2.2.2.1)]) hx hb dX8_lines_1 rfl hl (by decide) rfl (fun ls hl => ?_)
  refine lv_iconst (v := (iZ (-1))) hx hb dX8_lines_2 (by decide) ?_
  refine lv_istore_n (lv' := [(2, .int (iZ (-1))), (1, .int (nI 0)), (0, .ref g.2.2.2.1)]) hx hb dX8_lines_3 rfl hl (by decide) rfl (fun ls hl => ?_)
  refine lv_iconst (v := (iZ (-1))) hx hb dX8_lines_4 (by decide) ?_
  refine lv_istore_n (lv' := [(3, .int (iZ (-1))), (2, .int (iZ (-1))), (1, .int (nI 0)), (0, .ref g.2.2.2.1)]) hx hb dX8_lines_5 rfl hl (by decide) rfl (fun ls hl => ?_)
  refine lv_iconst (v := (nI 1)) hx hb dX8_lines_6 (by decide) ?_
  refine lv_istore (lv' := [(4, .int (nI 1)), (3, .int (iZ (-1))), (2, .int (iZ (-1))), (1, .int (nI 0)), (0, .ref g.2.2.2.1)]) hx hb dX8_lines_7 hl (by decide) rfl (fun ls hl => ?_)
  have lp_9 : ∀ (n_9 : Nat) (k9 mr9 : Nat) (hk4 : k9 ≤ 4) (hmr : mr9 = 1) (hm_9 : 4 - k9 < n_9) (ls : Array Slot) (zz : RS) (H : Heap) (locs : List Loc) (w : rW g A s zz H locs) (hfz : rFr [] [18] z zz) (hrw : ∀ j, j < k9 → zz.2.1 18 j = nI (sp_ro S j) ∧ ¬ sp_ro S j = 0), lv_has ls 8 [(0, .ref g.2.2.2.1), (1, .int (nI k9)), (2, .int (iZ ((((sp_sq S k9).1 : Nat) : Int) - (1 : Int)))), (3, .int (iZ ((((sp_sq S k9).2 : Nat) : Int) - (1 : Int)))), (4, .int (nI mr9))] → W p l e (ro_m 2 42) s m args below meth c H locs 0 0 (MQ below (va_Qi (fun r z' => r = nI (sp_rn S) ∧ rRo z' (sp_rn S) (sp_ro S) ∧ rFr [] [18] z z') (rB g A) A) args s 0 0 A) (F0 m 9 ls []) := by
    intro n_9
    induction n_9 with
    | zero => intro k9 mr9 hk4 hmr hm; exact absurd hm (Nat.not_lt_zero _)
    | succ n_9 ih_9 =>
      intro k9 mr9 hk4 hmr hm_9 ls zz H locs w hfz hrw hl
      have q71 : (sp_sq S k9).1 ≤ 100000 := sq_le1 S oco k9
      have q72 : (sp_sq S k9).2 ≤ 100 := sq_le2 S (by omega) k9
      refine lv_iload hx hb dX8_lines_9 (lv_at hl 4 rfl) ?_
      refine n_if_eq (tgt := 177) hx hb dX8_lines_11 (by decide) (by omega) (fun c_11_1 => ?_) (fun c_11_1 => ?_)
      · skip
        exact absurd c_11_1 (by omega)
      · skip
        refine lv_bipush (v := (iZ (-4))) hx hb dX8_lines_14 (by decide) ?_
        refine lv_istore (lv' := [(5, .int (iZ (-4))), (0, .ref g.2.2.2.1), (1, .int (nI k9)), (2, .int (iZ ((((sp_sq S k9).1 : Nat) : Int) - (1 : Int)))), (3, .int (iZ ((((sp_sq S k9).2 : Nat) : Int) - (1 : Int)))), (4, .int (nI mr9))]) hx hb dX8_lines_16 hl (by decide) rfl (fun ls hl => ?_)
        refine lv_iconst (v := (nI 1)) hx hb dX8_lines_18 (by decide) ?_
        refine lv_istore (lv' := [(6, .int (nI 1)), (5, .int (iZ (-4))), (0, .ref g.2.2.2.1), (1, .int (nI k9)), (2, .int (iZ ((((sp_sq S k9).1 : Nat) : Int) - (1 : Int)))), (3, .int (iZ ((((sp_sq S k9).2 : Nat) : Int) - (1 : Int)))), (4, .int (nI mr9))]) hx hb dX8_lines_19 hl (by decide) rfl (fun ls hl => ?_)
        have lp_21 : ∀ (n_21 : Nat) (i9 : Nat) (hi9 : i9 ≤ S.1 1 - 1) (hm_21 : S.1 1 - i9 < n_21) (ls : Array Slot), lv_has ls 8 [(0, .ref g.2.2.2.1), (1, .int (nI k9)), (2, .int (iZ ((((sp_sq S k9).1 : Nat) : Int) - (1 : Int)))), (3, .int (iZ ((((sp_sq S k9).2 : Nat) : Int) - (1 : Int)))), (4, .int (nI mr9)), (5, .int (pc_fd (sp_sl S (sp_sq S k9).1 (sp_sq S k9).2 i9))), (6, .int (nI (i9 + 1)))] → W p l e (ro_m 2 42) s m args below meth c H locs 0 0 (MQ below (va_Qi (fun r z' => r = nI (sp_rn S) ∧ rRo z' (sp_rn S) (sp_ro S) ∧ rFr [] [18] z z') (rB g A) A) args s 0 0 A) (F0 m 21 ls []) := by
          intro n_21
          induction n_21 with
          | zero => intro i9 hi9 hm; exact absurd hm (Nat.not_lt_zero _)
          | succ n_21 ih_21 =>
            intro i9 hi9 hm_21 ls hl
            have q1 := sp_sl_le S (sp_sq S k9).1 (sp_sq S k9).2 i9
            have q2 := oco (i9 + 1)
            have q3 := oco (sp_sl S (sp_sq S k9).1 (sp_sq S k9).2 i9)
            refine lv_iload hx hb dX8_lines_21 (lv_at hl 6 rfl) ?_
            refine lv_aload_n hx hb dX8_lines_23 rfl (lv_at hl 0 rfl) ?_
            refine rg_1 X w.1 dX8_lines_24 ?_
            refine tp_i (show zz.1 1 = (nI (S.1 1)) from (hfz.1 1 (by decide)).trans hz1) ?_
            refine n_icmp_ge (tgt := 130) hx hb dX8_lines_27 (by decide) (by omega) (by omega) (fun c_27_2 => ?_) (fun c_27_2 => ?_)
            · skip
              have ei : i9 = S.1 1 - 1 := by omega
              subst ei
              rw [show sp_sl S (sp_sq S k9).1 (sp_sq S k9).2 (S.1 1 - 1) = sp_ro S k9 from rfl] at hl
              refine lv_iload hx hb dX8_lines_130 (lv_at hl 5 rfl) ?_
              refine lv_bipush (v := (iZ (-4))) hx hb dX8_lines_132 (by decide) ?_
              refine jn (tgt := 142) (rest := []) (fun v9 => ∃ x9 : Nat, x9 = (if ((pc_fd (sp_ro S k9))) = ((iZ (-4))) then 0 else 1) ∧ v9 = nI x9) (fun v_ hv_ => ?_) (fun k_142 => ?_)
              · obtain ⟨x_142, ex_142, rfl⟩ := hv_
                have q8 : x_142 ≤ 1 := by rw [ex_142]; split <;> omega
                refine lv_istore (lv' := [(4, .int (nI x_142)), (0, .ref g.2.2.2.1), (1, .int (nI k9)), (2, .int (iZ ((((sp_sq S k9).1 : Nat) : Int) - (1 : Int)))), (3, .int (iZ ((((sp_sq S k9).2 : Nat) : Int) - (1 : Int)))), (5, .int (pc_fd (sp_ro S k9))), (6, .int (nI ((S.1 1 - 1) + 1)))]) hx hb dX8_lines_142 hl (by decide) rfl (fun ls hl => ?_)
                refine lv_iload hx hb dX8_lines_144 (lv_at hl 0 rfl) ?_
                refine n_if_eq (tgt := 174) hx hb dX8_lines_146 (by decide) (by omega) (fun c_146_4 => ?_) (fun c_146_4 => ?_)
                · skip
                  refine lv_goto (tgt := 9) hx hb dX8_lines_174 (by decide) ?_
                  refine lv_iload hx hb dX8_lines_9 (lv_at hl 0 rfl) ?_
                  refine n_if_eq (tgt := 177) hx hb dX8_lines_11 (by decide) (by omega) (fun c_11_5 => ?_) (fun c_11_5 => ?_)
                  · skip
                    refine lv_iload_n hx hb dX8_lines_177 rfl (lv_at hl 2 rfl) ?_
                    exact re_i X hr hk w (by have e0 : sp_ro S k9 = 0 := (by have q6 : x_142 = 0 := (by assumption); rw [ex_142] at q6; by_cases q7 : pc_fd (sp_ro S k9) = iZ (-4); exact (pc_fd_4 (by have := ro_le S k9; omega)).mp q7; rw [if_neg q7] at q6; exact absurd q6 (by decide)); have en := rn_eq hk4 (fun j hj => (hrw j hj).2) (Or.inl e0); rw [← en]; exact ⟨rfl, ⟨hk4, fun j hj => ⟨(hrw j hj).1, by have := (hrw j hj).2; omega, by have := ro_le S j; omega⟩⟩, hfz⟩) dX8_lines_178
                  · skip
                    exact absurd (by assumption) c_11_5
                · skip
                  have hne : ¬ pc_fd (sp_ro S k9) = iZ (-4) := fun q => c_146_4 (by rw [ex_142, if_pos q])
                  have hf9 : pc_fd (sp_ro S k9) = nI (sp_ro S k9) := pc_fd_n hne
                  have hr9 : ¬ sp_ro S k9 = 0 := fun q => hne ((pc_fd_4 (by have := ro_le S k9; omega)).mpr q)
                  have hk9 := ro_k (S := S) (k := k9) (fun j hj => by rcases Nat.lt_or_ge j k9 with q | q; exact (hrw j q).2; rw [show j = k9 by omega]; exact hr9)
                  have hl9 := ro_le S k9
                  rw [hf9] at hl
                  refine lv_aload_n hx hb dX8_lines_149 rfl (lv_at hl 1 rfl) ?_
                  refine rg_18 X w.1 dX8_lines_150 ?_
                  refine lv_iload_n hx hb dX8_lines_153 rfl (lv_at hl 2 rfl) ?_
                  refine lv_iload hx hb dX8_lines_154 (lv_at hl 5 rfl) ?_
                  refine ru_18 X w (by omega) dX8_lines_156 (fun z_156 H locs ez_156 w => ?_)
                  have hfz_156 : rFr [] [18] z z_156 := by rw [ez_156]; exact rFr_tr hfz (rFr_A _ (by decide))
                  refine lv_iinc (v := (nI (k9 + 1))) (lv' := [(1, .int (nI (k9 + 1))), (4, .int (nI x_142)), (0, .ref g.2.2.2.1), (2, .int (iZ ((((sp_sq S k9).1 : Nat) : Int) - (1 : Int)))), (3, .int (iZ ((((sp_sq S k9).2 : Nat) : Int) - (1 : Int)))), (5, .int (nI (sp_ro S k9))), (6, .int (nI ((S.1 1 - 1) + 1)))]) hx hb dX8_lines_157 hl (k := 2) rfl (by first | exact nI_1 _ | (rw [show Int32.ofInt 1 = nI 1 from by decide, nI_add])) (by decide) rfl (fun ls hl => ?_)
                  refine lv_aload_n hx hb dX8_lines_160 rfl (lv_at hl 2 rfl) ?_
                  refine rg_5 X w.1 dX8_lines_161 ?_
                  refine lv_bipush (v := (nI 8)) hx hb dX8_lines_164 (by decide) ?_
                  refine lv_iload hx hb dX8_lines_166 (lv_at hl 5 rfl) ?_
                  refine n_iadd hx hb dX8_lines_168 ?_
                  refine rn_5 X w.1 (by omega) dX8_lines_169 ?_
                  refine tp_i (show z_156.2.1 5 (8 + (sp_ro S k9)) = (nI (S.2.1 5 (sp_ro S k9))) from (congrFun (hfz_156.2.1 5 (by decide)) _).trans (hco (sp_ro S k9) (by omega))) ?_
                  refine tp_i (zn1 _ : (nI (S.2.1 5 (sp_ro S k9))) = (iZ (((S.2.1 5 (sp_ro S k9) + 1 : Nat) : Int) - (1 : Int)))) ?_
                  refine lv_istore_n (lv' := [(2, .int (iZ (((S.2.1 5 (sp_ro S k9) + 1 : Nat) : Int) - (1 : Int)))), (1, .int (nI (k9 + 1))), (4, .int (nI x_142)), (0, .ref g.2.2.2.1), (3, .int (iZ ((((sp_sq S k9).2 : Nat) : Int) - (1 : Int)))), (5, .int (nI (sp_ro S k9))), (6, .int (nI ((S.1 1 - 1) + 1)))]) hx hb dX8_lines_170 rfl hl (by decide) rfl (fun ls hl => ?_)
                  refine lv_iload hx hb dX8_lines_171 (lv_at hl 5 rfl) ?_
                  refine tp_i (zn1 _ : (nI (sp_ro S k9)) = (iZ (((sp_ro S k9 + 1 : Nat) : Int) - (1 : Int)))) ?_
                  refine lv_istore_n (lv' := [(3, .int (iZ (((sp_ro S k9 + 1 : Nat) : Int) - (1 : Int)))), (2, .int (iZ (((S.2.1 5 (sp_ro S k9) + 1 : Nat) : Int) - (1 : Int)))), (1, .int (nI (k9 + 1))), (4, .int (nI x_142)), (0, .ref g.2.2.2.1), (5, .int (nI (sp_ro S k9))), (6, .int (nI ((S.1 1 - 1) + 1)))]) hx hb dX8_lines_173 rfl hl (by decide) rfl (fun ls hl => ?_)
                  refine lv_goto (tgt := 9) hx hb dX8_lines_174 (by decide) ?_
                  exact ih_9 (k9 + 1) x_142 (by omega) (by omega) (by omega) ls z_156 _ _ w hfz_156 (by rw [ez_156]; exact ro_put hrw hr9) (lv_sub hl [4, 2, 1, 0, 3] rfl)
              · skip
                refine lv_icmp_eq (tgt := 141) hx hb dX8_lines_134 (by decide) (fun c_134_6 => ?_) (fun c_134_6 => ?_)
                · skip
                  refine lv_iconst (v := (nI 0)) hx hb dX8_lines_141 (by decide) ?_
                  exact k_142 _ ⟨_, by simp only [if_pos c_134_6], rfl⟩
                · skip
                  refine lv_iconst (v := (nI 1)) hx hb dX8_lines_137 (by decide) ?_
                  refine lv_goto (tgt := 142) hx hb dX8_lines_138 (by decide) ?_
                  exact k_142 _ ⟨_, by simp only [if_neg c_134_6], rfl⟩
            · skip
              refine lv_aload_n hx hb dX8_lines_30 rfl (lv_at hl 0 rfl) ?_
              refine lv_iload hx hb dX8_lines_31 (lv_at hl 6 rfl) ?_
              refine rc_p (rest := []) X hml hl.1 (k_downS l g zz (i9 + 1) S (rSc_fr hfz (by decide) (by decide) (by decide) (by decide) (by decide) (by decide) hz) ho (by omega)) ok_isDown wm_X8_103 ⟨Nat.le_of_ble_eq_true rfl, Nat.le_of_ble_eq_true rfl⟩ ⟨Nat.le_refl _, Nat.le_refl _⟩ w.1 rfl (Nat.le_of_ble_eq_true rfl) dX8_lines_33 (fun r_33 hr_33 => ?_)
              subst hr_33
              have dd := pc_dn01 S (i9 + 1)
              refine jn (tgt := 78) (rest := []) (fun v9 => ∃ x9 : Nat, x9 = (if (pc_dn S (i9 + 1)) = 0 then (if ((((sp_sq S k9).1 : Nat) : Int) - (1 : Int)) < (((S.2.1 5 (i9 + 1) : Nat) : Int)) then 1 else (if (((S.2.1 5 (i9 + 1) : Nat) : Int)) = ((((sp_sq S k9).1 : Nat) : Int) - (1 : Int)) then (if (((i9 + 1 : Nat) : Int)) ≤ ((((sp_sq S k9).2 : Nat) : Int) - (1 : Int)) then 0 else 1) else 0)) else 0) ∧ v9 = nI x9) (fun v_ hv_ => ?_) (fun k_78 => ?_)
              · obtain ⟨x_78, ex_78, rfl⟩ := hv_
                have q9 : x_78 ≤ 1 := by rw [ex_78]; split; split; omega; split; split <;> omega; omega; omega
                refine lv_istore (lv' := [(7, .int (nI x_78)), (0, .ref g.2.2.2.1), (1, .int (nI k9)), (2, .int (iZ ((((sp_sq S k9).1 : Nat) : Int) - (1 : Int)))), (3, .int (iZ ((((sp_sq S k9).2 : Nat) : Int) - (1 : Int)))), (4, .int (nI mr9)), (5, .int (pc_fd (sp_sl S (sp_sq S k9).1 (sp_sq S k9).2 i9))), (6, .int (nI (i9 + 1)))]) hx hb dX8_lines_78 hl (by decide) rfl (fun ls hl => ?_)
                refine lv_iload hx hb dX8_lines_80 (lv_at hl 0 rfl) ?_
                refine jn (tgt := 122) (rest := []) (fun v9 => v9 = (if x_78 = 0 then ((pc_fd (sp_sl S (sp_sq S k9).1 (sp_sq S k9).2 i9))) else (if ((pc_fd (sp_sl S (sp_sq S k9).1 (sp_sq S k9).2 i9))) = ((iZ (-4))) then ((nI (i9 + 1))) else (if (S.2.1 5 (sp_sl S (sp_sq S k9).1 (sp_sq S k9).2 i9)) ≤ (S.2.1 5 (i9 + 1)) then ((pc_fd (sp_sl S (sp_sq S k9).1 (sp_sq S k9).2 i9))) else ((nI (i9 + 1))))))) (fun x_122 ex_122 => ?_) (fun k_122 => ?_)
                · skip
                  refine lv_istore (lv' := [(5, .int x_122), (7, .int (nI x_78)), (0, .ref g.2.2.2.1), (1, .int (nI k9)), (2, .int (iZ ((((sp_sq S k9).1 : Nat) : Int) - (1 : Int)))), (3, .int (iZ ((((sp_sq S k9).2 : Nat) : Int) - (1 : Int)))), (4, .int (nI mr9)), (6, .int (nI (i9 + 1)))]) hx hb dX8_lines_122 hl (by decide) rfl (fun ls hl => ?_)
                  refine lv_iinc (v := (nI (i9 + 1 + 1))) (lv' := [(6, .int (nI (i9 + 1 + 1))), (5, .int x_122), (7, .int (nI x_78)), (0, .ref g.2.2.2.1), (1, .int (nI k9)), (2, .int (iZ ((((sp_sq S k9).1 : Nat) : Int) - (1 : Int)))), (3, .int (iZ ((((sp_sq S k9).2 : Nat) : Int) - (1 : Int)))), (4, .int (nI mr9))]) hx hb dX8_lines_124 hl (k := 7) rfl (by first | exact nI_1 _ | (rw [show Int32.ofInt 1 = nI 1 from by decide, nI_add])) (by decide) rfl (fun ls hl => ?_)
                  refine lv_goto (tgt := 21) hx hb dX8_lines_127 (by decide) ?_
                  rw [sl_s (by omega) ex_78 ex_122] at hl
                  exact ih_21 (i9 + 1) (by omega) (by omega) ls (lv_sub hl [3, 4, 5, 6, 7, 1, 0] rfl)
                · skip
                  refine n_if_eq (tgt := 120) hx hb dX8_lines_82 (by decide) (by omega) (fun c_82_9 => ?_) (fun c_82_9 => ?_)
                  · skip
                    refine lv_iload hx hb dX8_lines_120 (lv_at hl 6 rfl) ?_
                    exact k_122 _ (by simp only [if_pos c_82_9])
                  · skip
                    refine lv_iload hx hb dX8_lines_85 (lv_at hl 6 rfl) ?_
                    refine lv_bipush (v := (iZ (-4))) hx hb dX8_lines_87 (by decide) ?_
                    refine lv_icmp_eq (tgt := 115) hx hb dX8_lines_89 (by decide) (fun c_89_10 => ?_) (fun c_89_10 => ?_)
                    · skip
                      refine lv_iload hx hb dX8_lines_115 (lv_at hl 7 rfl) ?_
                      refine lv_goto (tgt := 122) hx hb dX8_lines_117 (by decide) ?_
                      exact k_122 _ (by simp only [if_neg c_82_9, if_pos c_89_10])
                    · skip
                      refine lv_aload_n hx hb dX8_lines_92 rfl (lv_at hl 1 rfl) ?_
                      refine rg_5 X w.1 dX8_lines_93 ?_
                      refine lv_bipush (v := (nI 8)) hx hb dX8_lines_96 (by decide) ?_
                      refine lv_iload hx hb dX8_lines_98 (lv_at hl 7 rfl) ?_
                      refine n_iadd hx hb dX8_lines_100 ?_
                      refine rn_5 X w.1 (by omega) dX8_lines_101 ?_
                      refine tp_i (show zz.2.1 5 (8 + (i9 + 1)) = (nI (S.2.1 5 (i9 + 1))) from (congrFun (hfz.2.1 5 (by decide)) _).trans (hco (i9 + 1) (by omega))) ?_
                      refine lv_aload_n hx hb dX8_lines_102 rfl (lv_at hl 1 rfl) ?_
                      refine rg_5 X w.1 dX8_lines_103 ?_
                      refine lv_bipush (v := (nI 8)) hx hb dX8_lines_106 (by decide) ?_
                      refine lv_iload hx hb dX8_lines_108 (lv_at hl 6 rfl) ?_
                      refine tp_i (pc_fd_n (by assumption) : (pc_fd (sp_sl S (sp_sq S k9).1 (sp_sq S k9).2 i9)) = (nI (sp_sl S (sp_sq S k9).1 (sp_sq S k9).2 i9))) ?_
                      refine n_iadd hx hb dX8_lines_110 ?_
                      refine rn_5 X w.1 (by omega) dX8_lines_111 ?_
                      refine tp_i (show zz.2.1 5 (8 + (sp_sl S (sp_sq S k9).1 (sp_sq S k9).2 i9)) = (nI (S.2.1 5 (sp_sl S (sp_sq S k9).1 (sp_sq S k9).2 i9))) from (congrFun (hfz.2.1 5 (by decide)) _).trans (hco (sp_sl S (sp_sq S k9).1 (sp_sq S k9).2 i9) (by omega))) ?_
                      refine n_icmp_ge (tgt := 120) hx hb dX8_lines_112 (by decide) (by omega) (by omega) (fun c_112_11 => ?_) (fun c_112_11 => ?_)
                      · skip
                        refine lv_iload hx hb dX8_lines_120 (lv_at hl 6 rfl) ?_
                        exact k_122 _ (by simp only [if_neg c_82_9, if_neg c_89_10, if_pos c_112_11])
                      · skip
                        refine lv_iload hx hb dX8_lines_115 (lv_at hl 7 rfl) ?_
                        refine lv_goto (tgt := 122) hx hb dX8_lines_117 (by decide) ?_
                        exact k_122 _ (by simp only [if_neg c_82_9, if_neg c_89_10, if_neg c_112_11])
              · skip
                refine n_if_ne (tgt := 77) hx hb dX8_lines_36 (by decide) (by omega) (fun c_36_12 => ?_) (fun c_36_12 => ?_)
                · skip
                  refine lv_iconst (v := (nI 0)) hx hb dX8_lines_77 (by decide) ?_
                  exact k_78 _ ⟨_, by simp only [if_neg c_36_12], rfl⟩
                · skip
                  refine lv_aload_n hx hb dX8_lines_39 rfl (lv_at hl 0 rfl) ?_
                  refine rg_5 X w.1 dX8_lines_40 ?_
                  refine lv_bipush (v := (nI 8)) hx hb dX8_lines_43 (by decide) ?_
                  refine lv_iload hx hb dX8_lines_45 (lv_at hl 6 rfl) ?_
                  refine n_iadd hx hb dX8_lines_47 ?_
                  refine rn_5 X w.1 (by omega) dX8_lines_48 ?_
                  refine tp_i (show zz.2.1 5 (8 + (i9 + 1)) = (nI (S.2.1 5 (i9 + 1))) from (congrFun (hfz.2.1 5 (by decide)) _).trans (hco (i9 + 1) (by omega))) ?_
                  refine lv_iload_n hx hb dX8_lines_49 rfl (lv_at hl 2 rfl) ?_
                  refine tp_i2 (iZ_n (S.2.1 5 (i9 + 1))).symm ?_
                  refine z_icmp_gt (tgt := 73) hx hb dX8_lines_50 (by decide) (by omega) (by omega) (by omega) (by omega) (fun c_50_13 => ?_) (fun c_50_13 => ?_)
                  · skip
                    refine lv_iconst (v := (nI 1)) hx hb dX8_lines_73 (by decide) ?_
                    refine lv_goto (tgt := 78) hx hb dX8_lines_74 (by decide) ?_
                    exact k_78 _ ⟨_, by simp only [if_pos c_36_12, if_pos c_50_13], rfl⟩
                  · skip
                    refine lv_aload_n hx hb dX8_lines_53 rfl (lv_at hl 0 rfl) ?_
                    refine rg_5 X w.1 dX8_lines_54 ?_
                    refine lv_bipush (v := (nI 8)) hx hb dX8_lines_57 (by decide) ?_
                    refine lv_iload hx hb dX8_lines_59 (lv_at hl 6 rfl) ?_
                    refine n_iadd hx hb dX8_lines_61 ?_
                    refine rn_5 X w.1 (by omega) dX8_lines_62 ?_
                    refine tp_i (show zz.2.1 5 (8 + (i9 + 1)) = (nI (S.2.1 5 (i9 + 1))) from (congrFun (hfz.2.1 5 (by decide)) _).trans (hco (i9 + 1) (by omega))) ?_
                    refine lv_iload_n hx hb dX8_lines_63 rfl (lv_at hl 2 rfl) ?_
                    refine tp_i2 (iZ_n (S.2.1 5 (i9 + 1))).symm ?_
                    refine z_icmp_ne (tgt := 77) hx hb dX8_lines_64 (by decide) (by omega) (by omega) (by omega) (by omega) (fun c_64_14 => ?_) (fun c_64_14 => ?_)
                    · skip
                      refine lv_iconst (v := (nI 0)) hx hb dX8_lines_77 (by decide) ?_
                      exact k_78 _ ⟨_, by simp only [if_pos c_36_12, if_neg c_50_13, if_neg c_64_14], rfl⟩
                    · skip
                      refine lv_iload hx hb dX8_lines_67 (lv_at hl 6 rfl) ?_
                      refine lv_iload_n hx hb dX8_lines_69 rfl (lv_at hl 3 rfl) ?_
                      refine tp_i2 (iZ_n (i9 + 1)).symm ?_
                      refine z_icmp_le (tgt := 77) hx hb dX8_lines_70 (by decide) (by omega) (by omega) (by omega) (by omega) (fun c_70_15 => ?_) (fun c_70_15 => ?_)
                      · skip
                        refine lv_iconst (v := (nI 0)) hx hb dX8_lines_77 (by decide) ?_
                        exact k_78 _ ⟨_, by simp only [if_pos c_36_12, if_neg c_50_13, if_pos c_64_14, if_pos c_70_15], rfl⟩
                      · skip
                        refine lv_iconst (v := (nI 1)) hx hb dX8_lines_73 (by decide) ?_
                        refine lv_goto (tgt := 78) hx hb dX8_lines_74 (by decide) ?_
                        exact k_78 _ ⟨_, by simp only [if_pos c_36_12, if_neg c_50_13, if_pos c_64_14, if_neg c_70_15], rfl⟩
        exact lp_21 _ 0 (Nat.zero_le _) (Nat.lt_succ_self _) ls (lv_sub hl [2, 3, 4, 5, 6, 1, 0] rfl)
  exact lp_9 _ 0 1 (by omega) rfl (Nat.lt_succ_self _) ls z _ _ w (rFr_rf _ _ _) (fun j hj => absurd hj (by omega)) (lv_sub hl [4, 3, 2, 1, 0] rfl)
end
