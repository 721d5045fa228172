section
-- ===== PART A: goes FIRST, ahead of the names: the tables' words, and 'selects' of the private methods out of them =====
/-- a private method of a class that the tables say can be made, by its rows of tables_1 -/
def lw_okq (q : MethodName × Nat) : Prop := (q.1.cls ≠ "java/lang/invoke/MethodHandle" ∧ q.1.cls ≠ "java/lang/invoke/VarHandle") ∧ Cond.instantiable q.1.cls q.2 ∈ tables_1 ∧ Cond.privateMethod q.1 ∈ tables_1 ∧ Cond.instanceMethod q.1 ∈ tables_1
theorem lw_p0 : lw_okq (⟨"RunningThree$Scene", "momentsOut", "(II)I"⟩, 13) := ⟨⟨by decide +kernel, by decide +kernel⟩, List.mem_of_getElem? (i := 26) (by decide +kernel), List.mem_of_getElem? (i := 308) (by decide +kernel), List.mem_of_getElem? (i := 309) (by decide +kernel)⟩
theorem lw_p1 : lw_okq (⟨"RunningThree$Scene", "cellBehindTurn", "(I)I"⟩, 13) := ⟨⟨by decide +kernel, by decide +kernel⟩, List.mem_of_getElem? (i := 26) (by decide +kernel), List.mem_of_getElem? (i := 330) (by decide +kernel), List.mem_of_getElem? (i := 331) (by decide +kernel)⟩
theorem lw_p2 : lw_okq (⟨"RunningThree$FieldText", "readGround", "()Z"⟩, 4) := ⟨⟨by decide +kernel, by decide +kernel⟩, List.mem_of_getElem? (i := 127) (by decide +kernel), List.mem_of_getElem? (i := 384) (by decide +kernel), List.mem_of_getElem? (i := 385) (by decide +kernel)⟩
theorem lw_p3 : lw_okq (⟨"RunningThree$FieldText", "peek", "()I"⟩, 4) := ⟨⟨by decide +kernel, by decide +kernel⟩, List.mem_of_getElem? (i := 127) (by decide +kernel), List.mem_of_getElem? (i := 389) (by decide +kernel), List.mem_of_getElem? (i := 390) (by decide +kernel)⟩
theorem lw_p4 : lw_okq (⟨"RunningThree$FieldText", "take", "(I)Z"⟩, 4) := ⟨⟨by decide +kernel, by decide +kernel⟩, List.mem_of_getElem? (i := 127) (by decide +kernel), List.mem_of_getElem? (i := 482) (by decide +kernel), List.mem_of_getElem? (i := 483) (by decide +kernel)⟩
theorem lw_p5 : lw_okq (⟨"RunningThree$FieldText", "readFighters", "()Z"⟩, 4) := ⟨⟨by decide +kernel, by decide +kernel⟩, List.mem_of_getElem? (i := 127) (by decide +kernel), List.mem_of_getElem? (i := 486) (by decide +kernel), List.mem_of_getElem? (i := 487) (by decide +kernel)⟩
theorem lw_p6 : lw_okq (⟨"RunningThree$FieldText", "readFighter", "()Z"⟩, 4) := ⟨⟨by decide +kernel, by decide +kernel⟩, List.mem_of_getElem? (i := 127) (by decide +kernel), List.mem_of_getElem? (i := 490) (by decide +kernel), List.mem_of_getElem? (i := 491) (by decide +kernel)⟩
theorem lw_p7 : lw_okq (⟨"RunningThree$FieldText", "takeDigit", "(II)I"⟩, 4) := ⟨⟨by decide +kernel, by decide +kernel⟩, List.mem_of_getElem? (i := 127) (by decide +kernel), List.mem_of_getElem? (i := 495) (by decide +kernel), List.mem_of_getElem? (i := 496) (by decide +kernel)⟩
theorem lw_p8 : lw_okq (⟨"RunningThree$Scene", "firstThere", "()I"⟩, 13) := ⟨⟨by decide +kernel, by decide +kernel⟩, List.mem_of_getElem? (i := 26) (by decide +kernel), List.mem_of_getElem? (i := 547) (by decide +kernel), List.mem_of_getElem? (i := 548) (by decide +kernel)⟩
theorem lw_p9 : lw_okq (⟨"RunningThree$Scene", "isThere", "(I)Z"⟩, 13) := ⟨⟨by decide +kernel, by decide +kernel⟩, List.mem_of_getElem? (i := 26) (by decide +kernel), List.mem_of_getElem? (i := 551) (by decide +kernel), List.mem_of_getElem? (i := 552) (by decide +kernel)⟩
theorem lw_p10 : lw_okq (⟨"RunningThree$Scene", "countThere", "()I"⟩, 13) := ⟨⟨by decide +kernel, by decide +kernel⟩, List.mem_of_getElem? (i := 26) (by decide +kernel), List.mem_of_getElem? (i := 556) (by decide +kernel), List.mem_of_getElem? (i := 557) (by decide +kernel)⟩
theorem lw_p11 : lw_okq (⟨"RunningThree$Scene", "drawOfSixteen", "()I"⟩, 13) := ⟨⟨by decide +kernel, by decide +kernel⟩, List.mem_of_getElem? (i := 26) (by decide +kernel), List.mem_of_getElem? (i := 563) (by decide +kernel), List.mem_of_getElem? (i := 564) (by decide +kernel)⟩
theorem lw_p12 : lw_okq (⟨"RunningThree", "runOn", "()I"⟩, 8) := ⟨⟨by decide +kernel, by decide +kernel⟩, List.mem_of_getElem? (i := 18) (by decide +kernel), List.mem_of_getElem? (i := 570) (by decide +kernel), List.mem_of_getElem? (i := 571) (by decide +kernel)⟩
theorem lw_p13 : lw_okq (⟨"RunningThree", "mayTurn", "()Z"⟩, 8) := ⟨⟨by decide +kernel, by decide +kernel⟩, List.mem_of_getElem? (i := 18) (by decide +kernel), List.mem_of_getElem? (i := 596) (by decide +kernel), List.mem_of_getElem? (i := 597) (by decide +kernel)⟩
theorem lw_p14 : lw_okq (⟨"RunningThree$Chances", "putInOrder", "(LRunningThree$Scene;)V"⟩, 12) := ⟨⟨by decide +kernel, by decide +kernel⟩, List.mem_of_getElem? (i := 158) (by decide +kernel), List.mem_of_getElem? (i := 650) (by decide +kernel), List.mem_of_getElem? (i := 651) (by decide +kernel)⟩
theorem lw_p15 : lw_okq (⟨"RunningThree$Chances", "tellWaits", "(I)V"⟩, 12) := ⟨⟨by decide +kernel, by decide +kernel⟩, List.mem_of_getElem? (i := 158) (by decide +kernel), List.mem_of_getElem? (i := 656) (by decide +kernel), List.mem_of_getElem? (i := 657) (by decide +kernel)⟩
def lw_privs_1 : List (MethodName × Nat) := [(⟨"RunningThree$Scene", "momentsOut", "(II)I"⟩, 13), (⟨"RunningThree$Scene", "cellBehindTurn", "(I)I"⟩, 13), (⟨"RunningThree$FieldText", "readGround", "()Z"⟩, 4), (⟨"RunningThree$FieldText", "peek", "()I"⟩, 4), (⟨"RunningThree$FieldText", "take", "(I)Z"⟩, 4), (⟨"RunningThree$FieldText", "readFighters", "()Z"⟩, 4), (⟨"RunningThree$FieldText", "readFighter", "()Z"⟩, 4), (⟨"RunningThree$FieldText", "takeDigit", "(II)I"⟩, 4), (⟨"RunningThree$Scene", "firstThere", "()I"⟩, 13), (⟨"RunningThree$Scene", "isThere", "(I)Z"⟩, 13), (⟨"RunningThree$Scene", "countThere", "()I"⟩, 13), (⟨"RunningThree$Scene", "drawOfSixteen", "()I"⟩, 13), (⟨"RunningThree", "runOn", "()I"⟩, 8), (⟨"RunningThree", "mayTurn", "()Z"⟩, 8), (⟨"RunningThree$Chances", "putInOrder", "(LRunningThree$Scene;)V"⟩, 12), (⟨"RunningThree$Chances", "tellWaits", "(I)V"⟩, 12)]
theorem lw_r1 : ∀ q ∈ lw_privs_1, lw_okq q := List.forall_mem_cons.mpr ⟨lw_p0, List.forall_mem_cons.mpr ⟨lw_p1, List.forall_mem_cons.mpr ⟨lw_p2, List.forall_mem_cons.mpr ⟨lw_p3, List.forall_mem_cons.mpr ⟨lw_p4, List.forall_mem_cons.mpr ⟨lw_p5, List.forall_mem_cons.mpr ⟨lw_p6, List.forall_mem_cons.mpr ⟨lw_p7, List.forall_mem_cons.mpr ⟨lw_p8, List.forall_mem_cons.mpr ⟨lw_p9, List.forall_mem_cons.mpr ⟨lw_p10, List.forall_mem_cons.mpr ⟨lw_p11, List.forall_mem_cons.mpr ⟨lw_p12, List.forall_mem_cons.mpr ⟨lw_p13, List.forall_mem_cons.mpr ⟨lw_p14, List.forall_mem_cons.mpr ⟨lw_p15, fun _ h => absurd h List.not_mem_nil⟩⟩⟩⟩⟩⟩⟩⟩⟩⟩⟩⟩⟩⟩⟩⟩
theorem lw_p16 : lw_okq (⟨"RunningThree$Chances", "keyOf", "()I"⟩, 12) := ⟨⟨by decide +kernel, by decide +kernel⟩, List.mem_of_getElem? (i := 158) (by decide +kernel), List.mem_of_getElem? (i := 662) (by decide +kernel), List.mem_of_getElem? (i := 663) (by decide +kernel)⟩
theorem lw_p17 : lw_okq (⟨"RunningThree$Chances", "foldBack", "(LRunningThree$Scene;)I"⟩, 12) := ⟨⟨by decide +kernel, by decide +kernel⟩, List.mem_of_getElem? (i := 158) (by decide +kernel), List.mem_of_getElem? (i := 666) (by decide +kernel), List.mem_of_getElem? (i := 667) (by decide +kernel)⟩
theorem lw_p18 : lw_okq (⟨"RunningThree$Chances", "tellForces", "(LRunningThree$Scene;)V"⟩, 12) := ⟨⟨by decide +kernel, by decide +kernel⟩, List.mem_of_getElem? (i := 158) (by decide +kernel), List.mem_of_getElem? (i := 670) (by decide +kernel), List.mem_of_getElem? (i := 671) (by decide +kernel)⟩
theorem lw_p19 : lw_okq (⟨"RunningThree$Chances", "tellIdle", "()V"⟩, 12) := ⟨⟨by decide +kernel, by decide +kernel⟩, List.mem_of_getElem? (i := 158) (by decide +kernel), List.mem_of_getElem? (i := 675) (by decide +kernel), List.mem_of_getElem? (i := 676) (by decide +kernel)⟩
theorem lw_p20 : lw_okq (⟨"RunningThree$Chances", "settleEnds", "(I)V"⟩, 12) := ⟨⟨by decide +kernel, by decide +kernel⟩, List.mem_of_getElem? (i := 158) (by decide +kernel), List.mem_of_getElem? (i := 679) (by decide +kernel), List.mem_of_getElem? (i := 680) (by decide +kernel)⟩
theorem lw_p21 : lw_okq (⟨"RunningThree$Chances", "leastHurt", "(IIII)I"⟩, 12) := ⟨⟨by decide +kernel, by decide +kernel⟩, List.mem_of_getElem? (i := 158) (by decide +kernel), List.mem_of_getElem? (i := 683) (by decide +kernel), List.mem_of_getElem? (i := 684) (by decide +kernel)⟩
theorem lw_p22 : lw_okq (⟨"RunningThree$Chances", "fold", "(III)V"⟩, 12) := ⟨⟨by decide +kernel, by decide +kernel⟩, List.mem_of_getElem? (i := 158) (by decide +kernel), List.mem_of_getElem? (i := 687) (by decide +kernel), List.mem_of_getElem? (i := 688) (by decide +kernel)⟩
theorem lw_p23 : lw_okq (⟨"RunningThree$Chances", "foldMoment", "(II)V"⟩, 12) := ⟨⟨by decide +kernel, by decide +kernel⟩, List.mem_of_getElem? (i := 158) (by decide +kernel), List.mem_of_getElem? (i := 692) (by decide +kernel), List.mem_of_getElem? (i := 693) (by decide +kernel)⟩
theorem lw_p24 : lw_okq (⟨"RunningThree$Chances", "countThere", "(I)I"⟩, 12) := ⟨⟨by decide +kernel, by decide +kernel⟩, List.mem_of_getElem? (i := 158) (by decide +kernel), List.mem_of_getElem? (i := 696) (by decide +kernel), List.mem_of_getElem? (i := 697) (by decide +kernel)⟩
theorem lw_p25 : lw_okq (⟨"RunningThree$Foretelling", "winsOne", "()Z"⟩, 3) := ⟨⟨by decide +kernel, by decide +kernel⟩, List.mem_of_getElem? (i := 150) (by decide +kernel), List.mem_of_getElem? (i := 768) (by decide +kernel), List.mem_of_getElem? (i := 769) (by decide +kernel)⟩
theorem lw_p26 : lw_okq (⟨"RunningThree", "areSightings", "(LRunningThree$Sheet;II)Z"⟩, 8) := ⟨⟨by decide +kernel, by decide +kernel⟩, List.mem_of_getElem? (i := 18) (by decide +kernel), List.mem_of_getElem? (i := 814) (by decide +kernel), List.mem_of_getElem? (i := 815) (by decide +kernel)⟩
theorem lw_p27 : lw_okq (⟨"RunningThree", "strodeSo", "(IILRunningThree$Sheet;II)Z"⟩, 8) := ⟨⟨by decide +kernel, by decide +kernel⟩, List.mem_of_getElem? (i := 18) (by decide +kernel), List.mem_of_getElem? (i := 823) (by decide +kernel), List.mem_of_getElem? (i := 824) (by decide +kernel)⟩
theorem lw_p28 : lw_okq (⟨"RunningThree", "lastFarTurn", "()I"⟩, 8) := ⟨⟨by decide +kernel, by decide +kernel⟩, List.mem_of_getElem? (i := 18) (by decide +kernel), List.mem_of_getElem? (i := 833) (by decide +kernel), List.mem_of_getElem? (i := 834) (by decide +kernel)⟩
theorem lw_p29 : lw_okq (⟨"RunningThree", "turnsThatFit", "(LRunningThree$Sheet;II)I"⟩, 8) := ⟨⟨by decide +kernel, by decide +kernel⟩, List.mem_of_getElem? (i := 18) (by decide +kernel), List.mem_of_getElem? (i := 838) (by decide +kernel), List.mem_of_getElem? (i := 839) (by decide +kernel)⟩
theorem lw_p30 : lw_okq (⟨"RunningThree", "comeAsTold", "(ILRunningThree$Sheet;I)Z"⟩, 8) := ⟨⟨by decide +kernel, by decide +kernel⟩, List.mem_of_getElem? (i := 18) (by decide +kernel), List.mem_of_getElem? (i := 842) (by decide +kernel), List.mem_of_getElem? (i := 843) (by decide +kernel)⟩
theorem lw_p31 : lw_okq (⟨"RunningThree", "firstTurnThatFits", "(LRunningThree$Sheet;II)I"⟩, 8) := ⟨⟨by decide +kernel, by decide +kernel⟩, List.mem_of_getElem? (i := 18) (by decide +kernel), List.mem_of_getElem? (i := 848) (by decide +kernel), List.mem_of_getElem? (i := 849) (by decide +kernel)⟩
def lw_privs_2 : List (MethodName × Nat) := [(⟨"RunningThree$Chances", "keyOf", "()I"⟩, 12), (⟨"RunningThree$Chances", "foldBack", "(LRunningThree$Scene;)I"⟩, 12), (⟨"RunningThree$Chances", "tellForces", "(LRunningThree$Scene;)V"⟩, 12), (⟨"RunningThree$Chances", "tellIdle", "()V"⟩, 12), (⟨"RunningThree$Chances", "settleEnds", "(I)V"⟩, 12), (⟨"RunningThree$Chances", "leastHurt", "(IIII)I"⟩, 12), (⟨"RunningThree$Chances", "fold", "(III)V"⟩, 12), (⟨"RunningThree$Chances", "foldMoment", "(II)V"⟩, 12), (⟨"RunningThree$Chances", "countThere", "(I)I"⟩, 12), (⟨"RunningThree$Foretelling", "winsOne", "()Z"⟩, 3), (⟨"RunningThree", "areSightings", "(LRunningThree$Sheet;II)Z"⟩, 8), (⟨"RunningThree", "strodeSo", "(IILRunningThree$Sheet;II)Z"⟩, 8), (⟨"RunningThree", "lastFarTurn", "()I"⟩, 8), (⟨"RunningThree", "turnsThatFit", "(LRunningThree$Sheet;II)I"⟩, 8), (⟨"RunningThree", "comeAsTold", "(ILRunningThree$Sheet;I)Z"⟩, 8), (⟨"RunningThree", "firstTurnThatFits", "(LRunningThree$Sheet;II)I"⟩, 8)]
theorem lw_r2 : ∀ q ∈ lw_privs_2, lw_okq q := List.forall_mem_cons.mpr ⟨lw_p16, List.forall_mem_cons.mpr ⟨lw_p17, List.forall_mem_cons.mpr ⟨lw_p18, List.forall_mem_cons.mpr ⟨lw_p19, List.forall_mem_cons.mpr ⟨lw_p20, List.forall_mem_cons.mpr ⟨lw_p21, List.forall_mem_cons.mpr ⟨lw_p22, List.forall_mem_cons.mpr ⟨lw_p23, List.forall_mem_cons.mpr ⟨lw_p24, List.forall_mem_cons.mpr ⟨lw_p25, List.forall_mem_cons.mpr ⟨lw_p26, List.forall_mem_cons.mpr ⟨lw_p27, List.forall_mem_cons.mpr ⟨lw_p28, List.forall_mem_cons.mpr ⟨lw_p29, List.forall_mem_cons.mpr ⟨lw_p30, List.forall_mem_cons.mpr ⟨lw_p31, fun _ h => absurd h List.not_mem_nil⟩⟩⟩⟩⟩⟩⟩⟩⟩⟩⟩⟩⟩⟩⟩⟩
theorem lw_p32 : lw_okq (⟨"RunningThree$Sheet", "lowestBits", "(J)J"⟩, 3) := ⟨⟨by decide +kernel, by decide +kernel⟩, List.mem_of_getElem? (i := 212) (by decide +kernel), List.mem_of_getElem? (i := 865) (by decide +kernel), List.mem_of_getElem? (i := 866) (by decide +kernel)⟩
theorem lw_p33 : lw_okq (⟨"RunningThreeModel", "isTurned", "()Z"⟩, 30) := ⟨⟨by decide +kernel, by decide +kernel⟩, List.mem_of_getElem? (i := 896) (by decide +kernel), List.mem_of_getElem? (i := 1003) (by decide +kernel), List.mem_of_getElem? (i := 1004) (by decide +kernel)⟩
theorem lw_p34 : lw_okq (⟨"RunningThreeModel", "fighterComes", "(IIII)V"⟩, 30) := ⟨⟨by decide +kernel, by decide +kernel⟩, List.mem_of_getElem? (i := 896) (by decide +kernel), List.mem_of_getElem? (i := 1007) (by decide +kernel), List.mem_of_getElem? (i := 1008) (by decide +kernel)⟩
theorem lw_p35 : lw_okq (⟨"RunningThreeModel", "isFighter", "(I)Z"⟩, 30) := ⟨⟨by decide +kernel, by decide +kernel⟩, List.mem_of_getElem? (i := 896) (by decide +kernel), List.mem_of_getElem? (i := 1016) (by decide +kernel), List.mem_of_getElem? (i := 1017) (by decide +kernel)⟩
theorem lw_p36 : lw_okq (⟨"RunningThreeModel", "hurtOf", "(I)I"⟩, 30) := ⟨⟨by decide +kernel, by decide +kernel⟩, List.mem_of_getElem? (i := 896) (by decide +kernel), List.mem_of_getElem? (i := 1020) (by decide +kernel), List.mem_of_getElem? (i := 1021) (by decide +kernel)⟩
theorem lw_p37 : lw_okq (⟨"RunningThreeModel", "force", "(II)I"⟩, 30) := ⟨⟨by decide +kernel, by decide +kernel⟩, List.mem_of_getElem? (i := 896) (by decide +kernel), List.mem_of_getElem? (i := 1024) (by decide +kernel), List.mem_of_getElem? (i := 1025) (by decide +kernel)⟩
theorem lw_p38 : lw_okq (⟨"RunningThreeModel", "place", "(I)I"⟩, 30) := ⟨⟨by decide +kernel, by decide +kernel⟩, List.mem_of_getElem? (i := 896) (by decide +kernel), List.mem_of_getElem? (i := 1028) (by decide +kernel), List.mem_of_getElem? (i := 1029) (by decide +kernel)⟩
theorem lw_p39 : lw_okq (⟨"RunningThreeModel", "runs", "(I)I"⟩, 30) := ⟨⟨by decide +kernel, by decide +kernel⟩, List.mem_of_getElem? (i := 896) (by decide +kernel), List.mem_of_getElem? (i := 1032) (by decide +kernel), List.mem_of_getElem? (i := 1033) (by decide +kernel)⟩
theorem lw_p40 : lw_okq (⟨"RunningThreeModel", "isDown", "(I)Z"⟩, 30) := ⟨⟨by decide +kernel, by decide +kernel⟩, List.mem_of_getElem? (i := 896) (by decide +kernel), List.mem_of_getElem? (i := 1036) (by decide +kernel), List.mem_of_getElem? (i := 1037) (by decide +kernel)⟩
theorem lw_p41 : lw_okq (⟨"RunningThreeModel", "pointsOf", "(III)I"⟩, 30) := ⟨⟨by decide +kernel, by decide +kernel⟩, List.mem_of_getElem? (i := 896) (by decide +kernel), List.mem_of_getElem? (i := 1040) (by decide +kernel), List.mem_of_getElem? (i := 1041) (by decide +kernel)⟩
theorem lw_p42 : lw_okq (⟨"RunningThreeModel", "farthest", "(I)I"⟩, 30) := ⟨⟨by decide +kernel, by decide +kernel⟩, List.mem_of_getElem? (i := 896) (by decide +kernel), List.mem_of_getElem? (i := 1044) (by decide +kernel), List.mem_of_getElem? (i := 1045) (by decide +kernel)⟩
theorem lw_p43 : lw_okq (⟨"RunningThreeModel", "costOf", "(I)I"⟩, 30) := ⟨⟨by decide +kernel, by decide +kernel⟩, List.mem_of_getElem? (i := 896) (by decide +kernel), List.mem_of_getElem? (i := 1065) (by decide +kernel), List.mem_of_getElem? (i := 1066) (by decide +kernel)⟩
theorem lw_p44 : lw_okq (⟨"RunningThreeModel", "here", "()I"⟩, 30) := ⟨⟨by decide +kernel, by decide +kernel⟩, List.mem_of_getElem? (i := 896) (by decide +kernel), List.mem_of_getElem? (i := 1084) (by decide +kernel), List.mem_of_getElem? (i := 1085) (by decide +kernel)⟩
theorem lw_p45 : lw_okq (⟨"RunningThreeModel", "sign", "()I"⟩, 30) := ⟨⟨by decide +kernel, by decide +kernel⟩, List.mem_of_getElem? (i := 896) (by decide +kernel), List.mem_of_getElem? (i := 1088) (by decide +kernel), List.mem_of_getElem? (i := 1089) (by decide +kernel)⟩
theorem lw_p46 : lw_okq (⟨"RunningThreeModel", "has", "(I)Z"⟩, 30) := ⟨⟨by decide +kernel, by decide +kernel⟩, List.mem_of_getElem? (i := 896) (by decide +kernel), List.mem_of_getElem? (i := 1092) (by decide +kernel), List.mem_of_getElem? (i := 1093) (by decide +kernel)⟩
theorem lw_p47 : lw_okq (⟨"RunningThreeModel", "readFighter", "()V"⟩, 30) := ⟨⟨by decide +kernel, by decide +kernel⟩, List.mem_of_getElem? (i := 896) (by decide +kernel), List.mem_of_getElem? (i := 1096) (by decide +kernel), List.mem_of_getElem? (i := 1097) (by decide +kernel)⟩
def lw_privs_3 : List (MethodName × Nat) := [(⟨"RunningThree$Sheet", "lowestBits", "(J)J"⟩, 3), (⟨"RunningThreeModel", "isTurned", "()Z"⟩, 30), (⟨"RunningThreeModel", "fighterComes", "(IIII)V"⟩, 30), (⟨"RunningThreeModel", "isFighter", "(I)Z"⟩, 30), (⟨"RunningThreeModel", "hurtOf", "(I)I"⟩, 30), (⟨"RunningThreeModel", "force", "(II)I"⟩, 30), (⟨"RunningThreeModel", "place", "(I)I"⟩, 30), (⟨"RunningThreeModel", "runs", "(I)I"⟩, 30), (⟨"RunningThreeModel", "isDown", "(I)Z"⟩, 30), (⟨"RunningThreeModel", "pointsOf", "(III)I"⟩, 30), (⟨"RunningThreeModel", "farthest", "(I)I"⟩, 30), (⟨"RunningThreeModel", "costOf", "(I)I"⟩, 30), (⟨"RunningThreeModel", "here", "()I"⟩, 30), (⟨"RunningThreeModel", "sign", "()I"⟩, 30), (⟨"RunningThreeModel", "has", "(I)Z"⟩, 30), (⟨"RunningThreeModel", "readFighter", "()V"⟩, 30)]
theorem lw_r3 : ∀ q ∈ lw_privs_3, lw_okq q := List.forall_mem_cons.mpr ⟨lw_p32, List.forall_mem_cons.mpr ⟨lw_p33, List.forall_mem_cons.mpr ⟨lw_p34, List.forall_mem_cons.mpr ⟨lw_p35, List.forall_mem_cons.mpr ⟨lw_p36, List.forall_mem_cons.mpr ⟨lw_p37, List.forall_mem_cons.mpr ⟨lw_p38, List.forall_mem_cons.mpr ⟨lw_p39, List.forall_mem_cons.mpr ⟨lw_p40, List.forall_mem_cons.mpr ⟨lw_p41, List.forall_mem_cons.mpr ⟨lw_p42, List.forall_mem_cons.mpr ⟨lw_p43, List.forall_mem_cons.mpr ⟨lw_p44, List.forall_mem_cons.mpr ⟨lw_p45, List.forall_mem_cons.mpr ⟨lw_p46, List.forall_mem_cons.mpr ⟨lw_p47, fun _ h => absurd h List.not_mem_nil⟩⟩⟩⟩⟩⟩⟩⟩⟩⟩⟩⟩⟩⟩⟩⟩
theorem lw_p48 : lw_okq (⟨"RunningThreeModel", "digit", "(II)I"⟩, 30) := ⟨⟨by decide +kernel, by decide +kernel⟩, List.mem_of_getElem? (i := 896) (by decide +kernel), List.mem_of_getElem? (i := 1100) (by decide +kernel), List.mem_of_getElem? (i := 1101) (by decide +kernel)⟩
theorem lw_p49 : lw_okq (⟨"RunningThreeModel", "down", "()I"⟩, 30) := ⟨⟨by decide +kernel, by decide +kernel⟩, List.mem_of_getElem? (i := 896) (by decide +kernel), List.mem_of_getElem? (i := 1108) (by decide +kernel), List.mem_of_getElem? (i := 1109) (by decide +kernel)⟩
theorem lw_p50 : lw_okq (⟨"RunningThreeModel", "over", "()I"⟩, 30) := ⟨⟨by decide +kernel, by decide +kernel⟩, List.mem_of_getElem? (i := 896) (by decide +kernel), List.mem_of_getElem? (i := 1112) (by decide +kernel), List.mem_of_getElem? (i := 1113) (by decide +kernel)⟩
theorem lw_p51 : lw_okq (⟨"RunningThreeModel", "notes", "()V"⟩, 30) := ⟨⟨by decide +kernel, by decide +kernel⟩, List.mem_of_getElem? (i := 896) (by decide +kernel), List.mem_of_getElem? (i := 1120) (by decide +kernel), List.mem_of_getElem? (i := 1121) (by decide +kernel)⟩
theorem lw_p52 : lw_okq (⟨"RunningThreeModel", "fights", "()I"⟩, 30) := ⟨⟨by decide +kernel, by decide +kernel⟩, List.mem_of_getElem? (i := 896) (by decide +kernel), List.mem_of_getElem? (i := 1124) (by decide +kernel), List.mem_of_getElem? (i := 1125) (by decide +kernel)⟩
theorem lw_p53 : lw_okq (⟨"RunningThreeModel", "meets", "(I)I"⟩, 30) := ⟨⟨by decide +kernel, by decide +kernel⟩, List.mem_of_getElem? (i := 896) (by decide +kernel), List.mem_of_getElem? (i := 1128) (by decide +kernel), List.mem_of_getElem? (i := 1129) (by decide +kernel)⟩
theorem lw_p54 : lw_okq (⟨"RunningThreeModel", "isCaught", "(I)Z"⟩, 30) := ⟨⟨by decide +kernel, by decide +kernel⟩, List.mem_of_getElem? (i := 896) (by decide +kernel), List.mem_of_getElem? (i := 1138) (by decide +kernel), List.mem_of_getElem? (i := 1139) (by decide +kernel)⟩
theorem lw_p55 : lw_okq (⟨"RunningThreeModel", "pursues", "(II)I"⟩, 30) := ⟨⟨by decide +kernel, by decide +kernel⟩, List.mem_of_getElem? (i := 896) (by decide +kernel), List.mem_of_getElem? (i := 1142) (by decide +kernel), List.mem_of_getElem? (i := 1143) (by decide +kernel)⟩
theorem lw_p56 : lw_okq (⟨"RunningThreeModel", "turns", "(I)V"⟩, 30) := ⟨⟨by decide +kernel, by decide +kernel⟩, List.mem_of_getElem? (i := 896) (by decide +kernel), List.mem_of_getElem? (i := 1146) (by decide +kernel), List.mem_of_getElem? (i := 1147) (by decide +kernel)⟩
theorem lw_p57 : lw_okq (⟨"RunningThreeModel", "comesTo", "(II)I"⟩, 30) := ⟨⟨by decide +kernel, by decide +kernel⟩, List.mem_of_getElem? (i := 896) (by decide +kernel), List.mem_of_getElem? (i := 1150) (by decide +kernel), List.mem_of_getElem? (i := 1151) (by decide +kernel)⟩
theorem lw_p58 : lw_okq (⟨"RunningThreeModel", "chanceOf", "(I)I"⟩, 30) := ⟨⟨by decide +kernel, by decide +kernel⟩, List.mem_of_getElem? (i := 896) (by decide +kernel), List.mem_of_getElem? (i := 1170) (by decide +kernel), List.mem_of_getElem? (i := 1171) (by decide +kernel)⟩
theorem lw_p59 : lw_okq (⟨"RunningThreeModel", "asides", "()V"⟩, 30) := ⟨⟨by decide +kernel, by decide +kernel⟩, List.mem_of_getElem? (i := 896) (by decide +kernel), List.mem_of_getElem? (i := 1174) (by decide +kernel), List.mem_of_getElem? (i := 1175) (by decide +kernel)⟩
theorem lw_p60 : lw_okq (⟨"RunningThreeModel", "likelyBy", "(I)I"⟩, 30) := ⟨⟨by decide +kernel, by decide +kernel⟩, List.mem_of_getElem? (i := 896) (by decide +kernel), List.mem_of_getElem? (i := 1178) (by decide +kernel), List.mem_of_getElem? (i := 1179) (by decide +kernel)⟩
theorem lw_p61 : lw_okq (⟨"RunningThreeModel", "reaches", "(I)V"⟩, 30) := ⟨⟨by decide +kernel, by decide +kernel⟩, List.mem_of_getElem? (i := 896) (by decide +kernel), List.mem_of_getElem? (i := 1182) (by decide +kernel), List.mem_of_getElem? (i := 1183) (by decide +kernel)⟩
theorem lw_p62 : lw_okq (⟨"RunningThreeModel", "likely", "()I"⟩, 30) := ⟨⟨by decide +kernel, by decide +kernel⟩, List.mem_of_getElem? (i := 896) (by decide +kernel), List.mem_of_getElem? (i := 1186) (by decide +kernel), List.mem_of_getElem? (i := 1187) (by decide +kernel)⟩
theorem lw_p63 : lw_okq (⟨"RunningThreeModel", "lines", "()I"⟩, 30) := ⟨⟨by decide +kernel, by decide +kernel⟩, List.mem_of_getElem? (i := 896) (by decide +kernel), List.mem_of_getElem? (i := 1190) (by decide +kernel), List.mem_of_getElem? (i := 1191) (by decide +kernel)⟩
def lw_privs_4 : List (MethodName × Nat) := [(⟨"RunningThreeModel", "digit", "(II)I"⟩, 30), (⟨"RunningThreeModel", "down", "()I"⟩, 30), (⟨"RunningThreeModel", "over", "()I"⟩, 30), (⟨"RunningThreeModel", "notes", "()V"⟩, 30), (⟨"RunningThreeModel", "fights", "()I"⟩, 30), (⟨"RunningThreeModel", "meets", "(I)I"⟩, 30), (⟨"RunningThreeModel", "isCaught", "(I)Z"⟩, 30), (⟨"RunningThreeModel", "pursues", "(II)I"⟩, 30), (⟨"RunningThreeModel", "turns", "(I)V"⟩, 30), (⟨"RunningThreeModel", "comesTo", "(II)I"⟩, 30), (⟨"RunningThreeModel", "chanceOf", "(I)I"⟩, 30), (⟨"RunningThreeModel", "asides", "()V"⟩, 30), (⟨"RunningThreeModel", "likelyBy", "(I)I"⟩, 30), (⟨"RunningThreeModel", "reaches", "(I)V"⟩, 30), (⟨"RunningThreeModel", "likely", "()I"⟩, 30), (⟨"RunningThreeModel", "lines", "()I"⟩, 30)]
theorem lw_r4 : ∀ q ∈ lw_privs_4, lw_okq q := List.forall_mem_cons.mpr ⟨lw_p48, List.forall_mem_cons.mpr ⟨lw_p49, List.forall_mem_cons.mpr ⟨lw_p50, List.forall_mem_cons.mpr ⟨lw_p51, List.forall_mem_cons.mpr ⟨lw_p52, List.forall_mem_cons.mpr ⟨lw_p53, List.forall_mem_cons.mpr ⟨lw_p54, List.forall_mem_cons.mpr ⟨lw_p55, List.forall_mem_cons.mpr ⟨lw_p56, List.forall_mem_cons.mpr ⟨lw_p57, List.forall_mem_cons.mpr ⟨lw_p58, List.forall_mem_cons.mpr ⟨lw_p59, List.forall_mem_cons.mpr ⟨lw_p60, List.forall_mem_cons.mpr ⟨lw_p61, List.forall_mem_cons.mpr ⟨lw_p62, List.forall_mem_cons.mpr ⟨lw_p63, fun _ h => absurd h List.not_mem_nil⟩⟩⟩⟩⟩⟩⟩⟩⟩⟩⟩⟩⟩⟩⟩⟩
theorem lw_p64 : lw_okq (⟨"RunningThreeModel", "fought", "(IIIII[I)I"⟩, 30) := ⟨⟨by decide +kernel, by decide +kernel⟩, List.mem_of_getElem? (i := 896) (by decide +kernel), List.mem_of_getElem? (i := 1195) (by decide +kernel), List.mem_of_getElem? (i := 1196) (by decide +kernel)⟩
theorem lw_p65 : lw_okq (⟨"RunningThreeModel", "aheadOf", "(II)V"⟩, 30) := ⟨⟨by decide +kernel, by decide +kernel⟩, List.mem_of_getElem? (i := 896) (by decide +kernel), List.mem_of_getElem? (i := 1199) (by decide +kernel), List.mem_of_getElem? (i := 1200) (by decide +kernel)⟩
theorem lw_p66 : lw_okq (⟨"RunningThreeModel", "backs", "()V"⟩, 30) := ⟨⟨by decide +kernel, by decide +kernel⟩, List.mem_of_getElem? (i := 896) (by decide +kernel), List.mem_of_getElem? (i := 1203) (by decide +kernel), List.mem_of_getElem? (i := 1204) (by decide +kernel)⟩
theorem lw_p67 : lw_okq (⟨"RunningThreeModel", "isOff", "()Z"⟩, 30) := ⟨⟨by decide +kernel, by decide +kernel⟩, List.mem_of_getElem? (i := 896) (by decide +kernel), List.mem_of_getElem? (i := 1211) (by decide +kernel), List.mem_of_getElem? (i := 1212) (by decide +kernel)⟩
theorem lw_p68 : lw_okq (⟨"RunningThreeModel", "looks", "()V"⟩, 30) := ⟨⟨by decide +kernel, by decide +kernel⟩, List.mem_of_getElem? (i := 896) (by decide +kernel), List.mem_of_getElem? (i := 1215) (by decide +kernel), List.mem_of_getElem? (i := 1216) (by decide +kernel)⟩
theorem lw_p69 : lw_okq (⟨"RunningThreeModel", "isCaughtThen", "(I)Z"⟩, 30) := ⟨⟨by decide +kernel, by decide +kernel⟩, List.mem_of_getElem? (i := 896) (by decide +kernel), List.mem_of_getElem? (i := 1219) (by decide +kernel), List.mem_of_getElem? (i := 1220) (by decide +kernel)⟩
theorem lw_p70 : lw_okq (⟨"RunningThreeModel", "notesRow", "([II)I"⟩, 30) := ⟨⟨by decide +kernel, by decide +kernel⟩, List.mem_of_getElem? (i := 896) (by decide +kernel), List.mem_of_getElem? (i := 1250) (by decide +kernel), List.mem_of_getElem? (i := 1251) (by decide +kernel)⟩
theorem lw_p71 : lw_okq (⟨"RunningThreeModel", "gives", "(I[I)I"⟩, 30) := ⟨⟨by decide +kernel, by decide +kernel⟩, List.mem_of_getElem? (i := 896) (by decide +kernel), List.mem_of_getElem? (i := 1258) (by decide +kernel), List.mem_of_getElem? (i := 1259) (by decide +kernel)⟩
theorem lw_p72 : lw_okq (⟨"RunningThreeModel", "why", "(IIII)I"⟩, 30) := ⟨⟨by decide +kernel, by decide +kernel⟩, List.mem_of_getElem? (i := 896) (by decide +kernel), List.mem_of_getElem? (i := 1273) (by decide +kernel), List.mem_of_getElem? (i := 1274) (by decide +kernel)⟩
theorem lw_p73 : lw_okq (⟨"RunningThreeModel", "puts", "(IIJ)V"⟩, 30) := ⟨⟨by decide +kernel, by decide +kernel⟩, List.mem_of_getElem? (i := 896) (by decide +kernel), List.mem_of_getElem? (i := 1286) (by decide +kernel), List.mem_of_getElem? (i := 1287) (by decide +kernel)⟩
def lw_privs_5 : List (MethodName × Nat) := [(⟨"RunningThreeModel", "fought", "(IIIII[I)I"⟩, 30), (⟨"RunningThreeModel", "aheadOf", "(II)V"⟩, 30), (⟨"RunningThreeModel", "backs", "()V"⟩, 30), (⟨"RunningThreeModel", "isOff", "()Z"⟩, 30), (⟨"RunningThreeModel", "looks", "()V"⟩, 30), (⟨"RunningThreeModel", "isCaughtThen", "(I)Z"⟩, 30), (⟨"RunningThreeModel", "notesRow", "([II)I"⟩, 30), (⟨"RunningThreeModel", "gives", "(I[I)I"⟩, 30), (⟨"RunningThreeModel", "why", "(IIII)I"⟩, 30), (⟨"RunningThreeModel", "puts", "(IIJ)V"⟩, 30)]
theorem lw_r5 : ∀ q ∈ lw_privs_5, lw_okq q := List.forall_mem_cons.mpr ⟨lw_p64, List.forall_mem_cons.mpr ⟨lw_p65, List.forall_mem_cons.mpr ⟨lw_p66, List.forall_mem_cons.mpr ⟨lw_p67, List.forall_mem_cons.mpr ⟨lw_p68, List.forall_mem_cons.mpr ⟨lw_p69, List.forall_mem_cons.mpr ⟨lw_p70, List.forall_mem_cons.mpr ⟨lw_p71, List.forall_mem_cons.mpr ⟨lw_p72, List.forall_mem_cons.mpr ⟨lw_p73, fun _ h => absurd h List.not_mem_nil⟩⟩⟩⟩⟩⟩⟩⟩⟩⟩
def lw_privs : List (MethodName × Nat) := lw_privs_1 ++ (lw_privs_2 ++ (lw_privs_3 ++ (lw_privs_4 ++ (lw_privs_5))))
def lw_tbl : List Cond := k2_sels lw_privs ++ tables_1
theorem lw_privs_ok : ∀ q ∈ lw_privs, lw_okq q := by
  show ∀ q ∈ lw_privs_1 ++ (lw_privs_2 ++ (lw_privs_3 ++ (lw_privs_4 ++ (lw_privs_5)))), lw_okq q
  exact List.forall_mem_append.mpr ⟨lw_r1, List.forall_mem_append.mpr ⟨lw_r2, List.forall_mem_append.mpr ⟨lw_r3, List.forall_mem_append.mpr ⟨lw_r4, lw_r5⟩⟩⟩⟩
-- ===== end of PART A; then your names; then what follows =====
end
section
def RX0 : String := "RunningThree$Chances"
def TX0 : u_T := fun k => match k with
  | 0 => ("RunningThree$Chances", "others", "I", false)
  | 1 => ("RunningThree$Chances", "order", "[I", true)
  | 2 => ("RunningThree$Chances", "coming", "[I", true)
  | 3 => ("RunningThree$Chances", "waits", "[I", true)
  | 4 => ("RunningThree$Chances", "begins", "[I", true)
  | 5 => ("RunningThree$Chances", "idle", "[I", true)
  | 6 => ("RunningThree$Chances", "turnAt", "[I", true)
  | 7 => ("RunningThree$Chances", "forceAt", "[I", true)
  | 8 => ("RunningThree$Chances", "runnerForces", "[I", true)
  | 9 => ("RunningThree$Chances", "values", "[I", true)
  | 10 => ("RunningThree$Chances", "keys", "[I", true)
  | _ => ("RunningThree$Chances", "known", "[I", true)
def tyX0 : Nat → FieldType := fun k => match k with
  | 0 => .int
  | 1 => .array .int
  | 2 => .array .int
  | 3 => .array .int
  | 4 => .array .int
  | 5 => .array .int
  | 6 => .array .int
  | 7 => .array .int
  | 8 => .array .int
  | 9 => .array .int
  | 10 => .array .int
  | _ => .array .int
abbrev wsX00 : List Cond := u_ws RX0 TX0 12
theorem nmX0 : ∀ a, a < 12 → ∀ b, b < 12 → a ≠ b → (TX0 a).2.1 ≠ (TX0 b).2.1 := by decide +kernel
theorem tyX0_ok : ∀ k, k < 12 → parseFieldDescriptor (TX0 k).2.2.1 = some (tyX0 k) := by decide +kernel
abbrev cX0_init : ByteArray := prog_2_method_1_code
def yX0_init : MethodName := ⟨RX0, "<init>", "()V"⟩
abbrev cX0_forget : ByteArray := prog_2_method_2_code
def yX0_forget : MethodName := ⟨RX0, "forget", "()V"⟩
abbrev cX0_takeComing : ByteArray := prog_2_method_3_code
def yX0_takeComing : MethodName := ⟨RX0, "takeComing", "(LRunningThree$Scene;)V"⟩
abbrev cX0_tellComing : ByteArray := prog_2_method_4_code
def yX0_tellComing : MethodName := ⟨RX0, "tellComing", "(LRunningThree$Scene;I)V"⟩
abbrev cX0_tellAllAtOnce : ByteArray := prog_2_method_5_code
def yX0_tellAllAtOnce : MethodName := ⟨RX0, "tellAllAtOnce", "()V"⟩
abbrev cX0_chanceFrom : ByteArray := prog_2_method_6_code
def yX0_chanceFrom : MethodName := ⟨RX0, "chanceFrom", "(LRunningThree$Scene;I)I"⟩
abbrev cX0_putInOrder : ByteArray := prog_2_method_7_code
def yX0_putInOrder : MethodName := ⟨RX0, "putInOrder", "(LRunningThree$Scene;)V"⟩
abbrev cX0_tellWaits : ByteArray := prog_2_method_8_code
def yX0_tellWaits : MethodName := ⟨RX0, "tellWaits", "(I)V"⟩
abbrev cX0_keyOf : ByteArray := prog_2_method_9_code
def yX0_keyOf : MethodName := ⟨RX0, "keyOf", "()I"⟩
abbrev cX0_foldBack : ByteArray := prog_2_method_10_code
def yX0_foldBack : MethodName := ⟨RX0, "foldBack", "(LRunningThree$Scene;)I"⟩
abbrev cX0_tellForces : ByteArray := prog_2_method_11_code
def yX0_tellForces : MethodName := ⟨RX0, "tellForces", "(LRunningThree$Scene;)V"⟩
abbrev cX0_tellIdle : ByteArray := prog_2_method_12_code
def yX0_tellIdle : MethodName := ⟨RX0, "tellIdle", "()V"⟩
abbrev cX0_settleEnds : ByteArray := prog_2_method_13_code
def yX0_settleEnds : MethodName := ⟨RX0, "settleEnds", "(I)V"⟩
abbrev cX0_leastHurt : ByteArray := prog_2_method_14_code
def yX0_leastHurt : MethodName := ⟨RX0, "leastHurt", "(IIII)I"⟩
abbrev cX0_foldMoment : ByteArray := prog_2_method_15_code
def yX0_foldMoment : MethodName := ⟨RX0, "foldMoment", "(II)V"⟩
abbrev cX0_countThere : ByteArray := prog_2_method_16_code
def yX0_countThere : MethodName := ⟨RX0, "countThere", "(I)I"⟩
abbrev cX0_fold : ByteArray := prog_2_method_17_code
def yX0_fold : MethodName := ⟨RX0, "fold", "(III)V"⟩
def RX1 : String := "RunningThree$FieldText"
def TX1 : u_T := fun k => match k with
  | 0 => ("RunningThree$FieldText", "letters", "[I", true)
  | 1 => ("RunningThree$FieldText", "length", "I", false)
  | 2 => ("RunningThree$FieldText", "at", "I", false)
  | _ => ("RunningThree$FieldText", "draft", "LRunningThree$Scene;", true)
def tyX1 : Nat → FieldType := fun k => match k with
  | 0 => .array .int
  | 1 => .int
  | 2 => .int
  | _ => .object "RunningThree$Scene"
abbrev wsX10 : List Cond := u_ws RX1 TX1 4
theorem nmX1 : ∀ a, a < 4 → ∀ b, b < 4 → a ≠ b → (TX1 a).2.1 ≠ (TX1 b).2.1 := by decide +kernel
theorem tyX1_ok : ∀ k, k < 4 → parseFieldDescriptor (TX1 k).2.2.1 = some (tyX1 k) := by decide +kernel
abbrev cX1_init : ByteArray := prog_3_method_1_code
def yX1_init : MethodName := ⟨RX1, "<init>", "()V"⟩
abbrev cX1_add : ByteArray := prog_3_method_2_code
def yX1_add : MethodName := ⟨RX1, "add", "(I)Z"⟩
abbrev cX1_setUp : ByteArray := prog_3_method_3_code
def yX1_setUp : MethodName := ⟨RX1, "setUp", "(LRunningThree$Scene;)V"⟩
abbrev cX1_read : ByteArray := prog_3_method_4_code
def yX1_read : MethodName := ⟨RX1, "read", "()Z"⟩
abbrev cX1_readGround : ByteArray := prog_3_method_5_code
def yX1_readGround : MethodName := ⟨RX1, "readGround", "()Z"⟩
abbrev cX1_readFighters : ByteArray := prog_3_method_6_code
def yX1_readFighters : MethodName := ⟨RX1, "readFighters", "()Z"⟩
abbrev cX1_readFighter : ByteArray := prog_3_method_7_code
def yX1_readFighter : MethodName := ⟨RX1, "readFighter", "()Z"⟩
abbrev cX1_peek : ByteArray := prog_3_method_8_code
def yX1_peek : MethodName := ⟨RX1, "peek", "()I"⟩
abbrev cX1_take : ByteArray := prog_3_method_9_code
def yX1_take : MethodName := ⟨RX1, "take", "(I)Z"⟩
abbrev cX1_takeDigit : ByteArray := prog_3_method_10_code
def yX1_takeDigit : MethodName := ⟨RX1, "takeDigit", "(II)I"⟩
def RX2 : String := "RunningThree$Foretelling"
def TX2 : u_T := fun k => match k with
  | 0 => ("RunningThree$Foretelling", "trial", "LRunningThree$Scene;", true)
  | 1 => ("RunningThree$Foretelling", "chances", "LRunningThree$Chances;", true)
  | _ => ("RunningThree$Foretelling", "row", "[I", true)
def tyX2 : Nat → FieldType := fun k => match k with
  | 0 => .object "RunningThree$Scene"
  | 1 => .object "RunningThree$Chances"
  | _ => .array .int
abbrev wsX20 : List Cond := u_ws RX2 TX2 3
theorem nmX2 : ∀ a, a < 3 → ∀ b, b < 3 → a ≠ b → (TX2 a).2.1 ≠ (TX2 b).2.1 := by decide +kernel
theorem tyX2_ok : ∀ k, k < 3 → parseFieldDescriptor (TX2 k).2.2.1 = some (tyX2 k) := by decide +kernel
abbrev cX2_init : ByteArray := prog_4_method_1_code
def yX2_init : MethodName := ⟨RX2, "<init>", "()V"⟩
abbrev cX2_begin : ByteArray := prog_4_method_2_code
def yX2_begin : MethodName := ⟨RX2, "begin", "(LRunningThree$Scene;)V"⟩
abbrev cX2_chanceBy : ByteArray := prog_4_method_3_code
def yX2_chanceBy : MethodName := ⟨RX2, "chanceBy", "(I)I"⟩
abbrev cX2_chanceTogether : ByteArray := prog_4_method_4_code
def yX2_chanceTogether : MethodName := ⟨RX2, "chanceTogether", "()I"⟩
abbrev cX2_foresee : ByteArray := prog_4_method_5_code
def yX2_foresee : MethodName := ⟨RX2, "foresee", "(I)I"⟩
abbrev cX2_foreseen : ByteArray := prog_4_method_6_code
def yX2_foreseen : MethodName := ⟨RX2, "foreseen", "(I)I"⟩
abbrev cX2_firstWith : ByteArray := prog_4_method_7_code
def yX2_firstWith : MethodName := ⟨RX2, "firstWith", "(I)I"⟩
abbrev cX2_lastWith : ByteArray := prog_4_method_8_code
def yX2_lastWith : MethodName := ⟨RX2, "lastWith", "(I)I"⟩
abbrev cX2_suppose : ByteArray := prog_4_method_9_code
def yX2_suppose : MethodName := ⟨RX2, "suppose", "(II)V"⟩
abbrev cX2_supposeHurt : ByteArray := prog_4_method_10_code
def yX2_supposeHurt : MethodName := ⟨RX2, "supposeHurt", "(II)V"⟩
abbrev cX2_winsOf : ByteArray := prog_4_method_11_code
def yX2_winsOf : MethodName := ⟨RX2, "winsOf", "(LRunningThree$Scene;II)I"⟩
abbrev cX2_winsOne : ByteArray := prog_4_method_12_code
def yX2_winsOne : MethodName := ⟨RX2, "winsOne", "()Z"⟩
def RX3 : String := "RunningThree$Kinds"
def TX3 : u_T := fun k => match k with
  | _ => ("", "", "", false)
def tyX3 : Nat → FieldType := fun k => match k with
  | _ => .int
abbrev wsX30 : List Cond := u_ws RX3 TX3 0
theorem nmX3 : ∀ a, a < 0 → ∀ b, b < 0 → a ≠ b → (TX3 a).2.1 ≠ (TX3 b).2.1 := by decide +kernel
theorem tyX3_ok : ∀ k, k < 0 → parseFieldDescriptor (TX3 k).2.2.1 = some (tyX3 k) := by decide +kernel
abbrev cX3_force : ByteArray := prog_5_method_2_code
def yX3_force : MethodName := ⟨RX3, "force", "(III)I"⟩
abbrev cX3_stride : ByteArray := prog_5_method_3_code
def yX3_stride : MethodName := ⟨RX3, "stride", "(III)I"⟩
abbrev cX3_pointsIn : ByteArray := prog_5_method_4_code
def yX3_pointsIn : MethodName := ⟨RX3, "pointsIn", "(III)I"⟩
abbrev cX3_momentsFor : ByteArray := prog_5_method_5_code
def yX3_momentsFor : MethodName := ⟨RX3, "momentsFor", "(III)I"⟩
abbrev cX3_shares : ByteArray := prog_5_method_6_code
def yX3_shares : MethodName := ⟨RX3, "shares", "(II)I"⟩
def RX4 : String := "RunningThree$Past"
def TX4 : u_T := fun k => match k with
  | 0 => ("RunningThree$Past", "known", "I", false)
  | 1 => ("RunningThree$Past", "next", "I", false)
  | 2 => ("RunningThree$Past", "hurts", "[I", true)
  | 3 => ("RunningThree$Past", "moments", "[I", true)
  | 4 => ("RunningThree$Past", "stands", "[I", true)
  | _ => ("RunningThree$Past", "draws", "[I", true)
def tyX4 : Nat → FieldType := fun k => match k with
  | 0 => .int
  | 1 => .int
  | 2 => .array .int
  | 3 => .array .int
  | 4 => .array .int
  | _ => .array .int
abbrev wsX40 : List Cond := u_ws RX4 TX4 6
theorem nmX4 : ∀ a, a < 6 → ∀ b, b < 6 → a ≠ b → (TX4 a).2.1 ≠ (TX4 b).2.1 := by decide +kernel
theorem tyX4_ok : ∀ k, k < 6 → parseFieldDescriptor (TX4 k).2.2.1 = some (tyX4 k) := by decide +kernel
abbrev cX4_init : ByteArray := prog_6_method_1_code
def yX4_init : MethodName := ⟨RX4, "<init>", "()V"⟩
abbrev cX4_forget : ByteArray := prog_6_method_2_code
def yX4_forget : MethodName := ⟨RX4, "forget", "()V"⟩
abbrev cX4_takeFrom : ByteArray := prog_6_method_3_code
def yX4_takeFrom : MethodName := ⟨RX4, "takeFrom", "(LRunningThree$Past;)V"⟩
abbrev cX4_remember : ByteArray := prog_6_method_4_code
def yX4_remember : MethodName := ⟨RX4, "remember", "(LRunningThree$Scene;)V"⟩
abbrev cX4_bringBack : ByteArray := prog_6_method_5_code
def yX4_bringBack : MethodName := ⟨RX4, "bringBack", "(LRunningThree$Scene;)Z"⟩
def RX5 : String := "RunningThree$Scene"
def TX5 : u_T := fun k => match k with
  | 0 => ("RunningThree$Scene", "cells", "I", false)
  | 1 => ("RunningThree$Scene", "sorts", "[I", true)
  | 2 => ("RunningThree$Scene", "costs", "[I", true)
  | 3 => ("RunningThree$Scene", "fighters", "I", false)
  | 4 => ("RunningThree$Scene", "kinds", "[I", true)
  | 5 => ("RunningThree$Scene", "strengths", "[I", true)
  | 6 => ("RunningThree$Scene", "paces", "[I", true)
  | 7 => ("RunningThree$Scene", "hurts", "[I", true)
  | 8 => ("RunningThree$Scene", "start", "I", false)
  | 9 => ("RunningThree$Scene", "moment", "I", false)
  | 10 => ("RunningThree$Scene", "stand", "I", false)
  | 11 => ("RunningThree$Scene", "coming", "[I", true)
  | _ => ("RunningThree$Scene", "draw", "I", false)
def tyX5 : Nat → FieldType := fun k => match k with
  | 0 => .int
  | 1 => .array .int
  | 2 => .array .int
  | 3 => .int
  | 4 => .array .int
  | 5 => .array .int
  | 6 => .array .int
  | 7 => .array .int
  | 8 => .int
  | 9 => .int
  | 10 => .int
  | 11 => .array .int
  | _ => .int
abbrev wsX50 : List Cond := u_ws RX5 TX5 13
theorem nmX5 : ∀ a, a < 13 → ∀ b, b < 13 → a ≠ b → (TX5 a).2.1 ≠ (TX5 b).2.1 := by decide +kernel
theorem tyX5_ok : ∀ k, k < 13 → parseFieldDescriptor (TX5 k).2.2.1 = some (tyX5 k) := by decide +kernel
abbrev cX5_init : ByteArray := prog_7_method_1_code
def yX5_init : MethodName := ⟨RX5, "<init>", "()V"⟩
abbrev cX5_takeFrom : ByteArray := prog_7_method_2_code
def yX5_takeFrom : MethodName := ⟨RX5, "takeFrom", "(LRunningThree$Scene;)V"⟩
abbrev cX5_takeHurts : ByteArray := prog_7_method_3_code
def yX5_takeHurts : MethodName := ⟨RX5, "takeHurts", "(LRunningThree$Scene;)V"⟩
abbrev cX5_clear : ByteArray := prog_7_method_4_code
def yX5_clear : MethodName := ⟨RX5, "clear", "()V"⟩
abbrev cX5_addCell : ByteArray := prog_7_method_5_code
def yX5_addCell : MethodName := ⟨RX5, "addCell", "(I)V"⟩
abbrev cX5_changeSort : ByteArray := prog_7_method_6_code
def yX5_changeSort : MethodName := ⟨RX5, "changeSort", "(II)V"⟩
abbrev cX5_costOf : ByteArray := prog_7_method_7_code
def yX5_costOf : MethodName := ⟨RX5, "costOf", "(I)I"⟩
abbrev cX5_addFighter : ByteArray := prog_7_method_8_code
def yX5_addFighter : MethodName := ⟨RX5, "addFighter", "(IIII)I"⟩
abbrev cX5_hasCell : ByteArray := prog_7_method_9_code
def yX5_hasCell : MethodName := ⟨RX5, "hasCell", "(I)Z"⟩
abbrev cX5_exists : ByteArray := prog_7_method_10_code
def yX5_exists : MethodName := ⟨RX5, "exists", "(I)Z"⟩
abbrev cX5_isUp : ByteArray := prog_7_method_11_code
def yX5_isUp : MethodName := ⟨RX5, "isUp", "(I)Z"⟩
abbrev cX5_hasTurned : ByteArray := prog_7_method_12_code
def yX5_hasTurned : MethodName := ⟨RX5, "hasTurned", "()Z"⟩
abbrev cX5_thoseDown : ByteArray := prog_7_method_13_code
def yX5_thoseDown : MethodName := ⟨RX5, "thoseDown", "()I"⟩
abbrev cX5_othersUp : ByteArray := prog_7_method_14_code
def yX5_othersUp : MethodName := ⟨RX5, "othersUp", "()I"⟩
abbrev cX5_outcome : ByteArray := prog_7_method_15_code
def yX5_outcome : MethodName := ⟨RX5, "outcome", "()I"⟩
abbrev cX5_forceOf : ByteArray := prog_7_method_16_code
def yX5_forceOf : MethodName := ⟨RX5, "forceOf", "(I)I"⟩
abbrev cX5_pointsOf : ByteArray := prog_7_method_17_code
def yX5_pointsOf : MethodName := ⟨RX5, "pointsOf", "(III)I"⟩
abbrev cX5_cellBy : ByteArray := prog_7_method_18_code
def yX5_cellBy : MethodName := ⟨RX5, "cellBy", "(I)I"⟩
abbrev cX5_cellRunning : ByteArray := prog_7_method_19_code
def yX5_cellRunning : MethodName := ⟨RX5, "cellRunning", "(II)I"⟩
abbrev cX5_momentsOut : ByteArray := prog_7_method_20_code
def yX5_momentsOut : MethodName := ⟨RX5, "momentsOut", "(II)I"⟩
abbrev cX5_cellNow : ByteArray := prog_7_method_21_code
def yX5_cellNow : MethodName := ⟨RX5, "cellNow", "(I)I"⟩
abbrev cX5_cellBehindTurn : ByteArray := prog_7_method_22_code
def yX5_cellBehindTurn : MethodName := ⟨RX5, "cellBehindTurn", "(I)I"⟩
abbrev cX5_comingOf : ByteArray := prog_7_method_23_code
def yX5_comingOf : MethodName := ⟨RX5, "comingOf", "(I)I"⟩
abbrev cX5_comesTo : ByteArray := prog_7_method_24_code
def yX5_comesTo : MethodName := ⟨RX5, "comesTo", "(II)I"⟩
abbrev cX5_isCaughtIn : ByteArray := prog_7_method_25_code
def yX5_isCaughtIn : MethodName := ⟨RX5, "isCaughtIn", "(I)Z"⟩
abbrev cX5_turnMoment : ByteArray := prog_7_method_26_code
def yX5_turnMoment : MethodName := ⟨RX5, "turnMoment", "(II)I"⟩
abbrev cX5_turnIn : ByteArray := prog_7_method_27_code
def yX5_turnIn : MethodName := ⟨RX5, "turnIn", "(I)V"⟩
abbrev cX5_firstThere : ByteArray := prog_7_method_28_code
def yX5_firstThere : MethodName := ⟨RX5, "firstThere", "()I"⟩
abbrev cX5_isThere : ByteArray := prog_7_method_29_code
def yX5_isThere : MethodName := ⟨RX5, "isThere", "(I)Z"⟩
abbrev cX5_countThere : ByteArray := prog_7_method_30_code
def yX5_countThere : MethodName := ⟨RX5, "countThere", "()I"⟩
abbrev cX5_odds : ByteArray := prog_7_method_31_code
def yX5_odds : MethodName := ⟨RX5, "odds", "(III)I"⟩
abbrev cX5_fightFirst : ByteArray := prog_7_method_32_code
def yX5_fightFirst : MethodName := ⟨RX5, "fightFirst", "()I"⟩
abbrev cX5_drawOfSixteen : ByteArray := prog_7_method_33_code
def yX5_drawOfSixteen : MethodName := ⟨RX5, "drawOfSixteen", "()I"⟩
abbrev cX5_waitForNext : ByteArray := prog_7_method_34_code
def yX5_waitForNext : MethodName := ⟨RX5, "waitForNext", "()V"⟩
def RX6 : String := "RunningThree$Sheet"
def TX6 : u_T := fun k => match k with
  | 0 => ("RunningThree$Sheet", "lane", "I", false)
  | 1 => ("RunningThree$Sheet", "size", "I", false)
  | _ => ("RunningThree$Sheet", "items", "[J", true)
def tyX6 : Nat → FieldType := fun k => match k with
  | 0 => .int
  | 1 => .int
  | _ => .array .long
abbrev wsX60 : List Cond := u_ws RX6 TX6 3
theorem nmX6 : ∀ a, a < 3 → ∀ b, b < 3 → a ≠ b → (TX6 a).2.1 ≠ (TX6 b).2.1 := by decide +kernel
theorem tyX6_ok : ∀ k, k < 3 → parseFieldDescriptor (TX6 k).2.2.1 = some (tyX6 k) := by decide +kernel
abbrev cX6_init : ByteArray := prog_8_method_1_code
def yX6_init : MethodName := ⟨RX6, "<init>", "()V"⟩
abbrev cX6_hold : ByteArray := prog_8_method_2_code
def yX6_hold : MethodName := ⟨RX6, "hold", "(II)V"⟩
abbrev cX6_dropAll : ByteArray := prog_8_method_3_code
def yX6_dropAll : MethodName := ⟨RX6, "dropAll", "()V"⟩
abbrev cX6_isThere : ByteArray := prog_8_method_4_code
def yX6_isThere : MethodName := ⟨RX6, "isThere", "()Z"⟩
abbrev cX6_holds : ByteArray := prog_8_method_5_code
def yX6_holds : MethodName := ⟨RX6, "holds", "(II)Z"⟩
abbrev cX6_refusal : ByteArray := prog_8_method_6_code
def yX6_refusal : MethodName := ⟨RX6, "refusal", "(III)I"⟩
abbrev cX6_itemAt : ByteArray := prog_8_method_7_code
def yX6_itemAt : MethodName := ⟨RX6, "itemAt", "(I)J"⟩
abbrev cX6_put : ByteArray := prog_8_method_8_code
def yX6_put : MethodName := ⟨RX6, "put", "(IJ)V"⟩
abbrev cX6_lowestBits : ByteArray := prog_8_method_9_code
def yX6_lowestBits : MethodName := ⟨RX6, "lowestBits", "(J)J"⟩
def RX7 : String := "RunningThree"
def TX7 : u_T := fun k => match k with
  | 0 => ("RunningThree", "scene", "LRunningThree$Scene;", true)
  | 1 => ("RunningThree", "past", "LRunningThree$Past;", true)
  | 2 => ("RunningThree", "keptScene", "LRunningThree$Scene;", true)
  | 3 => ("RunningThree", "keptPast", "LRunningThree$Past;", true)
  | 4 => ("RunningThree", "kept", "Z", false)
  | 5 => ("RunningThree", "tape", "LRunningThree$FieldText;", true)
  | 6 => ("RunningThree", "foretelling", "LRunningThree$Foretelling;", true)
  | _ => ("RunningThree", "sheets", "[LRunningThree$Sheet;", true)
def tyX7 : Nat → FieldType := fun k => match k with
  | 0 => .object "RunningThree$Scene"
  | 1 => .object "RunningThree$Past"
  | 2 => .object "RunningThree$Scene"
  | 3 => .object "RunningThree$Past"
  | 4 => .boolean
  | 5 => .object "RunningThree$FieldText"
  | 6 => .object "RunningThree$Foretelling"
  | _ => .array (.object "RunningThree$Sheet")
abbrev wsX70 : List Cond := u_ws RX7 TX7 8
theorem nmX7 : ∀ a, a < 8 → ∀ b, b < 8 → a ≠ b → (TX7 a).2.1 ≠ (TX7 b).2.1 := by decide +kernel
theorem tyX7_ok : ∀ k, k < 8 → parseFieldDescriptor (TX7 k).2.2.1 = some (tyX7 k) := by decide +kernel
abbrev cX7_init : ByteArray := prog_1_method_1_code
def yX7_init : MethodName := ⟨RX7, "<init>", "()V"⟩
abbrev cX7_fighter : ByteArray := prog_1_method_2_code
def yX7_fighter : MethodName := ⟨RX7, "fighter", "(III)I"⟩
abbrev cX7_of : ByteArray := prog_1_method_3_code
def yX7_of : MethodName := ⟨RX7, "of", "(II)I"⟩
abbrev cX7_hurt : ByteArray := prog_1_method_4_code
def yX7_hurt : MethodName := ⟨RX7, "hurt", "(II)I"⟩
abbrev cX7_start : ByteArray := prog_1_method_5_code
def yX7_start : MethodName := ⟨RX7, "start", "(I)I"⟩
abbrev cX7_sort : ByteArray := prog_1_method_6_code
def yX7_sort : MethodName := ⟨RX7, "sort", "(I)I"⟩
abbrev cX7_cost : ByteArray := prog_1_method_7_code
def yX7_cost : MethodName := ⟨RX7, "cost", "(I)I"⟩
abbrev cX7_points : ByteArray := prog_1_method_8_code
def yX7_points : MethodName := ⟨RX7, "points", "(II)I"⟩
abbrev cX7_type : ByteArray := prog_1_method_9_code
def yX7_type : MethodName := ⟨RX7, "type", "(I)I"⟩
abbrev cX7_field : ByteArray := prog_1_method_10_code
def yX7_field : MethodName := ⟨RX7, "field", "()I"⟩
abbrev cX7_count : ByteArray := prog_1_method_11_code
def yX7_count : MethodName := ⟨RX7, "count", "(I)I"⟩
abbrev cX7_moment : ByteArray := prog_1_method_12_code
def yX7_moment : MethodName := ⟨RX7, "moment", "()I"⟩
abbrev cX7_runOn : ByteArray := prog_1_method_13_code
def yX7_runOn : MethodName := ⟨RX7, "runOn", "()I"⟩
abbrev cX7_turn : ByteArray := prog_1_method_14_code
def yX7_turn : MethodName := ⟨RX7, "turn", "()I"⟩
abbrev cX7_undo : ByteArray := prog_1_method_15_code
def yX7_undo : MethodName := ⟨RX7, "undo", "()I"⟩
abbrev cX7_seed : ByteArray := prog_1_method_16_code
def yX7_seed : MethodName := ⟨RX7, "seed", "(I)I"⟩
abbrev cX7_chance : ByteArray := prog_1_method_17_code
def yX7_chance : MethodName := ⟨RX7, "chance", "(I)I"⟩
abbrev cX7_best : ByteArray := prog_1_method_18_code
def yX7_best : MethodName := ⟨RX7, "best", "(I)I"⟩
abbrev cX7_late : ByteArray := prog_1_method_19_code
def yX7_late : MethodName := ⟨RX7, "late", "(I)I"⟩
abbrev cX7_together : ByteArray := prog_1_method_20_code
def yX7_together : MethodName := ⟨RX7, "together", "(II)I"⟩
abbrev cX7_ditched : ByteArray := prog_1_method_21_code
def yX7_ditched : MethodName := ⟨RX7, "ditched", "()I"⟩
abbrev cX7_ahead : ByteArray := prog_1_method_22_code
def yX7_ahead : MethodName := ⟨RX7, "ahead", "(I)I"⟩
abbrev cX7_fields : ByteArray := prog_1_method_23_code
def yX7_fields : MethodName := ⟨RX7, "fields", "(II)I"⟩
abbrev cX7_image : ByteArray := prog_1_method_24_code
def yX7_image : MethodName := ⟨RX7, "image", "()I"⟩
abbrev cX7_restore : ByteArray := prog_1_method_25_code
def yX7_restore : MethodName := ⟨RX7, "restore", "()I"⟩
abbrev cX7_strides : ByteArray := prog_1_method_26_code
def yX7_strides : MethodName := ⟨RX7, "strides", "(IIIII)I"⟩
abbrev cX7_areSightings : ByteArray := prog_1_method_27_code
def yX7_areSightings : MethodName := ⟨RX7, "areSightings", "(LRunningThree$Sheet;II)Z"⟩
abbrev cX7_strodeSo : ByteArray := prog_1_method_28_code
def yX7_strodeSo : MethodName := ⟨RX7, "strodeSo", "(IILRunningThree$Sheet;II)Z"⟩
abbrev cX7_far : ByteArray := prog_1_method_29_code
def yX7_far : MethodName := ⟨RX7, "far", "(IIII)I"⟩
abbrev cX7_turnsThatFit : ByteArray := prog_1_method_30_code
def yX7_turnsThatFit : MethodName := ⟨RX7, "turnsThatFit", "(LRunningThree$Sheet;II)I"⟩
abbrev cX7_firstTurnThatFits : ByteArray := prog_1_method_31_code
def yX7_firstTurnThatFits : MethodName := ⟨RX7, "firstTurnThatFits", "(LRunningThree$Sheet;II)I"⟩
abbrev cX7_lastFarTurn : ByteArray := prog_1_method_32_code
def yX7_lastFarTurn : MethodName := ⟨RX7, "lastFarTurn", "()I"⟩
abbrev cX7_comeAsTold : ByteArray := prog_1_method_33_code
def yX7_comeAsTold : MethodName := ⟨RX7, "comeAsTold", "(ILRunningThree$Sheet;I)Z"⟩
abbrev cX7_film : ByteArray := prog_1_method_34_code
def yX7_film : MethodName := ⟨RX7, "film", "(IIII)I"⟩
abbrev cX7_sheet : ByteArray := prog_1_method_35_code
def yX7_sheet : MethodName := ⟨RX7, "sheet", "(III)I"⟩
abbrev cX7_drop : ByteArray := prog_1_method_36_code
def yX7_drop : MethodName := ⟨RX7, "drop", "(I)I"⟩
abbrev cX7_item : ByteArray := prog_1_method_37_code
def yX7_item : MethodName := ⟨RX7, "item", "(IIIJ)I"⟩
abbrev cX7_copy : ByteArray := prog_1_method_38_code
def yX7_copy : MethodName := ⟨RX7, "copy", "(IIIII)I"⟩
abbrev cX7_within : ByteArray := prog_1_method_39_code
def yX7_within : MethodName := ⟨RX7, "within", "(III)Z"⟩
abbrev cX7_isSheet : ByteArray := prog_1_method_40_code
def yX7_isSheet : MethodName := ⟨RX7, "isSheet", "(I)Z"⟩
abbrev cX7_isLane : ByteArray := prog_1_method_41_code
def yX7_isLane : MethodName := ⟨RX7, "isLane", "(I)Z"⟩
abbrev cX7_mayTurn : ByteArray := prog_1_method_42_code
def yX7_mayTurn : MethodName := ⟨RX7, "mayTurn", "()Z"⟩
def RX8 : String := "RunningThreeModel"
def TX8 : u_T := fun k => match k with
  | 0 => ("RunningThreeModel", "cells", "I", false)
  | 1 => ("RunningThreeModel", "fighters", "I", false)
  | 2 => ("RunningThreeModel", "sorts", "[I", true)
  | 3 => ("RunningThreeModel", "fighter", "[I", true)
  | 4 => ("RunningThreeModel", "start", "I", false)
  | 5 => ("RunningThreeModel", "now", "[I", true)
  | 6 => ("RunningThreeModel", "together", "Z", false)
  | 7 => ("RunningThreeModel", "tape", "[I", true)
  | 8 => ("RunningThreeModel", "taped", "I", false)
  | 9 => ("RunningThreeModel", "at", "I", false)
  | 10 => ("RunningThreeModel", "wrong", "Z", false)
  | 11 => ("RunningThreeModel", "manyCells", "I", false)
  | 12 => ("RunningThreeModel", "manyFighters", "I", false)
  | 13 => ("RunningThreeModel", "readSorts", "[I", true)
  | 14 => ("RunningThreeModel", "readFighters", "[I", true)
  | 15 => ("RunningThreeModel", "undone", "[I", true)
  | 16 => ("RunningThreeModel", "undos", "I", false)
  | 17 => ("RunningThreeModel", "aside", "[I", true)
  | 18 => ("RunningThreeModel", "row", "[I", true)
  | 19 => ("RunningThreeModel", "later", "[I", true)
  | 20 => ("RunningThreeModel", "sooner", "[I", true)
  | 21 => ("RunningThreeModel", "by", "[I", true)
  | 22 => ("RunningThreeModel", "most", "I", false)
  | 23 => ("RunningThreeModel", "first", "I", false)
  | 24 => ("RunningThreeModel", "image", "[I", true)
  | 25 => ("RunningThreeModel", "isImage", "Z", false)
  | 26 => ("RunningThreeModel", "lanes", "[I", true)
  | 27 => ("RunningThreeModel", "sizes", "[I", true)
  | 28 => ("RunningThreeModel", "items", "[J", true)
  | _ => ("RunningThreeModel", "moved", "[J", true)
def tyX8 : Nat → FieldType := fun k => match k with
  | 0 => .int
  | 1 => .int
  | 2 => .array .int
  | 3 => .array .int
  | 4 => .int
  | 5 => .array .int
  | 6 => .boolean
  | 7 => .array .int
  | 8 => .int
  | 9 => .int
  | 10 => .boolean
  | 11 => .int
  | 12 => .int
  | 13 => .array .int
  | 14 => .array .int
  | 15 => .array .int
  | 16 => .int
  | 17 => .array .int
  | 18 => .array .int
  | 19 => .array .int
  | 20 => .array .int
  | 21 => .array .int
  | 22 => .int
  | 23 => .int
  | 24 => .array .int
  | 25 => .boolean
  | 26 => .array .int
  | 27 => .array .int
  | 28 => .array .long
  | _ => .array .long
abbrev wsX80 : List Cond := u_ws RX8 TX8 30
theorem nmX8 : ∀ a, a < 30 → ∀ b, b < 30 → a ≠ b → (TX8 a).2.1 ≠ (TX8 b).2.1 := by decide +kernel
theorem tyX8_ok : ∀ k, k < 30 → parseFieldDescriptor (TX8 k).2.2.1 = some (tyX8 k) := by decide +kernel
abbrev cX8_in : ByteArray := prog_10_method_2_code
def yX8_in : MethodName := ⟨RX8, "in", "(JJJ)Z"⟩
abbrev cX8_init : ByteArray := prog_10_method_3_code
def yX8_init : MethodName := ⟨RX8, "<init>", "()V"⟩
abbrev cX8_isFighter : ByteArray := prog_10_method_4_code
def yX8_isFighter : MethodName := ⟨RX8, "isFighter", "(I)Z"⟩
abbrev cX8_isTurned : ByteArray := prog_10_method_5_code
def yX8_isTurned : MethodName := ⟨RX8, "isTurned", "()Z"⟩
abbrev cX8_fighterComes : ByteArray := prog_10_method_6_code
def yX8_fighterComes : MethodName := ⟨RX8, "fighterComes", "(IIII)V"⟩
abbrev cX8_fighter : ByteArray := prog_10_method_7_code
def yX8_fighter : MethodName := ⟨RX8, "fighter", "(III)I"⟩
abbrev cX8_force : ByteArray := prog_10_method_8_code
def yX8_force : MethodName := ⟨RX8, "force", "(II)I"⟩
abbrev cX8_pointsOf : ByteArray := prog_10_method_9_code
def yX8_pointsOf : MethodName := ⟨RX8, "pointsOf", "(III)I"⟩
abbrev cX8_hurtOf : ByteArray := prog_10_method_10_code
def yX8_hurtOf : MethodName := ⟨RX8, "hurtOf", "(I)I"⟩
abbrev cX8_isDown : ByteArray := prog_10_method_11_code
def yX8_isDown : MethodName := ⟨RX8, "isDown", "(I)Z"⟩
abbrev cX8_costOf : ByteArray := prog_10_method_12_code
def yX8_costOf : MethodName := ⟨RX8, "costOf", "(I)I"⟩
abbrev cX8_farthest : ByteArray := prog_10_method_13_code
def yX8_farthest : MethodName := ⟨RX8, "farthest", "(I)I"⟩
abbrev cX8_pursues : ByteArray := prog_10_method_14_code
def yX8_pursues : MethodName := ⟨RX8, "pursues", "(II)I"⟩
abbrev cX8_runs : ByteArray := prog_10_method_15_code
def yX8_runs : MethodName := ⟨RX8, "runs", "(I)I"⟩
abbrev cX8_comesTo : ByteArray := prog_10_method_16_code
def yX8_comesTo : MethodName := ⟨RX8, "comesTo", "(II)I"⟩
abbrev cX8_isCaught : ByteArray := prog_10_method_17_code
def yX8_isCaught : MethodName := ⟨RX8, "isCaught", "(I)Z"⟩
abbrev cX8_place : ByteArray := prog_10_method_18_code
def yX8_place : MethodName := ⟨RX8, "place", "(I)I"⟩
abbrev cX8_of : ByteArray := prog_10_method_19_code
def yX8_of : MethodName := ⟨RX8, "of", "(II)I"⟩
abbrev cX8_hurt : ByteArray := prog_10_method_20_code
def yX8_hurt : MethodName := ⟨RX8, "hurt", "(II)I"⟩
abbrev cX8_start : ByteArray := prog_10_method_21_code
def yX8_start : MethodName := ⟨RX8, "start", "(I)I"⟩
abbrev cX8_sort : ByteArray := prog_10_method_22_code
def yX8_sort : MethodName := ⟨RX8, "sort", "(I)I"⟩
abbrev cX8_cost : ByteArray := prog_10_method_23_code
def yX8_cost : MethodName := ⟨RX8, "cost", "(I)I"⟩
abbrev cX8_points : ByteArray := prog_10_method_24_code
def yX8_points : MethodName := ⟨RX8, "points", "(II)I"⟩
abbrev cX8_type : ByteArray := prog_10_method_25_code
def yX8_type : MethodName := ⟨RX8, "type", "(I)I"⟩
abbrev cX8_here : ByteArray := prog_10_method_26_code
def yX8_here : MethodName := ⟨RX8, "here", "()I"⟩
abbrev cX8_has : ByteArray := prog_10_method_27_code
def yX8_has : MethodName := ⟨RX8, "has", "(I)Z"⟩
abbrev cX8_sign : ByteArray := prog_10_method_28_code
def yX8_sign : MethodName := ⟨RX8, "sign", "()I"⟩
abbrev cX8_digit : ByteArray := prog_10_method_29_code
def yX8_digit : MethodName := ⟨RX8, "digit", "(II)I"⟩
abbrev cX8_readFighter : ByteArray := prog_10_method_30_code
def yX8_readFighter : MethodName := ⟨RX8, "readFighter", "()V"⟩
abbrev cX8_field : ByteArray := prog_10_method_31_code
def yX8_field : MethodName := ⟨RX8, "field", "()I"⟩
abbrev cX8_down : ByteArray := prog_10_method_32_code
def yX8_down : MethodName := ⟨RX8, "down", "()I"⟩
abbrev cX8_over : ByteArray := prog_10_method_33_code
def yX8_over : MethodName := ⟨RX8, "over", "()I"⟩
abbrev cX8_count : ByteArray := prog_10_method_34_code
def yX8_count : MethodName := ⟨RX8, "count", "(I)I"⟩
abbrev cX8_notes : ByteArray := prog_10_method_35_code
def yX8_notes : MethodName := ⟨RX8, "notes", "()V"⟩
abbrev cX8_turns : ByteArray := prog_10_method_36_code
def yX8_turns : MethodName := ⟨RX8, "turns", "(I)V"⟩
abbrev cX8_meets : ByteArray := prog_10_method_37_code
def yX8_meets : MethodName := ⟨RX8, "meets", "(I)I"⟩
abbrev cX8_between : ByteArray := prog_10_method_38_code
def yX8_between : MethodName := ⟨RX8, "between", "(I)I"⟩
abbrev cX8_fights : ByteArray := prog_10_method_39_code
def yX8_fights : MethodName := ⟨RX8, "fights", "()I"⟩
abbrev cX8_moment : ByteArray := prog_10_method_40_code
def yX8_moment : MethodName := ⟨RX8, "moment", "()I"⟩
abbrev cX8_turn : ByteArray := prog_10_method_41_code
def yX8_turn : MethodName := ⟨RX8, "turn", "()I"⟩
abbrev cX8_undo : ByteArray := prog_10_method_42_code
def yX8_undo : MethodName := ⟨RX8, "undo", "()I"⟩
abbrev cX8_seed : ByteArray := prog_10_method_43_code
def yX8_seed : MethodName := ⟨RX8, "seed", "(I)I"⟩
abbrev cX8_asides : ByteArray := prog_10_method_44_code
def yX8_asides : MethodName := ⟨RX8, "asides", "()V"⟩
abbrev cX8_backs : ByteArray := prog_10_method_45_code
def yX8_backs : MethodName := ⟨RX8, "backs", "()V"⟩
abbrev cX8_lines : ByteArray := prog_10_method_46_code
def yX8_lines : MethodName := ⟨RX8, "lines", "()I"⟩
abbrev cX8_fought : ByteArray := prog_10_method_47_code
def yX8_fought : MethodName := ⟨RX8, "fought", "(IIIII[I)I"⟩
abbrev cX8_likely : ByteArray := prog_10_method_48_code
def yX8_likely : MethodName := ⟨RX8, "likely", "()I"⟩
abbrev cX8_aheadOf : ByteArray := prog_10_method_49_code
def yX8_aheadOf : MethodName := ⟨RX8, "aheadOf", "(II)V"⟩
abbrev cX8_reaches : ByteArray := prog_10_method_50_code
def yX8_reaches : MethodName := ⟨RX8, "reaches", "(I)V"⟩
abbrev cX8_likelyBy : ByteArray := prog_10_method_51_code
def yX8_likelyBy : MethodName := ⟨RX8, "likelyBy", "(I)I"⟩
abbrev cX8_chance : ByteArray := prog_10_method_52_code
def yX8_chance : MethodName := ⟨RX8, "chance", "(I)I"⟩
abbrev cX8_chanceOf : ByteArray := prog_10_method_53_code
def yX8_chanceOf : MethodName := ⟨RX8, "chanceOf", "(I)I"⟩
abbrev cX8_looks : ByteArray := prog_10_method_54_code
def yX8_looks : MethodName := ⟨RX8, "looks", "()V"⟩
abbrev cX8_isCaughtThen : ByteArray := prog_10_method_55_code
def yX8_isCaughtThen : MethodName := ⟨RX8, "isCaughtThen", "(I)Z"⟩
abbrev cX8_isOff : ByteArray := prog_10_method_56_code
def yX8_isOff : MethodName := ⟨RX8, "isOff", "()Z"⟩
abbrev cX8_best : ByteArray := prog_10_method_57_code
def yX8_best : MethodName := ⟨RX8, "best", "(I)I"⟩
abbrev cX8_late : ByteArray := prog_10_method_58_code
def yX8_late : MethodName := ⟨RX8, "late", "(I)I"⟩
abbrev cX8_together : ByteArray := prog_10_method_59_code
def yX8_together : MethodName := ⟨RX8, "together", "(II)I"⟩
abbrev cX8_ditched : ByteArray := prog_10_method_60_code
def yX8_ditched : MethodName := ⟨RX8, "ditched", "()I"⟩
abbrev cX8_ahead : ByteArray := prog_10_method_61_code
def yX8_ahead : MethodName := ⟨RX8, "ahead", "(I)I"⟩
abbrev cX8_fields : ByteArray := prog_10_method_62_code
def yX8_fields : MethodName := ⟨RX8, "fields", "(II)I"⟩
abbrev cX8_notesRow : ByteArray := prog_10_method_63_code
def yX8_notesRow : MethodName := ⟨RX8, "notesRow", "([II)I"⟩
abbrev cX8_gives : ByteArray := prog_10_method_64_code
def yX8_gives : MethodName := ⟨RX8, "gives", "(I[I)I"⟩
abbrev cX8_image : ByteArray := prog_10_method_65_code
def yX8_image : MethodName := ⟨RX8, "image", "()I"⟩
abbrev cX8_restore : ByteArray := prog_10_method_66_code
def yX8_restore : MethodName := ⟨RX8, "restore", "()I"⟩
abbrev cX8_isSheet : ByteArray := prog_10_method_67_code
def yX8_isSheet : MethodName := ⟨RX8, "isSheet", "(I)Z"⟩
abbrev cX8_isLane : ByteArray := prog_10_method_68_code
def yX8_isLane : MethodName := ⟨RX8, "isLane", "(I)Z"⟩
abbrev cX8_why : ByteArray := prog_10_method_69_code
def yX8_why : MethodName := ⟨RX8, "why", "(IIII)I"⟩
abbrev cX8_strides : ByteArray := prog_10_method_70_code
def yX8_strides : MethodName := ⟨RX8, "strides", "(IIIII)I"⟩
abbrev cX8_far : ByteArray := prog_10_method_71_code
def yX8_far : MethodName := ⟨RX8, "far", "(IIII)I"⟩
abbrev cX8_puts : ByteArray := prog_10_method_72_code
def yX8_puts : MethodName := ⟨RX8, "puts", "(IIJ)V"⟩
abbrev cX8_film : ByteArray := prog_10_method_73_code
def yX8_film : MethodName := ⟨RX8, "film", "(IIII)I"⟩
abbrev cX8_sheet : ByteArray := prog_10_method_74_code
def yX8_sheet : MethodName := ⟨RX8, "sheet", "(III)I"⟩
abbrev cX8_drop : ByteArray := prog_10_method_75_code
def yX8_drop : MethodName := ⟨RX8, "drop", "(I)I"⟩
abbrev cX8_item : ByteArray := prog_10_method_76_code
def yX8_item : MethodName := ⟨RX8, "item", "(IIIJ)I"⟩
abbrev cX8_copy : ByteArray := prog_10_method_77_code
def yX8_copy : MethodName := ⟨RX8, "copy", "(IIIII)I"⟩
def RJ11 : String := "java/lang/Character"
def TJ11 : u_T := fun k => match k with
  | _ => ("", "", "", false)
def tyJ11 : Nat → FieldType := fun k => match k with
  | _ => .int
abbrev wsJ110 : List Cond := u_ws RJ11 TJ11 0
theorem nmJ11 : ∀ a, a < 0 → ∀ b, b < 0 → a ≠ b → (TJ11 a).2.1 ≠ (TJ11 b).2.1 := by decide +kernel
theorem tyJ11_ok : ∀ k, k < 0 → parseFieldDescriptor (TJ11 k).2.2.1 = some (tyJ11 k) := by decide +kernel
abbrev cJ11_isValidCodePoint_9a6ad : ByteArray := prog_11_method_11_code
def yJ11_isValidCodePoint_9a6ad : MethodName := ⟨RJ11, "isValidCodePoint", "(I)Z"⟩
abbrev cJ11_highSurrogate_5068e : ByteArray := prog_11_method_28_code
def yJ11_highSurrogate_5068e : MethodName := ⟨RJ11, "highSurrogate", "(I)C"⟩
abbrev cJ11_lowSurrogate_5068e : ByteArray := prog_11_method_29_code
def yJ11_lowSurrogate_5068e : MethodName := ⟨RJ11, "lowSurrogate", "(I)C"⟩
def RJ9 : String := "java/lang/Math"
def TJ9 : u_T := fun k => match k with
  | _ => ("", "", "", false)
def tyJ9 : Nat → FieldType := fun k => match k with
  | _ => .int
abbrev wsJ90 : List Cond := u_ws RJ9 TJ9 0
theorem nmJ9 : ∀ a, a < 0 → ∀ b, b < 0 → a ≠ b → (TJ9 a).2.1 ≠ (TJ9 b).2.1 := by decide +kernel
theorem tyJ9_ok : ∀ k, k < 0 → parseFieldDescriptor (TJ9 k).2.2.1 = some (tyJ9 k) := by decide +kernel
abbrev cJ9_max_7cf53 : ByteArray := prog_12_method_65_code
def yJ9_max_7cf53 : MethodName := ⟨RJ9, "max", "(II)I"⟩
abbrev cJ9_min_7cf53 : ByteArray := prog_12_method_69_code
def yJ9_min_7cf53 : MethodName := ⟨RJ9, "min", "(II)I"⟩
def RJ0 : String := "java/lang/String"
def TJ0 : u_T := fun k => match k with
  | _ => ("", "", "", false)
def tyJ0 : Nat → FieldType := fun k => match k with
  | _ => .int
abbrev wsJ00 : List Cond := u_ws RJ0 TJ0 0
theorem nmJ0 : ∀ a, a < 0 → ∀ b, b < 0 → a ≠ b → (TJ0 a).2.1 ≠ (TJ0 b).2.1 := by decide +kernel
theorem tyJ0_ok : ∀ k, k < 0 → parseFieldDescriptor (TJ0 k).2.2.1 = some (tyJ0 k) := by decide +kernel
abbrev cJ0_length_8abf5 : ByteArray := prog_13_method_54_code
def yJ0_length_8abf5 : MethodName := ⟨RJ0, "length", "()I"⟩
abbrev cJ0_indexOf_0f7a4 : ByteArray := prog_13_method_79_code
def yJ0_indexOf_0f7a4 : MethodName := ⟨RJ0, "indexOf", "(I)I"⟩
abbrev cJ0_indexOf_7cf53 : ByteArray := prog_13_method_80_code
def yJ0_indexOf_7cf53 : MethodName := ⟨RJ0, "indexOf", "(II)I"⟩
abbrev cJ0_coder_7d493 : ByteArray := prog_13_method_152_code
def yJ0_coder_7d493 : MethodName := ⟨RJ0, "coder", "()B"⟩
abbrev cJ0_isLatin1_aae02 : ByteArray := prog_13_method_154_code
def yJ0_isLatin1_aae02 : MethodName := ⟨RJ0, "isLatin1", "()Z"⟩
abbrev cJ0_checkBoundsBeginEnd_23922 : ByteArray := prog_13_method_158_code
def yJ0_checkBoundsBeginEnd_23922 : MethodName := ⟨RJ0, "checkBoundsBeginEnd", "(III)V"⟩
def RJ1 : String := "java/lang/StringLatin1"
def TJ1 : u_T := fun k => match k with
  | _ => ("", "", "", false)
def tyJ1 : Nat → FieldType := fun k => match k with
  | _ => .int
abbrev wsJ10 : List Cond := u_ws RJ1 TJ1 0
theorem nmJ1 : ∀ a, a < 0 → ∀ b, b < 0 → a ≠ b → (TJ1 a).2.1 ≠ (TJ1 b).2.1 := by decide +kernel
theorem tyJ1_ok : ∀ k, k < 0 → parseFieldDescriptor (TJ1 k).2.2.1 = some (tyJ1 k) := by decide +kernel
abbrev cJ1_canEncode_9a6ad : ByteArray := prog_14_method_4_code
def yJ1_canEncode_9a6ad : MethodName := ⟨RJ1, "canEncode", "(I)Z"⟩
abbrev cJ1_indexOf_4cfef : ByteArray := prog_14_method_22_code
def yJ1_indexOf_4cfef : MethodName := ⟨RJ1, "indexOf", "([BIII)I"⟩
abbrev cJ1_indexOfChar_4cfef : ByteArray := prog_14_method_23_code
def yJ1_indexOfChar_4cfef : MethodName := ⟨RJ1, "indexOfChar", "([BIII)I"⟩
def RJ2 : String := "java/lang/StringUTF16"
def TJ2 : u_T := fun k => match k with
  | _ => ("", "", "", false)
def tyJ2 : Nat → FieldType := fun k => match k with
  | _ => .int
abbrev wsJ20 : List Cond := u_ws RJ2 TJ2 0
theorem nmJ2 : ∀ a, a < 0 → ∀ b, b < 0 → a ≠ b → (TJ2 a).2.1 ≠ (TJ2 b).2.1 := by decide +kernel
theorem tyJ2_ok : ∀ k, k < 0 → parseFieldDescriptor (TJ2 k).2.2.1 = some (tyJ2 k) := by decide +kernel
abbrev cJ2_getChar_3b067 : ByteArray := prog_15_method_5_code
def yJ2_getChar_3b067 : MethodName := ⟨RJ2, "getChar", "([BI)C"⟩
abbrev cJ2_length_9d52b : ByteArray := prog_15_method_6_code
def yJ2_length_9d52b : MethodName := ⟨RJ2, "length", "([B)I"⟩
abbrev cJ2_indexOf_4cfef : ByteArray := prog_15_method_40_code
def yJ2_indexOf_4cfef : MethodName := ⟨RJ2, "indexOf", "([BIII)I"⟩
abbrev cJ2_indexOfChar_4cfef : ByteArray := prog_15_method_47_code
def yJ2_indexOfChar_4cfef : MethodName := ⟨RJ2, "indexOfChar", "([BIII)I"⟩
abbrev cJ2_indexOfCharUnsafe_4cfef : ByteArray := prog_15_method_48_code
def yJ2_indexOfCharUnsafe_4cfef : MethodName := ⟨RJ2, "indexOfCharUnsafe", "([BIII)I"⟩
abbrev cJ2_indexOfSupplementary_4cfef : ByteArray := prog_15_method_49_code
def yJ2_indexOfSupplementary_4cfef : MethodName := ⟨RJ2, "indexOfSupplementary", "([BIII)I"⟩
abbrev cJ2_checkBoundsBeginEnd_d044e : ByteArray := prog_15_method_93_code
def yJ2_checkBoundsBeginEnd_d044e : MethodName := ⟨RJ2, "checkBoundsBeginEnd", "(II[B)V"⟩
def RJ10 : String := "java/lang/System"
def TJ10 : u_T := fun k => match k with
  | _ => ("", "", "", false)
def tyJ10 : Nat → FieldType := fun k => match k with
  | _ => .int
abbrev wsJ100 : List Cond := u_ws RJ10 TJ10 0
theorem nmJ10 : ∀ a, a < 0 → ∀ b, b < 0 → a ≠ b → (TJ10 a).2.1 ≠ (TJ10 b).2.1 := by decide +kernel
theorem tyJ10_ok : ∀ k, k < 0 → parseFieldDescriptor (TJ10 k).2.2.1 = some (tyJ10 k) := by decide +kernel
def RJ3 : String := "jdk/internal/util/Preconditions"
def TJ3 : u_T := fun k => match k with
  | _ => ("", "", "", false)
def tyJ3 : Nat → FieldType := fun k => match k with
  | _ => .int
abbrev wsJ30 : List Cond := u_ws RJ3 TJ3 0
theorem nmJ3 : ∀ a, a < 0 → ∀ b, b < 0 → a ≠ b → (TJ3 a).2.1 ≠ (TJ3 b).2.1 := by decide +kernel
theorem tyJ3_ok : ∀ k, k < 0 → parseFieldDescriptor (TJ3 k).2.2.1 = some (tyJ3 k) := by decide +kernel
abbrev cJ3_checkFromToIndex_8c36e : ByteArray := prog_17_method_12_code
def yJ3_checkFromToIndex_8c36e : MethodName := ⟨RJ3, "checkFromToIndex", "(IIILjava/util/function/BiFunction;)I"⟩
def RL : String := "RunningThreeLaw"
abbrev cL_law : ByteArray := code
def yL_law : MethodName := ⟨RL, "law", "([I)Z"⟩
abbrev vwCl : List vw_C := [(RX0, TX0, 12), (RX1, TX1, 4), (RX2, TX2, 3), (RX4, TX4, 6), (RX5, TX5, 13), (RX6, TX6, 3), (RX7, TX7, 8), (RX8, TX8, 30)]
end
section
/-- the words of the tables that stay over calls -/
def gT : List Cond := lw_tbl.filter goodWord
theorem gT_t {w : Cond} {i : Nat} (h : tables_1[i]? = some w) (hg : goodWord w = true) : w ∈ gT :=
  List.mem_filter.mpr ⟨List.mem_append_right _ (List.mem_of_getElem? h), hg⟩
theorem gT_s {q : MethodName × Nat} {i : Nat} (h : lw_privs[i]? = some q) (hg : goodWord (Cond.selects q.1.cls q.1 q.1) = true) : Cond.selects q.1.cls q.1 q.1 ∈ gT :=
  List.mem_filter.mpr ⟨List.mem_append_left _ (List.mem_map.mpr ⟨q, List.mem_of_getElem? h, rfl⟩), hg⟩
theorem gT_lw {w : Cond} (h : w ∈ gT) : w ∈ lw_tbl := (List.mem_filter.mp h).1
theorem gT_good {w : Cond} (h : w ∈ gT) : (w.onTables && w.keeps) = true ∨ ∃ ty, w = .arrayClass ty := good_of_word (List.mem_filter.mp h).2
theorem wn_L : Cond.initialized RL ∈ gT := gT_t (i := 0) (by decide +kernel) rfl
theorem wn_X7 : Cond.initialized RX7 ∈ gT := gT_t (i := 1) (by decide +kernel) rfl
theorem wn_X5 : Cond.initialized RX5 ∈ gT := gT_t (i := 2) (by decide +kernel) rfl
theorem wn_X4 : Cond.initialized RX4 ∈ gT := gT_t (i := 3) (by decide +kernel) rfl
theorem wn_X1 : Cond.initialized RX1 ∈ gT := gT_t (i := 4) (by decide +kernel) rfl
theorem wn_X2 : Cond.initialized RX2 ∈ gT := gT_t (i := 5) (by decide +kernel) rfl
theorem wn_X0 : Cond.initialized RX0 ∈ gT := gT_t (i := 6) (by decide +kernel) rfl
theorem wn_X6 : Cond.initialized RX6 ∈ gT := gT_t (i := 7) (by decide +kernel) rfl
theorem wn_X8 : Cond.initialized RX8 ∈ gT := gT_t (i := 8) (by decide +kernel) rfl
theorem wn_X3 : Cond.initialized RX3 ∈ gT := gT_t (i := 9) (by decide +kernel) rfl
theorem wm_L_9 : Cond.methodLink RL 9 yX7_init ∈ gT := gT_t (i := 19) (by decide +kernel) rfl
theorem wi_X7_init : Cond.instanceMethod yX7_init ∈ gT := gT_t (i := 20) (by decide +kernel) rfl
theorem wc_X7_init : Cond.code yX7_init cX7_init 2 none ∈ gT := gT_t (i := 21) (by decide +kernel) rfl
theorem wi_X5_init : Cond.instanceMethod yX5_init ∈ gT := gT_t (i := 28) (by decide +kernel) rfl
theorem wc_X5_init : Cond.code yX5_init cX5_init 1 none ∈ gT := gT_t (i := 29) (by decide +kernel) rfl
theorem wf_X5_9 : Cond.fieldLink RX5 9 "RunningThree$Scene" "cells" "I" ∈ gT := gT_t (i := 31) (by decide +kernel) rfl
theorem wf_X5_15 : Cond.fieldLink RX5 15 "RunningThree$Scene" "sorts" "[I" ∈ gT := gT_t (i := 34) (by decide +kernel) rfl
theorem wf_X5_19 : Cond.fieldLink RX5 19 "RunningThree$Scene" "costs" "[I" ∈ gT := gT_t (i := 36) (by decide +kernel) rfl
theorem wf_X5_43 : Cond.fieldLink RX5 43 "RunningThree$Scene" "fighters" "I" ∈ gT := gT_t (i := 38) (by decide +kernel) rfl
theorem wf_X5_22 : Cond.fieldLink RX5 22 "RunningThree$Scene" "kinds" "[I" ∈ gT := gT_t (i := 42) (by decide +kernel) rfl
theorem wf_X5_25 : Cond.fieldLink RX5 25 "RunningThree$Scene" "strengths" "[I" ∈ gT := gT_t (i := 45) (by decide +kernel) rfl
theorem wf_X5_28 : Cond.fieldLink RX5 28 "RunningThree$Scene" "paces" "[I" ∈ gT := gT_t (i := 48) (by decide +kernel) rfl
theorem wf_X5_31 : Cond.fieldLink RX5 31 "RunningThree$Scene" "hurts" "[I" ∈ gT := gT_t (i := 50) (by decide +kernel) rfl
theorem wf_X5_46 : Cond.fieldLink RX5 46 "RunningThree$Scene" "start" "I" ∈ gT := gT_t (i := 55) (by decide +kernel) rfl
theorem wf_X5_49 : Cond.fieldLink RX5 49 "RunningThree$Scene" "moment" "I" ∈ gT := gT_t (i := 58) (by decide +kernel) rfl
theorem wf_X5_34 : Cond.fieldLink RX5 34 "RunningThree$Scene" "stand" "I" ∈ gT := gT_t (i := 62) (by decide +kernel) rfl
theorem wf_X5_37 : Cond.fieldLink RX5 37 "RunningThree$Scene" "coming" "[I" ∈ gT := gT_t (i := 65) (by decide +kernel) rfl
theorem wf_X5_40 : Cond.fieldLink RX5 40 "RunningThree$Scene" "draw" "I" ∈ gT := gT_t (i := 67) (by decide +kernel) rfl
theorem wi_X4_init : Cond.instanceMethod yX4_init ∈ gT := gT_t (i := 103) (by decide +kernel) rfl
theorem wc_X4_init : Cond.code yX4_init cX4_init 1 none ∈ gT := gT_t (i := 104) (by decide +kernel) rfl
theorem wf_X4_24 : Cond.fieldLink RX4 24 "RunningThree$Past" "known" "I" ∈ gT := gT_t (i := 106) (by decide +kernel) rfl
theorem wf_X4_28 : Cond.fieldLink RX4 28 "RunningThree$Past" "next" "I" ∈ gT := gT_t (i := 108) (by decide +kernel) rfl
theorem wf_X4_11 : Cond.fieldLink RX4 11 "RunningThree$Past" "hurts" "[I" ∈ gT := gT_t (i := 109) (by decide +kernel) rfl
theorem wf_X4_15 : Cond.fieldLink RX4 15 "RunningThree$Past" "moments" "[I" ∈ gT := gT_t (i := 110) (by decide +kernel) rfl
theorem wf_X4_18 : Cond.fieldLink RX4 18 "RunningThree$Past" "stands" "[I" ∈ gT := gT_t (i := 111) (by decide +kernel) rfl
theorem wf_X4_21 : Cond.fieldLink RX4 21 "RunningThree$Past" "draws" "[I" ∈ gT := gT_t (i := 112) (by decide +kernel) rfl
theorem wi_X1_init : Cond.instanceMethod yX1_init ∈ gT := gT_t (i := 129) (by decide +kernel) rfl
theorem wc_X1_init : Cond.code yX1_init cX1_init 1 none ∈ gT := gT_t (i := 130) (by decide +kernel) rfl
theorem wf_X1_9 : Cond.fieldLink RX1 9 "RunningThree$FieldText" "letters" "[I" ∈ gT := gT_t (i := 134) (by decide +kernel) rfl
theorem wf_X1_22 : Cond.fieldLink RX1 22 "RunningThree$FieldText" "length" "I" ∈ gT := gT_t (i := 135) (by decide +kernel) rfl
theorem wf_X1_36 : Cond.fieldLink RX1 36 "RunningThree$FieldText" "at" "I" ∈ gT := gT_t (i := 137) (by decide +kernel) rfl
theorem wf_X1_18 : Cond.fieldLink RX1 18 "RunningThree$FieldText" "draft" "LRunningThree$Scene;" ∈ gT := gT_t (i := 139) (by decide +kernel) rfl
theorem wi_X2_init : Cond.instanceMethod yX2_init ∈ gT := gT_t (i := 152) (by decide +kernel) rfl
theorem wc_X2_init : Cond.code yX2_init cX2_init 1 none ∈ gT := gT_t (i := 153) (by decide +kernel) rfl
theorem wi_X0_init : Cond.instanceMethod yX0_init ∈ gT := gT_t (i := 160) (by decide +kernel) rfl
theorem wc_X0_init : Cond.code yX0_init cX0_init 1 none ∈ gT := gT_t (i := 161) (by decide +kernel) rfl
theorem wf_X0_69 : Cond.fieldLink RX0 69 "RunningThree$Chances" "others" "I" ∈ gT := gT_t (i := 163) (by decide +kernel) rfl
theorem wf_X0_11 : Cond.fieldLink RX0 11 "RunningThree$Chances" "order" "[I" ∈ gT := gT_t (i := 164) (by decide +kernel) rfl
theorem wf_X0_15 : Cond.fieldLink RX0 15 "RunningThree$Chances" "coming" "[I" ∈ gT := gT_t (i := 165) (by decide +kernel) rfl
theorem wf_X0_18 : Cond.fieldLink RX0 18 "RunningThree$Chances" "waits" "[I" ∈ gT := gT_t (i := 166) (by decide +kernel) rfl
theorem wf_X0_21 : Cond.fieldLink RX0 21 "RunningThree$Chances" "begins" "[I" ∈ gT := gT_t (i := 167) (by decide +kernel) rfl
theorem wf_X0_24 : Cond.fieldLink RX0 24 "RunningThree$Chances" "idle" "[I" ∈ gT := gT_t (i := 168) (by decide +kernel) rfl
theorem wf_X0_27 : Cond.fieldLink RX0 27 "RunningThree$Chances" "turnAt" "[I" ∈ gT := gT_t (i := 169) (by decide +kernel) rfl
theorem wf_X0_30 : Cond.fieldLink RX0 30 "RunningThree$Chances" "forceAt" "[I" ∈ gT := gT_t (i := 170) (by decide +kernel) rfl
theorem wf_X0_33 : Cond.fieldLink RX0 33 "RunningThree$Chances" "runnerForces" "[I" ∈ gT := gT_t (i := 171) (by decide +kernel) rfl
theorem wf_X0_36 : Cond.fieldLink RX0 36 "RunningThree$Chances" "values" "[I" ∈ gT := gT_t (i := 172) (by decide +kernel) rfl
theorem wf_X0_39 : Cond.fieldLink RX0 39 "RunningThree$Chances" "keys" "[I" ∈ gT := gT_t (i := 173) (by decide +kernel) rfl
theorem wf_X0_42 : Cond.fieldLink RX0 42 "RunningThree$Chances" "known" "[I" ∈ gT := gT_t (i := 174) (by decide +kernel) rfl
theorem wf_X2_12 : Cond.fieldLink RX2 12 "RunningThree$Foretelling" "trial" "LRunningThree$Scene;" ∈ gT := gT_t (i := 200) (by decide +kernel) rfl
theorem wf_X2_21 : Cond.fieldLink RX2 21 "RunningThree$Foretelling" "chances" "LRunningThree$Chances;" ∈ gT := gT_t (i := 201) (by decide +kernel) rfl
theorem wf_X2_25 : Cond.fieldLink RX2 25 "RunningThree$Foretelling" "row" "[I" ∈ gT := gT_t (i := 202) (by decide +kernel) rfl
theorem wi_X6_init : Cond.instanceMethod yX6_init ∈ gT := gT_t (i := 214) (by decide +kernel) rfl
theorem wc_X6_init : Cond.code yX6_init cX6_init 1 none ∈ gT := gT_t (i := 215) (by decide +kernel) rfl
theorem wf_X6_11 : Cond.fieldLink RX6 11 "RunningThree$Sheet" "lane" "I" ∈ gT := gT_t (i := 217) (by decide +kernel) rfl
theorem wf_X6_19 : Cond.fieldLink RX6 19 "RunningThree$Sheet" "size" "I" ∈ gT := gT_t (i := 219) (by decide +kernel) rfl
theorem wf_X6_15 : Cond.fieldLink RX6 15 "RunningThree$Sheet" "items" "[J" ∈ gT := gT_t (i := 221) (by decide +kernel) rfl
theorem wf_X7_10 : Cond.fieldLink RX7 10 "RunningThree" "scene" "LRunningThree$Scene;" ∈ gT := gT_t (i := 231) (by decide +kernel) rfl
theorem wf_X7_19 : Cond.fieldLink RX7 19 "RunningThree" "past" "LRunningThree$Past;" ∈ gT := gT_t (i := 232) (by decide +kernel) rfl
theorem wf_X7_23 : Cond.fieldLink RX7 23 "RunningThree" "keptScene" "LRunningThree$Scene;" ∈ gT := gT_t (i := 233) (by decide +kernel) rfl
theorem wf_X7_26 : Cond.fieldLink RX7 26 "RunningThree" "keptPast" "LRunningThree$Past;" ∈ gT := gT_t (i := 234) (by decide +kernel) rfl
theorem wf_X7_212 : Cond.fieldLink RX7 212 "RunningThree" "kept" "Z" ∈ gT := gT_t (i := 235) (by decide +kernel) rfl
theorem wf_X7_32 : Cond.fieldLink RX7 32 "RunningThree" "tape" "LRunningThree$FieldText;" ∈ gT := gT_t (i := 236) (by decide +kernel) rfl
theorem wf_X7_39 : Cond.fieldLink RX7 39 "RunningThree" "foretelling" "LRunningThree$Foretelling;" ∈ gT := gT_t (i := 237) (by decide +kernel) rfl
theorem wf_X7_45 : Cond.fieldLink RX7 45 "RunningThree" "sheets" "[LRunningThree$Sheet;" ∈ gT := gT_t (i := 238) (by decide +kernel) rfl
theorem wm_L_13 : Cond.methodLink RL 13 yX7_fighter ∈ gT := gT_t (i := 256) (by decide +kernel) rfl
theorem wi_X7_fighter : Cond.instanceMethod yX7_fighter ∈ gT := gT_t (i := 257) (by decide +kernel) rfl
theorem ws_X7_fighter : Cond.selects RX7 yX7_fighter yX7_fighter ∈ gT := gT_t (i := 258) (by decide +kernel) rfl
theorem wc_X7_fighter : Cond.code yX7_fighter cX7_fighter 4 (some .int) ∈ gT := gT_t (i := 259) (by decide +kernel) rfl
theorem wm_X7_50 : Cond.methodLink RX7 50 yX7_within ∈ gT := gT_t (i := 260) (by decide +kernel) rfl
theorem wt_X7_within : Cond.static yX7_within ∈ gT := gT_t (i := 261) (by decide +kernel) rfl
theorem wc_X7_within : Cond.code yX7_within cX7_within 3 (some .boolean) ∈ gT := gT_t (i := 262) (by decide +kernel) rfl
theorem wm_X7_54 : Cond.methodLink RX7 54 yX5_hasTurned ∈ gT := gT_t (i := 263) (by decide +kernel) rfl
theorem wi_X5_hasTurned : Cond.instanceMethod yX5_hasTurned ∈ gT := gT_t (i := 264) (by decide +kernel) rfl
theorem ws_X5_hasTurned : Cond.selects RX5 yX5_hasTurned yX5_hasTurned ∈ gT := gT_t (i := 265) (by decide +kernel) rfl
theorem wc_X5_hasTurned : Cond.code yX5_hasTurned cX5_hasTurned 1 (some .boolean) ∈ gT := gT_t (i := 266) (by decide +kernel) rfl
theorem wm_X7_62 : Cond.methodLink RX7 62 yX4_forget ∈ gT := gT_t (i := 267) (by decide +kernel) rfl
theorem wi_X4_forget : Cond.instanceMethod yX4_forget ∈ gT := gT_t (i := 268) (by decide +kernel) rfl
theorem ws_X4_forget : Cond.selects RX4 yX4_forget yX4_forget ∈ gT := gT_t (i := 269) (by decide +kernel) rfl
theorem wc_X4_forget : Cond.code yX4_forget cX4_forget 1 none ∈ gT := gT_t (i := 270) (by decide +kernel) rfl
theorem wm_X7_65 : Cond.methodLink RX7 65 yX5_addFighter ∈ gT := gT_t (i := 271) (by decide +kernel) rfl
theorem wi_X5_addFighter : Cond.instanceMethod yX5_addFighter ∈ gT := gT_t (i := 272) (by decide +kernel) rfl
theorem ws_X5_addFighter : Cond.selects RX5 yX5_addFighter yX5_addFighter ∈ gT := gT_t (i := 273) (by decide +kernel) rfl
theorem wc_X5_addFighter : Cond.code yX5_addFighter cX5_addFighter 6 (some .int) ∈ gT := gT_t (i := 274) (by decide +kernel) rfl
theorem wm_L_18 : Cond.methodLink RL 18 yX7_of ∈ gT := gT_t (i := 275) (by decide +kernel) rfl
theorem wi_X7_of : Cond.instanceMethod yX7_of ∈ gT := gT_t (i := 276) (by decide +kernel) rfl
theorem ws_X7_of : Cond.selects RX7 yX7_of yX7_of ∈ gT := gT_t (i := 277) (by decide +kernel) rfl
theorem wc_X7_of : Cond.code yX7_of cX7_of 3 (some .int) ∈ gT := gT_t (i := 278) (by decide +kernel) rfl
theorem wm_X7_69 : Cond.methodLink RX7 69 yX5_exists ∈ gT := gT_t (i := 279) (by decide +kernel) rfl
theorem wi_X5_exists : Cond.instanceMethod yX5_exists ∈ gT := gT_t (i := 280) (by decide +kernel) rfl
theorem ws_X5_exists : Cond.selects RX5 yX5_exists yX5_exists ∈ gT := gT_t (i := 281) (by decide +kernel) rfl
theorem wc_X5_exists : Cond.code yX5_exists cX5_exists 2 (some .boolean) ∈ gT := gT_t (i := 282) (by decide +kernel) rfl
theorem wm_X7_86 : Cond.methodLink RX7 86 yX5_forceOf ∈ gT := gT_t (i := 284) (by decide +kernel) rfl
theorem wi_X5_forceOf : Cond.instanceMethod yX5_forceOf ∈ gT := gT_t (i := 285) (by decide +kernel) rfl
theorem ws_X5_forceOf : Cond.selects RX5 yX5_forceOf yX5_forceOf ∈ gT := gT_t (i := 286) (by decide +kernel) rfl
theorem wc_X5_forceOf : Cond.code yX5_forceOf cX5_forceOf 2 (some .int) ∈ gT := gT_t (i := 287) (by decide +kernel) rfl
theorem wm_X5_81 : Cond.methodLink RX5 81 yX3_force ∈ gT := gT_t (i := 288) (by decide +kernel) rfl
theorem wt_X3_force : Cond.static yX3_force ∈ gT := gT_t (i := 289) (by decide +kernel) rfl
theorem wc_X3_force : Cond.code yX3_force cX3_force 4 (some .int) ∈ gT := gT_t (i := 290) (by decide +kernel) rfl
theorem wm_X7_90 : Cond.methodLink RX7 90 yX5_cellNow ∈ gT := gT_t (i := 294) (by decide +kernel) rfl
theorem wi_X5_cellNow : Cond.instanceMethod yX5_cellNow ∈ gT := gT_t (i := 295) (by decide +kernel) rfl
theorem ws_X5_cellNow : Cond.selects RX5 yX5_cellNow yX5_cellNow ∈ gT := gT_t (i := 296) (by decide +kernel) rfl
theorem wc_X5_cellNow : Cond.code yX5_cellNow cX5_cellNow 2 (some .int) ∈ gT := gT_t (i := 297) (by decide +kernel) rfl
theorem wm_X5_108 : Cond.methodLink RX5 108 yX5_hasTurned ∈ gT := gT_t (i := 298) (by decide +kernel) rfl
theorem wm_X5_112 : Cond.methodLink RX5 112 yX5_cellRunning ∈ gT := gT_t (i := 299) (by decide +kernel) rfl
theorem wi_X5_cellRunning : Cond.instanceMethod yX5_cellRunning ∈ gT := gT_t (i := 300) (by decide +kernel) rfl
theorem ws_X5_cellRunning : Cond.selects RX5 yX5_cellRunning yX5_cellRunning ∈ gT := gT_t (i := 301) (by decide +kernel) rfl
theorem wc_X5_cellRunning : Cond.code yX5_cellRunning cX5_cellRunning 3 (some .int) ∈ gT := gT_t (i := 302) (by decide +kernel) rfl
theorem wm_X5_74 : Cond.methodLink RX5 74 yX5_isUp ∈ gT := gT_t (i := 303) (by decide +kernel) rfl
theorem wi_X5_isUp : Cond.instanceMethod yX5_isUp ∈ gT := gT_t (i := 304) (by decide +kernel) rfl
theorem ws_X5_isUp : Cond.selects RX5 yX5_isUp yX5_isUp ∈ gT := gT_t (i := 305) (by decide +kernel) rfl
theorem wc_X5_isUp : Cond.code yX5_isUp cX5_isUp 2 (some .boolean) ∈ gT := gT_t (i := 306) (by decide +kernel) rfl
theorem wm_X5_93 : Cond.methodLink RX5 93 yX5_momentsOut ∈ gT := gT_t (i := 307) (by decide +kernel) rfl
theorem wi_X5_momentsOut : Cond.instanceMethod yX5_momentsOut ∈ gT := gT_t (i := 309) (by decide +kernel) rfl
theorem wc_X5_momentsOut : Cond.code yX5_momentsOut cX5_momentsOut 3 (some .int) ∈ gT := gT_t (i := 310) (by decide +kernel) rfl
theorem wm_X5_97 : Cond.methodLink RX5 97 yX5_pointsOf ∈ gT := gT_t (i := 312) (by decide +kernel) rfl
theorem wi_X5_pointsOf : Cond.instanceMethod yX5_pointsOf ∈ gT := gT_t (i := 313) (by decide +kernel) rfl
theorem ws_X5_pointsOf : Cond.selects RX5 yX5_pointsOf yX5_pointsOf ∈ gT := gT_t (i := 314) (by decide +kernel) rfl
theorem wc_X5_pointsOf : Cond.code yX5_pointsOf cX5_pointsOf 5 (some .int) ∈ gT := gT_t (i := 315) (by decide +kernel) rfl
theorem wm_X5_87 : Cond.methodLink RX5 87 yX3_stride ∈ gT := gT_t (i := 316) (by decide +kernel) rfl
theorem wt_X3_stride : Cond.static yX3_stride ∈ gT := gT_t (i := 317) (by decide +kernel) rfl
theorem wc_X3_stride : Cond.code yX3_stride cX3_stride 4 (some .int) ∈ gT := gT_t (i := 318) (by decide +kernel) rfl
theorem wm_X5_90 : Cond.methodLink RX5 90 yX3_pointsIn ∈ gT := gT_t (i := 319) (by decide +kernel) rfl
theorem wt_X3_pointsIn : Cond.static yX3_pointsIn ∈ gT := gT_t (i := 320) (by decide +kernel) rfl
theorem wc_X3_pointsIn : Cond.code yX3_pointsIn cX3_pointsIn 3 (some .int) ∈ gT := gT_t (i := 321) (by decide +kernel) rfl
theorem wm_X5_100 : Cond.methodLink RX5 100 yX5_cellBy ∈ gT := gT_t (i := 325) (by decide +kernel) rfl
theorem wi_X5_cellBy : Cond.instanceMethod yX5_cellBy ∈ gT := gT_t (i := 326) (by decide +kernel) rfl
theorem ws_X5_cellBy : Cond.selects RX5 yX5_cellBy yX5_cellBy ∈ gT := gT_t (i := 327) (by decide +kernel) rfl
theorem wc_X5_cellBy : Cond.code yX5_cellBy cX5_cellBy 3 (some .int) ∈ gT := gT_t (i := 328) (by decide +kernel) rfl
theorem wm_X5_115 : Cond.methodLink RX5 115 yX5_cellBehindTurn ∈ gT := gT_t (i := 329) (by decide +kernel) rfl
theorem wi_X5_cellBehindTurn : Cond.instanceMethod yX5_cellBehindTurn ∈ gT := gT_t (i := 331) (by decide +kernel) rfl
theorem wc_X5_cellBehindTurn : Cond.code yX5_cellBehindTurn cX5_cellBehindTurn 2 (some .int) ∈ gT := gT_t (i := 332) (by decide +kernel) rfl
theorem wk_X5_118 : Cond.constant RX5 118 (1073741824) ∈ gT := gT_t (i := 333) (by decide +kernel) rfl
theorem wm_X7_93 : Cond.methodLink RX7 93 yX5_comingOf ∈ gT := gT_t (i := 334) (by decide +kernel) rfl
theorem wi_X5_comingOf : Cond.instanceMethod yX5_comingOf ∈ gT := gT_t (i := 335) (by decide +kernel) rfl
theorem ws_X5_comingOf : Cond.selects RX5 yX5_comingOf yX5_comingOf ∈ gT := gT_t (i := 336) (by decide +kernel) rfl
theorem wc_X5_comingOf : Cond.code yX5_comingOf cX5_comingOf 2 (some .int) ∈ gT := gT_t (i := 337) (by decide +kernel) rfl
theorem wm_L_23 : Cond.methodLink RL 23 yX7_hurt ∈ gT := gT_t (i := 338) (by decide +kernel) rfl
theorem wi_X7_hurt : Cond.instanceMethod yX7_hurt ∈ gT := gT_t (i := 339) (by decide +kernel) rfl
theorem ws_X7_hurt : Cond.selects RX7 yX7_hurt yX7_hurt ∈ gT := gT_t (i := 340) (by decide +kernel) rfl
theorem wc_X7_hurt : Cond.code yX7_hurt cX7_hurt 4 (some .int) ∈ gT := gT_t (i := 341) (by decide +kernel) rfl
theorem wm_L_27 : Cond.methodLink RL 27 yX7_start ∈ gT := gT_t (i := 342) (by decide +kernel) rfl
theorem wi_X7_start : Cond.instanceMethod yX7_start ∈ gT := gT_t (i := 343) (by decide +kernel) rfl
theorem ws_X7_start : Cond.selects RX7 yX7_start yX7_start ∈ gT := gT_t (i := 344) (by decide +kernel) rfl
theorem wc_X7_start : Cond.code yX7_start cX7_start 3 (some .int) ∈ gT := gT_t (i := 345) (by decide +kernel) rfl
theorem wm_L_32 : Cond.methodLink RL 32 yX7_sort ∈ gT := gT_t (i := 346) (by decide +kernel) rfl
theorem wi_X7_sort : Cond.instanceMethod yX7_sort ∈ gT := gT_t (i := 347) (by decide +kernel) rfl
theorem ws_X7_sort : Cond.selects RX7 yX7_sort yX7_sort ∈ gT := gT_t (i := 348) (by decide +kernel) rfl
theorem wc_X7_sort : Cond.code yX7_sort cX7_sort 2 (some .int) ∈ gT := gT_t (i := 349) (by decide +kernel) rfl
theorem wm_X7_102 : Cond.methodLink RX7 102 yX5_hasCell ∈ gT := gT_t (i := 350) (by decide +kernel) rfl
theorem wi_X5_hasCell : Cond.instanceMethod yX5_hasCell ∈ gT := gT_t (i := 351) (by decide +kernel) rfl
theorem ws_X5_hasCell : Cond.selects RX5 yX5_hasCell yX5_hasCell ∈ gT := gT_t (i := 352) (by decide +kernel) rfl
theorem wc_X5_hasCell : Cond.code yX5_hasCell cX5_hasCell 2 (some .boolean) ∈ gT := gT_t (i := 353) (by decide +kernel) rfl
theorem wm_L_36 : Cond.methodLink RL 36 yX7_cost ∈ gT := gT_t (i := 354) (by decide +kernel) rfl
theorem wi_X7_cost : Cond.instanceMethod yX7_cost ∈ gT := gT_t (i := 355) (by decide +kernel) rfl
theorem ws_X7_cost : Cond.selects RX7 yX7_cost yX7_cost ∈ gT := gT_t (i := 356) (by decide +kernel) rfl
theorem wc_X7_cost : Cond.code yX7_cost cX7_cost 2 (some .int) ∈ gT := gT_t (i := 357) (by decide +kernel) rfl
theorem wm_L_40 : Cond.methodLink RL 40 yX7_points ∈ gT := gT_t (i := 358) (by decide +kernel) rfl
theorem wi_X7_points : Cond.instanceMethod yX7_points ∈ gT := gT_t (i := 359) (by decide +kernel) rfl
theorem ws_X7_points : Cond.selects RX7 yX7_points yX7_points ∈ gT := gT_t (i := 360) (by decide +kernel) rfl
theorem wc_X7_points : Cond.code yX7_points cX7_points 3 (some .int) ∈ gT := gT_t (i := 361) (by decide +kernel) rfl
theorem wm_X7_111 : Cond.methodLink RX7 111 yX5_pointsOf ∈ gT := gT_t (i := 362) (by decide +kernel) rfl
theorem wm_L_44 : Cond.methodLink RL 44 yX7_type ∈ gT := gT_t (i := 363) (by decide +kernel) rfl
theorem wi_X7_type : Cond.instanceMethod yX7_type ∈ gT := gT_t (i := 364) (by decide +kernel) rfl
theorem ws_X7_type : Cond.selects RX7 yX7_type yX7_type ∈ gT := gT_t (i := 365) (by decide +kernel) rfl
theorem wc_X7_type : Cond.code yX7_type cX7_type 2 (some .int) ∈ gT := gT_t (i := 366) (by decide +kernel) rfl
theorem wm_X7_115 : Cond.methodLink RX7 115 yX1_add ∈ gT := gT_t (i := 367) (by decide +kernel) rfl
theorem wi_X1_add : Cond.instanceMethod yX1_add ∈ gT := gT_t (i := 368) (by decide +kernel) rfl
theorem ws_X1_add : Cond.selects RX1 yX1_add yX1_add ∈ gT := gT_t (i := 369) (by decide +kernel) rfl
theorem wc_X1_add : Cond.code yX1_add cX1_add 2 (some .boolean) ∈ gT := gT_t (i := 370) (by decide +kernel) rfl
theorem wm_L_48 : Cond.methodLink RL 48 yX7_field ∈ gT := gT_t (i := 371) (by decide +kernel) rfl
theorem wi_X7_field : Cond.instanceMethod yX7_field ∈ gT := gT_t (i := 372) (by decide +kernel) rfl
theorem ws_X7_field : Cond.selects RX7 yX7_field yX7_field ∈ gT := gT_t (i := 373) (by decide +kernel) rfl
theorem wc_X7_field : Cond.code yX7_field cX7_field 2 (some .int) ∈ gT := gT_t (i := 374) (by decide +kernel) rfl
theorem wm_X7_121 : Cond.methodLink RX7 121 yX1_read ∈ gT := gT_t (i := 375) (by decide +kernel) rfl
theorem wi_X1_read : Cond.instanceMethod yX1_read ∈ gT := gT_t (i := 376) (by decide +kernel) rfl
theorem ws_X1_read : Cond.selects RX1 yX1_read yX1_read ∈ gT := gT_t (i := 377) (by decide +kernel) rfl
theorem wc_X1_read : Cond.code yX1_read cX1_read 1 (some .boolean) ∈ gT := gT_t (i := 378) (by decide +kernel) rfl
theorem wm_X1_39 : Cond.methodLink RX1 39 yX5_clear ∈ gT := gT_t (i := 379) (by decide +kernel) rfl
theorem wi_X5_clear : Cond.instanceMethod yX5_clear ∈ gT := gT_t (i := 380) (by decide +kernel) rfl
theorem ws_X5_clear : Cond.selects RX5 yX5_clear yX5_clear ∈ gT := gT_t (i := 381) (by decide +kernel) rfl
theorem wc_X5_clear : Cond.code yX5_clear cX5_clear 1 none ∈ gT := gT_t (i := 382) (by decide +kernel) rfl
theorem wm_X1_42 : Cond.methodLink RX1 42 yX1_readGround ∈ gT := gT_t (i := 383) (by decide +kernel) rfl
theorem wi_X1_readGround : Cond.instanceMethod yX1_readGround ∈ gT := gT_t (i := 385) (by decide +kernel) rfl
theorem wc_X1_readGround : Cond.code yX1_readGround cX1_readGround 2 (some .boolean) ∈ gT := gT_t (i := 386) (by decide +kernel) rfl
theorem wm_X1_46 : Cond.methodLink RX1 46 yX1_peek ∈ gT := gT_t (i := 388) (by decide +kernel) rfl
theorem wi_X1_peek : Cond.instanceMethod yX1_peek ∈ gT := gT_t (i := 390) (by decide +kernel) rfl
theorem wc_X1_peek : Cond.code yX1_peek cX1_peek 1 (some .int) ∈ gT := gT_t (i := 391) (by decide +kernel) rfl
theorem wm_X1_68 : Cond.methodLink RX1 68 yX5_addCell ∈ gT := gT_t (i := 474) (by decide +kernel) rfl
theorem wi_X5_addCell : Cond.instanceMethod yX5_addCell ∈ gT := gT_t (i := 475) (by decide +kernel) rfl
theorem ws_X5_addCell : Cond.selects RX5 yX5_addCell yX5_addCell ∈ gT := gT_t (i := 476) (by decide +kernel) rfl
theorem wc_X5_addCell : Cond.code yX5_addCell cX5_addCell 2 none ∈ gT := gT_t (i := 477) (by decide +kernel) rfl
theorem wm_X5_62 : Cond.methodLink RX5 62 yX5_costOf ∈ gT := gT_t (i := 478) (by decide +kernel) rfl
theorem wt_X5_costOf : Cond.static yX5_costOf ∈ gT := gT_t (i := 479) (by decide +kernel) rfl
theorem wc_X5_costOf : Cond.code yX5_costOf cX5_costOf 1 (some .int) ∈ gT := gT_t (i := 480) (by decide +kernel) rfl
theorem wm_X1_50 : Cond.methodLink RX1 50 yX1_take ∈ gT := gT_t (i := 481) (by decide +kernel) rfl
theorem wi_X1_take : Cond.instanceMethod yX1_take ∈ gT := gT_t (i := 483) (by decide +kernel) rfl
theorem wc_X1_take : Cond.code yX1_take cX1_take 2 (some .boolean) ∈ gT := gT_t (i := 484) (by decide +kernel) rfl
theorem wm_X1_54 : Cond.methodLink RX1 54 yX1_readFighters ∈ gT := gT_t (i := 485) (by decide +kernel) rfl
theorem wi_X1_readFighters : Cond.instanceMethod yX1_readFighters ∈ gT := gT_t (i := 487) (by decide +kernel) rfl
theorem wc_X1_readFighters : Cond.code yX1_readFighters cX1_readFighters 1 (some .boolean) ∈ gT := gT_t (i := 488) (by decide +kernel) rfl
theorem wm_X1_75 : Cond.methodLink RX1 75 yX1_readFighter ∈ gT := gT_t (i := 489) (by decide +kernel) rfl
theorem wi_X1_readFighter : Cond.instanceMethod yX1_readFighter ∈ gT := gT_t (i := 491) (by decide +kernel) rfl
theorem wc_X1_readFighter : Cond.code yX1_readFighter cX1_readFighter 5 (some .boolean) ∈ gT := gT_t (i := 492) (by decide +kernel) rfl
theorem wm_X1_80 : Cond.methodLink RX1 80 yX1_takeDigit ∈ gT := gT_t (i := 494) (by decide +kernel) rfl
theorem wi_X1_takeDigit : Cond.instanceMethod yX1_takeDigit ∈ gT := gT_t (i := 496) (by decide +kernel) rfl
theorem wc_X1_takeDigit : Cond.code yX1_takeDigit cX1_takeDigit 4 (some .int) ∈ gT := gT_t (i := 497) (by decide +kernel) rfl
theorem wm_X1_84 : Cond.methodLink RX1 84 yX5_addFighter ∈ gT := gT_t (i := 499) (by decide +kernel) rfl
theorem wm_X7_127 : Cond.methodLink RX7 127 yX1_setUp ∈ gT := gT_t (i := 500) (by decide +kernel) rfl
theorem wi_X1_setUp : Cond.instanceMethod yX1_setUp ∈ gT := gT_t (i := 501) (by decide +kernel) rfl
theorem ws_X1_setUp : Cond.selects RX1 yX1_setUp yX1_setUp ∈ gT := gT_t (i := 502) (by decide +kernel) rfl
theorem wc_X1_setUp : Cond.code yX1_setUp cX1_setUp 2 none ∈ gT := gT_t (i := 503) (by decide +kernel) rfl
theorem wm_X1_32 : Cond.methodLink RX1 32 yX5_takeFrom ∈ gT := gT_t (i := 504) (by decide +kernel) rfl
theorem wi_X5_takeFrom : Cond.instanceMethod yX5_takeFrom ∈ gT := gT_t (i := 505) (by decide +kernel) rfl
theorem ws_X5_takeFrom : Cond.selects RX5 yX5_takeFrom yX5_takeFrom ∈ gT := gT_t (i := 506) (by decide +kernel) rfl
theorem wc_X5_takeFrom : Cond.code yX5_takeFrom cX5_takeFrom 2 none ∈ gT := gT_t (i := 507) (by decide +kernel) rfl
theorem wm_X5_58 : Cond.methodLink RX5 58 yX5_takeHurts ∈ gT := gT_t (i := 511) (by decide +kernel) rfl
theorem wi_X5_takeHurts : Cond.instanceMethod yX5_takeHurts ∈ gT := gT_t (i := 512) (by decide +kernel) rfl
theorem ws_X5_takeHurts : Cond.selects RX5 yX5_takeHurts yX5_takeHurts ∈ gT := gT_t (i := 513) (by decide +kernel) rfl
theorem wc_X5_takeHurts : Cond.code yX5_takeHurts cX5_takeHurts 2 none ∈ gT := gT_t (i := 514) (by decide +kernel) rfl
theorem wm_L_53 : Cond.methodLink RL 53 yX7_count ∈ gT := gT_t (i := 516) (by decide +kernel) rfl
theorem wi_X7_count : Cond.instanceMethod yX7_count ∈ gT := gT_t (i := 517) (by decide +kernel) rfl
theorem ws_X7_count : Cond.selects RX7 yX7_count yX7_count ∈ gT := gT_t (i := 518) (by decide +kernel) rfl
theorem wc_X7_count : Cond.code yX7_count cX7_count 2 (some .int) ∈ gT := gT_t (i := 519) (by decide +kernel) rfl
theorem wm_X7_140 : Cond.methodLink RX7 140 yX5_thoseDown ∈ gT := gT_t (i := 520) (by decide +kernel) rfl
theorem wi_X5_thoseDown : Cond.instanceMethod yX5_thoseDown ∈ gT := gT_t (i := 521) (by decide +kernel) rfl
theorem ws_X5_thoseDown : Cond.selects RX5 yX5_thoseDown yX5_thoseDown ∈ gT := gT_t (i := 522) (by decide +kernel) rfl
theorem wc_X5_thoseDown : Cond.code yX5_thoseDown cX5_thoseDown 3 (some .int) ∈ gT := gT_t (i := 523) (by decide +kernel) rfl
theorem wm_X7_144 : Cond.methodLink RX7 144 yX5_outcome ∈ gT := gT_t (i := 524) (by decide +kernel) rfl
theorem wi_X5_outcome : Cond.instanceMethod yX5_outcome ∈ gT := gT_t (i := 525) (by decide +kernel) rfl
theorem ws_X5_outcome : Cond.selects RX5 yX5_outcome yX5_outcome ∈ gT := gT_t (i := 526) (by decide +kernel) rfl
theorem wc_X5_outcome : Cond.code yX5_outcome cX5_outcome 1 (some .int) ∈ gT := gT_t (i := 527) (by decide +kernel) rfl
theorem wm_X5_77 : Cond.methodLink RX5 77 yX5_othersUp ∈ gT := gT_t (i := 528) (by decide +kernel) rfl
theorem wi_X5_othersUp : Cond.instanceMethod yX5_othersUp ∈ gT := gT_t (i := 529) (by decide +kernel) rfl
theorem ws_X5_othersUp : Cond.selects RX5 yX5_othersUp yX5_othersUp ∈ gT := gT_t (i := 530) (by decide +kernel) rfl
theorem wc_X5_othersUp : Cond.code yX5_othersUp cX5_othersUp 3 (some .int) ∈ gT := gT_t (i := 531) (by decide +kernel) rfl
theorem wm_L_57 : Cond.methodLink RL 57 yX7_moment ∈ gT := gT_t (i := 532) (by decide +kernel) rfl
theorem wi_X7_moment : Cond.instanceMethod yX7_moment ∈ gT := gT_t (i := 533) (by decide +kernel) rfl
theorem ws_X7_moment : Cond.selects RX7 yX7_moment yX7_moment ∈ gT := gT_t (i := 534) (by decide +kernel) rfl
theorem wc_X7_moment : Cond.code yX7_moment cX7_moment 1 (some .int) ∈ gT := gT_t (i := 535) (by decide +kernel) rfl
theorem wm_X7_147 : Cond.methodLink RX7 147 yX4_remember ∈ gT := gT_t (i := 536) (by decide +kernel) rfl
theorem wi_X4_remember : Cond.instanceMethod yX4_remember ∈ gT := gT_t (i := 537) (by decide +kernel) rfl
theorem ws_X4_remember : Cond.selects RX4 yX4_remember yX4_remember ∈ gT := gT_t (i := 538) (by decide +kernel) rfl
theorem wc_X4_remember : Cond.code yX4_remember cX4_remember 2 none ∈ gT := gT_t (i := 539) (by decide +kernel) rfl
theorem wm_X7_150 : Cond.methodLink RX7 150 yX5_fightFirst ∈ gT := gT_t (i := 542) (by decide +kernel) rfl
theorem wi_X5_fightFirst : Cond.instanceMethod yX5_fightFirst ∈ gT := gT_t (i := 543) (by decide +kernel) rfl
theorem ws_X5_fightFirst : Cond.selects RX5 yX5_fightFirst yX5_fightFirst ∈ gT := gT_t (i := 544) (by decide +kernel) rfl
theorem wc_X5_fightFirst : Cond.code yX5_fightFirst cX5_fightFirst 4 (some .int) ∈ gT := gT_t (i := 545) (by decide +kernel) rfl
theorem wm_X5_131 : Cond.methodLink RX5 131 yX5_firstThere ∈ gT := gT_t (i := 546) (by decide +kernel) rfl
theorem wi_X5_firstThere : Cond.instanceMethod yX5_firstThere ∈ gT := gT_t (i := 548) (by decide +kernel) rfl
theorem wc_X5_firstThere : Cond.code yX5_firstThere cX5_firstThere 3 (some .int) ∈ gT := gT_t (i := 549) (by decide +kernel) rfl
theorem wm_X5_128 : Cond.methodLink RX5 128 yX5_isThere ∈ gT := gT_t (i := 550) (by decide +kernel) rfl
theorem wi_X5_isThere : Cond.instanceMethod yX5_isThere ∈ gT := gT_t (i := 552) (by decide +kernel) rfl
theorem wc_X5_isThere : Cond.code yX5_isThere cX5_isThere 2 (some .boolean) ∈ gT := gT_t (i := 553) (by decide +kernel) rfl
theorem wm_X5_134 : Cond.methodLink RX5 134 yX5_forceOf ∈ gT := gT_t (i := 554) (by decide +kernel) rfl
theorem wm_X5_137 : Cond.methodLink RX5 137 yX5_countThere ∈ gT := gT_t (i := 555) (by decide +kernel) rfl
theorem wi_X5_countThere : Cond.instanceMethod yX5_countThere ∈ gT := gT_t (i := 557) (by decide +kernel) rfl
theorem wc_X5_countThere : Cond.code yX5_countThere cX5_countThere 3 (some .int) ∈ gT := gT_t (i := 558) (by decide +kernel) rfl
theorem wm_X5_140 : Cond.methodLink RX5 140 yX5_odds ∈ gT := gT_t (i := 559) (by decide +kernel) rfl
theorem wt_X5_odds : Cond.static yX5_odds ∈ gT := gT_t (i := 560) (by decide +kernel) rfl
theorem wc_X5_odds : Cond.code yX5_odds cX5_odds 4 (some .int) ∈ gT := gT_t (i := 561) (by decide +kernel) rfl
theorem wm_X5_143 : Cond.methodLink RX5 143 yX5_drawOfSixteen ∈ gT := gT_t (i := 562) (by decide +kernel) rfl
theorem wi_X5_drawOfSixteen : Cond.instanceMethod yX5_drawOfSixteen ∈ gT := gT_t (i := 564) (by decide +kernel) rfl
theorem wc_X5_drawOfSixteen : Cond.code yX5_drawOfSixteen cX5_drawOfSixteen 1 (some .int) ∈ gT := gT_t (i := 565) (by decide +kernel) rfl
theorem wk_X5_146 : Cond.constant RX5 146 (1103515245) ∈ gT := gT_t (i := 566) (by decide +kernel) rfl
theorem wk_X5_147 : Cond.constant RX5 147 (2147483647) ∈ gT := gT_t (i := 567) (by decide +kernel) rfl
theorem wk_X5_148 : Cond.constant RX5 148 (65536) ∈ gT := gT_t (i := 568) (by decide +kernel) rfl
theorem wm_X7_153 : Cond.methodLink RX7 153 yX7_runOn ∈ gT := gT_t (i := 569) (by decide +kernel) rfl
theorem wi_X7_runOn : Cond.instanceMethod yX7_runOn ∈ gT := gT_t (i := 571) (by decide +kernel) rfl
theorem wc_X7_runOn : Cond.code yX7_runOn cX7_runOn 1 (some .int) ∈ gT := gT_t (i := 572) (by decide +kernel) rfl
theorem wm_X7_156 : Cond.methodLink RX7 156 yX5_isCaughtIn ∈ gT := gT_t (i := 573) (by decide +kernel) rfl
theorem wi_X5_isCaughtIn : Cond.instanceMethod yX5_isCaughtIn ∈ gT := gT_t (i := 574) (by decide +kernel) rfl
theorem ws_X5_isCaughtIn : Cond.selects RX5 yX5_isCaughtIn yX5_isCaughtIn ∈ gT := gT_t (i := 575) (by decide +kernel) rfl
theorem wc_X5_isCaughtIn : Cond.code yX5_isCaughtIn cX5_isCaughtIn 5 (some .boolean) ∈ gT := gT_t (i := 576) (by decide +kernel) rfl
theorem wm_X5_122 : Cond.methodLink RX5 122 yX5_comesTo ∈ gT := gT_t (i := 577) (by decide +kernel) rfl
theorem wi_X5_comesTo : Cond.instanceMethod yX5_comesTo ∈ gT := gT_t (i := 578) (by decide +kernel) rfl
theorem ws_X5_comesTo : Cond.selects RX5 yX5_comesTo yX5_comesTo ∈ gT := gT_t (i := 579) (by decide +kernel) rfl
theorem wc_X5_comesTo : Cond.code yX5_comesTo cX5_comesTo 5 (some .int) ∈ gT := gT_t (i := 580) (by decide +kernel) rfl
theorem wm_X5_119 : Cond.methodLink RX5 119 yX3_momentsFor ∈ gT := gT_t (i := 581) (by decide +kernel) rfl
theorem wt_X3_momentsFor : Cond.static yX3_momentsFor ∈ gT := gT_t (i := 582) (by decide +kernel) rfl
theorem wc_X3_momentsFor : Cond.code yX3_momentsFor cX3_momentsFor 4 (some .int) ∈ gT := gT_t (i := 583) (by decide +kernel) rfl
theorem wm_X3_18 : Cond.methodLink RX3 18 yX3_shares ∈ gT := gT_t (i := 584) (by decide +kernel) rfl
theorem wt_X3_shares : Cond.static yX3_shares ∈ gT := gT_t (i := 585) (by decide +kernel) rfl
theorem wc_X3_shares : Cond.code yX3_shares cX3_shares 2 (some .int) ∈ gT := gT_t (i := 586) (by decide +kernel) rfl
theorem wm_X7_159 : Cond.methodLink RX7 159 yX5_turnIn ∈ gT := gT_t (i := 587) (by decide +kernel) rfl
theorem wi_X5_turnIn : Cond.instanceMethod yX5_turnIn ∈ gT := gT_t (i := 588) (by decide +kernel) rfl
theorem ws_X5_turnIn : Cond.selects RX5 yX5_turnIn yX5_turnIn ∈ gT := gT_t (i := 589) (by decide +kernel) rfl
theorem wc_X5_turnIn : Cond.code yX5_turnIn cX5_turnIn 3 none ∈ gT := gT_t (i := 590) (by decide +kernel) rfl
theorem wm_L_61 : Cond.methodLink RL 61 yX7_turn ∈ gT := gT_t (i := 591) (by decide +kernel) rfl
theorem wi_X7_turn : Cond.instanceMethod yX7_turn ∈ gT := gT_t (i := 592) (by decide +kernel) rfl
theorem ws_X7_turn : Cond.selects RX7 yX7_turn yX7_turn ∈ gT := gT_t (i := 593) (by decide +kernel) rfl
theorem wc_X7_turn : Cond.code yX7_turn cX7_turn 1 (some .int) ∈ gT := gT_t (i := 594) (by decide +kernel) rfl
theorem wm_X7_163 : Cond.methodLink RX7 163 yX7_mayTurn ∈ gT := gT_t (i := 595) (by decide +kernel) rfl
theorem wi_X7_mayTurn : Cond.instanceMethod yX7_mayTurn ∈ gT := gT_t (i := 597) (by decide +kernel) rfl
theorem wc_X7_mayTurn : Cond.code yX7_mayTurn cX7_mayTurn 1 (some .boolean) ∈ gT := gT_t (i := 598) (by decide +kernel) rfl
theorem wm_L_65 : Cond.methodLink RL 65 yX7_undo ∈ gT := gT_t (i := 599) (by decide +kernel) rfl
theorem wi_X7_undo : Cond.instanceMethod yX7_undo ∈ gT := gT_t (i := 600) (by decide +kernel) rfl
theorem ws_X7_undo : Cond.selects RX7 yX7_undo yX7_undo ∈ gT := gT_t (i := 601) (by decide +kernel) rfl
theorem wc_X7_undo : Cond.code yX7_undo cX7_undo 1 (some .int) ∈ gT := gT_t (i := 602) (by decide +kernel) rfl
theorem wm_X7_166 : Cond.methodLink RX7 166 yX4_bringBack ∈ gT := gT_t (i := 603) (by decide +kernel) rfl
theorem wi_X4_bringBack : Cond.instanceMethod yX4_bringBack ∈ gT := gT_t (i := 604) (by decide +kernel) rfl
theorem ws_X4_bringBack : Cond.selects RX4 yX4_bringBack yX4_bringBack ∈ gT := gT_t (i := 605) (by decide +kernel) rfl
theorem wc_X4_bringBack : Cond.code yX4_bringBack cX4_bringBack 2 (some .boolean) ∈ gT := gT_t (i := 606) (by decide +kernel) rfl
theorem wm_L_69 : Cond.methodLink RL 69 yX7_seed ∈ gT := gT_t (i := 607) (by decide +kernel) rfl
theorem wi_X7_seed : Cond.instanceMethod yX7_seed ∈ gT := gT_t (i := 608) (by decide +kernel) rfl
theorem ws_X7_seed : Cond.selects RX7 yX7_seed yX7_seed ∈ gT := gT_t (i := 609) (by decide +kernel) rfl
theorem wc_X7_seed : Cond.code yX7_seed cX7_seed 3 (some .int) ∈ gT := gT_t (i := 610) (by decide +kernel) rfl
theorem wm_L_73 : Cond.methodLink RL 73 yX7_chance ∈ gT := gT_t (i := 611) (by decide +kernel) rfl
theorem wi_X7_chance : Cond.instanceMethod yX7_chance ∈ gT := gT_t (i := 612) (by decide +kernel) rfl
theorem ws_X7_chance : Cond.selects RX7 yX7_chance yX7_chance ∈ gT := gT_t (i := 613) (by decide +kernel) rfl
theorem wc_X7_chance : Cond.code yX7_chance cX7_chance 2 (some .int) ∈ gT := gT_t (i := 614) (by decide +kernel) rfl
theorem wm_X7_173 : Cond.methodLink RX7 173 yX2_begin ∈ gT := gT_t (i := 615) (by decide +kernel) rfl
theorem wi_X2_begin : Cond.instanceMethod yX2_begin ∈ gT := gT_t (i := 616) (by decide +kernel) rfl
theorem ws_X2_begin : Cond.selects RX2 yX2_begin yX2_begin ∈ gT := gT_t (i := 617) (by decide +kernel) rfl
theorem wc_X2_begin : Cond.code yX2_begin cX2_begin 2 none ∈ gT := gT_t (i := 618) (by decide +kernel) rfl
theorem wm_X2_29 : Cond.methodLink RX2 29 yX5_takeFrom ∈ gT := gT_t (i := 619) (by decide +kernel) rfl
theorem wm_X2_33 : Cond.methodLink RX2 33 yX0_forget ∈ gT := gT_t (i := 620) (by decide +kernel) rfl
theorem wi_X0_forget : Cond.instanceMethod yX0_forget ∈ gT := gT_t (i := 621) (by decide +kernel) rfl
theorem ws_X0_forget : Cond.selects RX0 yX0_forget yX0_forget ∈ gT := gT_t (i := 622) (by decide +kernel) rfl
theorem wc_X0_forget : Cond.code yX0_forget cX0_forget 2 none ∈ gT := gT_t (i := 623) (by decide +kernel) rfl
theorem wm_X7_176 : Cond.methodLink RX7 176 yX2_chanceBy ∈ gT := gT_t (i := 624) (by decide +kernel) rfl
theorem wi_X2_chanceBy : Cond.instanceMethod yX2_chanceBy ∈ gT := gT_t (i := 625) (by decide +kernel) rfl
theorem ws_X2_chanceBy : Cond.selects RX2 yX2_chanceBy yX2_chanceBy ∈ gT := gT_t (i := 626) (by decide +kernel) rfl
theorem wc_X2_chanceBy : Cond.code yX2_chanceBy cX2_chanceBy 3 (some .int) ∈ gT := gT_t (i := 627) (by decide +kernel) rfl
theorem wm_X2_40 : Cond.methodLink RX2 40 yX5_hasTurned ∈ gT := gT_t (i := 628) (by decide +kernel) rfl
theorem wm_X2_44 : Cond.methodLink RX2 44 yX0_takeComing ∈ gT := gT_t (i := 629) (by decide +kernel) rfl
theorem wi_X0_takeComing : Cond.instanceMethod yX0_takeComing ∈ gT := gT_t (i := 630) (by decide +kernel) rfl
theorem ws_X0_takeComing : Cond.selects RX0 yX0_takeComing yX0_takeComing ∈ gT := gT_t (i := 631) (by decide +kernel) rfl
theorem wc_X0_takeComing : Cond.code yX0_takeComing cX0_takeComing 2 none ∈ gT := gT_t (i := 632) (by decide +kernel) rfl
theorem wm_X2_47 : Cond.methodLink RX2 47 yX5_turnMoment ∈ gT := gT_t (i := 634) (by decide +kernel) rfl
theorem wi_X5_turnMoment : Cond.instanceMethod yX5_turnMoment ∈ gT := gT_t (i := 635) (by decide +kernel) rfl
theorem ws_X5_turnMoment : Cond.selects RX5 yX5_turnMoment yX5_turnMoment ∈ gT := gT_t (i := 636) (by decide +kernel) rfl
theorem wc_X5_turnMoment : Cond.code yX5_turnMoment cX5_turnMoment 4 (some .int) ∈ gT := gT_t (i := 637) (by decide +kernel) rfl
theorem wm_X5_125 : Cond.methodLink RX5 125 yX5_isCaughtIn ∈ gT := gT_t (i := 638) (by decide +kernel) rfl
theorem wm_X2_51 : Cond.methodLink RX2 51 yX0_tellComing ∈ gT := gT_t (i := 639) (by decide +kernel) rfl
theorem wi_X0_tellComing : Cond.instanceMethod yX0_tellComing ∈ gT := gT_t (i := 640) (by decide +kernel) rfl
theorem ws_X0_tellComing : Cond.selects RX0 yX0_tellComing yX0_tellComing ∈ gT := gT_t (i := 641) (by decide +kernel) rfl
theorem wc_X0_tellComing : Cond.code yX0_tellComing cX0_tellComing 5 none ∈ gT := gT_t (i := 642) (by decide +kernel) rfl
theorem wm_X0_54 : Cond.methodLink RX0 54 yX5_cellRunning ∈ gT := gT_t (i := 643) (by decide +kernel) rfl
theorem wm_X0_62 : Cond.methodLink RX0 62 yX5_comesTo ∈ gT := gT_t (i := 644) (by decide +kernel) rfl
theorem wm_X2_55 : Cond.methodLink RX2 55 yX0_chanceFrom ∈ gT := gT_t (i := 645) (by decide +kernel) rfl
theorem wi_X0_chanceFrom : Cond.instanceMethod yX0_chanceFrom ∈ gT := gT_t (i := 646) (by decide +kernel) rfl
theorem ws_X0_chanceFrom : Cond.selects RX0 yX0_chanceFrom yX0_chanceFrom ∈ gT := gT_t (i := 647) (by decide +kernel) rfl
theorem wc_X0_chanceFrom : Cond.code yX0_chanceFrom cX0_chanceFrom 5 (some .int) ∈ gT := gT_t (i := 648) (by decide +kernel) rfl
theorem wm_X0_65 : Cond.methodLink RX0 65 yX0_putInOrder ∈ gT := gT_t (i := 649) (by decide +kernel) rfl
theorem wi_X0_putInOrder : Cond.instanceMethod yX0_putInOrder ∈ gT := gT_t (i := 651) (by decide +kernel) rfl
theorem wc_X0_putInOrder : Cond.code yX0_putInOrder cX0_putInOrder 4 none ∈ gT := gT_t (i := 652) (by decide +kernel) rfl
theorem wm_X0_73 : Cond.methodLink RX0 73 yX5_isUp ∈ gT := gT_t (i := 653) (by decide +kernel) rfl
theorem wk_X0_72 : Cond.constant RX0 72 (1000000) ∈ gT := gT_t (i := 654) (by decide +kernel) rfl
theorem wm_X0_77 : Cond.methodLink RX0 77 yX0_tellWaits ∈ gT := gT_t (i := 655) (by decide +kernel) rfl
theorem wi_X0_tellWaits : Cond.instanceMethod yX0_tellWaits ∈ gT := gT_t (i := 657) (by decide +kernel) rfl
theorem wc_X0_tellWaits : Cond.code yX0_tellWaits cX0_tellWaits 6 none ∈ gT := gT_t (i := 658) (by decide +kernel) rfl
theorem wm_X0_81 : Cond.methodLink RX0 81 yX0_keyOf ∈ gT := gT_t (i := 661) (by decide +kernel) rfl
theorem wi_X0_keyOf : Cond.instanceMethod yX0_keyOf ∈ gT := gT_t (i := 663) (by decide +kernel) rfl
theorem wc_X0_keyOf : Cond.code yX0_keyOf cX0_keyOf 4 (some .int) ∈ gT := gT_t (i := 664) (by decide +kernel) rfl
theorem wm_X0_85 : Cond.methodLink RX0 85 yX0_foldBack ∈ gT := gT_t (i := 665) (by decide +kernel) rfl
theorem wi_X0_foldBack : Cond.instanceMethod yX0_foldBack ∈ gT := gT_t (i := 667) (by decide +kernel) rfl
theorem wc_X0_foldBack : Cond.code yX0_foldBack cX0_foldBack 8 (some .int) ∈ gT := gT_t (i := 668) (by decide +kernel) rfl
theorem wm_X0_97 : Cond.methodLink RX0 97 yX0_tellForces ∈ gT := gT_t (i := 669) (by decide +kernel) rfl
theorem wi_X0_tellForces : Cond.instanceMethod yX0_tellForces ∈ gT := gT_t (i := 671) (by decide +kernel) rfl
theorem wc_X0_tellForces : Cond.code yX0_tellForces cX0_tellForces 6 none ∈ gT := gT_t (i := 672) (by decide +kernel) rfl
theorem wm_X0_127 : Cond.methodLink RX0 127 yX3_force ∈ gT := gT_t (i := 673) (by decide +kernel) rfl
theorem wm_X0_100 : Cond.methodLink RX0 100 yX0_tellIdle ∈ gT := gT_t (i := 674) (by decide +kernel) rfl
theorem wi_X0_tellIdle : Cond.instanceMethod yX0_tellIdle ∈ gT := gT_t (i := 676) (by decide +kernel) rfl
theorem wc_X0_tellIdle : Cond.code yX0_tellIdle cX0_tellIdle 3 none ∈ gT := gT_t (i := 677) (by decide +kernel) rfl
theorem wm_X0_106 : Cond.methodLink RX0 106 yX0_settleEnds ∈ gT := gT_t (i := 678) (by decide +kernel) rfl
theorem wi_X0_settleEnds : Cond.instanceMethod yX0_settleEnds ∈ gT := gT_t (i := 680) (by decide +kernel) rfl
theorem wc_X0_settleEnds : Cond.code yX0_settleEnds cX0_settleEnds 4 none ∈ gT := gT_t (i := 681) (by decide +kernel) rfl
theorem wm_X0_109 : Cond.methodLink RX0 109 yX0_leastHurt ∈ gT := gT_t (i := 682) (by decide +kernel) rfl
theorem wi_X0_leastHurt : Cond.instanceMethod yX0_leastHurt ∈ gT := gT_t (i := 684) (by decide +kernel) rfl
theorem wc_X0_leastHurt : Cond.code yX0_leastHurt cX0_leastHurt 5 (some .int) ∈ gT := gT_t (i := 685) (by decide +kernel) rfl
theorem wm_X0_113 : Cond.methodLink RX0 113 yX0_fold ∈ gT := gT_t (i := 686) (by decide +kernel) rfl
theorem wi_X0_fold : Cond.instanceMethod yX0_fold ∈ gT := gT_t (i := 688) (by decide +kernel) rfl
theorem wc_X0_fold : Cond.code yX0_fold cX0_fold 6 none ∈ gT := gT_t (i := 689) (by decide +kernel) rfl
theorem wm_X0_137 : Cond.methodLink RX0 137 yX5_odds ∈ gT := gT_t (i := 690) (by decide +kernel) rfl
theorem wm_X0_117 : Cond.methodLink RX0 117 yX0_foldMoment ∈ gT := gT_t (i := 691) (by decide +kernel) rfl
theorem wi_X0_foldMoment : Cond.instanceMethod yX0_foldMoment ∈ gT := gT_t (i := 693) (by decide +kernel) rfl
theorem wc_X0_foldMoment : Cond.code yX0_foldMoment cX0_foldMoment 10 none ∈ gT := gT_t (i := 694) (by decide +kernel) rfl
theorem wm_X0_133 : Cond.methodLink RX0 133 yX0_countThere ∈ gT := gT_t (i := 695) (by decide +kernel) rfl
theorem wi_X0_countThere : Cond.instanceMethod yX0_countThere ∈ gT := gT_t (i := 697) (by decide +kernel) rfl
theorem wc_X0_countThere : Cond.code yX0_countThere cX0_countThere 3 (some .int) ∈ gT := gT_t (i := 698) (by decide +kernel) rfl
theorem wm_L_77 : Cond.methodLink RL 77 yX7_best ∈ gT := gT_t (i := 699) (by decide +kernel) rfl
theorem wi_X7_best : Cond.instanceMethod yX7_best ∈ gT := gT_t (i := 700) (by decide +kernel) rfl
theorem ws_X7_best : Cond.selects RX7 yX7_best yX7_best ∈ gT := gT_t (i := 701) (by decide +kernel) rfl
theorem wc_X7_best : Cond.code yX7_best cX7_best 3 (some .int) ∈ gT := gT_t (i := 702) (by decide +kernel) rfl
theorem wm_X7_179 : Cond.methodLink RX7 179 yX2_foresee ∈ gT := gT_t (i := 703) (by decide +kernel) rfl
theorem wi_X2_foresee : Cond.instanceMethod yX2_foresee ∈ gT := gT_t (i := 704) (by decide +kernel) rfl
theorem ws_X2_foresee : Cond.selects RX2 yX2_foresee yX2_foresee ∈ gT := gT_t (i := 705) (by decide +kernel) rfl
theorem wc_X2_foresee : Cond.code yX2_foresee cX2_foresee 7 (some .int) ∈ gT := gT_t (i := 706) (by decide +kernel) rfl
theorem wm_X2_62 : Cond.methodLink RX2 62 yX5_isCaughtIn ∈ gT := gT_t (i := 707) (by decide +kernel) rfl
theorem wm_X7_182 : Cond.methodLink RX7 182 yX2_firstWith ∈ gT := gT_t (i := 709) (by decide +kernel) rfl
theorem wi_X2_firstWith : Cond.instanceMethod yX2_firstWith ∈ gT := gT_t (i := 710) (by decide +kernel) rfl
theorem ws_X2_firstWith : Cond.selects RX2 yX2_firstWith yX2_firstWith ∈ gT := gT_t (i := 711) (by decide +kernel) rfl
theorem wc_X2_firstWith : Cond.code yX2_firstWith cX2_firstWith 3 (some .int) ∈ gT := gT_t (i := 712) (by decide +kernel) rfl
theorem wm_L_81 : Cond.methodLink RL 81 yX7_late ∈ gT := gT_t (i := 713) (by decide +kernel) rfl
theorem wi_X7_late : Cond.instanceMethod yX7_late ∈ gT := gT_t (i := 714) (by decide +kernel) rfl
theorem ws_X7_late : Cond.selects RX7 yX7_late yX7_late ∈ gT := gT_t (i := 715) (by decide +kernel) rfl
theorem wc_X7_late : Cond.code yX7_late cX7_late 2 (some .int) ∈ gT := gT_t (i := 716) (by decide +kernel) rfl
theorem wk_X7_185 : Cond.constant RX7 185 (1000000) ∈ gT := gT_t (i := 717) (by decide +kernel) rfl
theorem wm_X7_186 : Cond.methodLink RX7 186 yX2_lastWith ∈ gT := gT_t (i := 718) (by decide +kernel) rfl
theorem wi_X2_lastWith : Cond.instanceMethod yX2_lastWith ∈ gT := gT_t (i := 719) (by decide +kernel) rfl
theorem ws_X2_lastWith : Cond.selects RX2 yX2_lastWith yX2_lastWith ∈ gT := gT_t (i := 720) (by decide +kernel) rfl
theorem wc_X2_lastWith : Cond.code yX2_lastWith cX2_lastWith 3 (some .int) ∈ gT := gT_t (i := 721) (by decide +kernel) rfl
theorem wm_L_85 : Cond.methodLink RL 85 yX7_together ∈ gT := gT_t (i := 722) (by decide +kernel) rfl
theorem wi_X7_together : Cond.instanceMethod yX7_together ∈ gT := gT_t (i := 723) (by decide +kernel) rfl
theorem ws_X7_together : Cond.selects RX7 yX7_together yX7_together ∈ gT := gT_t (i := 724) (by decide +kernel) rfl
theorem wc_X7_together : Cond.code yX7_together cX7_together 4 (some .int) ∈ gT := gT_t (i := 725) (by decide +kernel) rfl
theorem wm_X7_189 : Cond.methodLink RX7 189 yX2_chanceTogether ∈ gT := gT_t (i := 726) (by decide +kernel) rfl
theorem wi_X2_chanceTogether : Cond.instanceMethod yX2_chanceTogether ∈ gT := gT_t (i := 727) (by decide +kernel) rfl
theorem ws_X2_chanceTogether : Cond.selects RX2 yX2_chanceTogether yX2_chanceTogether ∈ gT := gT_t (i := 728) (by decide +kernel) rfl
theorem wc_X2_chanceTogether : Cond.code yX2_chanceTogether cX2_chanceTogether 1 (some .int) ∈ gT := gT_t (i := 729) (by decide +kernel) rfl
theorem wm_X2_59 : Cond.methodLink RX2 59 yX0_tellAllAtOnce ∈ gT := gT_t (i := 730) (by decide +kernel) rfl
theorem wi_X0_tellAllAtOnce : Cond.instanceMethod yX0_tellAllAtOnce ∈ gT := gT_t (i := 731) (by decide +kernel) rfl
theorem ws_X0_tellAllAtOnce : Cond.selects RX0 yX0_tellAllAtOnce yX0_tellAllAtOnce ∈ gT := gT_t (i := 732) (by decide +kernel) rfl
theorem wc_X0_tellAllAtOnce : Cond.code yX0_tellAllAtOnce cX0_tellAllAtOnce 2 none ∈ gT := gT_t (i := 733) (by decide +kernel) rfl
theorem wm_L_89 : Cond.methodLink RL 89 yX7_ditched ∈ gT := gT_t (i := 734) (by decide +kernel) rfl
theorem wi_X7_ditched : Cond.instanceMethod yX7_ditched ∈ gT := gT_t (i := 735) (by decide +kernel) rfl
theorem ws_X7_ditched : Cond.selects RX7 yX7_ditched yX7_ditched ∈ gT := gT_t (i := 736) (by decide +kernel) rfl
theorem wc_X7_ditched : Cond.code yX7_ditched cX7_ditched 5 (some .int) ∈ gT := gT_t (i := 737) (by decide +kernel) rfl
theorem wm_X7_192 : Cond.methodLink RX7 192 yX2_suppose ∈ gT := gT_t (i := 738) (by decide +kernel) rfl
theorem wi_X2_suppose : Cond.instanceMethod yX2_suppose ∈ gT := gT_t (i := 739) (by decide +kernel) rfl
theorem ws_X2_suppose : Cond.selects RX2 yX2_suppose yX2_suppose ∈ gT := gT_t (i := 740) (by decide +kernel) rfl
theorem wc_X2_suppose : Cond.code yX2_suppose cX2_suppose 3 none ∈ gT := gT_t (i := 741) (by decide +kernel) rfl
theorem wm_X2_75 : Cond.methodLink RX2 75 yX5_changeSort ∈ gT := gT_t (i := 742) (by decide +kernel) rfl
theorem wi_X5_changeSort : Cond.instanceMethod yX5_changeSort ∈ gT := gT_t (i := 743) (by decide +kernel) rfl
theorem ws_X5_changeSort : Cond.selects RX5 yX5_changeSort yX5_changeSort ∈ gT := gT_t (i := 744) (by decide +kernel) rfl
theorem wc_X5_changeSort : Cond.code yX5_changeSort cX5_changeSort 5 none ∈ gT := gT_t (i := 745) (by decide +kernel) rfl
theorem wm_X5_66 : Cond.methodLink RX5 66 yX5_hasCell ∈ gT := gT_t (i := 746) (by decide +kernel) rfl
theorem wm_L_93 : Cond.methodLink RL 93 yX7_ahead ∈ gT := gT_t (i := 747) (by decide +kernel) rfl
theorem wi_X7_ahead : Cond.instanceMethod yX7_ahead ∈ gT := gT_t (i := 748) (by decide +kernel) rfl
theorem ws_X7_ahead : Cond.selects RX7 yX7_ahead yX7_ahead ∈ gT := gT_t (i := 749) (by decide +kernel) rfl
theorem wc_X7_ahead : Cond.code yX7_ahead cX7_ahead 6 (some .int) ∈ gT := gT_t (i := 750) (by decide +kernel) rfl
theorem wm_X7_196 : Cond.methodLink RX7 196 yX5_isUp ∈ gT := gT_t (i := 751) (by decide +kernel) rfl
theorem wm_X7_199 : Cond.methodLink RX7 199 yX2_supposeHurt ∈ gT := gT_t (i := 752) (by decide +kernel) rfl
theorem wi_X2_supposeHurt : Cond.instanceMethod yX2_supposeHurt ∈ gT := gT_t (i := 753) (by decide +kernel) rfl
theorem ws_X2_supposeHurt : Cond.selects RX2 yX2_supposeHurt yX2_supposeHurt ∈ gT := gT_t (i := 754) (by decide +kernel) rfl
theorem wc_X2_supposeHurt : Cond.code yX2_supposeHurt cX2_supposeHurt 3 none ∈ gT := gT_t (i := 755) (by decide +kernel) rfl
theorem wm_X2_79 : Cond.methodLink RX2 79 yX5_exists ∈ gT := gT_t (i := 756) (by decide +kernel) rfl
theorem wm_L_97 : Cond.methodLink RL 97 yX7_fields ∈ gT := gT_t (i := 757) (by decide +kernel) rfl
theorem wi_X7_fields : Cond.instanceMethod yX7_fields ∈ gT := gT_t (i := 758) (by decide +kernel) rfl
theorem ws_X7_fields : Cond.selects RX7 yX7_fields yX7_fields ∈ gT := gT_t (i := 759) (by decide +kernel) rfl
theorem wc_X7_fields : Cond.code yX7_fields cX7_fields 3 (some .int) ∈ gT := gT_t (i := 760) (by decide +kernel) rfl
theorem wm_X7_202 : Cond.methodLink RX7 202 yX2_winsOf ∈ gT := gT_t (i := 761) (by decide +kernel) rfl
theorem wi_X2_winsOf : Cond.instanceMethod yX2_winsOf ∈ gT := gT_t (i := 762) (by decide +kernel) rfl
theorem ws_X2_winsOf : Cond.selects RX2 yX2_winsOf yX2_winsOf ∈ gT := gT_t (i := 763) (by decide +kernel) rfl
theorem wc_X2_winsOf : Cond.code yX2_winsOf cX2_winsOf 7 (some .int) ∈ gT := gT_t (i := 764) (by decide +kernel) rfl
theorem wm_X2_85 : Cond.methodLink RX2 85 yX5_turnIn ∈ gT := gT_t (i := 765) (by decide +kernel) rfl
theorem wm_X2_89 : Cond.methodLink RX2 89 yX5_takeHurts ∈ gT := gT_t (i := 766) (by decide +kernel) rfl
theorem wm_X2_92 : Cond.methodLink RX2 92 yX2_winsOne ∈ gT := gT_t (i := 767) (by decide +kernel) rfl
theorem wi_X2_winsOne : Cond.instanceMethod yX2_winsOne ∈ gT := gT_t (i := 769) (by decide +kernel) rfl
theorem wc_X2_winsOne : Cond.code yX2_winsOne cX2_winsOne 2 (some .boolean) ∈ gT := gT_t (i := 770) (by decide +kernel) rfl
theorem wm_X2_98 : Cond.methodLink RX2 98 yX5_outcome ∈ gT := gT_t (i := 771) (by decide +kernel) rfl
theorem wm_X2_102 : Cond.methodLink RX2 102 yX5_waitForNext ∈ gT := gT_t (i := 772) (by decide +kernel) rfl
theorem wi_X5_waitForNext : Cond.instanceMethod yX5_waitForNext ∈ gT := gT_t (i := 773) (by decide +kernel) rfl
theorem ws_X5_waitForNext : Cond.selects RX5 yX5_waitForNext yX5_waitForNext ∈ gT := gT_t (i := 774) (by decide +kernel) rfl
theorem wc_X5_waitForNext : Cond.code yX5_waitForNext cX5_waitForNext 3 none ∈ gT := gT_t (i := 775) (by decide +kernel) rfl
theorem wm_X2_105 : Cond.methodLink RX2 105 yX5_fightFirst ∈ gT := gT_t (i := 777) (by decide +kernel) rfl
theorem wm_L_101 : Cond.methodLink RL 101 yX7_image ∈ gT := gT_t (i := 778) (by decide +kernel) rfl
theorem wi_X7_image : Cond.instanceMethod yX7_image ∈ gT := gT_t (i := 779) (by decide +kernel) rfl
theorem ws_X7_image : Cond.selects RX7 yX7_image yX7_image ∈ gT := gT_t (i := 780) (by decide +kernel) rfl
theorem wc_X7_image : Cond.code yX7_image cX7_image 1 (some .int) ∈ gT := gT_t (i := 781) (by decide +kernel) rfl
theorem wm_X7_206 : Cond.methodLink RX7 206 yX5_takeFrom ∈ gT := gT_t (i := 782) (by decide +kernel) rfl
theorem wm_X7_209 : Cond.methodLink RX7 209 yX4_takeFrom ∈ gT := gT_t (i := 783) (by decide +kernel) rfl
theorem wi_X4_takeFrom : Cond.instanceMethod yX4_takeFrom ∈ gT := gT_t (i := 784) (by decide +kernel) rfl
theorem ws_X4_takeFrom : Cond.selects RX4 yX4_takeFrom yX4_takeFrom ∈ gT := gT_t (i := 785) (by decide +kernel) rfl
theorem wc_X4_takeFrom : Cond.code yX4_takeFrom cX4_takeFrom 2 none ∈ gT := gT_t (i := 786) (by decide +kernel) rfl
theorem wm_L_105 : Cond.methodLink RL 105 yX7_restore ∈ gT := gT_t (i := 787) (by decide +kernel) rfl
theorem wi_X7_restore : Cond.instanceMethod yX7_restore ∈ gT := gT_t (i := 788) (by decide +kernel) rfl
theorem ws_X7_restore : Cond.selects RX7 yX7_restore yX7_restore ∈ gT := gT_t (i := 789) (by decide +kernel) rfl
theorem wc_X7_restore : Cond.code yX7_restore cX7_restore 1 (some .int) ∈ gT := gT_t (i := 790) (by decide +kernel) rfl
theorem wm_L_109 : Cond.methodLink RL 109 yX7_strides ∈ gT := gT_t (i := 791) (by decide +kernel) rfl
theorem wi_X7_strides : Cond.instanceMethod yX7_strides ∈ gT := gT_t (i := 792) (by decide +kernel) rfl
theorem ws_X7_strides : Cond.selects RX7 yX7_strides yX7_strides ∈ gT := gT_t (i := 793) (by decide +kernel) rfl
theorem wc_X7_strides : Cond.code yX7_strides cX7_strides 10 (some .int) ∈ gT := gT_t (i := 794) (by decide +kernel) rfl
theorem wm_X7_216 : Cond.methodLink RX7 216 yX7_isSheet ∈ gT := gT_t (i := 795) (by decide +kernel) rfl
theorem wt_X7_isSheet : Cond.static yX7_isSheet ∈ gT := gT_t (i := 796) (by decide +kernel) rfl
theorem wc_X7_isSheet : Cond.code yX7_isSheet cX7_isSheet 1 (some .boolean) ∈ gT := gT_t (i := 797) (by decide +kernel) rfl
theorem wm_X7_219 : Cond.methodLink RX7 219 yX7_isLane ∈ gT := gT_t (i := 798) (by decide +kernel) rfl
theorem wt_X7_isLane : Cond.static yX7_isLane ∈ gT := gT_t (i := 799) (by decide +kernel) rfl
theorem wc_X7_isLane : Cond.code yX7_isLane cX7_isLane 1 (some .boolean) ∈ gT := gT_t (i := 800) (by decide +kernel) rfl
theorem wm_X7_222 : Cond.methodLink RX7 222 yX6_refusal ∈ gT := gT_t (i := 801) (by decide +kernel) rfl
theorem wi_X6_refusal : Cond.instanceMethod yX6_refusal ∈ gT := gT_t (i := 802) (by decide +kernel) rfl
theorem ws_X6_refusal : Cond.selects RX6 yX6_refusal yX6_refusal ∈ gT := gT_t (i := 803) (by decide +kernel) rfl
theorem wc_X6_refusal : Cond.code yX6_refusal cX6_refusal 4 (some .int) ∈ gT := gT_t (i := 804) (by decide +kernel) rfl
theorem wm_X6_22 : Cond.methodLink RX6 22 yX6_isThere ∈ gT := gT_t (i := 805) (by decide +kernel) rfl
theorem wi_X6_isThere : Cond.instanceMethod yX6_isThere ∈ gT := gT_t (i := 806) (by decide +kernel) rfl
theorem ws_X6_isThere : Cond.selects RX6 yX6_isThere yX6_isThere ∈ gT := gT_t (i := 807) (by decide +kernel) rfl
theorem wc_X6_isThere : Cond.code yX6_isThere cX6_isThere 1 (some .boolean) ∈ gT := gT_t (i := 808) (by decide +kernel) rfl
theorem wm_X6_26 : Cond.methodLink RX6 26 yX6_holds ∈ gT := gT_t (i := 809) (by decide +kernel) rfl
theorem wi_X6_holds : Cond.instanceMethod yX6_holds ∈ gT := gT_t (i := 810) (by decide +kernel) rfl
theorem ws_X6_holds : Cond.selects RX6 yX6_holds yX6_holds ∈ gT := gT_t (i := 811) (by decide +kernel) rfl
theorem wc_X6_holds : Cond.code yX6_holds cX6_holds 3 (some .boolean) ∈ gT := gT_t (i := 812) (by decide +kernel) rfl
theorem wm_X7_225 : Cond.methodLink RX7 225 yX7_areSightings ∈ gT := gT_t (i := 813) (by decide +kernel) rfl
theorem wi_X7_areSightings : Cond.instanceMethod yX7_areSightings ∈ gT := gT_t (i := 815) (by decide +kernel) rfl
theorem wc_X7_areSightings : Cond.code yX7_areSightings cX7_areSightings 9 (some .boolean) ∈ gT := gT_t (i := 816) (by decide +kernel) rfl
theorem wm_X7_233 : Cond.methodLink RX7 233 yX6_itemAt ∈ gT := gT_t (i := 817) (by decide +kernel) rfl
theorem wi_X6_itemAt : Cond.instanceMethod yX6_itemAt ∈ gT := gT_t (i := 818) (by decide +kernel) rfl
theorem ws_X6_itemAt : Cond.selects RX6 yX6_itemAt yX6_itemAt ∈ gT := gT_t (i := 819) (by decide +kernel) rfl
theorem wc_X6_itemAt : Cond.code yX6_itemAt cX6_itemAt 2 (some .long) ∈ gT := gT_t (i := 820) (by decide +kernel) rfl
theorem wk_X7_237 : Cond.constantLong RX7 237 (400) ∈ gT := gT_t (i := 821) (by decide +kernel) rfl
theorem wm_X7_229 : Cond.methodLink RX7 229 yX7_strodeSo ∈ gT := gT_t (i := 822) (by decide +kernel) rfl
theorem wi_X7_strodeSo : Cond.instanceMethod yX7_strodeSo ∈ gT := gT_t (i := 824) (by decide +kernel) rfl
theorem wc_X7_strodeSo : Cond.code yX7_strodeSo cX7_strodeSo 8 (some .boolean) ∈ gT := gT_t (i := 825) (by decide +kernel) rfl
theorem wm_X7_239 : Cond.methodLink RX7 239 yX5_cellBy ∈ gT := gT_t (i := 826) (by decide +kernel) rfl
theorem wm_L_114 : Cond.methodLink RL 114 yX7_far ∈ gT := gT_t (i := 827) (by decide +kernel) rfl
theorem wi_X7_far : Cond.instanceMethod yX7_far ∈ gT := gT_t (i := 828) (by decide +kernel) rfl
theorem ws_X7_far : Cond.selects RX7 yX7_far yX7_far ∈ gT := gT_t (i := 829) (by decide +kernel) rfl
theorem wc_X7_far : Cond.code yX7_far cX7_far 8 (some .int) ∈ gT := gT_t (i := 830) (by decide +kernel) rfl
theorem wm_X7_242 : Cond.methodLink RX7 242 yX5_othersUp ∈ gT := gT_t (i := 831) (by decide +kernel) rfl
theorem wm_X7_245 : Cond.methodLink RX7 245 yX7_lastFarTurn ∈ gT := gT_t (i := 832) (by decide +kernel) rfl
theorem wi_X7_lastFarTurn : Cond.instanceMethod yX7_lastFarTurn ∈ gT := gT_t (i := 834) (by decide +kernel) rfl
theorem wc_X7_lastFarTurn : Cond.code yX7_lastFarTurn cX7_lastFarTurn 1 (some .int) ∈ gT := gT_t (i := 835) (by decide +kernel) rfl
theorem wm_X7_259 : Cond.methodLink RX7 259 yX5_turnMoment ∈ gT := gT_t (i := 836) (by decide +kernel) rfl
theorem wm_X7_248 : Cond.methodLink RX7 248 yX7_turnsThatFit ∈ gT := gT_t (i := 837) (by decide +kernel) rfl
theorem wi_X7_turnsThatFit : Cond.instanceMethod yX7_turnsThatFit ∈ gT := gT_t (i := 839) (by decide +kernel) rfl
theorem wc_X7_turnsThatFit : Cond.code yX7_turnsThatFit cX7_turnsThatFit 6 (some .int) ∈ gT := gT_t (i := 840) (by decide +kernel) rfl
theorem wm_X7_255 : Cond.methodLink RX7 255 yX7_comeAsTold ∈ gT := gT_t (i := 841) (by decide +kernel) rfl
theorem wi_X7_comeAsTold : Cond.instanceMethod yX7_comeAsTold ∈ gT := gT_t (i := 843) (by decide +kernel) rfl
theorem wc_X7_comeAsTold : Cond.code yX7_comeAsTold cX7_comeAsTold 7 (some .boolean) ∈ gT := gT_t (i := 844) (by decide +kernel) rfl
theorem wm_X7_263 : Cond.methodLink RX7 263 yX5_cellRunning ∈ gT := gT_t (i := 845) (by decide +kernel) rfl
theorem wm_X7_266 : Cond.methodLink RX7 266 yX5_comesTo ∈ gT := gT_t (i := 846) (by decide +kernel) rfl
theorem wm_X7_252 : Cond.methodLink RX7 252 yX7_firstTurnThatFits ∈ gT := gT_t (i := 847) (by decide +kernel) rfl
theorem wi_X7_firstTurnThatFits : Cond.instanceMethod yX7_firstTurnThatFits ∈ gT := gT_t (i := 849) (by decide +kernel) rfl
theorem wc_X7_firstTurnThatFits : Cond.code yX7_firstTurnThatFits cX7_firstTurnThatFits 5 (some .int) ∈ gT := gT_t (i := 850) (by decide +kernel) rfl
theorem wm_L_119 : Cond.methodLink RL 119 yX7_film ∈ gT := gT_t (i := 851) (by decide +kernel) rfl
theorem wi_X7_film : Cond.instanceMethod yX7_film ∈ gT := gT_t (i := 852) (by decide +kernel) rfl
theorem ws_X7_film : Cond.selects RX7 yX7_film yX7_film ∈ gT := gT_t (i := 853) (by decide +kernel) rfl
theorem wc_X7_film : Cond.code yX7_film cX7_film 8 (some .int) ∈ gT := gT_t (i := 854) (by decide +kernel) rfl
theorem wm_X7_269 : Cond.methodLink RX7 269 yX2_foreseen ∈ gT := gT_t (i := 855) (by decide +kernel) rfl
theorem wi_X2_foreseen : Cond.instanceMethod yX2_foreseen ∈ gT := gT_t (i := 856) (by decide +kernel) rfl
theorem ws_X2_foreseen : Cond.selects RX2 yX2_foreseen yX2_foreseen ∈ gT := gT_t (i := 857) (by decide +kernel) rfl
theorem wc_X2_foreseen : Cond.code yX2_foreseen cX2_foreseen 2 (some .int) ∈ gT := gT_t (i := 858) (by decide +kernel) rfl
theorem wm_X7_272 : Cond.methodLink RX7 272 yX6_put ∈ gT := gT_t (i := 860) (by decide +kernel) rfl
theorem wi_X6_put : Cond.instanceMethod yX6_put ∈ gT := gT_t (i := 861) (by decide +kernel) rfl
theorem ws_X6_put : Cond.selects RX6 yX6_put yX6_put ∈ gT := gT_t (i := 862) (by decide +kernel) rfl
theorem wc_X6_put : Cond.code yX6_put cX6_put 4 none ∈ gT := gT_t (i := 863) (by decide +kernel) rfl
theorem wm_X6_30 : Cond.methodLink RX6 30 yX6_lowestBits ∈ gT := gT_t (i := 864) (by decide +kernel) rfl
theorem wi_X6_lowestBits : Cond.instanceMethod yX6_lowestBits ∈ gT := gT_t (i := 866) (by decide +kernel) rfl
theorem wc_X6_lowestBits : Cond.code yX6_lowestBits cX6_lowestBits 3 (some .long) ∈ gT := gT_t (i := 867) (by decide +kernel) rfl
theorem wm_L_123 : Cond.methodLink RL 123 yX7_sheet ∈ gT := gT_t (i := 868) (by decide +kernel) rfl
theorem wi_X7_sheet : Cond.instanceMethod yX7_sheet ∈ gT := gT_t (i := 869) (by decide +kernel) rfl
theorem ws_X7_sheet : Cond.selects RX7 yX7_sheet yX7_sheet ∈ gT := gT_t (i := 870) (by decide +kernel) rfl
theorem wc_X7_sheet : Cond.code yX7_sheet cX7_sheet 4 (some .int) ∈ gT := gT_t (i := 871) (by decide +kernel) rfl
theorem wm_X7_276 : Cond.methodLink RX7 276 yX6_hold ∈ gT := gT_t (i := 872) (by decide +kernel) rfl
theorem wi_X6_hold : Cond.instanceMethod yX6_hold ∈ gT := gT_t (i := 873) (by decide +kernel) rfl
theorem ws_X6_hold : Cond.selects RX6 yX6_hold yX6_hold ∈ gT := gT_t (i := 874) (by decide +kernel) rfl
theorem wc_X6_hold : Cond.code yX6_hold cX6_hold 4 none ∈ gT := gT_t (i := 875) (by decide +kernel) rfl
theorem wm_L_127 : Cond.methodLink RL 127 yX7_drop ∈ gT := gT_t (i := 876) (by decide +kernel) rfl
theorem wi_X7_drop : Cond.instanceMethod yX7_drop ∈ gT := gT_t (i := 877) (by decide +kernel) rfl
theorem ws_X7_drop : Cond.selects RX7 yX7_drop yX7_drop ∈ gT := gT_t (i := 878) (by decide +kernel) rfl
theorem wc_X7_drop : Cond.code yX7_drop cX7_drop 3 (some .int) ∈ gT := gT_t (i := 879) (by decide +kernel) rfl
theorem wm_X7_279 : Cond.methodLink RX7 279 yX6_isThere ∈ gT := gT_t (i := 880) (by decide +kernel) rfl
theorem wm_X7_282 : Cond.methodLink RX7 282 yX6_dropAll ∈ gT := gT_t (i := 881) (by decide +kernel) rfl
theorem wi_X6_dropAll : Cond.instanceMethod yX6_dropAll ∈ gT := gT_t (i := 882) (by decide +kernel) rfl
theorem ws_X6_dropAll : Cond.selects RX6 yX6_dropAll yX6_dropAll ∈ gT := gT_t (i := 883) (by decide +kernel) rfl
theorem wc_X6_dropAll : Cond.code yX6_dropAll cX6_dropAll 1 none ∈ gT := gT_t (i := 884) (by decide +kernel) rfl
theorem wm_L_133 : Cond.methodLink RL 133 yX7_item ∈ gT := gT_t (i := 885) (by decide +kernel) rfl
theorem wi_X7_item : Cond.instanceMethod yX7_item ∈ gT := gT_t (i := 886) (by decide +kernel) rfl
theorem ws_X7_item : Cond.selects RX7 yX7_item yX7_item ∈ gT := gT_t (i := 887) (by decide +kernel) rfl
theorem wc_X7_item : Cond.code yX7_item cX7_item 8 (some .int) ∈ gT := gT_t (i := 888) (by decide +kernel) rfl
theorem wm_L_138 : Cond.methodLink RL 138 yX7_copy ∈ gT := gT_t (i := 889) (by decide +kernel) rfl
theorem wi_X7_copy : Cond.instanceMethod yX7_copy ∈ gT := gT_t (i := 890) (by decide +kernel) rfl
theorem ws_X7_copy : Cond.selects RX7 yX7_copy yX7_copy ∈ gT := gT_t (i := 891) (by decide +kernel) rfl
theorem wc_X7_copy : Cond.code yX7_copy cX7_copy 8 (some .int) ∈ gT := gT_t (i := 892) (by decide +kernel) rfl
theorem wm_X7_291 : Cond.methodLink RX7 291 yX6_holds ∈ gT := gT_t (i := 893) (by decide +kernel) rfl
theorem wm_L_12 : Cond.methodLink RL 12 yX8_init ∈ gT := gT_t (i := 897) (by decide +kernel) rfl
theorem wi_X8_init : Cond.instanceMethod yX8_init ∈ gT := gT_t (i := 898) (by decide +kernel) rfl
theorem wc_X8_init : Cond.code yX8_init cX8_init 2 none ∈ gT := gT_t (i := 899) (by decide +kernel) rfl
theorem wf_X8_62 : Cond.fieldLink RX8 62 "RunningThreeModel" "cells" "I" ∈ gT := gT_t (i := 901) (by decide +kernel) rfl
theorem wf_X8_66 : Cond.fieldLink RX8 66 "RunningThreeModel" "fighters" "I" ∈ gT := gT_t (i := 902) (by decide +kernel) rfl
theorem wf_X8_7 : Cond.fieldLink RX8 7 "RunningThreeModel" "sorts" "[I" ∈ gT := gT_t (i := 903) (by decide +kernel) rfl
theorem wf_X8_13 : Cond.fieldLink RX8 13 "RunningThreeModel" "fighter" "[I" ∈ gT := gT_t (i := 904) (by decide +kernel) rfl
theorem wf_X8_117 : Cond.fieldLink RX8 117 "RunningThreeModel" "start" "I" ∈ gT := gT_t (i := 905) (by decide +kernel) rfl
theorem wf_X8_16 : Cond.fieldLink RX8 16 "RunningThreeModel" "now" "[I" ∈ gT := gT_t (i := 906) (by decide +kernel) rfl
theorem wf_X8_99 : Cond.fieldLink RX8 99 "RunningThreeModel" "together" "Z" ∈ gT := gT_t (i := 907) (by decide +kernel) rfl
theorem wf_X8_19 : Cond.fieldLink RX8 19 "RunningThreeModel" "tape" "[I" ∈ gT := gT_t (i := 908) (by decide +kernel) rfl
theorem wf_X8_140 : Cond.fieldLink RX8 140 "RunningThreeModel" "taped" "I" ∈ gT := gT_t (i := 909) (by decide +kernel) rfl
theorem wf_X8_143 : Cond.fieldLink RX8 143 "RunningThreeModel" "at" "I" ∈ gT := gT_t (i := 910) (by decide +kernel) rfl
theorem wf_X8_146 : Cond.fieldLink RX8 146 "RunningThreeModel" "wrong" "Z" ∈ gT := gT_t (i := 911) (by decide +kernel) rfl
theorem wf_X8_162 : Cond.fieldLink RX8 162 "RunningThreeModel" "manyCells" "I" ∈ gT := gT_t (i := 912) (by decide +kernel) rfl
theorem wf_X8_153 : Cond.fieldLink RX8 153 "RunningThreeModel" "manyFighters" "I" ∈ gT := gT_t (i := 913) (by decide +kernel) rfl
theorem wf_X8_22 : Cond.fieldLink RX8 22 "RunningThreeModel" "readSorts" "[I" ∈ gT := gT_t (i := 914) (by decide +kernel) rfl
theorem wf_X8_25 : Cond.fieldLink RX8 25 "RunningThreeModel" "readFighters" "[I" ∈ gT := gT_t (i := 915) (by decide +kernel) rfl
theorem wf_X8_28 : Cond.fieldLink RX8 28 "RunningThreeModel" "undone" "[I" ∈ gT := gT_t (i := 916) (by decide +kernel) rfl
theorem wf_X8_88 : Cond.fieldLink RX8 88 "RunningThreeModel" "undos" "I" ∈ gT := gT_t (i := 917) (by decide +kernel) rfl
theorem wf_X8_31 : Cond.fieldLink RX8 31 "RunningThreeModel" "aside" "[I" ∈ gT := gT_t (i := 918) (by decide +kernel) rfl
theorem wf_X8_34 : Cond.fieldLink RX8 34 "RunningThreeModel" "row" "[I" ∈ gT := gT_t (i := 919) (by decide +kernel) rfl
theorem wf_X8_37 : Cond.fieldLink RX8 37 "RunningThreeModel" "later" "[I" ∈ gT := gT_t (i := 920) (by decide +kernel) rfl
theorem wf_X8_40 : Cond.fieldLink RX8 40 "RunningThreeModel" "sooner" "[I" ∈ gT := gT_t (i := 921) (by decide +kernel) rfl
theorem wf_X8_43 : Cond.fieldLink RX8 43 "RunningThreeModel" "by" "[I" ∈ gT := gT_t (i := 922) (by decide +kernel) rfl
theorem wf_X8_232 : Cond.fieldLink RX8 232 "RunningThreeModel" "most" "I" ∈ gT := gT_t (i := 923) (by decide +kernel) rfl
theorem wf_X8_238 : Cond.fieldLink RX8 238 "RunningThreeModel" "first" "I" ∈ gT := gT_t (i := 924) (by decide +kernel) rfl
theorem wf_X8_46 : Cond.fieldLink RX8 46 "RunningThreeModel" "image" "[I" ∈ gT := gT_t (i := 925) (by decide +kernel) rfl
theorem wf_X8_257 : Cond.fieldLink RX8 257 "RunningThreeModel" "isImage" "Z" ∈ gT := gT_t (i := 926) (by decide +kernel) rfl
theorem wf_X8_49 : Cond.fieldLink RX8 49 "RunningThreeModel" "lanes" "[I" ∈ gT := gT_t (i := 927) (by decide +kernel) rfl
theorem wf_X8_52 : Cond.fieldLink RX8 52 "RunningThreeModel" "sizes" "[I" ∈ gT := gT_t (i := 928) (by decide +kernel) rfl
theorem wf_X8_55 : Cond.fieldLink RX8 55 "RunningThreeModel" "items" "[J" ∈ gT := gT_t (i := 929) (by decide +kernel) rfl
theorem wf_X8_59 : Cond.fieldLink RX8 59 "RunningThreeModel" "moved" "[J" ∈ gT := gT_t (i := 930) (by decide +kernel) rfl
theorem wm_L_17 : Cond.methodLink RL 17 yX8_fighter ∈ gT := gT_t (i := 992) (by decide +kernel) rfl
theorem wi_X8_fighter : Cond.instanceMethod yX8_fighter ∈ gT := gT_t (i := 993) (by decide +kernel) rfl
theorem ws_X8_fighter : Cond.selects RX8 yX8_fighter yX8_fighter ∈ gT := gT_t (i := 994) (by decide +kernel) rfl
theorem wc_X8_fighter : Cond.code yX8_fighter cX8_fighter 4 (some .int) ∈ gT := gT_t (i := 995) (by decide +kernel) rfl
theorem wk_X8_74 : Cond.constantLong RX8 74 (3) ∈ gT := gT_t (i := 996) (by decide +kernel) rfl
theorem wm_X8_69 : Cond.methodLink RX8 69 yX8_in ∈ gT := gT_t (i := 997) (by decide +kernel) rfl
theorem wt_X8_in : Cond.static yX8_in ∈ gT := gT_t (i := 998) (by decide +kernel) rfl
theorem wc_X8_in : Cond.code yX8_in cX8_in 6 (some .boolean) ∈ gT := gT_t (i := 999) (by decide +kernel) rfl
theorem wk_X8_76 : Cond.constantLong RX8 76 (9) ∈ gT := gT_t (i := 1000) (by decide +kernel) rfl
theorem wk_X8_78 : Cond.constantLong RX8 78 (6) ∈ gT := gT_t (i := 1001) (by decide +kernel) rfl
theorem wm_X8_80 : Cond.methodLink RX8 80 yX8_isTurned ∈ gT := gT_t (i := 1002) (by decide +kernel) rfl
theorem wi_X8_isTurned : Cond.instanceMethod yX8_isTurned ∈ gT := gT_t (i := 1004) (by decide +kernel) rfl
theorem wc_X8_isTurned : Cond.code yX8_isTurned cX8_isTurned 1 (some .boolean) ∈ gT := gT_t (i := 1005) (by decide +kernel) rfl
theorem wm_X8_84 : Cond.methodLink RX8 84 yX8_fighterComes ∈ gT := gT_t (i := 1006) (by decide +kernel) rfl
theorem wi_X8_fighterComes : Cond.instanceMethod yX8_fighterComes ∈ gT := gT_t (i := 1008) (by decide +kernel) rfl
theorem wc_X8_fighterComes : Cond.code yX8_fighterComes cX8_fighterComes 5 none ∈ gT := gT_t (i := 1009) (by decide +kernel) rfl
theorem wk_X8_73 : Cond.constant RX8 73 (99999) ∈ gT := gT_t (i := 1010) (by decide +kernel) rfl
theorem wm_L_22 : Cond.methodLink RL 22 yX8_of ∈ gT := gT_t (i := 1011) (by decide +kernel) rfl
theorem wi_X8_of : Cond.instanceMethod yX8_of ∈ gT := gT_t (i := 1012) (by decide +kernel) rfl
theorem ws_X8_of : Cond.selects RX8 yX8_of yX8_of ∈ gT := gT_t (i := 1013) (by decide +kernel) rfl
theorem wc_X8_of : Cond.code yX8_of cX8_of 3 (some .int) ∈ gT := gT_t (i := 1014) (by decide +kernel) rfl
theorem wm_X8_123 : Cond.methodLink RX8 123 yX8_isFighter ∈ gT := gT_t (i := 1015) (by decide +kernel) rfl
theorem wi_X8_isFighter : Cond.instanceMethod yX8_isFighter ∈ gT := gT_t (i := 1017) (by decide +kernel) rfl
theorem wc_X8_isFighter : Cond.code yX8_isFighter cX8_isFighter 2 (some .boolean) ∈ gT := gT_t (i := 1018) (by decide +kernel) rfl
theorem wm_X8_91 : Cond.methodLink RX8 91 yX8_hurtOf ∈ gT := gT_t (i := 1019) (by decide +kernel) rfl
theorem wi_X8_hurtOf : Cond.instanceMethod yX8_hurtOf ∈ gT := gT_t (i := 1021) (by decide +kernel) rfl
theorem wc_X8_hurtOf : Cond.code yX8_hurtOf cX8_hurtOf 2 (some .int) ∈ gT := gT_t (i := 1022) (by decide +kernel) rfl
theorem wm_X8_126 : Cond.methodLink RX8 126 yX8_force ∈ gT := gT_t (i := 1023) (by decide +kernel) rfl
theorem wi_X8_force : Cond.instanceMethod yX8_force ∈ gT := gT_t (i := 1025) (by decide +kernel) rfl
theorem wc_X8_force : Cond.code yX8_force cX8_force 4 (some .int) ∈ gT := gT_t (i := 1026) (by decide +kernel) rfl
theorem wm_X8_129 : Cond.methodLink RX8 129 yX8_place ∈ gT := gT_t (i := 1027) (by decide +kernel) rfl
theorem wi_X8_place : Cond.instanceMethod yX8_place ∈ gT := gT_t (i := 1029) (by decide +kernel) rfl
theorem wc_X8_place : Cond.code yX8_place cX8_place 4 (some .int) ∈ gT := gT_t (i := 1030) (by decide +kernel) rfl
theorem wm_X8_120 : Cond.methodLink RX8 120 yX8_runs ∈ gT := gT_t (i := 1031) (by decide +kernel) rfl
theorem wi_X8_runs : Cond.instanceMethod yX8_runs ∈ gT := gT_t (i := 1033) (by decide +kernel) rfl
theorem wc_X8_runs : Cond.code yX8_runs cX8_runs 2 (some .int) ∈ gT := gT_t (i := 1034) (by decide +kernel) rfl
theorem wm_X8_103 : Cond.methodLink RX8 103 yX8_isDown ∈ gT := gT_t (i := 1035) (by decide +kernel) rfl
theorem wi_X8_isDown : Cond.instanceMethod yX8_isDown ∈ gT := gT_t (i := 1037) (by decide +kernel) rfl
theorem wc_X8_isDown : Cond.code yX8_isDown cX8_isDown 2 (some .boolean) ∈ gT := gT_t (i := 1038) (by decide +kernel) rfl
theorem wm_X8_95 : Cond.methodLink RX8 95 yX8_pointsOf ∈ gT := gT_t (i := 1039) (by decide +kernel) rfl
theorem wi_X8_pointsOf : Cond.instanceMethod yX8_pointsOf ∈ gT := gT_t (i := 1041) (by decide +kernel) rfl
theorem wc_X8_pointsOf : Cond.code yX8_pointsOf cX8_pointsOf 6 (some .int) ∈ gT := gT_t (i := 1042) (by decide +kernel) rfl
theorem wm_X8_107 : Cond.methodLink RX8 107 yX8_farthest ∈ gT := gT_t (i := 1043) (by decide +kernel) rfl
theorem wi_X8_farthest : Cond.instanceMethod yX8_farthest ∈ gT := gT_t (i := 1045) (by decide +kernel) rfl
theorem wc_X8_farthest : Cond.code yX8_farthest cX8_farthest 5 (some .int) ∈ gT := gT_t (i := 1046) (by decide +kernel) rfl
theorem wm_L_26 : Cond.methodLink RL 26 yX8_hurt ∈ gT := gT_t (i := 1047) (by decide +kernel) rfl
theorem wi_X8_hurt : Cond.instanceMethod yX8_hurt ∈ gT := gT_t (i := 1048) (by decide +kernel) rfl
theorem ws_X8_hurt : Cond.selects RX8 yX8_hurt yX8_hurt ∈ gT := gT_t (i := 1049) (by decide +kernel) rfl
theorem wc_X8_hurt : Cond.code yX8_hurt cX8_hurt 4 (some .int) ∈ gT := gT_t (i := 1050) (by decide +kernel) rfl
theorem wm_L_31 : Cond.methodLink RL 31 yX8_start ∈ gT := gT_t (i := 1051) (by decide +kernel) rfl
theorem wi_X8_start : Cond.instanceMethod yX8_start ∈ gT := gT_t (i := 1052) (by decide +kernel) rfl
theorem ws_X8_start : Cond.selects RX8 yX8_start yX8_start ∈ gT := gT_t (i := 1053) (by decide +kernel) rfl
theorem wc_X8_start : Cond.code yX8_start cX8_start 3 (some .int) ∈ gT := gT_t (i := 1054) (by decide +kernel) rfl
theorem wk_X8_132 : Cond.constantLong RX8 132 (20) ∈ gT := gT_t (i := 1055) (by decide +kernel) rfl
theorem wm_L_35 : Cond.methodLink RL 35 yX8_sort ∈ gT := gT_t (i := 1056) (by decide +kernel) rfl
theorem wi_X8_sort : Cond.instanceMethod yX8_sort ∈ gT := gT_t (i := 1057) (by decide +kernel) rfl
theorem ws_X8_sort : Cond.selects RX8 yX8_sort yX8_sort ∈ gT := gT_t (i := 1058) (by decide +kernel) rfl
theorem wc_X8_sort : Cond.code yX8_sort cX8_sort 2 (some .int) ∈ gT := gT_t (i := 1059) (by decide +kernel) rfl
theorem wm_L_39 : Cond.methodLink RL 39 yX8_cost ∈ gT := gT_t (i := 1060) (by decide +kernel) rfl
theorem wi_X8_cost : Cond.instanceMethod yX8_cost ∈ gT := gT_t (i := 1061) (by decide +kernel) rfl
theorem ws_X8_cost : Cond.selects RX8 yX8_cost yX8_cost ∈ gT := gT_t (i := 1062) (by decide +kernel) rfl
theorem wc_X8_cost : Cond.code yX8_cost cX8_cost 2 (some .int) ∈ gT := gT_t (i := 1063) (by decide +kernel) rfl
theorem wm_X8_110 : Cond.methodLink RX8 110 yX8_costOf ∈ gT := gT_t (i := 1064) (by decide +kernel) rfl
theorem wi_X8_costOf : Cond.instanceMethod yX8_costOf ∈ gT := gT_t (i := 1066) (by decide +kernel) rfl
theorem wc_X8_costOf : Cond.code yX8_costOf cX8_costOf 4 (some .int) ∈ gT := gT_t (i := 1067) (by decide +kernel) rfl
theorem wm_L_43 : Cond.methodLink RL 43 yX8_points ∈ gT := gT_t (i := 1068) (by decide +kernel) rfl
theorem wi_X8_points : Cond.instanceMethod yX8_points ∈ gT := gT_t (i := 1069) (by decide +kernel) rfl
theorem ws_X8_points : Cond.selects RX8 yX8_points yX8_points ∈ gT := gT_t (i := 1070) (by decide +kernel) rfl
theorem wc_X8_points : Cond.code yX8_points cX8_points 3 (some .int) ∈ gT := gT_t (i := 1071) (by decide +kernel) rfl
theorem wk_X8_134 : Cond.constantLong RX8 134 (400) ∈ gT := gT_t (i := 1072) (by decide +kernel) rfl
theorem wm_L_47 : Cond.methodLink RL 47 yX8_type ∈ gT := gT_t (i := 1073) (by decide +kernel) rfl
theorem wi_X8_type : Cond.instanceMethod yX8_type ∈ gT := gT_t (i := 1074) (by decide +kernel) rfl
theorem ws_X8_type : Cond.selects RX8 yX8_type yX8_type ∈ gT := gT_t (i := 1075) (by decide +kernel) rfl
theorem wc_X8_type : Cond.code yX8_type cX8_type 2 (some .int) ∈ gT := gT_t (i := 1076) (by decide +kernel) rfl
theorem wk_X8_136 : Cond.constantLong RX8 136 (32) ∈ gT := gT_t (i := 1077) (by decide +kernel) rfl
theorem wk_X8_138 : Cond.constantLong RX8 138 (126) ∈ gT := gT_t (i := 1078) (by decide +kernel) rfl
theorem wm_L_52 : Cond.methodLink RL 52 yX8_field ∈ gT := gT_t (i := 1079) (by decide +kernel) rfl
theorem wi_X8_field : Cond.instanceMethod yX8_field ∈ gT := gT_t (i := 1080) (by decide +kernel) rfl
theorem ws_X8_field : Cond.selects RX8 yX8_field yX8_field ∈ gT := gT_t (i := 1081) (by decide +kernel) rfl
theorem wc_X8_field : Cond.code yX8_field cX8_field 3 (some .int) ∈ gT := gT_t (i := 1082) (by decide +kernel) rfl
theorem wm_X8_149 : Cond.methodLink RX8 149 yX8_here ∈ gT := gT_t (i := 1083) (by decide +kernel) rfl
theorem wi_X8_here : Cond.instanceMethod yX8_here ∈ gT := gT_t (i := 1085) (by decide +kernel) rfl
theorem wc_X8_here : Cond.code yX8_here cX8_here 1 (some .int) ∈ gT := gT_t (i := 1086) (by decide +kernel) rfl
theorem wm_X8_165 : Cond.methodLink RX8 165 yX8_sign ∈ gT := gT_t (i := 1087) (by decide +kernel) rfl
theorem wi_X8_sign : Cond.instanceMethod yX8_sign ∈ gT := gT_t (i := 1089) (by decide +kernel) rfl
theorem wc_X8_sign : Cond.code yX8_sign cX8_sign 2 (some .int) ∈ gT := gT_t (i := 1090) (by decide +kernel) rfl
theorem wm_X8_159 : Cond.methodLink RX8 159 yX8_has ∈ gT := gT_t (i := 1091) (by decide +kernel) rfl
theorem wi_X8_has : Cond.instanceMethod yX8_has ∈ gT := gT_t (i := 1093) (by decide +kernel) rfl
theorem wc_X8_has : Cond.code yX8_has cX8_has 3 (some .boolean) ∈ gT := gT_t (i := 1094) (by decide +kernel) rfl
theorem wm_X8_168 : Cond.methodLink RX8 168 yX8_readFighter ∈ gT := gT_t (i := 1095) (by decide +kernel) rfl
theorem wi_X8_readFighter : Cond.instanceMethod yX8_readFighter ∈ gT := gT_t (i := 1097) (by decide +kernel) rfl
theorem wc_X8_readFighter : Cond.code yX8_readFighter cX8_readFighter 3 none ∈ gT := gT_t (i := 1098) (by decide +kernel) rfl
theorem wm_X8_156 : Cond.methodLink RX8 156 yX8_digit ∈ gT := gT_t (i := 1099) (by decide +kernel) rfl
theorem wi_X8_digit : Cond.instanceMethod yX8_digit ∈ gT := gT_t (i := 1101) (by decide +kernel) rfl
theorem wc_X8_digit : Cond.code yX8_digit cX8_digit 4 (some .int) ∈ gT := gT_t (i := 1102) (by decide +kernel) rfl
theorem wm_L_56 : Cond.methodLink RL 56 yX8_count ∈ gT := gT_t (i := 1103) (by decide +kernel) rfl
theorem wi_X8_count : Cond.instanceMethod yX8_count ∈ gT := gT_t (i := 1104) (by decide +kernel) rfl
theorem ws_X8_count : Cond.selects RX8 yX8_count yX8_count ∈ gT := gT_t (i := 1105) (by decide +kernel) rfl
theorem wc_X8_count : Cond.code yX8_count cX8_count 2 (some .int) ∈ gT := gT_t (i := 1106) (by decide +kernel) rfl
theorem wm_X8_171 : Cond.methodLink RX8 171 yX8_down ∈ gT := gT_t (i := 1107) (by decide +kernel) rfl
theorem wi_X8_down : Cond.instanceMethod yX8_down ∈ gT := gT_t (i := 1109) (by decide +kernel) rfl
theorem wc_X8_down : Cond.code yX8_down cX8_down 3 (some .int) ∈ gT := gT_t (i := 1110) (by decide +kernel) rfl
theorem wm_X8_174 : Cond.methodLink RX8 174 yX8_over ∈ gT := gT_t (i := 1111) (by decide +kernel) rfl
theorem wi_X8_over : Cond.instanceMethod yX8_over ∈ gT := gT_t (i := 1113) (by decide +kernel) rfl
theorem wc_X8_over : Cond.code yX8_over cX8_over 2 (some .int) ∈ gT := gT_t (i := 1114) (by decide +kernel) rfl
theorem wm_L_60 : Cond.methodLink RL 60 yX8_moment ∈ gT := gT_t (i := 1115) (by decide +kernel) rfl
theorem wi_X8_moment : Cond.instanceMethod yX8_moment ∈ gT := gT_t (i := 1116) (by decide +kernel) rfl
theorem ws_X8_moment : Cond.selects RX8 yX8_moment yX8_moment ∈ gT := gT_t (i := 1117) (by decide +kernel) rfl
theorem wc_X8_moment : Cond.code yX8_moment cX8_moment 1 (some .int) ∈ gT := gT_t (i := 1118) (by decide +kernel) rfl
theorem wm_X8_189 : Cond.methodLink RX8 189 yX8_notes ∈ gT := gT_t (i := 1119) (by decide +kernel) rfl
theorem wi_X8_notes : Cond.instanceMethod yX8_notes ∈ gT := gT_t (i := 1121) (by decide +kernel) rfl
theorem wc_X8_notes : Cond.code yX8_notes cX8_notes 2 none ∈ gT := gT_t (i := 1122) (by decide +kernel) rfl
theorem wm_X8_192 : Cond.methodLink RX8 192 yX8_fights ∈ gT := gT_t (i := 1123) (by decide +kernel) rfl
theorem wi_X8_fights : Cond.instanceMethod yX8_fights ∈ gT := gT_t (i := 1125) (by decide +kernel) rfl
theorem wc_X8_fights : Cond.code yX8_fights cX8_fights 5 (some .int) ∈ gT := gT_t (i := 1126) (by decide +kernel) rfl
theorem wm_X8_180 : Cond.methodLink RX8 180 yX8_meets ∈ gT := gT_t (i := 1127) (by decide +kernel) rfl
theorem wi_X8_meets : Cond.instanceMethod yX8_meets ∈ gT := gT_t (i := 1129) (by decide +kernel) rfl
theorem wc_X8_meets : Cond.code yX8_meets cX8_meets 5 (some .int) ∈ gT := gT_t (i := 1130) (by decide +kernel) rfl
theorem wm_X8_183 : Cond.methodLink RX8 183 yX8_between ∈ gT := gT_t (i := 1131) (by decide +kernel) rfl
theorem wt_X8_between : Cond.static yX8_between ∈ gT := gT_t (i := 1132) (by decide +kernel) rfl
theorem wc_X8_between : Cond.code yX8_between cX8_between 1 (some .int) ∈ gT := gT_t (i := 1133) (by decide +kernel) rfl
theorem wk_X8_186 : Cond.constant RX8 186 (1103515245) ∈ gT := gT_t (i := 1134) (by decide +kernel) rfl
theorem wk_X8_187 : Cond.constant RX8 187 (2147483647) ∈ gT := gT_t (i := 1135) (by decide +kernel) rfl
theorem wk_X8_188 : Cond.constant RX8 188 (65536) ∈ gT := gT_t (i := 1136) (by decide +kernel) rfl
theorem wm_X8_195 : Cond.methodLink RX8 195 yX8_isCaught ∈ gT := gT_t (i := 1137) (by decide +kernel) rfl
theorem wi_X8_isCaught : Cond.instanceMethod yX8_isCaught ∈ gT := gT_t (i := 1139) (by decide +kernel) rfl
theorem wc_X8_isCaught : Cond.code yX8_isCaught cX8_isCaught 6 (some .boolean) ∈ gT := gT_t (i := 1140) (by decide +kernel) rfl
theorem wm_X8_113 : Cond.methodLink RX8 113 yX8_pursues ∈ gT := gT_t (i := 1141) (by decide +kernel) rfl
theorem wi_X8_pursues : Cond.instanceMethod yX8_pursues ∈ gT := gT_t (i := 1143) (by decide +kernel) rfl
theorem wc_X8_pursues : Cond.code yX8_pursues cX8_pursues 6 (some .int) ∈ gT := gT_t (i := 1144) (by decide +kernel) rfl
theorem wm_X8_198 : Cond.methodLink RX8 198 yX8_turns ∈ gT := gT_t (i := 1145) (by decide +kernel) rfl
theorem wi_X8_turns : Cond.instanceMethod yX8_turns ∈ gT := gT_t (i := 1147) (by decide +kernel) rfl
theorem wc_X8_turns : Cond.code yX8_turns cX8_turns 3 none ∈ gT := gT_t (i := 1148) (by decide +kernel) rfl
theorem wm_X8_177 : Cond.methodLink RX8 177 yX8_comesTo ∈ gT := gT_t (i := 1149) (by decide +kernel) rfl
theorem wi_X8_comesTo : Cond.instanceMethod yX8_comesTo ∈ gT := gT_t (i := 1151) (by decide +kernel) rfl
theorem wc_X8_comesTo : Cond.code yX8_comesTo cX8_comesTo 5 (some .int) ∈ gT := gT_t (i := 1152) (by decide +kernel) rfl
theorem wm_L_64 : Cond.methodLink RL 64 yX8_turn ∈ gT := gT_t (i := 1153) (by decide +kernel) rfl
theorem wi_X8_turn : Cond.instanceMethod yX8_turn ∈ gT := gT_t (i := 1154) (by decide +kernel) rfl
theorem ws_X8_turn : Cond.selects RX8 yX8_turn yX8_turn ∈ gT := gT_t (i := 1155) (by decide +kernel) rfl
theorem wc_X8_turn : Cond.code yX8_turn cX8_turn 1 (some .int) ∈ gT := gT_t (i := 1156) (by decide +kernel) rfl
theorem wm_L_68 : Cond.methodLink RL 68 yX8_undo ∈ gT := gT_t (i := 1157) (by decide +kernel) rfl
theorem wi_X8_undo : Cond.instanceMethod yX8_undo ∈ gT := gT_t (i := 1158) (by decide +kernel) rfl
theorem ws_X8_undo : Cond.selects RX8 yX8_undo yX8_undo ∈ gT := gT_t (i := 1159) (by decide +kernel) rfl
theorem wc_X8_undo : Cond.code yX8_undo cX8_undo 2 (some .int) ∈ gT := gT_t (i := 1160) (by decide +kernel) rfl
theorem wm_L_72 : Cond.methodLink RL 72 yX8_seed ∈ gT := gT_t (i := 1161) (by decide +kernel) rfl
theorem wi_X8_seed : Cond.instanceMethod yX8_seed ∈ gT := gT_t (i := 1162) (by decide +kernel) rfl
theorem ws_X8_seed : Cond.selects RX8 yX8_seed yX8_seed ∈ gT := gT_t (i := 1163) (by decide +kernel) rfl
theorem wc_X8_seed : Cond.code yX8_seed cX8_seed 3 (some .int) ∈ gT := gT_t (i := 1164) (by decide +kernel) rfl
theorem wm_L_76 : Cond.methodLink RL 76 yX8_chance ∈ gT := gT_t (i := 1165) (by decide +kernel) rfl
theorem wi_X8_chance : Cond.instanceMethod yX8_chance ∈ gT := gT_t (i := 1166) (by decide +kernel) rfl
theorem ws_X8_chance : Cond.selects RX8 yX8_chance yX8_chance ∈ gT := gT_t (i := 1167) (by decide +kernel) rfl
theorem wc_X8_chance : Cond.code yX8_chance cX8_chance 2 (some .int) ∈ gT := gT_t (i := 1168) (by decide +kernel) rfl
theorem wm_X8_220 : Cond.methodLink RX8 220 yX8_chanceOf ∈ gT := gT_t (i := 1169) (by decide +kernel) rfl
theorem wi_X8_chanceOf : Cond.instanceMethod yX8_chanceOf ∈ gT := gT_t (i := 1171) (by decide +kernel) rfl
theorem wc_X8_chanceOf : Cond.code yX8_chanceOf cX8_chanceOf 3 (some .int) ∈ gT := gT_t (i := 1172) (by decide +kernel) rfl
theorem wm_X8_223 : Cond.methodLink RX8 223 yX8_asides ∈ gT := gT_t (i := 1173) (by decide +kernel) rfl
theorem wi_X8_asides : Cond.instanceMethod yX8_asides ∈ gT := gT_t (i := 1175) (by decide +kernel) rfl
theorem wc_X8_asides : Cond.code yX8_asides cX8_asides 2 none ∈ gT := gT_t (i := 1176) (by decide +kernel) rfl
theorem wm_X8_226 : Cond.methodLink RX8 226 yX8_likelyBy ∈ gT := gT_t (i := 1177) (by decide +kernel) rfl
theorem wi_X8_likelyBy : Cond.instanceMethod yX8_likelyBy ∈ gT := gT_t (i := 1179) (by decide +kernel) rfl
theorem wc_X8_likelyBy : Cond.code yX8_likelyBy cX8_likelyBy 2 (some .int) ∈ gT := gT_t (i := 1180) (by decide +kernel) rfl
theorem wm_X8_214 : Cond.methodLink RX8 214 yX8_reaches ∈ gT := gT_t (i := 1181) (by decide +kernel) rfl
theorem wi_X8_reaches : Cond.instanceMethod yX8_reaches ∈ gT := gT_t (i := 1183) (by decide +kernel) rfl
theorem wc_X8_reaches : Cond.code yX8_reaches cX8_reaches 2 none ∈ gT := gT_t (i := 1184) (by decide +kernel) rfl
theorem wm_X8_217 : Cond.methodLink RX8 217 yX8_likely ∈ gT := gT_t (i := 1185) (by decide +kernel) rfl
theorem wi_X8_likely : Cond.instanceMethod yX8_likely ∈ gT := gT_t (i := 1187) (by decide +kernel) rfl
theorem wc_X8_likely : Cond.code yX8_likely cX8_likely 5 (some .int) ∈ gT := gT_t (i := 1188) (by decide +kernel) rfl
theorem wm_X8_203 : Cond.methodLink RX8 203 yX8_lines ∈ gT := gT_t (i := 1189) (by decide +kernel) rfl
theorem wi_X8_lines : Cond.instanceMethod yX8_lines ∈ gT := gT_t (i := 1191) (by decide +kernel) rfl
theorem wc_X8_lines : Cond.code yX8_lines cX8_lines 8 (some .int) ∈ gT := gT_t (i := 1192) (by decide +kernel) rfl
theorem wk_X8_202 : Cond.constant RX8 202 (1000000) ∈ gT := gT_t (i := 1193) (by decide +kernel) rfl
theorem wm_X8_206 : Cond.methodLink RX8 206 yX8_fought ∈ gT := gT_t (i := 1194) (by decide +kernel) rfl
theorem wi_X8_fought : Cond.instanceMethod yX8_fought ∈ gT := gT_t (i := 1196) (by decide +kernel) rfl
theorem wc_X8_fought : Cond.code yX8_fought cX8_fought 11 (some .int) ∈ gT := gT_t (i := 1197) (by decide +kernel) rfl
theorem wm_X8_210 : Cond.methodLink RX8 210 yX8_aheadOf ∈ gT := gT_t (i := 1198) (by decide +kernel) rfl
theorem wi_X8_aheadOf : Cond.instanceMethod yX8_aheadOf ∈ gT := gT_t (i := 1200) (by decide +kernel) rfl
theorem wc_X8_aheadOf : Cond.code yX8_aheadOf cX8_aheadOf 8 none ∈ gT := gT_t (i := 1201) (by decide +kernel) rfl
theorem wm_X8_229 : Cond.methodLink RX8 229 yX8_backs ∈ gT := gT_t (i := 1202) (by decide +kernel) rfl
theorem wi_X8_backs : Cond.instanceMethod yX8_backs ∈ gT := gT_t (i := 1204) (by decide +kernel) rfl
theorem wc_X8_backs : Cond.code yX8_backs cX8_backs 2 none ∈ gT := gT_t (i := 1205) (by decide +kernel) rfl
theorem wm_L_80 : Cond.methodLink RL 80 yX8_best ∈ gT := gT_t (i := 1206) (by decide +kernel) rfl
theorem wi_X8_best : Cond.instanceMethod yX8_best ∈ gT := gT_t (i := 1207) (by decide +kernel) rfl
theorem ws_X8_best : Cond.selects RX8 yX8_best yX8_best ∈ gT := gT_t (i := 1208) (by decide +kernel) rfl
theorem wc_X8_best : Cond.code yX8_best cX8_best 2 (some .int) ∈ gT := gT_t (i := 1209) (by decide +kernel) rfl
theorem wm_X8_241 : Cond.methodLink RX8 241 yX8_isOff ∈ gT := gT_t (i := 1210) (by decide +kernel) rfl
theorem wi_X8_isOff : Cond.instanceMethod yX8_isOff ∈ gT := gT_t (i := 1212) (by decide +kernel) rfl
theorem wc_X8_isOff : Cond.code yX8_isOff cX8_isOff 1 (some .boolean) ∈ gT := gT_t (i := 1213) (by decide +kernel) rfl
theorem wm_X8_244 : Cond.methodLink RX8 244 yX8_looks ∈ gT := gT_t (i := 1214) (by decide +kernel) rfl
theorem wi_X8_looks : Cond.instanceMethod yX8_looks ∈ gT := gT_t (i := 1216) (by decide +kernel) rfl
theorem wc_X8_looks : Cond.code yX8_looks cX8_looks 5 none ∈ gT := gT_t (i := 1217) (by decide +kernel) rfl
theorem wm_X8_235 : Cond.methodLink RX8 235 yX8_isCaughtThen ∈ gT := gT_t (i := 1218) (by decide +kernel) rfl
theorem wi_X8_isCaughtThen : Cond.instanceMethod yX8_isCaughtThen ∈ gT := gT_t (i := 1220) (by decide +kernel) rfl
theorem wc_X8_isCaughtThen : Cond.code yX8_isCaughtThen cX8_isCaughtThen 2 (some .boolean) ∈ gT := gT_t (i := 1221) (by decide +kernel) rfl
theorem wm_L_84 : Cond.methodLink RL 84 yX8_late ∈ gT := gT_t (i := 1222) (by decide +kernel) rfl
theorem wi_X8_late : Cond.instanceMethod yX8_late ∈ gT := gT_t (i := 1223) (by decide +kernel) rfl
theorem ws_X8_late : Cond.selects RX8 yX8_late yX8_late ∈ gT := gT_t (i := 1224) (by decide +kernel) rfl
theorem wc_X8_late : Cond.code yX8_late cX8_late 4 (some .int) ∈ gT := gT_t (i := 1225) (by decide +kernel) rfl
theorem wk_X8_247 : Cond.constantLong RX8 247 (1000000) ∈ gT := gT_t (i := 1226) (by decide +kernel) rfl
theorem wm_L_88 : Cond.methodLink RL 88 yX8_together ∈ gT := gT_t (i := 1227) (by decide +kernel) rfl
theorem wi_X8_together : Cond.instanceMethod yX8_together ∈ gT := gT_t (i := 1228) (by decide +kernel) rfl
theorem ws_X8_together : Cond.selects RX8 yX8_together yX8_together ∈ gT := gT_t (i := 1229) (by decide +kernel) rfl
theorem wc_X8_together : Cond.code yX8_together cX8_together 5 (some .int) ∈ gT := gT_t (i := 1230) (by decide +kernel) rfl
theorem wk_X8_249 : Cond.constantLong RX8 249 (2) ∈ gT := gT_t (i := 1231) (by decide +kernel) rfl
theorem wm_L_92 : Cond.methodLink RL 92 yX8_ditched ∈ gT := gT_t (i := 1232) (by decide +kernel) rfl
theorem wi_X8_ditched : Cond.instanceMethod yX8_ditched ∈ gT := gT_t (i := 1233) (by decide +kernel) rfl
theorem ws_X8_ditched : Cond.selects RX8 yX8_ditched yX8_ditched ∈ gT := gT_t (i := 1234) (by decide +kernel) rfl
theorem wc_X8_ditched : Cond.code yX8_ditched cX8_ditched 4 (some .int) ∈ gT := gT_t (i := 1235) (by decide +kernel) rfl
theorem wm_L_96 : Cond.methodLink RL 96 yX8_ahead ∈ gT := gT_t (i := 1236) (by decide +kernel) rfl
theorem wi_X8_ahead : Cond.instanceMethod yX8_ahead ∈ gT := gT_t (i := 1237) (by decide +kernel) rfl
theorem ws_X8_ahead : Cond.selects RX8 yX8_ahead yX8_ahead ∈ gT := gT_t (i := 1238) (by decide +kernel) rfl
theorem wc_X8_ahead : Cond.code yX8_ahead cX8_ahead 5 (some .int) ∈ gT := gT_t (i := 1239) (by decide +kernel) rfl
theorem wm_L_100 : Cond.methodLink RL 100 yX8_fields ∈ gT := gT_t (i := 1240) (by decide +kernel) rfl
theorem wi_X8_fields : Cond.instanceMethod yX8_fields ∈ gT := gT_t (i := 1241) (by decide +kernel) rfl
theorem ws_X8_fields : Cond.selects RX8 yX8_fields yX8_fields ∈ gT := gT_t (i := 1242) (by decide +kernel) rfl
theorem wc_X8_fields : Cond.code yX8_fields cX8_fields 6 (some .int) ∈ gT := gT_t (i := 1243) (by decide +kernel) rfl
theorem wk_X8_251 : Cond.constantLong RX8 251 (90) ∈ gT := gT_t (i := 1244) (by decide +kernel) rfl
theorem wm_L_104 : Cond.methodLink RL 104 yX8_image ∈ gT := gT_t (i := 1245) (by decide +kernel) rfl
theorem wi_X8_image : Cond.instanceMethod yX8_image ∈ gT := gT_t (i := 1246) (by decide +kernel) rfl
theorem ws_X8_image : Cond.selects RX8 yX8_image yX8_image ∈ gT := gT_t (i := 1247) (by decide +kernel) rfl
theorem wc_X8_image : Cond.code yX8_image cX8_image 2 (some .int) ∈ gT := gT_t (i := 1248) (by decide +kernel) rfl
theorem wm_X8_253 : Cond.methodLink RX8 253 yX8_notesRow ∈ gT := gT_t (i := 1249) (by decide +kernel) rfl
theorem wi_X8_notesRow : Cond.instanceMethod yX8_notesRow ∈ gT := gT_t (i := 1251) (by decide +kernel) rfl
theorem wc_X8_notesRow : Cond.code yX8_notesRow cX8_notesRow 4 (some .int) ∈ gT := gT_t (i := 1252) (by decide +kernel) rfl
theorem wm_L_108 : Cond.methodLink RL 108 yX8_restore ∈ gT := gT_t (i := 1253) (by decide +kernel) rfl
theorem wi_X8_restore : Cond.instanceMethod yX8_restore ∈ gT := gT_t (i := 1254) (by decide +kernel) rfl
theorem ws_X8_restore : Cond.selects RX8 yX8_restore yX8_restore ∈ gT := gT_t (i := 1255) (by decide +kernel) rfl
theorem wc_X8_restore : Cond.code yX8_restore cX8_restore 2 (some .int) ∈ gT := gT_t (i := 1256) (by decide +kernel) rfl
theorem wm_X8_260 : Cond.methodLink RX8 260 yX8_gives ∈ gT := gT_t (i := 1257) (by decide +kernel) rfl
theorem wi_X8_gives : Cond.instanceMethod yX8_gives ∈ gT := gT_t (i := 1259) (by decide +kernel) rfl
theorem wc_X8_gives : Cond.code yX8_gives cX8_gives 4 (some .int) ∈ gT := gT_t (i := 1260) (by decide +kernel) rfl
theorem wm_L_113 : Cond.methodLink RL 113 yX8_strides ∈ gT := gT_t (i := 1261) (by decide +kernel) rfl
theorem wi_X8_strides : Cond.instanceMethod yX8_strides ∈ gT := gT_t (i := 1262) (by decide +kernel) rfl
theorem ws_X8_strides : Cond.selects RX8 yX8_strides yX8_strides ∈ gT := gT_t (i := 1263) (by decide +kernel) rfl
theorem wc_X8_strides : Cond.code yX8_strides cX8_strides 12 (some .int) ∈ gT := gT_t (i := 1264) (by decide +kernel) rfl
theorem wm_X8_264 : Cond.methodLink RX8 264 yX8_isSheet ∈ gT := gT_t (i := 1265) (by decide +kernel) rfl
theorem wt_X8_isSheet : Cond.static yX8_isSheet ∈ gT := gT_t (i := 1266) (by decide +kernel) rfl
theorem wc_X8_isSheet : Cond.code yX8_isSheet cX8_isSheet 1 (some .boolean) ∈ gT := gT_t (i := 1267) (by decide +kernel) rfl
theorem wm_X8_267 : Cond.methodLink RX8 267 yX8_isLane ∈ gT := gT_t (i := 1268) (by decide +kernel) rfl
theorem wt_X8_isLane : Cond.static yX8_isLane ∈ gT := gT_t (i := 1269) (by decide +kernel) rfl
theorem wc_X8_isLane : Cond.code yX8_isLane cX8_isLane 1 (some .boolean) ∈ gT := gT_t (i := 1270) (by decide +kernel) rfl
theorem wk_X8_270 : Cond.constantLong RX8 270 (8) ∈ gT := gT_t (i := 1271) (by decide +kernel) rfl
theorem wm_X8_272 : Cond.methodLink RX8 272 yX8_why ∈ gT := gT_t (i := 1272) (by decide +kernel) rfl
theorem wi_X8_why : Cond.instanceMethod yX8_why ∈ gT := gT_t (i := 1274) (by decide +kernel) rfl
theorem wc_X8_why : Cond.code yX8_why cX8_why 5 (some .int) ∈ gT := gT_t (i := 1275) (by decide +kernel) rfl
theorem wm_L_118 : Cond.methodLink RL 118 yX8_far ∈ gT := gT_t (i := 1276) (by decide +kernel) rfl
theorem wi_X8_far : Cond.instanceMethod yX8_far ∈ gT := gT_t (i := 1277) (by decide +kernel) rfl
theorem ws_X8_far : Cond.selects RX8 yX8_far yX8_far ∈ gT := gT_t (i := 1278) (by decide +kernel) rfl
theorem wc_X8_far : Cond.code yX8_far cX8_far 15 (some .int) ∈ gT := gT_t (i := 1279) (by decide +kernel) rfl
theorem wm_L_122 : Cond.methodLink RL 122 yX8_film ∈ gT := gT_t (i := 1280) (by decide +kernel) rfl
theorem wi_X8_film : Cond.instanceMethod yX8_film ∈ gT := gT_t (i := 1281) (by decide +kernel) rfl
theorem ws_X8_film : Cond.selects RX8 yX8_film yX8_film ∈ gT := gT_t (i := 1282) (by decide +kernel) rfl
theorem wc_X8_film : Cond.code yX8_film cX8_film 7 (some .int) ∈ gT := gT_t (i := 1283) (by decide +kernel) rfl
theorem wk_X8_276 : Cond.constantLong RX8 276 (24) ∈ gT := gT_t (i := 1284) (by decide +kernel) rfl
theorem wm_X8_278 : Cond.methodLink RX8 278 yX8_puts ∈ gT := gT_t (i := 1285) (by decide +kernel) rfl
theorem wi_X8_puts : Cond.instanceMethod yX8_puts ∈ gT := gT_t (i := 1287) (by decide +kernel) rfl
theorem wc_X8_puts : Cond.code yX8_puts cX8_puts 6 none ∈ gT := gT_t (i := 1288) (by decide +kernel) rfl
theorem wm_L_126 : Cond.methodLink RL 126 yX8_sheet ∈ gT := gT_t (i := 1289) (by decide +kernel) rfl
theorem wi_X8_sheet : Cond.instanceMethod yX8_sheet ∈ gT := gT_t (i := 1290) (by decide +kernel) rfl
theorem ws_X8_sheet : Cond.selects RX8 yX8_sheet yX8_sheet ∈ gT := gT_t (i := 1291) (by decide +kernel) rfl
theorem wc_X8_sheet : Cond.code yX8_sheet cX8_sheet 5 (some .int) ∈ gT := gT_t (i := 1292) (by decide +kernel) rfl
theorem wm_L_130 : Cond.methodLink RL 130 yX8_drop ∈ gT := gT_t (i := 1293) (by decide +kernel) rfl
theorem wi_X8_drop : Cond.instanceMethod yX8_drop ∈ gT := gT_t (i := 1294) (by decide +kernel) rfl
theorem ws_X8_drop : Cond.selects RX8 yX8_drop yX8_drop ∈ gT := gT_t (i := 1295) (by decide +kernel) rfl
theorem wc_X8_drop : Cond.code yX8_drop cX8_drop 2 (some .int) ∈ gT := gT_t (i := 1296) (by decide +kernel) rfl
theorem wm_L_137 : Cond.methodLink RL 137 yX8_item ∈ gT := gT_t (i := 1297) (by decide +kernel) rfl
theorem wi_X8_item : Cond.instanceMethod yX8_item ∈ gT := gT_t (i := 1298) (by decide +kernel) rfl
theorem ws_X8_item : Cond.selects RX8 yX8_item yX8_item ∈ gT := gT_t (i := 1299) (by decide +kernel) rfl
theorem wc_X8_item : Cond.code yX8_item cX8_item 7 (some .int) ∈ gT := gT_t (i := 1300) (by decide +kernel) rfl
theorem wm_L_141 : Cond.methodLink RL 141 yX8_copy ∈ gT := gT_t (i := 1301) (by decide +kernel) rfl
theorem wi_X8_copy : Cond.instanceMethod yX8_copy ∈ gT := gT_t (i := 1302) (by decide +kernel) rfl
theorem ws_X8_copy : Cond.selects RX8 yX8_copy yX8_copy ∈ gT := gT_t (i := 1303) (by decide +kernel) rfl
theorem wc_X8_copy : Cond.code yX8_copy cX8_copy 7 (some .int) ∈ gT := gT_t (i := 1304) (by decide +kernel) rfl
theorem wk_L_131 : Cond.constantLong RL 131 (4294967295) ∈ gT := gT_t (i := 1305) (by decide +kernel) rfl
theorem ws_X5_momentsOut : Cond.selects RX5 yX5_momentsOut yX5_momentsOut ∈ gT := gT_s (q := (yX5_momentsOut, 13)) (i := 0) (by decide +kernel) rfl
theorem ws_X5_cellBehindTurn : Cond.selects RX5 yX5_cellBehindTurn yX5_cellBehindTurn ∈ gT := gT_s (q := (yX5_cellBehindTurn, 13)) (i := 1) (by decide +kernel) rfl
theorem ws_X1_readGround : Cond.selects RX1 yX1_readGround yX1_readGround ∈ gT := gT_s (q := (yX1_readGround, 4)) (i := 2) (by decide +kernel) rfl
theorem ws_X1_peek : Cond.selects RX1 yX1_peek yX1_peek ∈ gT := gT_s (q := (yX1_peek, 4)) (i := 3) (by decide +kernel) rfl
theorem ws_X1_take : Cond.selects RX1 yX1_take yX1_take ∈ gT := gT_s (q := (yX1_take, 4)) (i := 4) (by decide +kernel) rfl
theorem ws_X1_readFighters : Cond.selects RX1 yX1_readFighters yX1_readFighters ∈ gT := gT_s (q := (yX1_readFighters, 4)) (i := 5) (by decide +kernel) rfl
theorem ws_X1_readFighter : Cond.selects RX1 yX1_readFighter yX1_readFighter ∈ gT := gT_s (q := (yX1_readFighter, 4)) (i := 6) (by decide +kernel) rfl
theorem ws_X1_takeDigit : Cond.selects RX1 yX1_takeDigit yX1_takeDigit ∈ gT := gT_s (q := (yX1_takeDigit, 4)) (i := 7) (by decide +kernel) rfl
theorem ws_X5_firstThere : Cond.selects RX5 yX5_firstThere yX5_firstThere ∈ gT := gT_s (q := (yX5_firstThere, 13)) (i := 8) (by decide +kernel) rfl
theorem ws_X5_isThere : Cond.selects RX5 yX5_isThere yX5_isThere ∈ gT := gT_s (q := (yX5_isThere, 13)) (i := 9) (by decide +kernel) rfl
theorem ws_X5_countThere : Cond.selects RX5 yX5_countThere yX5_countThere ∈ gT := gT_s (q := (yX5_countThere, 13)) (i := 10) (by decide +kernel) rfl
theorem ws_X5_drawOfSixteen : Cond.selects RX5 yX5_drawOfSixteen yX5_drawOfSixteen ∈ gT := gT_s (q := (yX5_drawOfSixteen, 13)) (i := 11) (by decide +kernel) rfl
theorem ws_X7_runOn : Cond.selects RX7 yX7_runOn yX7_runOn ∈ gT := gT_s (q := (yX7_runOn, 8)) (i := 12) (by decide +kernel) rfl
theorem ws_X7_mayTurn : Cond.selects RX7 yX7_mayTurn yX7_mayTurn ∈ gT := gT_s (q := (yX7_mayTurn, 8)) (i := 13) (by decide +kernel) rfl
theorem ws_X0_putInOrder : Cond.selects RX0 yX0_putInOrder yX0_putInOrder ∈ gT := gT_s (q := (yX0_putInOrder, 12)) (i := 14) (by decide +kernel) rfl
theorem ws_X0_tellWaits : Cond.selects RX0 yX0_tellWaits yX0_tellWaits ∈ gT := gT_s (q := (yX0_tellWaits, 12)) (i := 15) (by decide +kernel) rfl
theorem ws_X0_keyOf : Cond.selects RX0 yX0_keyOf yX0_keyOf ∈ gT := gT_s (q := (yX0_keyOf, 12)) (i := 16) (by decide +kernel) rfl
theorem ws_X0_foldBack : Cond.selects RX0 yX0_foldBack yX0_foldBack ∈ gT := gT_s (q := (yX0_foldBack, 12)) (i := 17) (by decide +kernel) rfl
theorem ws_X0_tellForces : Cond.selects RX0 yX0_tellForces yX0_tellForces ∈ gT := gT_s (q := (yX0_tellForces, 12)) (i := 18) (by decide +kernel) rfl
theorem ws_X0_tellIdle : Cond.selects RX0 yX0_tellIdle yX0_tellIdle ∈ gT := gT_s (q := (yX0_tellIdle, 12)) (i := 19) (by decide +kernel) rfl
theorem ws_X0_settleEnds : Cond.selects RX0 yX0_settleEnds yX0_settleEnds ∈ gT := gT_s (q := (yX0_settleEnds, 12)) (i := 20) (by decide +kernel) rfl
theorem ws_X0_leastHurt : Cond.selects RX0 yX0_leastHurt yX0_leastHurt ∈ gT := gT_s (q := (yX0_leastHurt, 12)) (i := 21) (by decide +kernel) rfl
theorem ws_X0_fold : Cond.selects RX0 yX0_fold yX0_fold ∈ gT := gT_s (q := (yX0_fold, 12)) (i := 22) (by decide +kernel) rfl
theorem ws_X0_foldMoment : Cond.selects RX0 yX0_foldMoment yX0_foldMoment ∈ gT := gT_s (q := (yX0_foldMoment, 12)) (i := 23) (by decide +kernel) rfl
theorem ws_X0_countThere : Cond.selects RX0 yX0_countThere yX0_countThere ∈ gT := gT_s (q := (yX0_countThere, 12)) (i := 24) (by decide +kernel) rfl
theorem ws_X2_winsOne : Cond.selects RX2 yX2_winsOne yX2_winsOne ∈ gT := gT_s (q := (yX2_winsOne, 3)) (i := 25) (by decide +kernel) rfl
theorem ws_X7_areSightings : Cond.selects RX7 yX7_areSightings yX7_areSightings ∈ gT := gT_s (q := (yX7_areSightings, 8)) (i := 26) (by decide +kernel) rfl
theorem ws_X7_strodeSo : Cond.selects RX7 yX7_strodeSo yX7_strodeSo ∈ gT := gT_s (q := (yX7_strodeSo, 8)) (i := 27) (by decide +kernel) rfl
theorem ws_X7_lastFarTurn : Cond.selects RX7 yX7_lastFarTurn yX7_lastFarTurn ∈ gT := gT_s (q := (yX7_lastFarTurn, 8)) (i := 28) (by decide +kernel) rfl
theorem ws_X7_turnsThatFit : Cond.selects RX7 yX7_turnsThatFit yX7_turnsThatFit ∈ gT := gT_s (q := (yX7_turnsThatFit, 8)) (i := 29) (by decide +kernel) rfl
theorem ws_X7_comeAsTold : Cond.selects RX7 yX7_comeAsTold yX7_comeAsTold ∈ gT := gT_s (q := (yX7_comeAsTold, 8)) (i := 30) (by decide +kernel) rfl
theorem ws_X7_firstTurnThatFits : Cond.selects RX7 yX7_firstTurnThatFits yX7_firstTurnThatFits ∈ gT := gT_s (q := (yX7_firstTurnThatFits, 8)) (i := 31) (by decide +kernel) rfl
theorem ws_X6_lowestBits : Cond.selects RX6 yX6_lowestBits yX6_lowestBits ∈ gT := gT_s (q := (yX6_lowestBits, 3)) (i := 32) (by decide +kernel) rfl
theorem ws_X8_isTurned : Cond.selects RX8 yX8_isTurned yX8_isTurned ∈ gT := gT_s (q := (yX8_isTurned, 30)) (i := 33) (by decide +kernel) rfl
theorem ws_X8_fighterComes : Cond.selects RX8 yX8_fighterComes yX8_fighterComes ∈ gT := gT_s (q := (yX8_fighterComes, 30)) (i := 34) (by decide +kernel) rfl
theorem ws_X8_isFighter : Cond.selects RX8 yX8_isFighter yX8_isFighter ∈ gT := gT_s (q := (yX8_isFighter, 30)) (i := 35) (by decide +kernel) rfl
theorem ws_X8_hurtOf : Cond.selects RX8 yX8_hurtOf yX8_hurtOf ∈ gT := gT_s (q := (yX8_hurtOf, 30)) (i := 36) (by decide +kernel) rfl
theorem ws_X8_force : Cond.selects RX8 yX8_force yX8_force ∈ gT := gT_s (q := (yX8_force, 30)) (i := 37) (by decide +kernel) rfl
theorem ws_X8_place : Cond.selects RX8 yX8_place yX8_place ∈ gT := gT_s (q := (yX8_place, 30)) (i := 38) (by decide +kernel) rfl
theorem ws_X8_runs : Cond.selects RX8 yX8_runs yX8_runs ∈ gT := gT_s (q := (yX8_runs, 30)) (i := 39) (by decide +kernel) rfl
theorem ws_X8_isDown : Cond.selects RX8 yX8_isDown yX8_isDown ∈ gT := gT_s (q := (yX8_isDown, 30)) (i := 40) (by decide +kernel) rfl
theorem ws_X8_pointsOf : Cond.selects RX8 yX8_pointsOf yX8_pointsOf ∈ gT := gT_s (q := (yX8_pointsOf, 30)) (i := 41) (by decide +kernel) rfl
theorem ws_X8_farthest : Cond.selects RX8 yX8_farthest yX8_farthest ∈ gT := gT_s (q := (yX8_farthest, 30)) (i := 42) (by decide +kernel) rfl
theorem ws_X8_costOf : Cond.selects RX8 yX8_costOf yX8_costOf ∈ gT := gT_s (q := (yX8_costOf, 30)) (i := 43) (by decide +kernel) rfl
theorem ws_X8_here : Cond.selects RX8 yX8_here yX8_here ∈ gT := gT_s (q := (yX8_here, 30)) (i := 44) (by decide +kernel) rfl
theorem ws_X8_sign : Cond.selects RX8 yX8_sign yX8_sign ∈ gT := gT_s (q := (yX8_sign, 30)) (i := 45) (by decide +kernel) rfl
theorem ws_X8_has : Cond.selects RX8 yX8_has yX8_has ∈ gT := gT_s (q := (yX8_has, 30)) (i := 46) (by decide +kernel) rfl
theorem ws_X8_readFighter : Cond.selects RX8 yX8_readFighter yX8_readFighter ∈ gT := gT_s (q := (yX8_readFighter, 30)) (i := 47) (by decide +kernel) rfl
theorem ws_X8_digit : Cond.selects RX8 yX8_digit yX8_digit ∈ gT := gT_s (q := (yX8_digit, 30)) (i := 48) (by decide +kernel) rfl
theorem ws_X8_down : Cond.selects RX8 yX8_down yX8_down ∈ gT := gT_s (q := (yX8_down, 30)) (i := 49) (by decide +kernel) rfl
theorem ws_X8_over : Cond.selects RX8 yX8_over yX8_over ∈ gT := gT_s (q := (yX8_over, 30)) (i := 50) (by decide +kernel) rfl
theorem ws_X8_notes : Cond.selects RX8 yX8_notes yX8_notes ∈ gT := gT_s (q := (yX8_notes, 30)) (i := 51) (by decide +kernel) rfl
theorem ws_X8_fights : Cond.selects RX8 yX8_fights yX8_fights ∈ gT := gT_s (q := (yX8_fights, 30)) (i := 52) (by decide +kernel) rfl
theorem ws_X8_meets : Cond.selects RX8 yX8_meets yX8_meets ∈ gT := gT_s (q := (yX8_meets, 30)) (i := 53) (by decide +kernel) rfl
theorem ws_X8_isCaught : Cond.selects RX8 yX8_isCaught yX8_isCaught ∈ gT := gT_s (q := (yX8_isCaught, 30)) (i := 54) (by decide +kernel) rfl
theorem ws_X8_pursues : Cond.selects RX8 yX8_pursues yX8_pursues ∈ gT := gT_s (q := (yX8_pursues, 30)) (i := 55) (by decide +kernel) rfl
theorem ws_X8_turns : Cond.selects RX8 yX8_turns yX8_turns ∈ gT := gT_s (q := (yX8_turns, 30)) (i := 56) (by decide +kernel) rfl
theorem ws_X8_comesTo : Cond.selects RX8 yX8_comesTo yX8_comesTo ∈ gT := gT_s (q := (yX8_comesTo, 30)) (i := 57) (by decide +kernel) rfl
theorem ws_X8_chanceOf : Cond.selects RX8 yX8_chanceOf yX8_chanceOf ∈ gT := gT_s (q := (yX8_chanceOf, 30)) (i := 58) (by decide +kernel) rfl
theorem ws_X8_asides : Cond.selects RX8 yX8_asides yX8_asides ∈ gT := gT_s (q := (yX8_asides, 30)) (i := 59) (by decide +kernel) rfl
theorem ws_X8_likelyBy : Cond.selects RX8 yX8_likelyBy yX8_likelyBy ∈ gT := gT_s (q := (yX8_likelyBy, 30)) (i := 60) (by decide +kernel) rfl
theorem ws_X8_reaches : Cond.selects RX8 yX8_reaches yX8_reaches ∈ gT := gT_s (q := (yX8_reaches, 30)) (i := 61) (by decide +kernel) rfl
theorem ws_X8_likely : Cond.selects RX8 yX8_likely yX8_likely ∈ gT := gT_s (q := (yX8_likely, 30)) (i := 62) (by decide +kernel) rfl
theorem ws_X8_lines : Cond.selects RX8 yX8_lines yX8_lines ∈ gT := gT_s (q := (yX8_lines, 30)) (i := 63) (by decide +kernel) rfl
theorem ws_X8_fought : Cond.selects RX8 yX8_fought yX8_fought ∈ gT := gT_s (q := (yX8_fought, 30)) (i := 64) (by decide +kernel) rfl
theorem ws_X8_aheadOf : Cond.selects RX8 yX8_aheadOf yX8_aheadOf ∈ gT := gT_s (q := (yX8_aheadOf, 30)) (i := 65) (by decide +kernel) rfl
theorem ws_X8_backs : Cond.selects RX8 yX8_backs yX8_backs ∈ gT := gT_s (q := (yX8_backs, 30)) (i := 66) (by decide +kernel) rfl
theorem ws_X8_isOff : Cond.selects RX8 yX8_isOff yX8_isOff ∈ gT := gT_s (q := (yX8_isOff, 30)) (i := 67) (by decide +kernel) rfl
theorem ws_X8_looks : Cond.selects RX8 yX8_looks yX8_looks ∈ gT := gT_s (q := (yX8_looks, 30)) (i := 68) (by decide +kernel) rfl
theorem ws_X8_isCaughtThen : Cond.selects RX8 yX8_isCaughtThen yX8_isCaughtThen ∈ gT := gT_s (q := (yX8_isCaughtThen, 30)) (i := 69) (by decide +kernel) rfl
theorem ws_X8_notesRow : Cond.selects RX8 yX8_notesRow yX8_notesRow ∈ gT := gT_s (q := (yX8_notesRow, 30)) (i := 70) (by decide +kernel) rfl
theorem ws_X8_gives : Cond.selects RX8 yX8_gives yX8_gives ∈ gT := gT_s (q := (yX8_gives, 30)) (i := 71) (by decide +kernel) rfl
theorem ws_X8_why : Cond.selects RX8 yX8_why yX8_why ∈ gT := gT_s (q := (yX8_why, 30)) (i := 72) (by decide +kernel) rfl
theorem ws_X8_puts : Cond.selects RX8 yX8_puts yX8_puts ∈ gT := gT_s (q := (yX8_puts, 30)) (i := 73) (by decide +kernel) rfl
end
section
/-! the reference: one object and its rows, whose shape never changes -/
/-- where it lies: the classes' numbers, the classes of int[] and long[], the object's address, the rows' by the fields' slots -/
abbrev RG : Type := va_G × ClassId × ClassId × Nat × (Nat → Nat)
/-- what it holds: ints by the fields' slots, rows of ints, rows of longs -/
abbrev RS : Type := (Nat → Int32) × (Nat → Nat → Int32) × (Nat → Nat → Int64)
abbrev wR (g : RG) (z : RS) : va_W := [(g.2.2.2.1, .inr (7, [.int (z.1 0), .int (z.1 1), .ref (g.2.2.2.2 2), .ref (g.2.2.2.2 3), .int (z.1 4), .ref (g.2.2.2.2 5), .int (z.1 6), .ref (g.2.2.2.2 7), .int (z.1 8), .int (z.1 9), .int (z.1 10), .int (z.1 11), .int (z.1 12), .ref (g.2.2.2.2 13), .ref (g.2.2.2.2 14), .ref (g.2.2.2.2 15), .int (z.1 16), .ref (g.2.2.2.2 17), .ref (g.2.2.2.2 18), .ref (g.2.2.2.2 19), .ref (g.2.2.2.2 20), .ref (g.2.2.2.2 21), .int (z.1 22), .int (z.1 23), .ref (g.2.2.2.2 24), .int (z.1 25), .ref (g.2.2.2.2 26), .ref (g.2.2.2.2 27), .ref (g.2.2.2.2 28), .ref (g.2.2.2.2 29)])), (g.2.2.2.2 2, .inl (g.2.1, 40, .inl (z.2.1 2))), (g.2.2.2.2 3, .inl (g.2.1, 15, .inl (z.2.1 3))), (g.2.2.2.2 5, .inl (g.2.1, 13, .inl (z.2.1 5))), (g.2.2.2.2 7, .inl (g.2.1, 100, .inl (z.2.1 7))), (g.2.2.2.2 13, .inl (g.2.1, 40, .inl (z.2.1 13))), (g.2.2.2.2 14, .inl (g.2.1, 20, .inl (z.2.1 14))), (g.2.2.2.2 15, .inl (g.2.1, 104, .inl (z.2.1 15))), (g.2.2.2.2 17, .inl (g.2.1, 13, .inl (z.2.1 17))), (g.2.2.2.2 18, .inl (g.2.1, 4, .inl (z.2.1 18))), (g.2.2.2.2 19, .inl (g.2.1, 180, .inl (z.2.1 19))), (g.2.2.2.2 20, .inl (g.2.1, 180, .inl (z.2.1 20))), (g.2.2.2.2 21, .inl (g.2.1, 61, .inl (z.2.1 21))), (g.2.2.2.2 24, .inl (g.2.1, 177, .inl (z.2.1 24))), (g.2.2.2.2 26, .inl (g.2.1, 4, .inl (z.2.1 26))), (g.2.2.2.2 27, .inl (g.2.1, 4, .inl (z.2.1 27))), (g.2.2.2.2 28, .inl (g.2.2.1, 96, .inr (.inl (z.2.2 28)))), (g.2.2.2.2 29, .inl (g.2.2.1, 24, .inr (.inl (z.2.2 29))))]
abbrev rt (g : RG) : List (ClassId × FieldType) := [(g.2.1, .int), (g.2.2.1, .long)]
abbrev rK (g : RG) (U : State) : Prop := va_K g.1 vwCl (rt g) U
abbrev rP (g : RG) (z : RS) (H : Heap) : Prop := va_P g.1 vwCl (wR g z) H
abbrev sI (z : RS) (k : Nat) (v : Int32) : RS := (va_up z.1 k v, z.2)
abbrev sA (z : RS) (k i : Nat) (x : Int32) : RS := (z.1, va_up z.2.1 k (upd (z.2.1 k) i x), z.2.2)
abbrev sL (z : RS) (k i : Nat) (x : Int64) : RS := (z.1, z.2.1, va_up z.2.2 k (vp_updL (z.2.2 k) i x))
theorem gX8 : ∀ w ∈ u_ws RX8 TX8 30, w ∈ gT := by
  intro w hw
  have h1 : (u_ws RX8 TX8 30).all (fun w => decide (w ∈ tables_1) && goodWord w) = true := by decide +kernel
  have h2 := List.all_eq_true.mp h1 w hw
  simp only [Bool.and_eq_true, decide_eq_true_eq] at h2
  exact List.mem_filter.mpr ⟨List.mem_append_right _ h2.1, h2.2⟩
/-- what a walk knows from its entry on -/
def rX (g : RG) (A : Nat → Prop) (p : Program) (c : Code) (cc : ByteArray) (s : State) (args : Array Value) (m : MethodId) : Prop :=
  p.tables.exec = Jvm.exec ∧ c.code = cc ∧ (∀ w ∈ gT, w.before args s = true) ∧ s.vm.findClass RX8 = some m.cls ∧ rK g s ∧ ∀ q, s.heap.size ≤ q → A q
def rW (g : RG) (A : Nat → Prop) (s : State) (z : RS) (H : Heap) (locs : List Loc) : Prop := rP g z H ∧ va_D A (wR g z) ∧ va_S A s.heap H locs
theorem gV {own C : String} {idx mx : Nat} {y : MethodName} {cc : ByteArray} {ret : Option FieldType} (h1 : Cond.methodLink own idx y ∈ gT) (h2 : Cond.instanceMethod y ∈ gT) (h3 : Cond.selects C y y ∈ gT) (h4 : Cond.initialized C ∈ gT) (h5 : Cond.code y cc mx ret ∈ gT) : GoodIn gT (wsV own idx C y (Cond.code y cc mx ret :: gT)) := by
  intro w hw
  have hm : w ∈ gT := by
    unfold wsV at hw
    rcases List.mem_append.mp hw with h | h
    · simp only [List.mem_cons, List.not_mem_nil, or_false] at h
      rcases h with rfl | rfl | rfl | rfl
      · exact h1
      · exact h2
      · exact h3
      · exact h4
    · rcases List.mem_cons.mp h with rfl | h
      · exact h5
      · exact h
  exact ⟨hm, gT_good hm⟩
theorem gS {own : String} {idx mx : Nat} {y : MethodName} {cc : ByteArray} {ret : Option FieldType} (h1 : Cond.methodLink own idx y ∈ gT) (h2 : Cond.static y ∈ gT) (h4 : Cond.initialized own ∈ gT) (h5 : Cond.code y cc mx ret ∈ gT) : GoodIn gT (wsS own idx y (Cond.code y cc mx ret :: gT)) := by
  intro w hw
  have hm : w ∈ gT := by
    unfold wsS at hw
    rcases List.mem_append.mp hw with h | h
    · simp only [List.mem_cons, List.not_mem_nil, or_false] at h
      rcases h with rfl | rfl | rfl
      · exact h1
      · exact h2
      · exact h4
    · rcases List.mem_cons.mp h with rfl | h
      · exact h5
      · exact h
  exact ⟨hm, gT_good hm⟩
/-- a method of the reference: its name, code, places, answer's kind and number of parameters are as the tables have them -/
def rOk (y : MethodName) (cc : ByteArray) (mx : Nat) (ret : Option FieldType) (n : Nat) : Prop :=
  Cond.code y cc mx ret ∈ gT ∧ Cond.instanceMethod y ∈ gT ∧ Cond.selects RX8 y y ∈ gT ∧ y.cls = RX8 ∧ y.cls ≠ "java/lang/invoke/MethodHandle" ∧ y.cls ≠ "java/lang/invoke/VarHandle" ∧ (parseMethodDescriptor y.desc).map (fun d => d.parameters.length) = some n
def rOkS (y : MethodName) (cc : ByteArray) (mx : Nat) (ret : Option FieldType) (n : Nat) : Prop :=
  Cond.code y cc mx ret ∈ gT ∧ Cond.static y ∈ gT ∧ y.cls = RX8 ∧ y.cls ≠ "java/lang/invoke/MethodHandle" ∧ y.cls ≠ "java/lang/invoke/VarHandle" ∧ (parseMethodDescriptor y.desc).map (fun d => d.parameters.length) = some n
abbrev ro_m (fr lo : Nat) : Room := { frames := fr, cells := 0, slots := 0, locals := lo }
/-- contracts: a static that reads no cell; one that writes nothing; one that writes, with an int, with nothing for an answer -/
def rMs (l : Launch) (y : MethodName) (cc : ByteArray) (mx : Nat) (ret : Option FieldType) (fr lo : Nat) (av : List Value) (post : Int32 → Prop) : Prop :=
  Met l y (Cond.code y cc mx ret :: gT) (ro_m fr lo) (va_Pc av (fun _ => True)) (vp_Si post) 0 0 (fun _ => False)
def rMp (g : RG) (l : Launch) (y : MethodName) (cc : ByteArray) (mx : Nat) (ret : Option FieldType) (fr lo : Nat) (av : List Value) (z : RS) (post : Int32 → Prop) : Prop :=
  Met l y (Cond.code y cc mx ret :: gT) (ro_m fr lo) (va_Pc (.ref g.2.2.2.1 :: av) (fun U => rP g z U.heap ∧ rK g U)) (vp_Si post) 0 0 (fun _ => False)
def rPre (g : RG) (av : List Value) (z : RS) (sz : Nat) : Array Value → State → Prop := va_Pc (.ref g.2.2.2.1 :: av) (fun U => U.heap.size = sz ∧ rP g z U.heap ∧ rK g U ∧ va_D (fun _ => True) (wR g z))
def rB (g : RG) (A : Nat → Prop) (z' : RS) (t : State) : Prop := rP g z' t.heap ∧ rK g t ∧ va_D A (wR g z')
def rMi (g : RG) (l : Launch) (y : MethodName) (cc : ByteArray) (mx : Nat) (ret : Option FieldType) (fr lo : Nat) (av : List Value) (z : RS) (post : Int32 → RS → Prop) : Prop :=
  ∀ sz, Met l y (Cond.code y cc mx ret :: gT) (ro_m fr lo) (rPre g av z sz) (va_Qi post (rB g (va_A (wR g z) sz)) (va_A (wR g z) sz)) 0 0 (va_A (wR g z) sz)
def rMv (g : RG) (l : Launch) (y : MethodName) (cc : ByteArray) (mx : Nat) (ret : Option FieldType) (fr lo : Nat) (av : List Value) (z : RS) (post : RS → Prop) : Prop :=
  ∀ sz, Met l y (Cond.code y cc mx ret :: gT) (ro_m fr lo) (rPre g av z sz) (va_Qv post (rB g (va_A (wR g z) sz)) (va_A (wR g z) sz)) 0 0 (va_A (wR g z) sz)
section RefA
variable {p : Program} {l : Launch} {e : Env} {R : Room} {s : State} {m : MethodId} {args : Array Value} {below : List Frame} {meth : Method} {c : Code} {H : Heap} {locs : List Loc} {cells slots : Nat} {Q : State → Prop}
variable {cc : ByteArray} {pc : Nat} {ls : Array Slot} {rest : List Value} {g : RG} {A : Nat → Prop} {z : RS}
theorem rg_0 (X : rX g A p c cc s args m) (w : rP g z H) (hdg : decode cc pc = .ok (.getfield 62, 3)) (kk : W p l e R s m args below meth c H locs cells slots Q (F0 m (pc + 3) ls (.int (z.1 0) :: rest))) : W p l e R s m args below meth c H locs cells slots Q (F0 m pc ls (.ref g.2.2.2.1 :: rest)) :=
  va_get (D := g.1) (ci := 7) (v := .int (z.1 0)) (C := RX8) (T := TX8) (N := 30) X.1 X.2.1 X.2.2.1 gX8 X.2.2.2.1 X.2.2.2.2.1 w 0 rfl rfl 0 (by decide) (X.2.2.1 _ wf_X8_62) (fun _ h9 => h9) rfl hdg kk
theorem rp_0 {v : Int32} (X : rX g A p c cc s args m) (w : rW g A s z H locs) (hdg : decode cc pc = .ok (.putfield 62, 3)) (kk : ∀ (H : Heap) (locs : List Loc), rW g A s (sI z 0 v) H locs → W p l e R s m args below meth c H locs cells slots Q (F0 m (pc + 3) ls rest)) : W p l e R s m args below meth c H locs cells slots Q (F0 m pc ls (.int v :: .ref g.2.2.2.1 :: rest)) :=
  va_put (D := g.1) (ci := 7) (v := .int v) (ty := .int) (C := RX8) (T := TX8) (N := 30) X.1 X.2.1 X.2.2.1 gX8 tyX8 tyX8_ok nmX8 X.2.2.2.1 X.2.2.2.2.1 w.1 w.2.1 w.2.2 0 rfl rfl 0 (by decide) (X.2.2.1 _ wf_X8_62) (fun _ h9 => h9) rfl (by decide +kernel) rfl rfl (Nat.le_of_ble_eq_true rfl) hdg (fun H1 locs1 hP hD hS => kk H1 locs1 ⟨hP, hD, hS⟩)
theorem rg_1 (X : rX g A p c cc s args m) (w : rP g z H) (hdg : decode cc pc = .ok (.getfield 66, 3)) (kk : W p l e R s m args below meth c H locs cells slots Q (F0 m (pc + 3) ls (.int (z.1 1) :: rest))) : W p l e R s m args below meth c H locs cells slots Q (F0 m pc ls (.ref g.2.2.2.1 :: rest)) :=
  va_get (D := g.1) (ci := 7) (v := .int (z.1 1)) (C := RX8) (T := TX8) (N := 30) X.1 X.2.1 X.2.2.1 gX8 X.2.2.2.1 X.2.2.2.2.1 w 0 rfl rfl 1 (by decide) (X.2.2.1 _ wf_X8_66) (fun _ h9 => h9) rfl hdg kk
theorem rp_1 {v : Int32} (X : rX g A p c cc s args m) (w : rW g A s z H locs) (hdg : decode cc pc = .ok (.putfield 66, 3)) (kk : ∀ (H : Heap) (locs : List Loc), rW g A s (sI z 1 v) H locs → W p l e R s m args below meth c H locs cells slots Q (F0 m (pc + 3) ls rest)) : W p l e R s m args below meth c H locs cells slots Q (F0 m pc ls (.int v :: .ref g.2.2.2.1 :: rest)) :=
  va_put (D := g.1) (ci := 7) (v := .int v) (ty := .int) (C := RX8) (T := TX8) (N := 30) X.1 X.2.1 X.2.2.1 gX8 tyX8 tyX8_ok nmX8 X.2.2.2.1 X.2.2.2.2.1 w.1 w.2.1 w.2.2 0 rfl rfl 1 (by decide) (X.2.2.1 _ wf_X8_66) (fun _ h9 => h9) rfl (by decide +kernel) rfl rfl (Nat.le_of_ble_eq_true rfl) hdg (fun H1 locs1 hP hD hS => kk H1 locs1 ⟨hP, hD, hS⟩)
theorem rg_2 (X : rX g A p c cc s args m) (w : rP g z H) (hdg : decode cc pc = .ok (.getfield 7, 3)) (kk : W p l e R s m args below meth c H locs cells slots Q (F0 m (pc + 3) ls (.ref (g.2.2.2.2 2) :: rest))) : W p l e R s m args below meth c H locs cells slots Q (F0 m pc ls (.ref g.2.2.2.1 :: rest)) :=
  va_get (D := g.1) (ci := 7) (v := .ref (g.2.2.2.2 2)) (C := RX8) (T := TX8) (N := 30) X.1 X.2.1 X.2.2.1 gX8 X.2.2.2.1 X.2.2.2.2.1 w 0 rfl rfl 2 (by decide) (X.2.2.1 _ wf_X8_7) (fun _ h9 => h9) rfl hdg kk
theorem ra_2 {i : Int32} (X : rX g A p c cc s args m) (w : rP g z H) (hin : vp_in i 40) (hdg : decode cc pc = .ok (.iaload, 1)) (kk : W p l e R s m args below meth c H locs cells slots Q (F0 m (pc + 1) ls (.int (z.2.1 2 i.toNatClampNeg) :: rest))) : W p l e R s m args below meth c H locs cells slots Q (F0 m pc ls (.int i :: .ref (g.2.2.2.2 2) :: rest)) :=
  va_iald X.1 X.2.1 X.2.2.2.2.1 w 1 0 rfl rfl hin hdg kk
theorem rs_2 {i v : Int32} (X : rX g A p c cc s args m) (w : rW g A s z H locs) (hin : vp_in i 40) (hdg : decode cc pc = .ok (.iastore, 1)) (kk : ∀ (H : Heap) (locs : List Loc), rW g A s (sA z 2 i.toNatClampNeg v) H locs → W p l e R s m args below meth c H locs cells slots Q (F0 m (pc + 1) ls rest)) : W p l e R s m args below meth c H locs cells slots Q (F0 m pc ls (.int v :: .int i :: .ref (g.2.2.2.2 2) :: rest)) :=
  va_iast X.1 X.2.1 X.2.2.2.2.1 w.1 w.2.1 w.2.2 1 0 rfl rfl hin hdg (fun H1 locs1 hP hD hS => kk H1 locs1 ⟨hP, hD, hS⟩)
theorem rg_3 (X : rX g A p c cc s args m) (w : rP g z H) (hdg : decode cc pc = .ok (.getfield 13, 3)) (kk : W p l e R s m args below meth c H locs cells slots Q (F0 m (pc + 3) ls (.ref (g.2.2.2.2 3) :: rest))) : W p l e R s m args below meth c H locs cells slots Q (F0 m pc ls (.ref g.2.2.2.1 :: rest)) :=
  va_get (D := g.1) (ci := 7) (v := .ref (g.2.2.2.2 3)) (C := RX8) (T := TX8) (N := 30) X.1 X.2.1 X.2.2.1 gX8 X.2.2.2.1 X.2.2.2.2.1 w 0 rfl rfl 3 (by decide) (X.2.2.1 _ wf_X8_13) (fun _ h9 => h9) rfl hdg kk
theorem ra_3 {i : Int32} (X : rX g A p c cc s args m) (w : rP g z H) (hin : vp_in i 15) (hdg : decode cc pc = .ok (.iaload, 1)) (kk : W p l e R s m args below meth c H locs cells slots Q (F0 m (pc + 1) ls (.int (z.2.1 3 i.toNatClampNeg) :: rest))) : W p l e R s m args below meth c H locs cells slots Q (F0 m pc ls (.int i :: .ref (g.2.2.2.2 3) :: rest)) :=
  va_iald X.1 X.2.1 X.2.2.2.2.1 w 2 0 rfl rfl hin hdg kk
theorem rs_3 {i v : Int32} (X : rX g A p c cc s args m) (w : rW g A s z H locs) (hin : vp_in i 15) (hdg : decode cc pc = .ok (.iastore, 1)) (kk : ∀ (H : Heap) (locs : List Loc), rW g A s (sA z 3 i.toNatClampNeg v) H locs → W p l e R s m args below meth c H locs cells slots Q (F0 m (pc + 1) ls rest)) : W p l e R s m args below meth c H locs cells slots Q (F0 m pc ls (.int v :: .int i :: .ref (g.2.2.2.2 3) :: rest)) :=
  va_iast X.1 X.2.1 X.2.2.2.2.1 w.1 w.2.1 w.2.2 2 0 rfl rfl hin hdg (fun H1 locs1 hP hD hS => kk H1 locs1 ⟨hP, hD, hS⟩)
theorem rg_4 (X : rX g A p c cc s args m) (w : rP g z H) (hdg : decode cc pc = .ok (.getfield 117, 3)) (kk : W p l e R s m args below meth c H locs cells slots Q (F0 m (pc + 3) ls (.int (z.1 4) :: rest))) : W p l e R s m args below meth c H locs cells slots Q (F0 m pc ls (.ref g.2.2.2.1 :: rest)) :=
  va_get (D := g.1) (ci := 7) (v := .int (z.1 4)) (C := RX8) (T := TX8) (N := 30) X.1 X.2.1 X.2.2.1 gX8 X.2.2.2.1 X.2.2.2.2.1 w 0 rfl rfl 4 (by decide) (X.2.2.1 _ wf_X8_117) (fun _ h9 => h9) rfl hdg kk
theorem rp_4 {v : Int32} (X : rX g A p c cc s args m) (w : rW g A s z H locs) (hdg : decode cc pc = .ok (.putfield 117, 3)) (kk : ∀ (H : Heap) (locs : List Loc), rW g A s (sI z 4 v) H locs → W p l e R s m args below meth c H locs cells slots Q (F0 m (pc + 3) ls rest)) : W p l e R s m args below meth c H locs cells slots Q (F0 m pc ls (.int v :: .ref g.2.2.2.1 :: rest)) :=
  va_put (D := g.1) (ci := 7) (v := .int v) (ty := .int) (C := RX8) (T := TX8) (N := 30) X.1 X.2.1 X.2.2.1 gX8 tyX8 tyX8_ok nmX8 X.2.2.2.1 X.2.2.2.2.1 w.1 w.2.1 w.2.2 0 rfl rfl 4 (by decide) (X.2.2.1 _ wf_X8_117) (fun _ h9 => h9) rfl (by decide +kernel) rfl rfl (Nat.le_of_ble_eq_true rfl) hdg (fun H1 locs1 hP hD hS => kk H1 locs1 ⟨hP, hD, hS⟩)
theorem rg_5 (X : rX g A p c cc s args m) (w : rP g z H) (hdg : decode cc pc = .ok (.getfield 16, 3)) (kk : W p l e R s m args below meth c H locs cells slots Q (F0 m (pc + 3) ls (.ref (g.2.2.2.2 5) :: rest))) : W p l e R s m args below meth c H locs cells slots Q (F0 m pc ls (.ref g.2.2.2.1 :: rest)) :=
  va_get (D := g.1) (ci := 7) (v := .ref (g.2.2.2.2 5)) (C := RX8) (T := TX8) (N := 30) X.1 X.2.1 X.2.2.1 gX8 X.2.2.2.1 X.2.2.2.2.1 w 0 rfl rfl 5 (by decide) (X.2.2.1 _ wf_X8_16) (fun _ h9 => h9) rfl hdg kk
theorem ra_5 {i : Int32} (X : rX g A p c cc s args m) (w : rP g z H) (hin : vp_in i 13) (hdg : decode cc pc = .ok (.iaload, 1)) (kk : W p l e R s m args below meth c H locs cells slots Q (F0 m (pc + 1) ls (.int (z.2.1 5 i.toNatClampNeg) :: rest))) : W p l e R s m args below meth c H locs cells slots Q (F0 m pc ls (.int i :: .ref (g.2.2.2.2 5) :: rest)) :=
  va_iald X.1 X.2.1 X.2.2.2.2.1 w 3 0 rfl rfl hin hdg kk
theorem rs_5 {i v : Int32} (X : rX g A p c cc s args m) (w : rW g A s z H locs) (hin : vp_in i 13) (hdg : decode cc pc = .ok (.iastore, 1)) (kk : ∀ (H : Heap) (locs : List Loc), rW g A s (sA z 5 i.toNatClampNeg v) H locs → W p l e R s m args below meth c H locs cells slots Q (F0 m (pc + 1) ls rest)) : W p l e R s m args below meth c H locs cells slots Q (F0 m pc ls (.int v :: .int i :: .ref (g.2.2.2.2 5) :: rest)) :=
  va_iast X.1 X.2.1 X.2.2.2.2.1 w.1 w.2.1 w.2.2 3 0 rfl rfl hin hdg (fun H1 locs1 hP hD hS => kk H1 locs1 ⟨hP, hD, hS⟩)
theorem rg_6 (X : rX g A p c cc s args m) (w : rP g z H) (hdg : decode cc pc = .ok (.getfield 99, 3)) (kk : W p l e R s m args below meth c H locs cells slots Q (F0 m (pc + 3) ls (.int (z.1 6) :: rest))) : W p l e R s m args below meth c H locs cells slots Q (F0 m pc ls (.ref g.2.2.2.1 :: rest)) :=
  va_get (D := g.1) (ci := 7) (v := .int (z.1 6)) (C := RX8) (T := TX8) (N := 30) X.1 X.2.1 X.2.2.1 gX8 X.2.2.2.1 X.2.2.2.2.1 w 0 rfl rfl 6 (by decide) (X.2.2.1 _ wf_X8_99) (fun _ h9 => h9) rfl hdg kk
theorem rp_6 {v : Int32} (X : rX g A p c cc s args m) (w : rW g A s z H locs) (h01 : v = 0 ∨ v = 1) (hdg : decode cc pc = .ok (.putfield 99, 3)) (kk : ∀ (H : Heap) (locs : List Loc), rW g A s (sI z 6 v) H locs → W p l e R s m args below meth c H locs cells slots Q (F0 m (pc + 3) ls rest)) : W p l e R s m args below meth c H locs cells slots Q (F0 m pc ls (.int v :: .ref g.2.2.2.1 :: rest)) :=
  va_put (D := g.1) (ci := 7) (v := .int v) (ty := .boolean) (C := RX8) (T := TX8) (N := 30) X.1 X.2.1 X.2.2.1 gX8 tyX8 tyX8_ok nmX8 X.2.2.2.1 X.2.2.2.2.1 w.1 w.2.1 w.2.2 0 rfl rfl 6 (by decide) (X.2.2.1 _ wf_X8_99) (fun _ h9 => h9) rfl (by decide +kernel) (by rcases h01 with rfl | rfl <;> rfl) (by rcases h01 with rfl | rfl <;> rfl) (Nat.le_of_ble_eq_true rfl) hdg (fun H1 locs1 hP hD hS => kk H1 locs1 ⟨hP, hD, hS⟩)
theorem rg_7 (X : rX g A p c cc s args m) (w : rP g z H) (hdg : decode cc pc = .ok (.getfield 19, 3)) (kk : W p l e R s m args below meth c H locs cells slots Q (F0 m (pc + 3) ls (.ref (g.2.2.2.2 7) :: rest))) : W p l e R s m args below meth c H locs cells slots Q (F0 m pc ls (.ref g.2.2.2.1 :: rest)) :=
  va_get (D := g.1) (ci := 7) (v := .ref (g.2.2.2.2 7)) (C := RX8) (T := TX8) (N := 30) X.1 X.2.1 X.2.2.1 gX8 X.2.2.2.1 X.2.2.2.2.1 w 0 rfl rfl 7 (by decide) (X.2.2.1 _ wf_X8_19) (fun _ h9 => h9) rfl hdg kk
theorem ra_7 {i : Int32} (X : rX g A p c cc s args m) (w : rP g z H) (hin : vp_in i 100) (hdg : decode cc pc = .ok (.iaload, 1)) (kk : W p l e R s m args below meth c H locs cells slots Q (F0 m (pc + 1) ls (.int (z.2.1 7 i.toNatClampNeg) :: rest))) : W p l e R s m args below meth c H locs cells slots Q (F0 m pc ls (.int i :: .ref (g.2.2.2.2 7) :: rest)) :=
  va_iald X.1 X.2.1 X.2.2.2.2.1 w 4 0 rfl rfl hin hdg kk
theorem rs_7 {i v : Int32} (X : rX g A p c cc s args m) (w : rW g A s z H locs) (hin : vp_in i 100) (hdg : decode cc pc = .ok (.iastore, 1)) (kk : ∀ (H : Heap) (locs : List Loc), rW g A s (sA z 7 i.toNatClampNeg v) H locs → W p l e R s m args below meth c H locs cells slots Q (F0 m (pc + 1) ls rest)) : W p l e R s m args below meth c H locs cells slots Q (F0 m pc ls (.int v :: .int i :: .ref (g.2.2.2.2 7) :: rest)) :=
  va_iast X.1 X.2.1 X.2.2.2.2.1 w.1 w.2.1 w.2.2 4 0 rfl rfl hin hdg (fun H1 locs1 hP hD hS => kk H1 locs1 ⟨hP, hD, hS⟩)
theorem rg_8 (X : rX g A p c cc s args m) (w : rP g z H) (hdg : decode cc pc = .ok (.getfield 140, 3)) (kk : W p l e R s m args below meth c H locs cells slots Q (F0 m (pc + 3) ls (.int (z.1 8) :: rest))) : W p l e R s m args below meth c H locs cells slots Q (F0 m pc ls (.ref g.2.2.2.1 :: rest)) :=
  va_get (D := g.1) (ci := 7) (v := .int (z.1 8)) (C := RX8) (T := TX8) (N := 30) X.1 X.2.1 X.2.2.1 gX8 X.2.2.2.1 X.2.2.2.2.1 w 0 rfl rfl 8 (by decide) (X.2.2.1 _ wf_X8_140) (fun _ h9 => h9) rfl hdg kk
theorem rp_8 {v : Int32} (X : rX g A p c cc s args m) (w : rW g A s z H locs) (hdg : decode cc pc = .ok (.putfield 140, 3)) (kk : ∀ (H : Heap) (locs : List Loc), rW g A s (sI z 8 v) H locs → W p l e R s m args below meth c H locs cells slots Q (F0 m (pc + 3) ls rest)) : W p l e R s m args below meth c H locs cells slots Q (F0 m pc ls (.int v :: .ref g.2.2.2.1 :: rest)) :=
  va_put (D := g.1) (ci := 7) (v := .int v) (ty := .int) (C := RX8) (T := TX8) (N := 30) X.1 X.2.1 X.2.2.1 gX8 tyX8 tyX8_ok nmX8 X.2.2.2.1 X.2.2.2.2.1 w.1 w.2.1 w.2.2 0 rfl rfl 8 (by decide) (X.2.2.1 _ wf_X8_140) (fun _ h9 => h9) rfl (by decide +kernel) rfl rfl (Nat.le_of_ble_eq_true rfl) hdg (fun H1 locs1 hP hD hS => kk H1 locs1 ⟨hP, hD, hS⟩)
theorem rg_9 (X : rX g A p c cc s args m) (w : rP g z H) (hdg : decode cc pc = .ok (.getfield 143, 3)) (kk : W p l e R s m args below meth c H locs cells slots Q (F0 m (pc + 3) ls (.int (z.1 9) :: rest))) : W p l e R s m args below meth c H locs cells slots Q (F0 m pc ls (.ref g.2.2.2.1 :: rest)) :=
  va_get (D := g.1) (ci := 7) (v := .int (z.1 9)) (C := RX8) (T := TX8) (N := 30) X.1 X.2.1 X.2.2.1 gX8 X.2.2.2.1 X.2.2.2.2.1 w 0 rfl rfl 9 (by decide) (X.2.2.1 _ wf_X8_143) (fun _ h9 => h9) rfl hdg kk
theorem rp_9 {v : Int32} (X : rX g A p c cc s args m) (w : rW g A s z H locs) (hdg : decode cc pc = .ok (.putfield 143, 3)) (kk : ∀ (H : Heap) (locs : List Loc), rW g A s (sI z 9 v) H locs → W p l e R s m args below meth c H locs cells slots Q (F0 m (pc + 3) ls rest)) : W p l e R s m args below meth c H locs cells slots Q (F0 m pc ls (.int v :: .ref g.2.2.2.1 :: rest)) :=
  va_put (D := g.1) (ci := 7) (v := .int v) (ty := .int) (C := RX8) (T := TX8) (N := 30) X.1 X.2.1 X.2.2.1 gX8 tyX8 tyX8_ok nmX8 X.2.2.2.1 X.2.2.2.2.1 w.1 w.2.1 w.2.2 0 rfl rfl 9 (by decide) (X.2.2.1 _ wf_X8_143) (fun _ h9 => h9) rfl (by decide +kernel) rfl rfl (Nat.le_of_ble_eq_true rfl) hdg (fun H1 locs1 hP hD hS => kk H1 locs1 ⟨hP, hD, hS⟩)
theorem rg_10 (X : rX g A p c cc s args m) (w : rP g z H) (hdg : decode cc pc = .ok (.getfield 146, 3)) (kk : W p l e R s m args below meth c H locs cells slots Q (F0 m (pc + 3) ls (.int (z.1 10) :: rest))) : W p l e R s m args below meth c H locs cells slots Q (F0 m pc ls (.ref g.2.2.2.1 :: rest)) :=
  va_get (D := g.1) (ci := 7) (v := .int (z.1 10)) (C := RX8) (T := TX8) (N := 30) X.1 X.2.1 X.2.2.1 gX8 X.2.2.2.1 X.2.2.2.2.1 w 0 rfl rfl 10 (by decide) (X.2.2.1 _ wf_X8_146) (fun _ h9 => h9) rfl hdg kk
theorem rp_10 {v : Int32} (X : rX g A p c cc s args m) (w : rW g A s z H locs) (h01 : v = 0 ∨ v = 1) (hdg : decode cc pc = .ok (.putfield 146, 3)) (kk : ∀ (H : Heap) (locs : List Loc), rW g A s (sI z 10 v) H locs → W p l e R s m args below meth c H locs cells slots Q (F0 m (pc + 3) ls rest)) : W p l e R s m args below meth c H locs cells slots Q (F0 m pc ls (.int v :: .ref g.2.2.2.1 :: rest)) :=
  va_put (D := g.1) (ci := 7) (v := .int v) (ty := .boolean) (C := RX8) (T := TX8) (N := 30) X.1 X.2.1 X.2.2.1 gX8 tyX8 tyX8_ok nmX8 X.2.2.2.1 X.2.2.2.2.1 w.1 w.2.1 w.2.2 0 rfl rfl 10 (by decide) (X.2.2.1 _ wf_X8_146) (fun _ h9 => h9) rfl (by decide +kernel) (by rcases h01 with rfl | rfl <;> rfl) (by rcases h01 with rfl | rfl <;> rfl) (Nat.le_of_ble_eq_true rfl) hdg (fun H1 locs1 hP hD hS => kk H1 locs1 ⟨hP, hD, hS⟩)
theorem rg_11 (X : rX g A p c cc s args m) (w : rP g z H) (hdg : decode cc pc = .ok (.getfield 162, 3)) (kk : W p l e R s m args below meth c H locs cells slots Q (F0 m (pc + 3) ls (.int (z.1 11) :: rest))) : W p l e R s m args below meth c H locs cells slots Q (F0 m pc ls (.ref g.2.2.2.1 :: rest)) :=
  va_get (D := g.1) (ci := 7) (v := .int (z.1 11)) (C := RX8) (T := TX8) (N := 30) X.1 X.2.1 X.2.2.1 gX8 X.2.2.2.1 X.2.2.2.2.1 w 0 rfl rfl 11 (by decide) (X.2.2.1 _ wf_X8_162) (fun _ h9 => h9) rfl hdg kk
theorem rp_11 {v : Int32} (X : rX g A p c cc s args m) (w : rW g A s z H locs) (hdg : decode cc pc = .ok (.putfield 162, 3)) (kk : ∀ (H : Heap) (locs : List Loc), rW g A s (sI z 11 v) H locs → W p l e R s m args below meth c H locs cells slots Q (F0 m (pc + 3) ls rest)) : W p l e R s m args below meth c H locs cells slots Q (F0 m pc ls (.int v :: .ref g.2.2.2.1 :: rest)) :=
  va_put (D := g.1) (ci := 7) (v := .int v) (ty := .int) (C := RX8) (T := TX8) (N := 30) X.1 X.2.1 X.2.2.1 gX8 tyX8 tyX8_ok nmX8 X.2.2.2.1 X.2.2.2.2.1 w.1 w.2.1 w.2.2 0 rfl rfl 11 (by decide) (X.2.2.1 _ wf_X8_162) (fun _ h9 => h9) rfl (by decide +kernel) rfl rfl (Nat.le_of_ble_eq_true rfl) hdg (fun H1 locs1 hP hD hS => kk H1 locs1 ⟨hP, hD, hS⟩)
theorem rg_12 (X : rX g A p c cc s args m) (w : rP g z H) (hdg : decode cc pc = .ok (.getfield 153, 3)) (kk : W p l e R s m args below meth c H locs cells slots Q (F0 m (pc + 3) ls (.int (z.1 12) :: rest))) : W p l e R s m args below meth c H locs cells slots Q (F0 m pc ls (.ref g.2.2.2.1 :: rest)) :=
  va_get (D := g.1) (ci := 7) (v := .int (z.1 12)) (C := RX8) (T := TX8) (N := 30) X.1 X.2.1 X.2.2.1 gX8 X.2.2.2.1 X.2.2.2.2.1 w 0 rfl rfl 12 (by decide) (X.2.2.1 _ wf_X8_153) (fun _ h9 => h9) rfl hdg kk
theorem rp_12 {v : Int32} (X : rX g A p c cc s args m) (w : rW g A s z H locs) (hdg : decode cc pc = .ok (.putfield 153, 3)) (kk : ∀ (H : Heap) (locs : List Loc), rW g A s (sI z 12 v) H locs → W p l e R s m args below meth c H locs cells slots Q (F0 m (pc + 3) ls rest)) : W p l e R s m args below meth c H locs cells slots Q (F0 m pc ls (.int v :: .ref g.2.2.2.1 :: rest)) :=
  va_put (D := g.1) (ci := 7) (v := .int v) (ty := .int) (C := RX8) (T := TX8) (N := 30) X.1 X.2.1 X.2.2.1 gX8 tyX8 tyX8_ok nmX8 X.2.2.2.1 X.2.2.2.2.1 w.1 w.2.1 w.2.2 0 rfl rfl 12 (by decide) (X.2.2.1 _ wf_X8_153) (fun _ h9 => h9) rfl (by decide +kernel) rfl rfl (Nat.le_of_ble_eq_true rfl) hdg (fun H1 locs1 hP hD hS => kk H1 locs1 ⟨hP, hD, hS⟩)
theorem rg_13 (X : rX g A p c cc s args m) (w : rP g z H) (hdg : decode cc pc = .ok (.getfield 22, 3)) (kk : W p l e R s m args below meth c H locs cells slots Q (F0 m (pc + 3) ls (.ref (g.2.2.2.2 13) :: rest))) : W p l e R s m args below meth c H locs cells slots Q (F0 m pc ls (.ref g.2.2.2.1 :: rest)) :=
  va_get (D := g.1) (ci := 7) (v := .ref (g.2.2.2.2 13)) (C := RX8) (T := TX8) (N := 30) X.1 X.2.1 X.2.2.1 gX8 X.2.2.2.1 X.2.2.2.2.1 w 0 rfl rfl 13 (by decide) (X.2.2.1 _ wf_X8_22) (fun _ h9 => h9) rfl hdg kk
theorem ra_13 {i : Int32} (X : rX g A p c cc s args m) (w : rP g z H) (hin : vp_in i 40) (hdg : decode cc pc = .ok (.iaload, 1)) (kk : W p l e R s m args below meth c H locs cells slots Q (F0 m (pc + 1) ls (.int (z.2.1 13 i.toNatClampNeg) :: rest))) : W p l e R s m args below meth c H locs cells slots Q (F0 m pc ls (.int i :: .ref (g.2.2.2.2 13) :: rest)) :=
  va_iald X.1 X.2.1 X.2.2.2.2.1 w 5 0 rfl rfl hin hdg kk
theorem rs_13 {i v : Int32} (X : rX g A p c cc s args m) (w : rW g A s z H locs) (hin : vp_in i 40) (hdg : decode cc pc = .ok (.iastore, 1)) (kk : ∀ (H : Heap) (locs : List Loc), rW g A s (sA z 13 i.toNatClampNeg v) H locs → W p l e R s m args below meth c H locs cells slots Q (F0 m (pc + 1) ls rest)) : W p l e R s m args below meth c H locs cells slots Q (F0 m pc ls (.int v :: .int i :: .ref (g.2.2.2.2 13) :: rest)) :=
  va_iast X.1 X.2.1 X.2.2.2.2.1 w.1 w.2.1 w.2.2 5 0 rfl rfl hin hdg (fun H1 locs1 hP hD hS => kk H1 locs1 ⟨hP, hD, hS⟩)
theorem rg_14 (X : rX g A p c cc s args m) (w : rP g z H) (hdg : decode cc pc = .ok (.getfield 25, 3)) (kk : W p l e R s m args below meth c H locs cells slots Q (F0 m (pc + 3) ls (.ref (g.2.2.2.2 14) :: rest))) : W p l e R s m args below meth c H locs cells slots Q (F0 m pc ls (.ref g.2.2.2.1 :: rest)) :=
  va_get (D := g.1) (ci := 7) (v := .ref (g.2.2.2.2 14)) (C := RX8) (T := TX8) (N := 30) X.1 X.2.1 X.2.2.1 gX8 X.2.2.2.1 X.2.2.2.2.1 w 0 rfl rfl 14 (by decide) (X.2.2.1 _ wf_X8_25) (fun _ h9 => h9) rfl hdg kk
theorem ra_14 {i : Int32} (X : rX g A p c cc s args m) (w : rP g z H) (hin : vp_in i 20) (hdg : decode cc pc = .ok (.iaload, 1)) (kk : W p l e R s m args below meth c H locs cells slots Q (F0 m (pc + 1) ls (.int (z.2.1 14 i.toNatClampNeg) :: rest))) : W p l e R s m args below meth c H locs cells slots Q (F0 m pc ls (.int i :: .ref (g.2.2.2.2 14) :: rest)) :=
  va_iald X.1 X.2.1 X.2.2.2.2.1 w 6 0 rfl rfl hin hdg kk
theorem rs_14 {i v : Int32} (X : rX g A p c cc s args m) (w : rW g A s z H locs) (hin : vp_in i 20) (hdg : decode cc pc = .ok (.iastore, 1)) (kk : ∀ (H : Heap) (locs : List Loc), rW g A s (sA z 14 i.toNatClampNeg v) H locs → W p l e R s m args below meth c H locs cells slots Q (F0 m (pc + 1) ls rest)) : W p l e R s m args below meth c H locs cells slots Q (F0 m pc ls (.int v :: .int i :: .ref (g.2.2.2.2 14) :: rest)) :=
  va_iast X.1 X.2.1 X.2.2.2.2.1 w.1 w.2.1 w.2.2 6 0 rfl rfl hin hdg (fun H1 locs1 hP hD hS => kk H1 locs1 ⟨hP, hD, hS⟩)
theorem rg_15 (X : rX g A p c cc s args m) (w : rP g z H) (hdg : decode cc pc = .ok (.getfield 28, 3)) (kk : W p l e R s m args below meth c H locs cells slots Q (F0 m (pc + 3) ls (.ref (g.2.2.2.2 15) :: rest))) : W p l e R s m args below meth c H locs cells slots Q (F0 m pc ls (.ref g.2.2.2.1 :: rest)) :=
  va_get (D := g.1) (ci := 7) (v := .ref (g.2.2.2.2 15)) (C := RX8) (T := TX8) (N := 30) X.1 X.2.1 X.2.2.1 gX8 X.2.2.2.1 X.2.2.2.2.1 w 0 rfl rfl 15 (by decide) (X.2.2.1 _ wf_X8_28) (fun _ h9 => h9) rfl hdg kk
theorem ra_15 {i : Int32} (X : rX g A p c cc s args m) (w : rP g z H) (hin : vp_in i 104) (hdg : decode cc pc = .ok (.iaload, 1)) (kk : W p l e R s m args below meth c H locs cells slots Q (F0 m (pc + 1) ls (.int (z.2.1 15 i.toNatClampNeg) :: rest))) : W p l e R s m args below meth c H locs cells slots Q (F0 m pc ls (.int i :: .ref (g.2.2.2.2 15) :: rest)) :=
  va_iald X.1 X.2.1 X.2.2.2.2.1 w 7 0 rfl rfl hin hdg kk
theorem rs_15 {i v : Int32} (X : rX g A p c cc s args m) (w : rW g A s z H locs) (hin : vp_in i 104) (hdg : decode cc pc = .ok (.iastore, 1)) (kk : ∀ (H : Heap) (locs : List Loc), rW g A s (sA z 15 i.toNatClampNeg v) H locs → W p l e R s m args below meth c H locs cells slots Q (F0 m (pc + 1) ls rest)) : W p l e R s m args below meth c H locs cells slots Q (F0 m pc ls (.int v :: .int i :: .ref (g.2.2.2.2 15) :: rest)) :=
  va_iast X.1 X.2.1 X.2.2.2.2.1 w.1 w.2.1 w.2.2 7 0 rfl rfl hin hdg (fun H1 locs1 hP hD hS => kk H1 locs1 ⟨hP, hD, hS⟩)
theorem rg_16 (X : rX g A p c cc s args m) (w : rP g z H) (hdg : decode cc pc = .ok (.getfield 88, 3)) (kk : W p l e R s m args below meth c H locs cells slots Q (F0 m (pc + 3) ls (.int (z.1 16) :: rest))) : W p l e R s m args below meth c H locs cells slots Q (F0 m pc ls (.ref g.2.2.2.1 :: rest)) :=
  va_get (D := g.1) (ci := 7) (v := .int (z.1 16)) (C := RX8) (T := TX8) (N := 30) X.1 X.2.1 X.2.2.1 gX8 X.2.2.2.1 X.2.2.2.2.1 w 0 rfl rfl 16 (by decide) (X.2.2.1 _ wf_X8_88) (fun _ h9 => h9) rfl hdg kk
theorem rp_16 {v : Int32} (X : rX g A p c cc s args m) (w : rW g A s z H locs) (hdg : decode cc pc = .ok (.putfield 88, 3)) (kk : ∀ (H : Heap) (locs : List Loc), rW g A s (sI z 16 v) H locs → W p l e R s m args below meth c H locs cells slots Q (F0 m (pc + 3) ls rest)) : W p l e R s m args below meth c H locs cells slots Q (F0 m pc ls (.int v :: .ref g.2.2.2.1 :: rest)) :=
  va_put (D := g.1) (ci := 7) (v := .int v) (ty := .int) (C := RX8) (T := TX8) (N := 30) X.1 X.2.1 X.2.2.1 gX8 tyX8 tyX8_ok nmX8 X.2.2.2.1 X.2.2.2.2.1 w.1 w.2.1 w.2.2 0 rfl rfl 16 (by decide) (X.2.2.1 _ wf_X8_88) (fun _ h9 => h9) rfl (by decide +kernel) rfl rfl (Nat.le_of_ble_eq_true rfl) hdg (fun H1 locs1 hP hD hS => kk H1 locs1 ⟨hP, hD, hS⟩)
theorem rg_17 (X : rX g A p c cc s args m) (w : rP g z H) (hdg : decode cc pc = .ok (.getfield 31, 3)) (kk : W p l e R s m args below meth c H locs cells slots Q (F0 m (pc + 3) ls (.ref (g.2.2.2.2 17) :: rest))) : W p l e R s m args below meth c H locs cells slots Q (F0 m pc ls (.ref g.2.2.2.1 :: rest)) :=
  va_get (D := g.1) (ci := 7) (v := .ref (g.2.2.2.2 17)) (C := RX8) (T := TX8) (N := 30) X.1 X.2.1 X.2.2.1 gX8 X.2.2.2.1 X.2.2.2.2.1 w 0 rfl rfl 17 (by decide) (X.2.2.1 _ wf_X8_31) (fun _ h9 => h9) rfl hdg kk
theorem ra_17 {i : Int32} (X : rX g A p c cc s args m) (w : rP g z H) (hin : vp_in i 13) (hdg : decode cc pc = .ok (.iaload, 1)) (kk : W p l e R s m args below meth c H locs cells slots Q (F0 m (pc + 1) ls (.int (z.2.1 17 i.toNatClampNeg) :: rest))) : W p l e R s m args below meth c H locs cells slots Q (F0 m pc ls (.int i :: .ref (g.2.2.2.2 17) :: rest)) :=
  va_iald X.1 X.2.1 X.2.2.2.2.1 w 8 0 rfl rfl hin hdg kk
theorem rs_17 {i v : Int32} (X : rX g A p c cc s args m) (w : rW g A s z H locs) (hin : vp_in i 13) (hdg : decode cc pc = .ok (.iastore, 1)) (kk : ∀ (H : Heap) (locs : List Loc), rW g A s (sA z 17 i.toNatClampNeg v) H locs → W p l e R s m args below meth c H locs cells slots Q (F0 m (pc + 1) ls rest)) : W p l e R s m args below meth c H locs cells slots Q (F0 m pc ls (.int v :: .int i :: .ref (g.2.2.2.2 17) :: rest)) :=
  va_iast X.1 X.2.1 X.2.2.2.2.1 w.1 w.2.1 w.2.2 8 0 rfl rfl hin hdg (fun H1 locs1 hP hD hS => kk H1 locs1 ⟨hP, hD, hS⟩)
theorem rg_18 (X : rX g A p c cc s args m) (w : rP g z H) (hdg : decode cc pc = .ok (.getfield 34, 3)) (kk : W p l e R s m args below meth c H locs cells slots Q (F0 m (pc + 3) ls (.ref (g.2.2.2.2 18) :: rest))) : W p l e R s m args below meth c H locs cells slots Q (F0 m pc ls (.ref g.2.2.2.1 :: rest)) :=
  va_get (D := g.1) (ci := 7) (v := .ref (g.2.2.2.2 18)) (C := RX8) (T := TX8) (N := 30) X.1 X.2.1 X.2.2.1 gX8 X.2.2.2.1 X.2.2.2.2.1 w 0 rfl rfl 18 (by decide) (X.2.2.1 _ wf_X8_34) (fun _ h9 => h9) rfl hdg kk
theorem ra_18 {i : Int32} (X : rX g A p c cc s args m) (w : rP g z H) (hin : vp_in i 4) (hdg : decode cc pc = .ok (.iaload, 1)) (kk : W p l e R s m args below meth c H locs cells slots Q (F0 m (pc + 1) ls (.int (z.2.1 18 i.toNatClampNeg) :: rest))) : W p l e R s m args below meth c H locs cells slots Q (F0 m pc ls (.int i :: .ref (g.2.2.2.2 18) :: rest)) :=
  va_iald X.1 X.2.1 X.2.2.2.2.1 w 9 0 rfl rfl hin hdg kk
theorem rs_18 {i v : Int32} (X : rX g A p c cc s args m) (w : rW g A s z H locs) (hin : vp_in i 4) (hdg : decode cc pc = .ok (.iastore, 1)) (kk : ∀ (H : Heap) (locs : List Loc), rW g A s (sA z 18 i.toNatClampNeg v) H locs → W p l e R s m args below meth c H locs cells slots Q (F0 m (pc + 1) ls rest)) : W p l e R s m args below meth c H locs cells slots Q (F0 m pc ls (.int v :: .int i :: .ref (g.2.2.2.2 18) :: rest)) :=
  va_iast X.1 X.2.1 X.2.2.2.2.1 w.1 w.2.1 w.2.2 9 0 rfl rfl hin hdg (fun H1 locs1 hP hD hS => kk H1 locs1 ⟨hP, hD, hS⟩)
theorem rg_19 (X : rX g A p c cc s args m) (w : rP g z H) (hdg : decode cc pc = .ok (.getfield 37, 3)) (kk : W p l e R s m args below meth c H locs cells slots Q (F0 m (pc + 3) ls (.ref (g.2.2.2.2 19) :: rest))) : W p l e R s m args below meth c H locs cells slots Q (F0 m pc ls (.ref g.2.2.2.1 :: rest)) :=
  va_get (D := g.1) (ci := 7) (v := .ref (g.2.2.2.2 19)) (C := RX8) (T := TX8) (N := 30) X.1 X.2.1 X.2.2.1 gX8 X.2.2.2.1 X.2.2.2.2.1 w 0 rfl rfl 19 (by decide) (X.2.2.1 _ wf_X8_37) (fun _ h9 => h9) rfl hdg kk
theorem ra_19 {i : Int32} (X : rX g A p c cc s args m) (w : rP g z H) (hin : vp_in i 180) (hdg : decode cc pc = .ok (.iaload, 1)) (kk : W p l e R s m args below meth c H locs cells slots Q (F0 m (pc + 1) ls (.int (z.2.1 19 i.toNatClampNeg) :: rest))) : W p l e R s m args below meth c H locs cells slots Q (F0 m pc ls (.int i :: .ref (g.2.2.2.2 19) :: rest)) :=
  va_iald X.1 X.2.1 X.2.2.2.2.1 w 10 0 rfl rfl hin hdg kk
theorem rs_19 {i v : Int32} (X : rX g A p c cc s args m) (w : rW g A s z H locs) (hin : vp_in i 180) (hdg : decode cc pc = .ok (.iastore, 1)) (kk : ∀ (H : Heap) (locs : List Loc), rW g A s (sA z 19 i.toNatClampNeg v) H locs → W p l e R s m args below meth c H locs cells slots Q (F0 m (pc + 1) ls rest)) : W p l e R s m args below meth c H locs cells slots Q (F0 m pc ls (.int v :: .int i :: .ref (g.2.2.2.2 19) :: rest)) :=
  va_iast X.1 X.2.1 X.2.2.2.2.1 w.1 w.2.1 w.2.2 10 0 rfl rfl hin hdg (fun H1 locs1 hP hD hS => kk H1 locs1 ⟨hP, hD, hS⟩)
theorem rg_20 (X : rX g A p c cc s args m) (w : rP g z H) (hdg : decode cc pc = .ok (.getfield 40, 3)) (kk : W p l e R s m args below meth c H locs cells slots Q (F0 m (pc + 3) ls (.ref (g.2.2.2.2 20) :: rest))) : W p l e R s m args below meth c H locs cells slots Q (F0 m pc ls (.ref g.2.2.2.1 :: rest)) :=
  va_get (D := g.1) (ci := 7) (v := .ref (g.2.2.2.2 20)) (C := RX8) (T := TX8) (N := 30) X.1 X.2.1 X.2.2.1 gX8 X.2.2.2.1 X.2.2.2.2.1 w 0 rfl rfl 20 (by decide) (X.2.2.1 _ wf_X8_40) (fun _ h9 => h9) rfl hdg kk
theorem ra_20 {i : Int32} (X : rX g A p c cc s args m) (w : rP g z H) (hin : vp_in i 180) (hdg : decode cc pc = .ok (.iaload, 1)) (kk : W p l e R s m args below meth c H locs cells slots Q (F0 m (pc + 1) ls (.int (z.2.1 20 i.toNatClampNeg) :: rest))) : W p l e R s m args below meth c H locs cells slots Q (F0 m pc ls (.int i :: .ref (g.2.2.2.2 20) :: rest)) :=
  va_iald X.1 X.2.1 X.2.2.2.2.1 w 11 0 rfl rfl hin hdg kk
theorem rs_20 {i v : Int32} (X : rX g A p c cc s args m) (w : rW g A s z H locs) (hin : vp_in i 180) (hdg : decode cc pc = .ok (.iastore, 1)) (kk : ∀ (H : Heap) (locs : List Loc), rW g A s (sA z 20 i.toNatClampNeg v) H locs → W p l e R s m args below meth c H locs cells slots Q (F0 m (pc + 1) ls rest)) : W p l e R s m args below meth c H locs cells slots Q (F0 m pc ls (.int v :: .int i :: .ref (g.2.2.2.2 20) :: rest)) :=
  va_iast X.1 X.2.1 X.2.2.2.2.1 w.1 w.2.1 w.2.2 11 0 rfl rfl hin hdg (fun H1 locs1 hP hD hS => kk H1 locs1 ⟨hP, hD, hS⟩)
theorem rg_21 (X : rX g A p c cc s args m) (w : rP g z H) (hdg : decode cc pc = .ok (.getfield 43, 3)) (kk : W p l e R s m args below meth c H locs cells slots Q (F0 m (pc + 3) ls (.ref (g.2.2.2.2 21) :: rest))) : W p l e R s m args below meth c H locs cells slots Q (F0 m pc ls (.ref g.2.2.2.1 :: rest)) :=
  va_get (D := g.1) (ci := 7) (v := .ref (g.2.2.2.2 21)) (C := RX8) (T := TX8) (N := 30) X.1 X.2.1 X.2.2.1 gX8 X.2.2.2.1 X.2.2.2.2.1 w 0 rfl rfl 21 (by decide) (X.2.2.1 _ wf_X8_43) (fun _ h9 => h9) rfl hdg kk
theorem ra_21 {i : Int32} (X : rX g A p c cc s args m) (w : rP g z H) (hin : vp_in i 61) (hdg : decode cc pc = .ok (.iaload, 1)) (kk : W p l e R s m args below meth c H locs cells slots Q (F0 m (pc + 1) ls (.int (z.2.1 21 i.toNatClampNeg) :: rest))) : W p l e R s m args below meth c H locs cells slots Q (F0 m pc ls (.int i :: .ref (g.2.2.2.2 21) :: rest)) :=
  va_iald X.1 X.2.1 X.2.2.2.2.1 w 12 0 rfl rfl hin hdg kk
theorem rs_21 {i v : Int32} (X : rX g A p c cc s args m) (w : rW g A s z H locs) (hin : vp_in i 61) (hdg : decode cc pc = .ok (.iastore, 1)) (kk : ∀ (H : Heap) (locs : List Loc), rW g A s (sA z 21 i.toNatClampNeg v) H locs → W p l e R s m args below meth c H locs cells slots Q (F0 m (pc + 1) ls rest)) : W p l e R s m args below meth c H locs cells slots Q (F0 m pc ls (.int v :: .int i :: .ref (g.2.2.2.2 21) :: rest)) :=
  va_iast X.1 X.2.1 X.2.2.2.2.1 w.1 w.2.1 w.2.2 12 0 rfl rfl hin hdg (fun H1 locs1 hP hD hS => kk H1 locs1 ⟨hP, hD, hS⟩)
theorem rg_22 (X : rX g A p c cc s args m) (w : rP g z H) (hdg : decode cc pc = .ok (.getfield 232, 3)) (kk : W p l e R s m args below meth c H locs cells slots Q (F0 m (pc + 3) ls (.int (z.1 22) :: rest))) : W p l e R s m args below meth c H locs cells slots Q (F0 m pc ls (.ref g.2.2.2.1 :: rest)) :=
  va_get (D := g.1) (ci := 7) (v := .int (z.1 22)) (C := RX8) (T := TX8) (N := 30) X.1 X.2.1 X.2.2.1 gX8 X.2.2.2.1 X.2.2.2.2.1 w 0 rfl rfl 22 (by decide) (X.2.2.1 _ wf_X8_232) (fun _ h9 => h9) rfl hdg kk
theorem rp_22 {v : Int32} (X : rX g A p c cc s args m) (w : rW g A s z H locs) (hdg : decode cc pc = .ok (.putfield 232, 3)) (kk : ∀ (H : Heap) (locs : List Loc), rW g A s (sI z 22 v) H locs → W p l e R s m args below meth c H locs cells slots Q (F0 m (pc + 3) ls rest)) : W p l e R s m args below meth c H locs cells slots Q (F0 m pc ls (.int v :: .ref g.2.2.2.1 :: rest)) :=
  va_put (D := g.1) (ci := 7) (v := .int v) (ty := .int) (C := RX8) (T := TX8) (N := 30) X.1 X.2.1 X.2.2.1 gX8 tyX8 tyX8_ok nmX8 X.2.2.2.1 X.2.2.2.2.1 w.1 w.2.1 w.2.2 0 rfl rfl 22 (by decide) (X.2.2.1 _ wf_X8_232) (fun _ h9 => h9) rfl (by decide +kernel) rfl rfl (Nat.le_of_ble_eq_true rfl) hdg (fun H1 locs1 hP hD hS => kk H1 locs1 ⟨hP, hD, hS⟩)
theorem rg_23 (X : rX g A p c cc s args m) (w : rP g z H) (hdg : decode cc pc = .ok (.getfield 238, 3)) (kk : W p l e R s m args below meth c H locs cells slots Q (F0 m (pc + 3) ls (.int (z.1 23) :: rest))) : W p l e R s m args below meth c H locs cells slots Q (F0 m pc ls (.ref g.2.2.2.1 :: rest)) :=
  va_get (D := g.1) (ci := 7) (v := .int (z.1 23)) (C := RX8) (T := TX8) (N := 30) X.1 X.2.1 X.2.2.1 gX8 X.2.2.2.1 X.2.2.2.2.1 w 0 rfl rfl 23 (by decide) (X.2.2.1 _ wf_X8_238) (fun _ h9 => h9) rfl hdg kk
theorem rp_23 {v : Int32} (X : rX g A p c cc s args m) (w : rW g A s z H locs) (hdg : decode cc pc = .ok (.putfield 238, 3)) (kk : ∀ (H : Heap) (locs : List Loc), rW g A s (sI z 23 v) H locs → W p l e R s m args below meth c H locs cells slots Q (F0 m (pc + 3) ls rest)) : W p l e R s m args below meth c H locs cells slots Q (F0 m pc ls (.int v :: .ref g.2.2.2.1 :: rest)) :=
  va_put (D := g.1) (ci := 7) (v := .int v) (ty := .int) (C := RX8) (T := TX8) (N := 30) X.1 X.2.1 X.2.2.1 gX8 tyX8 tyX8_ok nmX8 X.2.2.2.1 X.2.2.2.2.1 w.1 w.2.1 w.2.2 0 rfl rfl 23 (by decide) (X.2.2.1 _ wf_X8_238) (fun _ h9 => h9) rfl (by decide +kernel) rfl rfl (Nat.le_of_ble_eq_true rfl) hdg (fun H1 locs1 hP hD hS => kk H1 locs1 ⟨hP, hD, hS⟩)
theorem rg_24 (X : rX g A p c cc s args m) (w : rP g z H) (hdg : decode cc pc = .ok (.getfield 46, 3)) (kk : W p l e R s m args below meth c H locs cells slots Q (F0 m (pc + 3) ls (.ref (g.2.2.2.2 24) :: rest))) : W p l e R s m args below meth c H locs cells slots Q (F0 m pc ls (.ref g.2.2.2.1 :: rest)) :=
  va_get (D := g.1) (ci := 7) (v := .ref (g.2.2.2.2 24)) (C := RX8) (T := TX8) (N := 30) X.1 X.2.1 X.2.2.1 gX8 X.2.2.2.1 X.2.2.2.2.1 w 0 rfl rfl 24 (by decide) (X.2.2.1 _ wf_X8_46) (fun _ h9 => h9) rfl hdg kk
theorem ra_24 {i : Int32} (X : rX g A p c cc s args m) (w : rP g z H) (hin : vp_in i 177) (hdg : decode cc pc = .ok (.iaload, 1)) (kk : W p l e R s m args below meth c H locs cells slots Q (F0 m (pc + 1) ls (.int (z.2.1 24 i.toNatClampNeg) :: rest))) : W p l e R s m args below meth c H locs cells slots Q (F0 m pc ls (.int i :: .ref (g.2.2.2.2 24) :: rest)) :=
  va_iald X.1 X.2.1 X.2.2.2.2.1 w 13 0 rfl rfl hin hdg kk
theorem rs_24 {i v : Int32} (X : rX g A p c cc s args m) (w : rW g A s z H locs) (hin : vp_in i 177) (hdg : decode cc pc = .ok (.iastore, 1)) (kk : ∀ (H : Heap) (locs : List Loc), rW g A s (sA z 24 i.toNatClampNeg v) H locs → W p l e R s m args below meth c H locs cells slots Q (F0 m (pc + 1) ls rest)) : W p l e R s m args below meth c H locs cells slots Q (F0 m pc ls (.int v :: .int i :: .ref (g.2.2.2.2 24) :: rest)) :=
  va_iast X.1 X.2.1 X.2.2.2.2.1 w.1 w.2.1 w.2.2 13 0 rfl rfl hin hdg (fun H1 locs1 hP hD hS => kk H1 locs1 ⟨hP, hD, hS⟩)
theorem rg_25 (X : rX g A p c cc s args m) (w : rP g z H) (hdg : decode cc pc = .ok (.getfield 257, 3)) (kk : W p l e R s m args below meth c H locs cells slots Q (F0 m (pc + 3) ls (.int (z.1 25) :: rest))) : W p l e R s m args below meth c H locs cells slots Q (F0 m pc ls (.ref g.2.2.2.1 :: rest)) :=
  va_get (D := g.1) (ci := 7) (v := .int (z.1 25)) (C := RX8) (T := TX8) (N := 30) X.1 X.2.1 X.2.2.1 gX8 X.2.2.2.1 X.2.2.2.2.1 w 0 rfl rfl 25 (by decide) (X.2.2.1 _ wf_X8_257) (fun _ h9 => h9) rfl hdg kk
theorem rp_25 {v : Int32} (X : rX g A p c cc s args m) (w : rW g A s z H locs) (h01 : v = 0 ∨ v = 1) (hdg : decode cc pc = .ok (.putfield 257, 3)) (kk : ∀ (H : Heap) (locs : List Loc), rW g A s (sI z 25 v) H locs → W p l e R s m args below meth c H locs cells slots Q (F0 m (pc + 3) ls rest)) : W p l e R s m args below meth c H locs cells slots Q (F0 m pc ls (.int v :: .ref g.2.2.2.1 :: rest)) :=
  va_put (D := g.1) (ci := 7) (v := .int v) (ty := .boolean) (C := RX8) (T := TX8) (N := 30) X.1 X.2.1 X.2.2.1 gX8 tyX8 tyX8_ok nmX8 X.2.2.2.1 X.2.2.2.2.1 w.1 w.2.1 w.2.2 0 rfl rfl 25 (by decide) (X.2.2.1 _ wf_X8_257) (fun _ h9 => h9) rfl (by decide +kernel) (by rcases h01 with rfl | rfl <;> rfl) (by rcases h01 with rfl | rfl <;> rfl) (Nat.le_of_ble_eq_true rfl) hdg (fun H1 locs1 hP hD hS => kk H1 locs1 ⟨hP, hD, hS⟩)
theorem rg_26 (X : rX g A p c cc s args m) (w : rP g z H) (hdg : decode cc pc = .ok (.getfield 49, 3)) (kk : W p l e R s m args below meth c H locs cells slots Q (F0 m (pc + 3) ls (.ref (g.2.2.2.2 26) :: rest))) : W p l e R s m args below meth c H locs cells slots Q (F0 m pc ls (.ref g.2.2.2.1 :: rest)) :=
  va_get (D := g.1) (ci := 7) (v := .ref (g.2.2.2.2 26)) (C := RX8) (T := TX8) (N := 30) X.1 X.2.1 X.2.2.1 gX8 X.2.2.2.1 X.2.2.2.2.1 w 0 rfl rfl 26 (by decide) (X.2.2.1 _ wf_X8_49) (fun _ h9 => h9) rfl hdg kk
theorem ra_26 {i : Int32} (X : rX g A p c cc s args m) (w : rP g z H) (hin : vp_in i 4) (hdg : decode cc pc = .ok (.iaload, 1)) (kk : W p l e R s m args below meth c H locs cells slots Q (F0 m (pc + 1) ls (.int (z.2.1 26 i.toNatClampNeg) :: rest))) : W p l e R s m args below meth c H locs cells slots Q (F0 m pc ls (.int i :: .ref (g.2.2.2.2 26) :: rest)) :=
  va_iald X.1 X.2.1 X.2.2.2.2.1 w 14 0 rfl rfl hin hdg kk
theorem rs_26 {i v : Int32} (X : rX g A p c cc s args m) (w : rW g A s z H locs) (hin : vp_in i 4) (hdg : decode cc pc = .ok (.iastore, 1)) (kk : ∀ (H : Heap) (locs : List Loc), rW g A s (sA z 26 i.toNatClampNeg v) H locs → W p l e R s m args below meth c H locs cells slots Q (F0 m (pc + 1) ls rest)) : W p l e R s m args below meth c H locs cells slots Q (F0 m pc ls (.int v :: .int i :: .ref (g.2.2.2.2 26) :: rest)) :=
  va_iast X.1 X.2.1 X.2.2.2.2.1 w.1 w.2.1 w.2.2 14 0 rfl rfl hin hdg (fun H1 locs1 hP hD hS => kk H1 locs1 ⟨hP, hD, hS⟩)
theorem rg_27 (X : rX g A p c cc s args m) (w : rP g z H) (hdg : decode cc pc = .ok (.getfield 52, 3)) (kk : W p l e R s m args below meth c H locs cells slots Q (F0 m (pc + 3) ls (.ref (g.2.2.2.2 27) :: rest))) : W p l e R s m args below meth c H locs cells slots Q (F0 m pc ls (.ref g.2.2.2.1 :: rest)) :=
  va_get (D := g.1) (ci := 7) (v := .ref (g.2.2.2.2 27)) (C := RX8) (T := TX8) (N := 30) X.1 X.2.1 X.2.2.1 gX8 X.2.2.2.1 X.2.2.2.2.1 w 0 rfl rfl 27 (by decide) (X.2.2.1 _ wf_X8_52) (fun _ h9 => h9) rfl hdg kk
theorem ra_27 {i : Int32} (X : rX g A p c cc s args m) (w : rP g z H) (hin : vp_in i 4) (hdg : decode cc pc = .ok (.iaload, 1)) (kk : W p l e R s m args below meth c H locs cells slots Q (F0 m (pc + 1) ls (.int (z.2.1 27 i.toNatClampNeg) :: rest))) : W p l e R s m args below meth c H locs cells slots Q (F0 m pc ls (.int i :: .ref (g.2.2.2.2 27) :: rest)) :=
  va_iald X.1 X.2.1 X.2.2.2.2.1 w 15 0 rfl rfl hin hdg kk
theorem rs_27 {i v : Int32} (X : rX g A p c cc s args m) (w : rW g A s z H locs) (hin : vp_in i 4) (hdg : decode cc pc = .ok (.iastore, 1)) (kk : ∀ (H : Heap) (locs : List Loc), rW g A s (sA z 27 i.toNatClampNeg v) H locs → W p l e R s m args below meth c H locs cells slots Q (F0 m (pc + 1) ls rest)) : W p l e R s m args below meth c H locs cells slots Q (F0 m pc ls (.int v :: .int i :: .ref (g.2.2.2.2 27) :: rest)) :=
  va_iast X.1 X.2.1 X.2.2.2.2.1 w.1 w.2.1 w.2.2 15 0 rfl rfl hin hdg (fun H1 locs1 hP hD hS => kk H1 locs1 ⟨hP, hD, hS⟩)
theorem rg_28 (X : rX g A p c cc s args m) (w : rP g z H) (hdg : decode cc pc = .ok (.getfield 55, 3)) (kk : W p l e R s m args below meth c H locs cells slots Q (F0 m (pc + 3) ls (.ref (g.2.2.2.2 28) :: rest))) : W p l e R s m args below meth c H locs cells slots Q (F0 m pc ls (.ref g.2.2.2.1 :: rest)) :=
  va_get (D := g.1) (ci := 7) (v := .ref (g.2.2.2.2 28)) (C := RX8) (T := TX8) (N := 30) X.1 X.2.1 X.2.2.1 gX8 X.2.2.2.1 X.2.2.2.2.1 w 0 rfl rfl 28 (by decide) (X.2.2.1 _ wf_X8_55) (fun _ h9 => h9) rfl hdg kk
theorem ra_28 {i : Int32} (X : rX g A p c cc s args m) (w : rP g z H) (hin : vp_in i 96) (hdg : decode cc pc = .ok (.laload, 1)) (kk : W p l e R s m args below meth c H locs cells slots Q (F0 m (pc + 1) ls (.long (z.2.2 28 i.toNatClampNeg) :: rest))) : W p l e R s m args below meth c H locs cells slots Q (F0 m pc ls (.int i :: .ref (g.2.2.2.2 28) :: rest)) :=
  va_lald X.1 X.2.1 X.2.2.2.2.1 w 16 1 rfl rfl hin hdg kk
theorem rs_28 {i : Int32} {v : Int64} (X : rX g A p c cc s args m) (w : rW g A s z H locs) (hin : vp_in i 96) (hdg : decode cc pc = .ok (.lastore, 1)) (kk : ∀ (H : Heap) (locs : List Loc), rW g A s (sL z 28 i.toNatClampNeg v) H locs → W p l e R s m args below meth c H locs cells slots Q (F0 m (pc + 1) ls rest)) : W p l e R s m args below meth c H locs cells slots Q (F0 m pc ls (.long v :: .int i :: .ref (g.2.2.2.2 28) :: rest)) :=
  va_last X.1 X.2.1 X.2.2.2.2.1 w.1 w.2.1 w.2.2 16 1 rfl rfl hin hdg (fun H1 locs1 hP hD hS => kk H1 locs1 ⟨hP, hD, hS⟩)
theorem rg_29 (X : rX g A p c cc s args m) (w : rP g z H) (hdg : decode cc pc = .ok (.getfield 59, 3)) (kk : W p l e R s m args below meth c H locs cells slots Q (F0 m (pc + 3) ls (.ref (g.2.2.2.2 29) :: rest))) : W p l e R s m args below meth c H locs cells slots Q (F0 m pc ls (.ref g.2.2.2.1 :: rest)) :=
  va_get (D := g.1) (ci := 7) (v := .ref (g.2.2.2.2 29)) (C := RX8) (T := TX8) (N := 30) X.1 X.2.1 X.2.2.1 gX8 X.2.2.2.1 X.2.2.2.2.1 w 0 rfl rfl 29 (by decide) (X.2.2.1 _ wf_X8_59) (fun _ h9 => h9) rfl hdg kk
theorem ra_29 {i : Int32} (X : rX g A p c cc s args m) (w : rP g z H) (hin : vp_in i 24) (hdg : decode cc pc = .ok (.laload, 1)) (kk : W p l e R s m args below meth c H locs cells slots Q (F0 m (pc + 1) ls (.long (z.2.2 29 i.toNatClampNeg) :: rest))) : W p l e R s m args below meth c H locs cells slots Q (F0 m pc ls (.int i :: .ref (g.2.2.2.2 29) :: rest)) :=
  va_lald X.1 X.2.1 X.2.2.2.2.1 w 17 1 rfl rfl hin hdg kk
theorem rs_29 {i : Int32} {v : Int64} (X : rX g A p c cc s args m) (w : rW g A s z H locs) (hin : vp_in i 24) (hdg : decode cc pc = .ok (.lastore, 1)) (kk : ∀ (H : Heap) (locs : List Loc), rW g A s (sL z 29 i.toNatClampNeg v) H locs → W p l e R s m args below meth c H locs cells slots Q (F0 m (pc + 1) ls rest)) : W p l e R s m args below meth c H locs cells slots Q (F0 m pc ls (.long v :: .int i :: .ref (g.2.2.2.2 29) :: rest)) :=
  va_last X.1 X.2.1 X.2.2.2.2.1 w.1 w.2.1 w.2.2 17 1 rfl rfl hin hdg (fun H1 locs1 hP hD hS => kk H1 locs1 ⟨hP, hD, hS⟩)
end RefA
end
section
/-! entries, ends and calls of the reference's methods -/
section RefB
variable {l : Launch} {y : MethodName} {cc : ByteArray} {mx : Nat} {ret : Option FieldType} {fr lo : Nat} {av : List Value} {g : RG} {z : RS}
theorem rMs_in {post : Int32 → Prop} (hy : plainName y.cls = true) (hc : y.cls = RX8) (hav : (lg_sl av).length ≤ mx)
    (body : ∀ (p : Program) (e : Env) (s : State) (m : MethodId) (args : Array Value) (below : List Frame) (meth : Method) (c : Code) (ls : Array Slot), p.tables.exec = Jvm.exec ∧ c.code = cc ∧ (∀ w ∈ gT, w.before args s = true) ∧ s.vm.findClass RX8 = some m.cls → c.maxLocals = mx → meth.sig.returnType = ret → meth.locks = false → lv_has ls mx (lv_args 0 av) →
      W p l e (ro_m fr lo) s m args below meth c s.heap [] 0 0 (MQ below (vp_Si post) args s 0 0 (fun _ => False)) (F0 m 0 ls [])) : rMs l y cc mx ret fr lo av post := by
  unfold rMs
  refine Met.ofW (cc := cc) (maxL := mx) (ret := ret) hy rfl ?_
  intro p e s m args below meth c s₁ B hml hv
  obtain ⟨rfl, -⟩ := hv
  have hts := atoms_spec (ws := Cond.code y cc mx ret :: gT) B.pre
  have hown : s.vm.findClass y.cls = some m.cls := findClass_of_methodNamed B.named
  rw [lg_entry_eq]
  exact body p e s m _ below meth c _ ⟨B.exec, B.bytes, fun w h => hts w (List.mem_cons_of_mem _ h), hc ▸ hown⟩ hml B.returns B.notSynchronized (lv_entry av hav)
theorem rMp_in {post : Int32 → Prop} (hy : plainName y.cls = true) (hc : y.cls = RX8) (hav : (lg_sl (.ref g.2.2.2.1 :: av)).length ≤ mx)
    (body : ∀ (p : Program) (e : Env) (s : State) (m : MethodId) (args : Array Value) (below : List Frame) (meth : Method) (c : Code) (ls : Array Slot), rX g (fun _ => True) p c cc s args m → c.maxLocals = mx → meth.sig.returnType = ret → meth.locks = false → lv_has ls mx (lv_args 0 (.ref g.2.2.2.1 :: av)) → rP g z s.heap →
      W p l e (ro_m fr lo) s m args below meth c s.heap [] 0 0 (MQ below (vp_Si post) args s 0 0 (fun _ => False)) (F0 m 0 ls [])) : rMp g l y cc mx ret fr lo av z post := by
  unfold rMp
  refine Met.ofW (cc := cc) (maxL := mx) (ret := ret) hy rfl ?_
  intro p e s m args below meth c s₁ B hml hv
  obtain ⟨rfl, hP, hK⟩ := hv
  have hts := atoms_spec (ws := Cond.code y cc mx ret :: gT) B.pre
  have hown : s.vm.findClass y.cls = some m.cls := findClass_of_methodNamed B.named
  rw [lg_entry_eq]
  exact body p e s m _ below meth c _ ⟨B.exec, B.bytes, fun w h => hts w (List.mem_cons_of_mem _ h), hc ▸ hown, hK, fun _ _ => trivial⟩ hml B.returns B.notSynchronized (lv_entry _ hav) hP
theorem rMi_in {post : Int32 → RS → Prop} (hy : plainName y.cls = true) (hc : y.cls = RX8) (hav : (lg_sl (.ref g.2.2.2.1 :: av)).length ≤ mx)
    (body : ∀ (p : Program) (e : Env) (s : State) (m : MethodId) (args : Array Value) (below : List Frame) (meth : Method) (c : Code) (A : Nat → Prop) (ls : Array Slot), rX g A p c cc s args m → c.maxLocals = mx → meth.sig.returnType = ret → meth.locks = false → lv_has ls mx (lv_args 0 (.ref g.2.2.2.1 :: av)) → rW g A s z s.heap [] →
      W p l e (ro_m fr lo) s m args below meth c s.heap [] 0 0 (MQ below (va_Qi post (rB g A) A) args s 0 0 A) (F0 m 0 ls [])) : rMi g l y cc mx ret fr lo av z post := by
  intro sz
  refine Met.ofW (cc := cc) (maxL := mx) (ret := ret) hy rfl ?_
  intro p e s m args below meth c s₁ B hml hv
  obtain ⟨rfl, hsz, hP, hK, hD0⟩ := hv
  subst hsz
  have hts := atoms_spec (ws := Cond.code y cc mx ret :: gT) B.pre
  have hown : s.vm.findClass y.cls = some m.cls := findClass_of_methodNamed B.named
  rw [lg_entry_eq]
  exact body p e s m _ below meth c _ _ ⟨B.exec, B.bytes, fun w h => hts w (List.mem_cons_of_mem _ h), hc ▸ hown, hK, fun _ h => Or.inr h⟩ hml B.returns B.notSynchronized (lv_entry _ hav) ⟨hP, hD0.self, va_S.rf⟩
theorem rMv_in {post : RS → Prop} (hy : plainName y.cls = true) (hc : y.cls = RX8) (hav : (lg_sl (.ref g.2.2.2.1 :: av)).length ≤ mx)
    (body : ∀ (p : Program) (e : Env) (s : State) (m : MethodId) (args : Array Value) (below : List Frame) (meth : Method) (c : Code) (A : Nat → Prop) (ls : Array Slot), rX g A p c cc s args m → c.maxLocals = mx → meth.sig.returnType = ret → meth.locks = false → lv_has ls mx (lv_args 0 (.ref g.2.2.2.1 :: av)) → rW g A s z s.heap [] →
      W p l e (ro_m fr lo) s m args below meth c s.heap [] 0 0 (MQ below (va_Qv post (rB g A) A) args s 0 0 A) (F0 m 0 ls [])) : rMv g l y cc mx ret fr lo av z post := by
  intro sz
  refine Met.ofW (cc := cc) (maxL := mx) (ret := ret) hy rfl ?_
  intro p e s m args below meth c s₁ B hml hv
  obtain ⟨rfl, hsz, hP, hK, hD0⟩ := hv
  subst hsz
  have hts := atoms_spec (ws := Cond.code y cc mx ret :: gT) B.pre
  have hown : s.vm.findClass y.cls = some m.cls := findClass_of_methodNamed B.named
  rw [lg_entry_eq]
  exact body p e s m _ below meth c _ _ ⟨B.exec, B.bytes, fun w h => hts w (List.mem_cons_of_mem _ h), hc ▸ hown, hK, fun _ h => Or.inr h⟩ hml B.returns B.notSynchronized (lv_entry _ hav) ⟨hP, hD0.self, va_S.rf⟩
end RefB
section RefC
variable {p : Program} {l : Launch} {e : Env} {R : Room} {s : State} {m : MethodId} {args : Array Value} {below : List Frame} {meth : Method} {c : Code} {H : Heap} {locs : List Loc} {cells slots : Nat} {Q : State → Prop}
variable {cc : ByteArray} {pc : Nat} {ls : Array Slot} {rest : List Value} {g : RG} {A : Nat → Prop} {z : RS} {v : Int32}
/-- ends -/
theorem re_p {post : Int32 → Prop} (hx : p.tables.exec = Jvm.exec) (hb : c.code = cc) (hr : meth.sig.returnType = some .int) (hk : meth.locks = false) (hp : post v) (hdg : decode cc pc = .ok (.ireturn, 1)) : W p l e R s m args below meth c s.heap [] 0 0 (MQ below (vp_Si post) args s 0 0 (fun _ => False)) (F0 m pc ls [.int v]) :=
  W.iret hx hb hr (fun t ht _ => ⟨v, rfl, hp, ht⟩) (fun q h => by cases h) hdg hk
theorem re_pz {post : Int32 → Prop} (hx : p.tables.exec = Jvm.exec) (hb : c.code = cc) (hr : meth.sig.returnType = some .boolean) (hk : meth.locks = false) (h01 : v = 0 ∨ v = 1) (hp : post v) (hdg : decode cc pc = .ok (.ireturn, 1)) : W p l e R s m args below meth c s.heap [] 0 0 (MQ below (vp_Si post) args s 0 0 (fun _ => False)) (F0 m pc ls [.int v]) :=
  W.zret hx hb hr (by rcases h01 with rfl | rfl <;> rfl) (fun t ht _ => ⟨v, rfl, hp, ht⟩) (fun q h => by cases h) hdg hk
theorem re_i {post : Int32 → RS → Prop} (X : rX g A p c cc s args m) (hr : meth.sig.returnType = some .int) (hk : meth.locks = false) (w : rW g A s z H locs) (hp : post v z) (hdg : decode cc pc = .ok (.ireturn, 1)) : W p l e R s m args below meth c H locs 0 0 (MQ below (va_Qi post (rB g A) A) args s 0 0 A) (F0 m pc ls [.int v]) :=
  W.iret X.1 X.2.1 hr (fun t ht hW => ⟨⟨v, z, rfl, hp, by rw [ht]; exact w.1, va_K.moved hW.alike X.2.2.2.2.1, w.2.1⟩, w.2.2.F ht⟩) w.2.2.2.2 hdg hk
theorem re_iz {post : Int32 → RS → Prop} (X : rX g A p c cc s args m) (hr : meth.sig.returnType = some .boolean) (hk : meth.locks = false) (w : rW g A s z H locs) (h01 : v = 0 ∨ v = 1) (hp : post v z) (hdg : decode cc pc = .ok (.ireturn, 1)) : W p l e R s m args below meth c H locs 0 0 (MQ below (va_Qi post (rB g A) A) args s 0 0 A) (F0 m pc ls [.int v]) :=
  W.zret X.1 X.2.1 hr (by rcases h01 with rfl | rfl <;> rfl) (fun t ht hW => ⟨⟨v, z, rfl, hp, by rw [ht]; exact w.1, va_K.moved hW.alike X.2.2.2.2.1, w.2.1⟩, w.2.2.F ht⟩) w.2.2.2.2 hdg hk
theorem re_v {post : RS → Prop} (X : rX g A p c cc s args m) (hr : meth.sig.returnType = none) (hk : meth.locks = false) (w : rW g A s z H locs) (hp : post z) (hdg : decode cc pc = .ok (.return_, 1)) : W p l e R s m args below meth c H locs 0 0 (MQ below (va_Qv post (rB g A) A) args s 0 0 A) (F0 m pc ls []) :=
  W.vret X.1 X.2.1 hr (fun t ht hW => ⟨⟨z, rfl, hp, by rw [ht]; exact w.1, va_K.moved hW.alike X.2.2.2.2.1, w.2.1⟩, w.2.2.F ht⟩) w.2.2.2.2 hdg hk
variable {y : MethodName} {cc1 : ByteArray} {mx nL fr lo idx : Nat} {ret : Option FieldType} {av : List Value} {st0 : List Value}
/-- calls -/
theorem rc_s {post : Int32 → Prop} (X : p.tables.exec = Jvm.exec ∧ c.code = cc ∧ (∀ w ∈ gT, w.before args s = true) ∧ s.vm.findClass RX8 = some m.cls) (hml : c.maxLocals = nL) (hls : ls.size = nL) (hM : rMs l y cc1 mx ret fr lo av post) (ok : rOkS y cc1 mx ret av.length) (hlk : Cond.methodLink RX8 idx y ∈ gT) (hR : fr + 1 ≤ R.frames ∧ 8 + (mx + 11) + lo ≤ R.locals) (hf : cells ≤ R.cells ∧ slots ≤ R.slots) (hst : st0 = av.reverse ++ rest) (hrm : (rest.map fun v => v.category).sum ≤ 8) (hdg : decode cc pc = .ok (.invokestatic idx, 3))
    (kk : ∀ r : Int32, post r → W p l e R s m args below meth c H locs cells slots Q (F0 m (pc + 3) ls (.int r :: rest))) : W p l e R s m args below meth c H locs cells slots Q (F0 m pc ls st0) := by
  subst hst
  refine vp_callSi (W.runS (As := av) (rest := rest) ⟨X.1, X.2.1, hml, X.2.2.2, X.2.2.1⟩ hM (cwS av.length X.2.2.1 (gS hlk ok.2.1 wn_X8 ok.1) rfl rfl rfl ⟨ok.2.2.1, ok.2.2.2⟩ hR) ⟨fun a U g mk q => q, fun U hU hW => ⟨rfl, trivial⟩⟩ rfl rfl hls rfl (lv_room hrm) hdg hf) kk
theorem rc_p {post : Int32 → Prop} (X : rX g A p c cc s args m) (hml : c.maxLocals = nL) (hls : ls.size = nL) (hM : rMp g l y cc1 mx ret fr lo av z post) (ok : rOk y cc1 mx ret av.length) (hlk : Cond.methodLink RX8 idx y ∈ gT) (hR : fr + 1 ≤ R.frames ∧ 8 + (mx + 11) + lo ≤ R.locals) (hf : cells ≤ R.cells ∧ slots ≤ R.slots) (w : rP g z H) (hst : st0 = av.reverse ++ .ref g.2.2.2.1 :: rest) (hrm : (rest.map fun v => v.category).sum ≤ 8) (hdg : decode cc pc = .ok (.invokevirtual idx, 3))
    (kk : ∀ r : Int32, post r → W p l e R s m args below meth c H locs cells slots Q (F0 m (pc + 3) ls (.int r :: rest))) : W p l e R s m args below meth c H locs cells slots Q (F0 m pc ls st0) := by
  subst hst
  refine vp_callSi (W.runV (C := RX8) (b := g.2.2.2.1) (As := av) (rest := rest) ⟨X.1, X.2.1, hml, X.2.2.2.1, X.2.2.1⟩ hM (cwV av.length X.2.2.1 (gV hlk ok.2.1 ok.2.2.1 wn_X8 ok.1) rfl rfl rfl ok.2.2.2 hR) ⟨fun a U g mk q => ⟨q.1, q.2.1, va_K.moved (u := U) (U := U.calling g mk a) (Vm.Alike.refl U.vm) q.2.2⟩, va_recv X.2.2.2.2.1 w (ci := 7) (q0 := 0) rfl rfl, fun U hU hW => ⟨rfl, by rw [hU]; exact w, va_K.moved hW.alike X.2.2.2.2.1⟩⟩ rfl rfl hls rfl (lv_room hrm) hdg hf) kk
theorem rc_i {post : Int32 → RS → Prop} (X : rX g A p c cc s args m) (hml : c.maxLocals = nL) (hls : ls.size = nL) (hM : rMi g l y cc1 mx ret fr lo av z post) (ok : rOk y cc1 mx ret av.length) (hlk : Cond.methodLink RX8 idx y ∈ gT) (hR : fr + 1 ≤ R.frames ∧ 8 + (mx + 11) + lo ≤ R.locals) (hf : cells ≤ R.cells ∧ slots ≤ R.slots) (w : rW g A s z H locs) (hst : st0 = av.reverse ++ .ref g.2.2.2.1 :: rest) (hrm : (rest.map fun v => v.category).sum ≤ 8) (hdg : decode cc pc = .ok (.invokevirtual idx, 3))
    (kk : ∀ (r : Int32) (z : RS) (H : Heap) (locs : List Loc), post r z → rW g A s z H locs → W p l e R s m args below meth c H locs cells slots Q (F0 m (pc + 3) ls (.int r :: rest))) : W p l e R s m args below meth c H locs cells slots Q (F0 m pc ls st0) := by
  subst hst
  have hFc : ∀ q, va_A (wR g z) H.size q → A q := fun q h => h.elim (fun ⟨k, e, h⟩ => w.2.1.2 k _ h) (fun h => X.2.2.2.2.2 q (Nat.le_trans w.2.2.1 h))
  refine va_calli (va_runV (C := RX8) (b := g.2.2.2.1) (As := av) (rest := rest) ⟨X.1, X.2.1, hml, X.2.2.2.1, X.2.2.1⟩ (hM H.size) (cwV av.length X.2.2.1 (gV hlk ok.2.1 ok.2.2.1 wn_X8 ok.1) rfl rfl rfl ok.2.2.2 hR) ⟨fun a U g mk q => ⟨q.1, q.2.1, q.2.2.1, va_K.moved (u := U) (U := U.calling g mk a) (Vm.Alike.refl U.vm) q.2.2.2.1, q.2.2.2.2⟩, va_recv X.2.2.2.2.1 w.1 (ci := 7) (q0 := 0) rfl rfl, fun U hU hW => ⟨rfl, by rw [hU], by rw [hU]; exact w.1, va_K.moved hW.alike X.2.2.2.2.1, w.2.1.weaken (fun _ _ _ _ => trivial)⟩⟩ rfl rfl hls rfl (lv_room hrm) hdg hf) w.2.2 (fun q _ h => hFc q h) hFc (fun r u t H1 locs1 ht hvm hw hB hz1 hk1 hS => ?_)
  exact kk r u H1 locs1 hw ⟨by rw [← ht]; exact hB.1, hB.2.2.weaken (fun k q _ h => hFc q.1 h), hS⟩
theorem rc_v {post : RS → Prop} (X : rX g A p c cc s args m) (hml : c.maxLocals = nL) (hls : ls.size = nL) (hM : rMv g l y cc1 mx ret fr lo av z post) (ok : rOk y cc1 mx ret av.length) (hlk : Cond.methodLink RX8 idx y ∈ gT) (hR : fr + 1 ≤ R.frames ∧ 8 + (mx + 11) + lo ≤ R.locals) (hf : cells ≤ R.cells ∧ slots ≤ R.slots) (w : rW g A s z H locs) (hst : st0 = av.reverse ++ .ref g.2.2.2.1 :: rest) (hrm : (rest.map fun v => v.category).sum ≤ 8) (hdg : decode cc pc = .ok (.invokevirtual idx, 3))
    (kk : ∀ (z : RS) (H : Heap) (locs : List Loc), post z → rW g A s z H locs → W p l e R s m args below meth c H locs cells slots Q (F0 m (pc + 3) ls rest)) : W p l e R s m args below meth c H locs cells slots Q (F0 m pc ls st0) := by
  subst hst
  have hFc : ∀ q, va_A (wR g z) H.size q → A q := fun q h => h.elim (fun ⟨k, e, h⟩ => w.2.1.2 k _ h) (fun h => X.2.2.2.2.2 q (Nat.le_trans w.2.2.1 h))
  refine va_callv (va_runV (C := RX8) (b := g.2.2.2.1) (As := av) (rest := rest) ⟨X.1, X.2.1, hml, X.2.2.2.1, X.2.2.1⟩ (hM H.size) (cwV av.length X.2.2.1 (gV hlk ok.2.1 ok.2.2.1 wn_X8 ok.1) rfl rfl rfl ok.2.2.2 hR) ⟨fun a U g mk q => ⟨q.1, q.2.1, q.2.2.1, va_K.moved (u := U) (U := U.calling g mk a) (Vm.Alike.refl U.vm) q.2.2.2.1, q.2.2.2.2⟩, va_recv X.2.2.2.2.1 w.1 (ci := 7) (q0 := 0) rfl rfl, fun U hU hW => ⟨rfl, by rw [hU], by rw [hU]; exact w.1, va_K.moved hW.alike X.2.2.2.2.1, w.2.1.weaken (fun _ _ _ _ => trivial)⟩⟩ rfl rfl hls rfl (lv_room hrm) hdg hf) w.2.2 (fun q _ h => hFc q h) hFc (fun u t H1 locs1 ht hvm hw hB hz1 hk1 hS => ?_)
  exact kk u H1 locs1 hw ⟨by rw [← ht]; exact hB.1, hB.2.2.weaken (fun k q _ h => hFc q.1 h), hS⟩
end RefC
end
